section
-- 47.me
def dz_M279_64_90 (s : q_S) (v1 : Int32) (v2 : Int32) (v3 : Int32) : Option (q_S × Int32) :=
  q_let (dz_M246 s v2) fun r10 => cond (decide (2 < r10)) (q_let (dz_M213 s (v1 + 2)) fun r11 => (dz_M215_64 s r11 (v3 / 256)).bind fun r12 => q_let (dz_M205_64 r12) fun r13 => q_let (dz_M246 r13 v2) fun r14 => q_let (dz_M213 r13 (v1 + r14)) fun r15 => some (r13, r15)) (q_let (dz_M205_64 s) fun r16 => q_let (dz_M246 r16 v2) fun r17 => q_let (dz_M213 r16 (v1 + r17)) fun r18 => some (r16, r18))
set_option maxHeartbeats 4000000 in
theorem dzt_M279_64_90 (c n : Nat) (s : q_S) (v1 : Int32) (v2 : Int32) (v3 : Int32) : q_RP q_TB0 4 278 (90, [(0, .ref 64), (1, .int v1), (2, .int v2), (3, .int v3)], [], (q_kM s c n)) (q_oIM c n) (dz_M279_64_90 s v1 v2 v3) := by
  unfold dz_M279_64_90
  refine q_RP_seg (g2 := (91, [(0, .ref 64), (1, .int v1), (2, .int v2), (3, .int v3)], [.int v2], (q_kM s c n))) 1 (fun _ _ => rfl) ?_
  refine q_RP_call (v := (some (.int (dz_M246 s v2)))) (h2 := (q_kM s c n)) rfl rfl ((dzt_M246 s c n v2).le (Nat.le_of_ble_eq_true rfl)) ?_
  generalize dz_M246 s v2 = r10
  refine q_RP_let ?_
  show q_RP _ _ _ (94, [(0, .ref 64), (1, .int v1), (2, .int v2), (3, .int v3)], [.int r10], (q_kM s c n)) _ _
  refine q_RP_seg (g2 := (95, [(0, .ref 64), (1, .int v1), (2, .int v2), (3, .int v3)], [.int 2, .int r10], (q_kM s c n))) 1 (fun _ _ => rfl) ?_
  cases h6 : decide (2 < r10) with
  | true =>
    refine q_RP_cT ?_
    refine q_RP_rsF (g2 := (98, [(0, .ref 64), (1, .int v1), (2, .int v2), (3, .int v3)], [], (q_kM s c n))) rfl rfl (q_d_geT h6) ?_
    refine q_RP_seg (g2 := (102, [(0, .ref 64), (1, .int v1), (2, .int v2), (3, .int v3)], [.int (v1 + 2), .ref 64], (q_kM s c n))) 4 (fun _ _ => rfl) ?_
    refine q_RP_call (v := (some (.int (dz_M213 s (v1 + 2))))) (h2 := (q_kM s c n)) rfl rfl ((dzt_M213 s c n (v1 + 2)).le (Nat.le_of_ble_eq_true rfl)) ?_
    generalize dz_M213 s (v1 + 2) = r11
    refine q_RP_let ?_
    show q_RP _ _ _ (105, [(0, .ref 64), (1, .int v1), (2, .int v2), (3, .int v3)], [.int r11, .ref 64], (q_kM s c n)) _ _
    refine q_RP_seg (g2 := (110, [(0, .ref 64), (1, .int v1), (2, .int v2), (3, .int v3)], [.int (v3 / 256), .int r11, .ref 64], (q_kM s c n))) 3 (fun _ _ => rfl) ?_
    refine q_RP_bd fun r12 er12 => ?_
    refine q_RP_call (v := none) (h2 := (q_kM r12 c n)) rfl rfl ((dzt_M215_64 s c n r11 (v3 / 256) r12 er12).le (Nat.le_of_ble_eq_true rfl)) ?_
    show q_RP _ _ _ (113, [(0, .ref 64), (1, .int v1), (2, .int v2), (3, .int v3)], [], (q_kM r12 c n)) _ _
    refine q_RP_seg (g2 := (114, [(0, .ref 64), (1, .int v1), (2, .int v2), (3, .int v3)], [.ref 64], (q_kM r12 c n))) 1 (fun _ _ => rfl) ?_
    refine q_RP_call (v := none) (h2 := (q_kM (dz_M205_64 r12) c n)) rfl rfl ((dzt_M205_64 r12 c n).le (Nat.le_of_ble_eq_true rfl)) ?_
    generalize dz_M205_64 r12 = r13
    refine q_RP_let ?_
    show q_RP _ _ _ (117, [(0, .ref 64), (1, .int v1), (2, .int v2), (3, .int v3)], [], (q_kM r13 c n)) _ _
    refine q_RP_seg (g2 := (119, [(0, .ref 64), (1, .int v1), (2, .int v2), (3, .int v3)], [.int v2, .int v1], (q_kM r13 c n))) 2 (fun _ _ => rfl) ?_
    refine q_RP_call (v := (some (.int (dz_M246 r13 v2)))) (h2 := (q_kM r13 c n)) rfl rfl ((dzt_M246 r13 c n v2).le (Nat.le_of_ble_eq_true rfl)) ?_
    generalize dz_M246 r13 v2 = r14
    refine q_RP_let ?_
    show q_RP _ _ _ (122, [(0, .ref 64), (1, .int v1), (2, .int v2), (3, .int v3)], [.int r14, .int v1], (q_kM r13 c n)) _ _
    refine q_RP_seg (g2 := (123, [(0, .ref 64), (1, .int v1), (2, .int v2), (3, .int v3)], [.int (v1 + r14)], (q_kM r13 c n))) 1 (fun _ _ => rfl) ?_
    refine q_RP_call (v := (some (.int (dz_M213 r13 (v1 + r14))))) (h2 := (q_kM r13 c n)) rfl rfl ((dzt_M213 r13 c n (v1 + r14)).le (Nat.le_of_ble_eq_true rfl)) ?_
    generalize dz_M213 r13 (v1 + r14) = r15
    refine q_RP_let ?_
    show q_RP _ _ _ (126, [(0, .ref 64), (1, .int v1), (2, .int v2), (3, .int v3)], [.int r15], (q_kM r13 c n)) _ _
    exact q_RP_ret rfl rfl rfl
  | false =>
    refine q_RP_cF ?_
    refine q_RP_rsT (g2 := (113, [(0, .ref 64), (1, .int v1), (2, .int v2), (3, .int v3)], [], (q_kM s c n))) rfl rfl (q_d_geF h6) ?_
    refine q_RP_seg (g2 := (114, [(0, .ref 64), (1, .int v1), (2, .int v2), (3, .int v3)], [.ref 64], (q_kM s c n))) 1 (fun _ _ => rfl) ?_
    refine q_RP_call (v := none) (h2 := (q_kM (dz_M205_64 s) c n)) rfl rfl ((dzt_M205_64 s c n).le (Nat.le_of_ble_eq_true rfl)) ?_
    generalize dz_M205_64 s = r16
    refine q_RP_let ?_
    show q_RP _ _ _ (117, [(0, .ref 64), (1, .int v1), (2, .int v2), (3, .int v3)], [], (q_kM r16 c n)) _ _
    refine q_RP_seg (g2 := (119, [(0, .ref 64), (1, .int v1), (2, .int v2), (3, .int v3)], [.int v2, .int v1], (q_kM r16 c n))) 2 (fun _ _ => rfl) ?_
    refine q_RP_call (v := (some (.int (dz_M246 r16 v2)))) (h2 := (q_kM r16 c n)) rfl rfl ((dzt_M246 r16 c n v2).le (Nat.le_of_ble_eq_true rfl)) ?_
    generalize dz_M246 r16 v2 = r17
    refine q_RP_let ?_
    show q_RP _ _ _ (122, [(0, .ref 64), (1, .int v1), (2, .int v2), (3, .int v3)], [.int r17, .int v1], (q_kM r16 c n)) _ _
    refine q_RP_seg (g2 := (123, [(0, .ref 64), (1, .int v1), (2, .int v2), (3, .int v3)], [.int (v1 + r17)], (q_kM r16 c n))) 1 (fun _ _ => rfl) ?_
    refine q_RP_call (v := (some (.int (dz_M213 r16 (v1 + r17))))) (h2 := (q_kM r16 c n)) rfl rfl ((dzt_M213 r16 c n (v1 + r17)).le (Nat.le_of_ble_eq_true rfl)) ?_
    generalize dz_M213 r16 (v1 + r17) = r18
    refine q_RP_let ?_
    show q_RP _ _ _ (126, [(0, .ref 64), (1, .int v1), (2, .int v2), (3, .int v3)], [.int r18], (q_kM r16 c n)) _ _
    exact q_RP_ret rfl rfl rfl
def dz_M279_64 (s : q_S) (a1 : Int32) (a2 : Int32) (a3 : Int32) : Option (q_S × Int32) :=
  q_let (dz_M204 s a1) fun r4 => cond r4 (q_let (dz_M200_64 s 1) fun r5 => cond r5.2 (some (r5.1, 0)) ((dz_M215_64 r5.1 a1 a2).bind fun r6 => q_let (dz_M246 r6 a2) fun r7 => cond (decide (1 < r7)) (q_let (dz_M213 r6 (a1 + 1)) fun r8 => (dz_M215_64 r6 r8 (a3 - a3 / 256 * 256)).bind fun r9 => dz_M279_64_90 r9 a1 a2 a3) (dz_M279_64_90 r6 a1 a2 a3))) (q_let (dz_M203 s a2) fun r19 => cond r19 (q_let (dz_M200_64 s 2) fun r20 => cond r20.2 (some (r20.1, 0)) ((dz_M215_64 r20.1 a1 a2).bind fun r21 => q_let (dz_M246 r21 a2) fun r22 => cond (decide (1 < r22)) (q_let (dz_M213 r21 (a1 + 1)) fun r23 => (dz_M215_64 r21 r23 (a3 - a3 / 256 * 256)).bind fun r24 => dz_M279_64_90 r24 a1 a2 a3) (dz_M279_64_90 r21 a1 a2 a3))) (q_let (dz_M246 s (a2 &&& 255)) fun r25 => cond (decide (r25 = 2)) (q_let (dz_M202 s a3 0 255) fun r26 => cond r26 (q_let (dz_M200_64 s 0) fun r27 => cond r27.2 (some (r27.1, 0)) ((dz_M215_64 r27.1 a1 a2).bind fun r28 => q_let (dz_M246 r28 a2) fun r29 => cond (decide (1 < r29)) (q_let (dz_M213 r28 (a1 + 1)) fun r30 => (dz_M215_64 r28 r30 (a3 - a3 / 256 * 256)).bind fun r31 => dz_M279_64_90 r31 a1 a2 a3) (dz_M279_64_90 r28 a1 a2 a3))) (q_let (dz_M200_64 s 2) fun r32 => cond r32.2 (some (r32.1, 0)) ((dz_M215_64 r32.1 a1 a2).bind fun r33 => q_let (dz_M246 r33 a2) fun r34 => cond (decide (1 < r34)) (q_let (dz_M213 r33 (a1 + 1)) fun r35 => (dz_M215_64 r33 r35 (a3 - a3 / 256 * 256)).bind fun r36 => dz_M279_64_90 r36 a1 a2 a3) (dz_M279_64_90 r33 a1 a2 a3)))) (q_let (dz_M202 s a3 0 4095) fun r37 => cond r37 (q_let (dz_M200_64 s 0) fun r38 => cond r38.2 (some (r38.1, 0)) ((dz_M215_64 r38.1 a1 a2).bind fun r39 => q_let (dz_M246 r39 a2) fun r40 => cond (decide (1 < r40)) (q_let (dz_M213 r39 (a1 + 1)) fun r41 => (dz_M215_64 r39 r41 (a3 - a3 / 256 * 256)).bind fun r42 => dz_M279_64_90 r42 a1 a2 a3) (dz_M279_64_90 r39 a1 a2 a3))) (q_let (dz_M200_64 s 2) fun r43 => cond r43.2 (some (r43.1, 0)) ((dz_M215_64 r43.1 a1 a2).bind fun r44 => q_let (dz_M246 r44 a2) fun r45 => cond (decide (1 < r45)) (q_let (dz_M213 r44 (a1 + 1)) fun r46 => (dz_M215_64 r44 r46 (a3 - a3 / 256 * 256)).bind fun r47 => dz_M279_64_90 r47 a1 a2 a3) (dz_M279_64_90 r44 a1 a2 a3))))))
set_option maxHeartbeats 4000000 in
theorem dzt_M279_64 (s : q_S) (c n : Nat) (a1 : Int32) (a2 : Int32) (a3 : Int32) (x : q_S × Int32) (h : dz_M279_64 s a1 a2 a3 = some x) : q_Ca q_TB0 5 278 [.ref 64, .int a1, .int a2, .int a3] (q_kM s c n) ((q_oIM c n) x) := by
  refine q_CaP_of (φ := (q_oIM c n)) (Nat.le_of_ble_eq_true rfl) ?_ h
  clear h
  unfold dz_M279_64
  refine q_RP_seg (g2 := (2, [(0, .ref 64), (1, .int a1), (2, .int a2), (3, .int a3)], [.int a1, .ref 64], (q_kM s c n))) 2 (fun _ _ => rfl) ?_
  refine q_RP_call (v := (some (.int (q_b (dz_M204 s a1))))) (h2 := (q_kM s c n)) rfl rfl ((dzt_M204 s c n a1).le (Nat.le_of_ble_eq_true rfl)) ?_
  generalize dz_M204 s a1 = r4
  refine q_RP_let ?_
  show q_RP _ _ _ (5, [(0, .ref 64), (1, .int a1), (2, .int a2), (3, .int a3)], [.int (q_b r4), .ref 64], (q_kM s c n)) _ _
  cases h3 : r4 with
  | true =>
    refine q_RP_cT ?_
    show q_RP _ _ _ (5, [(0, .ref 64), (1, .int a1), (2, .int a2), (3, .int a3)], [.int 1, .ref 64], (q_kM s c n)) _ _
    refine q_RP_seg (g2 := (53, [(0, .ref 64), (1, .int a1), (2, .int a2), (3, .int a3)], [.int 1, .ref 64], (q_kM s c n))) 3 (fun _ _ => rfl) ?_
    refine q_RP_call (v := (some (.int (q_b (dz_M200_64 s 1).2)))) (h2 := (q_kM (dz_M200_64 s 1).1 c n)) rfl rfl ((dzt_M200_64 s c n 1).le (Nat.le_of_ble_eq_true rfl)) ?_
    generalize dz_M200_64 s 1 = r5
    refine q_RP_let ?_
    show q_RP _ _ _ (56, [(0, .ref 64), (1, .int a1), (2, .int a2), (3, .int a3)], [.int (q_b r5.2)], (q_kM r5.1 c n)) _ _
    cases h4 : r5.2 with
    | true =>
      refine q_RP_cT ?_
      show q_RP _ _ _ (56, [(0, .ref 64), (1, .int a1), (2, .int a2), (3, .int a3)], [.int 1], (q_kM r5.1 c n)) _ _
      refine q_RP_seg (g2 := (60, [(0, .ref 64), (1, .int a1), (2, .int a2), (3, .int a3)], [.int 0], (q_kM r5.1 c n))) 2 (fun _ _ => rfl) ?_
      exact q_RP_ret rfl rfl rfl
    | false =>
      refine q_RP_cF ?_
      show q_RP _ _ _ (56, [(0, .ref 64), (1, .int a1), (2, .int a2), (3, .int a3)], [.int 0], (q_kM r5.1 c n)) _ _
      refine q_RP_seg (g2 := (64, [(0, .ref 64), (1, .int a1), (2, .int a2), (3, .int a3)], [.int a2, .int a1, .ref 64], (q_kM r5.1 c n))) 4 (fun _ _ => rfl) ?_
      refine q_RP_bd fun r6 er6 => ?_
      refine q_RP_call (v := none) (h2 := (q_kM r6 c n)) rfl rfl ((dzt_M215_64 r5.1 c n a1 a2 r6 er6).le (Nat.le_of_ble_eq_true rfl)) ?_
      show q_RP _ _ _ (67, [(0, .ref 64), (1, .int a1), (2, .int a2), (3, .int a3)], [], (q_kM r6 c n)) _ _
      refine q_RP_seg (g2 := (68, [(0, .ref 64), (1, .int a1), (2, .int a2), (3, .int a3)], [.int a2], (q_kM r6 c n))) 1 (fun _ _ => rfl) ?_
      refine q_RP_call (v := (some (.int (dz_M246 r6 a2)))) (h2 := (q_kM r6 c n)) rfl rfl ((dzt_M246 r6 c n a2).le (Nat.le_of_ble_eq_true rfl)) ?_
      generalize dz_M246 r6 a2 = r7
      refine q_RP_let ?_
      show q_RP _ _ _ (71, [(0, .ref 64), (1, .int a1), (2, .int a2), (3, .int a3)], [.int r7], (q_kM r6 c n)) _ _
      refine q_RP_seg (g2 := (72, [(0, .ref 64), (1, .int a1), (2, .int a2), (3, .int a3)], [.int 1, .int r7], (q_kM r6 c n))) 1 (fun _ _ => rfl) ?_
      cases h5 : decide (1 < r7) with
      | true =>
        refine q_RP_cT ?_
        refine q_RP_rsF (g2 := (75, [(0, .ref 64), (1, .int a1), (2, .int a2), (3, .int a3)], [], (q_kM r6 c n))) rfl rfl (q_d_geT h5) ?_
        refine q_RP_seg (g2 := (79, [(0, .ref 64), (1, .int a1), (2, .int a2), (3, .int a3)], [.int (a1 + 1), .ref 64], (q_kM r6 c n))) 4 (fun _ _ => rfl) ?_
        refine q_RP_call (v := (some (.int (dz_M213 r6 (a1 + 1))))) (h2 := (q_kM r6 c n)) rfl rfl ((dzt_M213 r6 c n (a1 + 1)).le (Nat.le_of_ble_eq_true rfl)) ?_
        generalize dz_M213 r6 (a1 + 1) = r8
        refine q_RP_let ?_
        show q_RP _ _ _ (82, [(0, .ref 64), (1, .int a1), (2, .int a2), (3, .int a3)], [.int r8, .ref 64], (q_kM r6 c n)) _ _
        refine q_RP_seg (g2 := (87, [(0, .ref 64), (1, .int a1), (2, .int a2), (3, .int a3)], [.int (a3 - a3 / 256 * 256), .int r8, .ref 64], (q_kM r6 c n))) 3 (fun _ _ => rfl) ?_
        refine q_RP_bd fun r9 er9 => ?_
        refine q_RP_call (v := none) (h2 := (q_kM r9 c n)) rfl rfl ((dzt_M215_64 r6 c n r8 (a3 - a3 / 256 * 256) r9 er9).le (Nat.le_of_ble_eq_true rfl)) ?_
        show q_RP _ _ _ (90, [(0, .ref 64), (1, .int a1), (2, .int a2), (3, .int a3)], [], (q_kM r9 c n)) _ _
        exact (dzt_M279_64_90 c n r9 a1 a2 a3)
      | false =>
        refine q_RP_cF ?_
        refine q_RP_rsT (g2 := (90, [(0, .ref 64), (1, .int a1), (2, .int a2), (3, .int a3)], [], (q_kM r6 c n))) rfl rfl (q_d_geF h5) ?_
        exact (dzt_M279_64_90 c n r6 a1 a2 a3)
  | false =>
    refine q_RP_cF ?_
    show q_RP _ _ _ (5, [(0, .ref 64), (1, .int a1), (2, .int a2), (3, .int a3)], [.int 0, .ref 64], (q_kM s c n)) _ _
    refine q_RP_seg (g2 := (13, [(0, .ref 64), (1, .int a1), (2, .int a2), (3, .int a3)], [.int a2, .ref 64], (q_kM s c n))) 2 (fun _ _ => rfl) ?_
    refine q_RP_call (v := (some (.int (q_b (dz_M203 s a2))))) (h2 := (q_kM s c n)) rfl rfl ((dzt_M203 s c n a2).le (Nat.le_of_ble_eq_true rfl)) ?_
    generalize dz_M203 s a2 = r19
    refine q_RP_let ?_
    show q_RP _ _ _ (16, [(0, .ref 64), (1, .int a1), (2, .int a2), (3, .int a3)], [.int (q_b r19), .ref 64], (q_kM s c n)) _ _
    cases h7 : r19 with
    | true =>
      refine q_RP_cT ?_
      show q_RP _ _ _ (16, [(0, .ref 64), (1, .int a1), (2, .int a2), (3, .int a3)], [.int 1, .ref 64], (q_kM s c n)) _ _
      refine q_RP_seg (g2 := (53, [(0, .ref 64), (1, .int a1), (2, .int a2), (3, .int a3)], [.int 2, .ref 64], (q_kM s c n))) 3 (fun _ _ => rfl) ?_
      refine q_RP_call (v := (some (.int (q_b (dz_M200_64 s 2).2)))) (h2 := (q_kM (dz_M200_64 s 2).1 c n)) rfl rfl ((dzt_M200_64 s c n 2).le (Nat.le_of_ble_eq_true rfl)) ?_
      generalize dz_M200_64 s 2 = r20
      refine q_RP_let ?_
      show q_RP _ _ _ (56, [(0, .ref 64), (1, .int a1), (2, .int a2), (3, .int a3)], [.int (q_b r20.2)], (q_kM r20.1 c n)) _ _
      cases h8 : r20.2 with
      | true =>
        refine q_RP_cT ?_
        show q_RP _ _ _ (56, [(0, .ref 64), (1, .int a1), (2, .int a2), (3, .int a3)], [.int 1], (q_kM r20.1 c n)) _ _
        refine q_RP_seg (g2 := (60, [(0, .ref 64), (1, .int a1), (2, .int a2), (3, .int a3)], [.int 0], (q_kM r20.1 c n))) 2 (fun _ _ => rfl) ?_
        exact q_RP_ret rfl rfl rfl
      | false =>
        refine q_RP_cF ?_
        show q_RP _ _ _ (56, [(0, .ref 64), (1, .int a1), (2, .int a2), (3, .int a3)], [.int 0], (q_kM r20.1 c n)) _ _
        refine q_RP_seg (g2 := (64, [(0, .ref 64), (1, .int a1), (2, .int a2), (3, .int a3)], [.int a2, .int a1, .ref 64], (q_kM r20.1 c n))) 4 (fun _ _ => rfl) ?_
        refine q_RP_bd fun r21 er21 => ?_
        refine q_RP_call (v := none) (h2 := (q_kM r21 c n)) rfl rfl ((dzt_M215_64 r20.1 c n a1 a2 r21 er21).le (Nat.le_of_ble_eq_true rfl)) ?_
        show q_RP _ _ _ (67, [(0, .ref 64), (1, .int a1), (2, .int a2), (3, .int a3)], [], (q_kM r21 c n)) _ _
        refine q_RP_seg (g2 := (68, [(0, .ref 64), (1, .int a1), (2, .int a2), (3, .int a3)], [.int a2], (q_kM r21 c n))) 1 (fun _ _ => rfl) ?_
        refine q_RP_call (v := (some (.int (dz_M246 r21 a2)))) (h2 := (q_kM r21 c n)) rfl rfl ((dzt_M246 r21 c n a2).le (Nat.le_of_ble_eq_true rfl)) ?_
        generalize dz_M246 r21 a2 = r22
        refine q_RP_let ?_
        show q_RP _ _ _ (71, [(0, .ref 64), (1, .int a1), (2, .int a2), (3, .int a3)], [.int r22], (q_kM r21 c n)) _ _
        refine q_RP_seg (g2 := (72, [(0, .ref 64), (1, .int a1), (2, .int a2), (3, .int a3)], [.int 1, .int r22], (q_kM r21 c n))) 1 (fun _ _ => rfl) ?_
        cases h9 : decide (1 < r22) with
        | true =>
          refine q_RP_cT ?_
          refine q_RP_rsF (g2 := (75, [(0, .ref 64), (1, .int a1), (2, .int a2), (3, .int a3)], [], (q_kM r21 c n))) rfl rfl (q_d_geT h9) ?_
          refine q_RP_seg (g2 := (79, [(0, .ref 64), (1, .int a1), (2, .int a2), (3, .int a3)], [.int (a1 + 1), .ref 64], (q_kM r21 c n))) 4 (fun _ _ => rfl) ?_
          refine q_RP_call (v := (some (.int (dz_M213 r21 (a1 + 1))))) (h2 := (q_kM r21 c n)) rfl rfl ((dzt_M213 r21 c n (a1 + 1)).le (Nat.le_of_ble_eq_true rfl)) ?_
          generalize dz_M213 r21 (a1 + 1) = r23
          refine q_RP_let ?_
          show q_RP _ _ _ (82, [(0, .ref 64), (1, .int a1), (2, .int a2), (3, .int a3)], [.int r23, .ref 64], (q_kM r21 c n)) _ _
          refine q_RP_seg (g2 := (87, [(0, .ref 64), (1, .int a1), (2, .int a2), (3, .int a3)], [.int (a3 - a3 / 256 * 256), .int r23, .ref 64], (q_kM r21 c n))) 3 (fun _ _ => rfl) ?_
          refine q_RP_bd fun r24 er24 => ?_
          refine q_RP_call (v := none) (h2 := (q_kM r24 c n)) rfl rfl ((dzt_M215_64 r21 c n r23 (a3 - a3 / 256 * 256) r24 er24).le (Nat.le_of_ble_eq_true rfl)) ?_
          show q_RP _ _ _ (90, [(0, .ref 64), (1, .int a1), (2, .int a2), (3, .int a3)], [], (q_kM r24 c n)) _ _
          exact (dzt_M279_64_90 c n r24 a1 a2 a3)
        | false =>
          refine q_RP_cF ?_
          refine q_RP_rsT (g2 := (90, [(0, .ref 64), (1, .int a1), (2, .int a2), (3, .int a3)], [], (q_kM r21 c n))) rfl rfl (q_d_geF h9) ?_
          exact (dzt_M279_64_90 c n r21 a1 a2 a3)
    | false =>
      refine q_RP_cF ?_
      show q_RP _ _ _ (16, [(0, .ref 64), (1, .int a1), (2, .int a2), (3, .int a3)], [.int 0, .ref 64], (q_kM s c n)) _ _
      refine q_RP_seg (g2 := (26, [(0, .ref 64), (1, .int a1), (2, .int a2), (3, .int a3)], [.int (a2 &&& 255), .int 0, .int a3, .ref 64], (q_kM s c n))) 6 (fun _ _ => rfl) ?_
      refine q_RP_call (v := (some (.int (dz_M246 s (a2 &&& 255))))) (h2 := (q_kM s c n)) rfl rfl ((dzt_M246 s c n (a2 &&& 255)).le (Nat.le_of_ble_eq_true rfl)) ?_
      generalize dz_M246 s (a2 &&& 255) = r25
      refine q_RP_let ?_
      show q_RP _ _ _ (29, [(0, .ref 64), (1, .int a1), (2, .int a2), (3, .int a3)], [.int r25, .int 0, .int a3, .ref 64], (q_kM s c n)) _ _
      refine q_RP_seg (g2 := (30, [(0, .ref 64), (1, .int a1), (2, .int a2), (3, .int a3)], [.int 2, .int r25, .int 0, .int a3, .ref 64], (q_kM s c n))) 1 (fun _ _ => rfl) ?_
      cases h10 : decide (r25 = 2) with
      | true =>
        refine q_RP_cT ?_
        refine q_RP_rsF (g2 := (33, [(0, .ref 64), (1, .int a1), (2, .int a2), (3, .int a3)], [.int 0, .int a3, .ref 64], (q_kM s c n))) rfl rfl (q_d_neT h10) ?_
        refine q_RP_seg (g2 := (42, [(0, .ref 64), (1, .int a1), (2, .int a2), (3, .int a3)], [.int 255, .int 0, .int a3, .ref 64], (q_kM s c n))) 2 (fun _ _ => rfl) ?_
        refine q_RP_call (v := (some (.int (q_b (dz_M202 s a3 0 255))))) (h2 := (q_kM s c n)) rfl rfl ((dzt_M202 s c n a3 0 255).le (Nat.le_of_ble_eq_true rfl)) ?_
        generalize dz_M202 s a3 0 255 = r26
        refine q_RP_let ?_
        show q_RP _ _ _ (45, [(0, .ref 64), (1, .int a1), (2, .int a2), (3, .int a3)], [.int (q_b r26), .ref 64], (q_kM s c n)) _ _
        cases h11 : r26 with
        | true =>
          refine q_RP_cT ?_
          show q_RP _ _ _ (45, [(0, .ref 64), (1, .int a1), (2, .int a2), (3, .int a3)], [.int 1, .ref 64], (q_kM s c n)) _ _
          refine q_RP_seg (g2 := (53, [(0, .ref 64), (1, .int a1), (2, .int a2), (3, .int a3)], [.int 0, .ref 64], (q_kM s c n))) 2 (fun _ _ => rfl) ?_
          refine q_RP_call (v := (some (.int (q_b (dz_M200_64 s 0).2)))) (h2 := (q_kM (dz_M200_64 s 0).1 c n)) rfl rfl ((dzt_M200_64 s c n 0).le (Nat.le_of_ble_eq_true rfl)) ?_
          generalize dz_M200_64 s 0 = r27
          refine q_RP_let ?_
          show q_RP _ _ _ (56, [(0, .ref 64), (1, .int a1), (2, .int a2), (3, .int a3)], [.int (q_b r27.2)], (q_kM r27.1 c n)) _ _
          cases h12 : r27.2 with
          | true =>
            refine q_RP_cT ?_
            show q_RP _ _ _ (56, [(0, .ref 64), (1, .int a1), (2, .int a2), (3, .int a3)], [.int 1], (q_kM r27.1 c n)) _ _
            refine q_RP_seg (g2 := (60, [(0, .ref 64), (1, .int a1), (2, .int a2), (3, .int a3)], [.int 0], (q_kM r27.1 c n))) 2 (fun _ _ => rfl) ?_
            exact q_RP_ret rfl rfl rfl
          | false =>
            refine q_RP_cF ?_
            show q_RP _ _ _ (56, [(0, .ref 64), (1, .int a1), (2, .int a2), (3, .int a3)], [.int 0], (q_kM r27.1 c n)) _ _
            refine q_RP_seg (g2 := (64, [(0, .ref 64), (1, .int a1), (2, .int a2), (3, .int a3)], [.int a2, .int a1, .ref 64], (q_kM r27.1 c n))) 4 (fun _ _ => rfl) ?_
            refine q_RP_bd fun r28 er28 => ?_
            refine q_RP_call (v := none) (h2 := (q_kM r28 c n)) rfl rfl ((dzt_M215_64 r27.1 c n a1 a2 r28 er28).le (Nat.le_of_ble_eq_true rfl)) ?_
            show q_RP _ _ _ (67, [(0, .ref 64), (1, .int a1), (2, .int a2), (3, .int a3)], [], (q_kM r28 c n)) _ _
            refine q_RP_seg (g2 := (68, [(0, .ref 64), (1, .int a1), (2, .int a2), (3, .int a3)], [.int a2], (q_kM r28 c n))) 1 (fun _ _ => rfl) ?_
            refine q_RP_call (v := (some (.int (dz_M246 r28 a2)))) (h2 := (q_kM r28 c n)) rfl rfl ((dzt_M246 r28 c n a2).le (Nat.le_of_ble_eq_true rfl)) ?_
            generalize dz_M246 r28 a2 = r29
            refine q_RP_let ?_
            show q_RP _ _ _ (71, [(0, .ref 64), (1, .int a1), (2, .int a2), (3, .int a3)], [.int r29], (q_kM r28 c n)) _ _
            refine q_RP_seg (g2 := (72, [(0, .ref 64), (1, .int a1), (2, .int a2), (3, .int a3)], [.int 1, .int r29], (q_kM r28 c n))) 1 (fun _ _ => rfl) ?_
            cases h13 : decide (1 < r29) with
            | true =>
              refine q_RP_cT ?_
              refine q_RP_rsF (g2 := (75, [(0, .ref 64), (1, .int a1), (2, .int a2), (3, .int a3)], [], (q_kM r28 c n))) rfl rfl (q_d_geT h13) ?_
              refine q_RP_seg (g2 := (79, [(0, .ref 64), (1, .int a1), (2, .int a2), (3, .int a3)], [.int (a1 + 1), .ref 64], (q_kM r28 c n))) 4 (fun _ _ => rfl) ?_
              refine q_RP_call (v := (some (.int (dz_M213 r28 (a1 + 1))))) (h2 := (q_kM r28 c n)) rfl rfl ((dzt_M213 r28 c n (a1 + 1)).le (Nat.le_of_ble_eq_true rfl)) ?_
              generalize dz_M213 r28 (a1 + 1) = r30
              refine q_RP_let ?_
              show q_RP _ _ _ (82, [(0, .ref 64), (1, .int a1), (2, .int a2), (3, .int a3)], [.int r30, .ref 64], (q_kM r28 c n)) _ _
              refine q_RP_seg (g2 := (87, [(0, .ref 64), (1, .int a1), (2, .int a2), (3, .int a3)], [.int (a3 - a3 / 256 * 256), .int r30, .ref 64], (q_kM r28 c n))) 3 (fun _ _ => rfl) ?_
              refine q_RP_bd fun r31 er31 => ?_
              refine q_RP_call (v := none) (h2 := (q_kM r31 c n)) rfl rfl ((dzt_M215_64 r28 c n r30 (a3 - a3 / 256 * 256) r31 er31).le (Nat.le_of_ble_eq_true rfl)) ?_
              show q_RP _ _ _ (90, [(0, .ref 64), (1, .int a1), (2, .int a2), (3, .int a3)], [], (q_kM r31 c n)) _ _
              exact (dzt_M279_64_90 c n r31 a1 a2 a3)
            | false =>
              refine q_RP_cF ?_
              refine q_RP_rsT (g2 := (90, [(0, .ref 64), (1, .int a1), (2, .int a2), (3, .int a3)], [], (q_kM r28 c n))) rfl rfl (q_d_geF h13) ?_
              exact (dzt_M279_64_90 c n r28 a1 a2 a3)
        | false =>
          refine q_RP_cF ?_
          show q_RP _ _ _ (45, [(0, .ref 64), (1, .int a1), (2, .int a2), (3, .int a3)], [.int 0, .ref 64], (q_kM s c n)) _ _
          refine q_RP_seg (g2 := (53, [(0, .ref 64), (1, .int a1), (2, .int a2), (3, .int a3)], [.int 2, .ref 64], (q_kM s c n))) 3 (fun _ _ => rfl) ?_
          refine q_RP_call (v := (some (.int (q_b (dz_M200_64 s 2).2)))) (h2 := (q_kM (dz_M200_64 s 2).1 c n)) rfl rfl ((dzt_M200_64 s c n 2).le (Nat.le_of_ble_eq_true rfl)) ?_
          generalize dz_M200_64 s 2 = r32
          refine q_RP_let ?_
          show q_RP _ _ _ (56, [(0, .ref 64), (1, .int a1), (2, .int a2), (3, .int a3)], [.int (q_b r32.2)], (q_kM r32.1 c n)) _ _
          cases h14 : r32.2 with
          | true =>
            refine q_RP_cT ?_
            show q_RP _ _ _ (56, [(0, .ref 64), (1, .int a1), (2, .int a2), (3, .int a3)], [.int 1], (q_kM r32.1 c n)) _ _
            refine q_RP_seg (g2 := (60, [(0, .ref 64), (1, .int a1), (2, .int a2), (3, .int a3)], [.int 0], (q_kM r32.1 c n))) 2 (fun _ _ => rfl) ?_
            exact q_RP_ret rfl rfl rfl
          | false =>
            refine q_RP_cF ?_
            show q_RP _ _ _ (56, [(0, .ref 64), (1, .int a1), (2, .int a2), (3, .int a3)], [.int 0], (q_kM r32.1 c n)) _ _
            refine q_RP_seg (g2 := (64, [(0, .ref 64), (1, .int a1), (2, .int a2), (3, .int a3)], [.int a2, .int a1, .ref 64], (q_kM r32.1 c n))) 4 (fun _ _ => rfl) ?_
            refine q_RP_bd fun r33 er33 => ?_
            refine q_RP_call (v := none) (h2 := (q_kM r33 c n)) rfl rfl ((dzt_M215_64 r32.1 c n a1 a2 r33 er33).le (Nat.le_of_ble_eq_true rfl)) ?_
            show q_RP _ _ _ (67, [(0, .ref 64), (1, .int a1), (2, .int a2), (3, .int a3)], [], (q_kM r33 c n)) _ _
            refine q_RP_seg (g2 := (68, [(0, .ref 64), (1, .int a1), (2, .int a2), (3, .int a3)], [.int a2], (q_kM r33 c n))) 1 (fun _ _ => rfl) ?_
            refine q_RP_call (v := (some (.int (dz_M246 r33 a2)))) (h2 := (q_kM r33 c n)) rfl rfl ((dzt_M246 r33 c n a2).le (Nat.le_of_ble_eq_true rfl)) ?_
            generalize dz_M246 r33 a2 = r34
            refine q_RP_let ?_
            show q_RP _ _ _ (71, [(0, .ref 64), (1, .int a1), (2, .int a2), (3, .int a3)], [.int r34], (q_kM r33 c n)) _ _
            refine q_RP_seg (g2 := (72, [(0, .ref 64), (1, .int a1), (2, .int a2), (3, .int a3)], [.int 1, .int r34], (q_kM r33 c n))) 1 (fun _ _ => rfl) ?_
            cases h15 : decide (1 < r34) with
            | true =>
              refine q_RP_cT ?_
              refine q_RP_rsF (g2 := (75, [(0, .ref 64), (1, .int a1), (2, .int a2), (3, .int a3)], [], (q_kM r33 c n))) rfl rfl (q_d_geT h15) ?_
              refine q_RP_seg (g2 := (79, [(0, .ref 64), (1, .int a1), (2, .int a2), (3, .int a3)], [.int (a1 + 1), .ref 64], (q_kM r33 c n))) 4 (fun _ _ => rfl) ?_
              refine q_RP_call (v := (some (.int (dz_M213 r33 (a1 + 1))))) (h2 := (q_kM r33 c n)) rfl rfl ((dzt_M213 r33 c n (a1 + 1)).le (Nat.le_of_ble_eq_true rfl)) ?_
              generalize dz_M213 r33 (a1 + 1) = r35
              refine q_RP_let ?_
              show q_RP _ _ _ (82, [(0, .ref 64), (1, .int a1), (2, .int a2), (3, .int a3)], [.int r35, .ref 64], (q_kM r33 c n)) _ _
              refine q_RP_seg (g2 := (87, [(0, .ref 64), (1, .int a1), (2, .int a2), (3, .int a3)], [.int (a3 - a3 / 256 * 256), .int r35, .ref 64], (q_kM r33 c n))) 3 (fun _ _ => rfl) ?_
              refine q_RP_bd fun r36 er36 => ?_
              refine q_RP_call (v := none) (h2 := (q_kM r36 c n)) rfl rfl ((dzt_M215_64 r33 c n r35 (a3 - a3 / 256 * 256) r36 er36).le (Nat.le_of_ble_eq_true rfl)) ?_
              show q_RP _ _ _ (90, [(0, .ref 64), (1, .int a1), (2, .int a2), (3, .int a3)], [], (q_kM r36 c n)) _ _
              exact (dzt_M279_64_90 c n r36 a1 a2 a3)
            | false =>
              refine q_RP_cF ?_
              refine q_RP_rsT (g2 := (90, [(0, .ref 64), (1, .int a1), (2, .int a2), (3, .int a3)], [], (q_kM r33 c n))) rfl rfl (q_d_geF h15) ?_
              exact (dzt_M279_64_90 c n r33 a1 a2 a3)
      | false =>
        refine q_RP_cF ?_
        refine q_RP_rsT (g2 := (39, [(0, .ref 64), (1, .int a1), (2, .int a2), (3, .int a3)], [.int 0, .int a3, .ref 64], (q_kM s c n))) rfl rfl (q_d_neF h10) ?_
        refine q_RP_seg (g2 := (42, [(0, .ref 64), (1, .int a1), (2, .int a2), (3, .int a3)], [.int 4095, .int 0, .int a3, .ref 64], (q_kM s c n))) 1 (fun _ _ => rfl) ?_
        refine q_RP_call (v := (some (.int (q_b (dz_M202 s a3 0 4095))))) (h2 := (q_kM s c n)) rfl rfl ((dzt_M202 s c n a3 0 4095).le (Nat.le_of_ble_eq_true rfl)) ?_
        generalize dz_M202 s a3 0 4095 = r37
        refine q_RP_let ?_
        show q_RP _ _ _ (45, [(0, .ref 64), (1, .int a1), (2, .int a2), (3, .int a3)], [.int (q_b r37), .ref 64], (q_kM s c n)) _ _
        cases h16 : r37 with
        | true =>
          refine q_RP_cT ?_
          show q_RP _ _ _ (45, [(0, .ref 64), (1, .int a1), (2, .int a2), (3, .int a3)], [.int 1, .ref 64], (q_kM s c n)) _ _
          refine q_RP_seg (g2 := (53, [(0, .ref 64), (1, .int a1), (2, .int a2), (3, .int a3)], [.int 0, .ref 64], (q_kM s c n))) 2 (fun _ _ => rfl) ?_
          refine q_RP_call (v := (some (.int (q_b (dz_M200_64 s 0).2)))) (h2 := (q_kM (dz_M200_64 s 0).1 c n)) rfl rfl ((dzt_M200_64 s c n 0).le (Nat.le_of_ble_eq_true rfl)) ?_
          generalize dz_M200_64 s 0 = r38
          refine q_RP_let ?_
          show q_RP _ _ _ (56, [(0, .ref 64), (1, .int a1), (2, .int a2), (3, .int a3)], [.int (q_b r38.2)], (q_kM r38.1 c n)) _ _
          cases h17 : r38.2 with
          | true =>
            refine q_RP_cT ?_
            show q_RP _ _ _ (56, [(0, .ref 64), (1, .int a1), (2, .int a2), (3, .int a3)], [.int 1], (q_kM r38.1 c n)) _ _
            refine q_RP_seg (g2 := (60, [(0, .ref 64), (1, .int a1), (2, .int a2), (3, .int a3)], [.int 0], (q_kM r38.1 c n))) 2 (fun _ _ => rfl) ?_
            exact q_RP_ret rfl rfl rfl
          | false =>
            refine q_RP_cF ?_
            show q_RP _ _ _ (56, [(0, .ref 64), (1, .int a1), (2, .int a2), (3, .int a3)], [.int 0], (q_kM r38.1 c n)) _ _
            refine q_RP_seg (g2 := (64, [(0, .ref 64), (1, .int a1), (2, .int a2), (3, .int a3)], [.int a2, .int a1, .ref 64], (q_kM r38.1 c n))) 4 (fun _ _ => rfl) ?_
            refine q_RP_bd fun r39 er39 => ?_
            refine q_RP_call (v := none) (h2 := (q_kM r39 c n)) rfl rfl ((dzt_M215_64 r38.1 c n a1 a2 r39 er39).le (Nat.le_of_ble_eq_true rfl)) ?_
            show q_RP _ _ _ (67, [(0, .ref 64), (1, .int a1), (2, .int a2), (3, .int a3)], [], (q_kM r39 c n)) _ _
            refine q_RP_seg (g2 := (68, [(0, .ref 64), (1, .int a1), (2, .int a2), (3, .int a3)], [.int a2], (q_kM r39 c n))) 1 (fun _ _ => rfl) ?_
            refine q_RP_call (v := (some (.int (dz_M246 r39 a2)))) (h2 := (q_kM r39 c n)) rfl rfl ((dzt_M246 r39 c n a2).le (Nat.le_of_ble_eq_true rfl)) ?_
            generalize dz_M246 r39 a2 = r40
            refine q_RP_let ?_
            show q_RP _ _ _ (71, [(0, .ref 64), (1, .int a1), (2, .int a2), (3, .int a3)], [.int r40], (q_kM r39 c n)) _ _
            refine q_RP_seg (g2 := (72, [(0, .ref 64), (1, .int a1), (2, .int a2), (3, .int a3)], [.int 1, .int r40], (q_kM r39 c n))) 1 (fun _ _ => rfl) ?_
            cases h18 : decide (1 < r40) with
            | true =>
              refine q_RP_cT ?_
              refine q_RP_rsF (g2 := (75, [(0, .ref 64), (1, .int a1), (2, .int a2), (3, .int a3)], [], (q_kM r39 c n))) rfl rfl (q_d_geT h18) ?_
              refine q_RP_seg (g2 := (79, [(0, .ref 64), (1, .int a1), (2, .int a2), (3, .int a3)], [.int (a1 + 1), .ref 64], (q_kM r39 c n))) 4 (fun _ _ => rfl) ?_
              refine q_RP_call (v := (some (.int (dz_M213 r39 (a1 + 1))))) (h2 := (q_kM r39 c n)) rfl rfl ((dzt_M213 r39 c n (a1 + 1)).le (Nat.le_of_ble_eq_true rfl)) ?_
              generalize dz_M213 r39 (a1 + 1) = r41
              refine q_RP_let ?_
              show q_RP _ _ _ (82, [(0, .ref 64), (1, .int a1), (2, .int a2), (3, .int a3)], [.int r41, .ref 64], (q_kM r39 c n)) _ _
              refine q_RP_seg (g2 := (87, [(0, .ref 64), (1, .int a1), (2, .int a2), (3, .int a3)], [.int (a3 - a3 / 256 * 256), .int r41, .ref 64], (q_kM r39 c n))) 3 (fun _ _ => rfl) ?_
              refine q_RP_bd fun r42 er42 => ?_
              refine q_RP_call (v := none) (h2 := (q_kM r42 c n)) rfl rfl ((dzt_M215_64 r39 c n r41 (a3 - a3 / 256 * 256) r42 er42).le (Nat.le_of_ble_eq_true rfl)) ?_
              show q_RP _ _ _ (90, [(0, .ref 64), (1, .int a1), (2, .int a2), (3, .int a3)], [], (q_kM r42 c n)) _ _
              exact (dzt_M279_64_90 c n r42 a1 a2 a3)
            | false =>
              refine q_RP_cF ?_
              refine q_RP_rsT (g2 := (90, [(0, .ref 64), (1, .int a1), (2, .int a2), (3, .int a3)], [], (q_kM r39 c n))) rfl rfl (q_d_geF h18) ?_
              exact (dzt_M279_64_90 c n r39 a1 a2 a3)
        | false =>
          refine q_RP_cF ?_
          show q_RP _ _ _ (45, [(0, .ref 64), (1, .int a1), (2, .int a2), (3, .int a3)], [.int 0, .ref 64], (q_kM s c n)) _ _
          refine q_RP_seg (g2 := (53, [(0, .ref 64), (1, .int a1), (2, .int a2), (3, .int a3)], [.int 2, .ref 64], (q_kM s c n))) 3 (fun _ _ => rfl) ?_
          refine q_RP_call (v := (some (.int (q_b (dz_M200_64 s 2).2)))) (h2 := (q_kM (dz_M200_64 s 2).1 c n)) rfl rfl ((dzt_M200_64 s c n 2).le (Nat.le_of_ble_eq_true rfl)) ?_
          generalize dz_M200_64 s 2 = r43
          refine q_RP_let ?_
          show q_RP _ _ _ (56, [(0, .ref 64), (1, .int a1), (2, .int a2), (3, .int a3)], [.int (q_b r43.2)], (q_kM r43.1 c n)) _ _
          cases h19 : r43.2 with
          | true =>
            refine q_RP_cT ?_
            show q_RP _ _ _ (56, [(0, .ref 64), (1, .int a1), (2, .int a2), (3, .int a3)], [.int 1], (q_kM r43.1 c n)) _ _
            refine q_RP_seg (g2 := (60, [(0, .ref 64), (1, .int a1), (2, .int a2), (3, .int a3)], [.int 0], (q_kM r43.1 c n))) 2 (fun _ _ => rfl) ?_
            exact q_RP_ret rfl rfl rfl
          | false =>
            refine q_RP_cF ?_
            show q_RP _ _ _ (56, [(0, .ref 64), (1, .int a1), (2, .int a2), (3, .int a3)], [.int 0], (q_kM r43.1 c n)) _ _
            refine q_RP_seg (g2 := (64, [(0, .ref 64), (1, .int a1), (2, .int a2), (3, .int a3)], [.int a2, .int a1, .ref 64], (q_kM r43.1 c n))) 4 (fun _ _ => rfl) ?_
            refine q_RP_bd fun r44 er44 => ?_
            refine q_RP_call (v := none) (h2 := (q_kM r44 c n)) rfl rfl ((dzt_M215_64 r43.1 c n a1 a2 r44 er44).le (Nat.le_of_ble_eq_true rfl)) ?_
            show q_RP _ _ _ (67, [(0, .ref 64), (1, .int a1), (2, .int a2), (3, .int a3)], [], (q_kM r44 c n)) _ _
            refine q_RP_seg (g2 := (68, [(0, .ref 64), (1, .int a1), (2, .int a2), (3, .int a3)], [.int a2], (q_kM r44 c n))) 1 (fun _ _ => rfl) ?_
            refine q_RP_call (v := (some (.int (dz_M246 r44 a2)))) (h2 := (q_kM r44 c n)) rfl rfl ((dzt_M246 r44 c n a2).le (Nat.le_of_ble_eq_true rfl)) ?_
            generalize dz_M246 r44 a2 = r45
            refine q_RP_let ?_
            show q_RP _ _ _ (71, [(0, .ref 64), (1, .int a1), (2, .int a2), (3, .int a3)], [.int r45], (q_kM r44 c n)) _ _
            refine q_RP_seg (g2 := (72, [(0, .ref 64), (1, .int a1), (2, .int a2), (3, .int a3)], [.int 1, .int r45], (q_kM r44 c n))) 1 (fun _ _ => rfl) ?_
            cases h20 : decide (1 < r45) with
            | true =>
              refine q_RP_cT ?_
              refine q_RP_rsF (g2 := (75, [(0, .ref 64), (1, .int a1), (2, .int a2), (3, .int a3)], [], (q_kM r44 c n))) rfl rfl (q_d_geT h20) ?_
              refine q_RP_seg (g2 := (79, [(0, .ref 64), (1, .int a1), (2, .int a2), (3, .int a3)], [.int (a1 + 1), .ref 64], (q_kM r44 c n))) 4 (fun _ _ => rfl) ?_
              refine q_RP_call (v := (some (.int (dz_M213 r44 (a1 + 1))))) (h2 := (q_kM r44 c n)) rfl rfl ((dzt_M213 r44 c n (a1 + 1)).le (Nat.le_of_ble_eq_true rfl)) ?_
              generalize dz_M213 r44 (a1 + 1) = r46
              refine q_RP_let ?_
              show q_RP _ _ _ (82, [(0, .ref 64), (1, .int a1), (2, .int a2), (3, .int a3)], [.int r46, .ref 64], (q_kM r44 c n)) _ _
              refine q_RP_seg (g2 := (87, [(0, .ref 64), (1, .int a1), (2, .int a2), (3, .int a3)], [.int (a3 - a3 / 256 * 256), .int r46, .ref 64], (q_kM r44 c n))) 3 (fun _ _ => rfl) ?_
              refine q_RP_bd fun r47 er47 => ?_
              refine q_RP_call (v := none) (h2 := (q_kM r47 c n)) rfl rfl ((dzt_M215_64 r44 c n r46 (a3 - a3 / 256 * 256) r47 er47).le (Nat.le_of_ble_eq_true rfl)) ?_
              show q_RP _ _ _ (90, [(0, .ref 64), (1, .int a1), (2, .int a2), (3, .int a3)], [], (q_kM r47 c n)) _ _
              exact (dzt_M279_64_90 c n r47 a1 a2 a3)
            | false =>
              refine q_RP_cF ?_
              refine q_RP_rsT (g2 := (90, [(0, .ref 64), (1, .int a1), (2, .int a2), (3, .int a3)], [], (q_kM r44 c n))) rfl rfl (q_d_geF h20) ?_
              exact (dzt_M279_64_90 c n r44 a1 a2 a3)
def dz_M280_64 (s : q_S) (a1 : Int32) : Option (q_S) :=
  cond (q_in (s.2.1 0 35) 40) (some (q_sI (q_sA s 32 (upd (s.1 32) ((s.2.1 0 35).toNatClampNeg) (vp_nar .char a1))) 0 35 ((s.2.1 0 35) + 1))) none
set_option maxHeartbeats 4000000 in
theorem dzt_M280_64 (s : q_S) (c n : Nat) (a1 : Int32) (x : q_S) (h : dz_M280_64 s a1 = some x) : q_Ca q_TB0 1 279 [.ref 64, .int a1] (q_kM s c n) ((q_oSM c n) x) := by
  refine q_CaP_of (φ := (q_oSM c n)) (Nat.le_of_ble_eq_true rfl) ?_ h
  clear h
  unfold dz_M280_64
  refine q_RP_seg (g2 := (8, [(0, .ref 64), (1, .int a1)], [.int (s.2.1 0 35), .ref 96], (q_kM s c n))) 4 (fun _ _ => rfl) ?_
  refine q_RP_seg (g2 := (9, [(0, .ref 64), (1, .int a1)], [.int a1, .int (s.2.1 0 35), .ref 96], (q_kM s c n))) 1 (fun _ _ => rfl) ?_
  refine q_RP_as fun i1 => ?_
  refine q_RP_rsT (g2 := (10, [(0, .ref 64), (1, .int a1)], [], (q_kM (q_sA s 32 (upd (s.1 32) ((s.2.1 0 35).toNatClampNeg) (vp_nar .char a1))) c n))) rfl q_wM32 i1 ?_
  refine q_RP_seg (g2 := (15, [(0, .ref 64), (1, .int a1)], [.int (s.2.1 0 35), .ref 64], (q_kM (q_sA s 32 (upd (s.1 32) ((s.2.1 0 35).toNatClampNeg) (vp_nar .char a1))) c n))) 3 (fun _ _ => rfl) ?_
  refine q_RP_seg (g2 := (20, [(0, .ref 64), (1, .int a1)], [], (q_kM (q_sI (q_sA s 32 (upd (s.1 32) ((s.2.1 0 35).toNatClampNeg) (vp_nar .char a1))) 0 35 ((s.2.1 0 35) + 1)) c n))) 3 (fun _ _ => rfl) ?_
  exact q_RP_ret rfl rfl rfl
def dzr_M281_64 (m : Nat) : q_S → Int32 → Option (q_S) := Nat.rec (motive := fun _ => q_S → Int32 → Option (q_S)) (fun _ _ => none) (fun _ krec s a1 =>
  cond (decide (a1 < 10)) ((dz_M280_64 s ((((48 : Int32) + (a1 - a1 / 10 * 10)).toUInt32 % 65536).toInt32)).bind fun r1 => some r1) ((krec s (a1 / 10)).bind fun r2 => (dz_M280_64 r2 ((((48 : Int32) + (a1 - a1 / 10 * 10)).toUInt32 % 65536).toInt32)).bind fun r3 => some r3)) m
theorem dzs_M281_64 (m : Nat) (s : q_S) (a1 : Int32) : dzr_M281_64 (m + 1) s a1 = (fun krec : q_S → Int32 → Option (q_S) =>
  cond (decide (a1 < 10)) ((dz_M280_64 s ((((48 : Int32) + (a1 - a1 / 10 * 10)).toUInt32 % 65536).toInt32)).bind fun r1 => some r1) ((krec s (a1 / 10)).bind fun r2 => (dz_M280_64 r2 ((((48 : Int32) + (a1 - a1 / 10 * 10)).toUInt32 % 65536).toInt32)).bind fun r3 => some r3)) (dzr_M281_64 m) := rfl
set_option maxHeartbeats 4000000 in
theorem dzq_M281_64 (c n : Nat) : ∀ (m : Nat) (s : q_S) (a1 : Int32) (x : q_S), dzr_M281_64 m s a1 = some x → q_Ca q_TB0 (m + 2) 280 [.ref 64, .int a1] (q_kM s c n) ((q_oSM c n) x) := by
  intro m
  induction m with
  | zero => intro s a1 x h; cases h
  | succ m ih =>
    intro s a1 x h
    rw [dzs_M281_64] at h
    have hrec := ih
    clear ih
    generalize dzr_M281_64 m = krec at hrec h
    rw [show m + 1 + 2 = (m + 2) + 1 by omega]
    refine q_CaP_of (φ := (q_oSM c n)) (Nat.le_of_ble_eq_true rfl) ?_ h
    clear h
    dsimp only
    refine q_RP_seg (g2 := (3, [(0, .ref 64), (1, .int a1)], [.int 10, .int a1], (q_kM s c n))) 2 (fun _ _ => rfl) ?_
    cases h1 : decide (a1 < 10) with
    | true =>
      refine q_RP_cT ?_
      refine q_RP_rsT (g2 := (14, [(0, .ref 64), (1, .int a1)], [], (q_kM s c n))) rfl rfl h1 ?_
      refine q_RP_seg (g2 := (23, [(0, .ref 64), (1, .int a1)], [.int ((((48 : Int32) + (a1 - a1 / 10 * 10)).toUInt32 % 65536).toInt32), .ref 64], (q_kM s c n))) 7 (fun _ _ => rfl) ?_
      refine q_RP_bd fun r1 er1 => ?_
      refine q_RP_call (v := none) (h2 := (q_kM r1 c n)) rfl rfl ((dzt_M280_64 s c n ((((48 : Int32) + (a1 - a1 / 10 * 10)).toUInt32 % 65536).toInt32) r1 er1).le (by omega)) ?_
      show q_RP _ _ _ (26, [(0, .ref 64), (1, .int a1)], [], (q_kM r1 c n)) _ _
      exact q_RP_ret rfl rfl rfl
    | false =>
      refine q_RP_cF ?_
      refine q_RP_rsF (g2 := (6, [(0, .ref 64), (1, .int a1)], [], (q_kM s c n))) rfl rfl h1 ?_
      refine q_RP_seg (g2 := (11, [(0, .ref 64), (1, .int a1)], [.int (a1 / 10), .ref 64], (q_kM s c n))) 4 (fun _ _ => rfl) ?_
      refine q_RP_bd fun r2 er2 => ?_
      refine q_RP_call (v := none) (h2 := (q_kM r2 c n)) rfl rfl (hrec s (a1 / 10) r2 er2) ?_
      show q_RP _ _ _ (14, [(0, .ref 64), (1, .int a1)], [], (q_kM r2 c n)) _ _
      refine q_RP_seg (g2 := (23, [(0, .ref 64), (1, .int a1)], [.int ((((48 : Int32) + (a1 - a1 / 10 * 10)).toUInt32 % 65536).toInt32), .ref 64], (q_kM r2 c n))) 7 (fun _ _ => rfl) ?_
      refine q_RP_bd fun r3 er3 => ?_
      refine q_RP_call (v := none) (h2 := (q_kM r3 c n)) rfl rfl ((dzt_M280_64 r2 c n ((((48 : Int32) + (a1 - a1 / 10 * 10)).toUInt32 % 65536).toInt32) r3 er3).le (by omega)) ?_
      show q_RP _ _ _ (26, [(0, .ref 64), (1, .int a1)], [], (q_kM r3 c n)) _ _
      exact q_RP_ret rfl rfl rfl
def dz_M281_64 (s : q_S) (a1 : Int32) : Option (q_S) := dzr_M281_64 14 s a1
theorem dzt_M281_64 (s : q_S) (c n : Nat) (a1 : Int32) (x : q_S) (h : dz_M281_64 s a1 = some x) : q_Ca q_TB0 16 280 [.ref 64, .int a1] (q_kM s c n) ((q_oSM c n) x) := dzq_M281_64 c n 14 s a1 x h
def dz_M282_64_7 (m : Nat) : q_S → Int32 → Int32 → Int32 → Option (q_S) := Nat.rec (motive := fun _ => q_S → Int32 → Int32 → Int32 → Option (q_S)) (fun _ _ _ _ => none) (fun _ k7 s v1 v2 v3 =>
  cond (decide (v3 < 3)) (cond (decide (v2 < 0)) (cond (q_in ((3 * (v1 - 128)) + v3) 120) ((dz_M280_64 s ((fun j => q_o5.getD j 0) (((3 * (v1 - 128)) + v3).toNatClampNeg))).bind fun r2 => k7 r2 v1 v2 (v3 + 1)) none) (cond (q_in ((3 * v2) + v3) 63) ((dz_M280_64 s ((fun j => q_o4.getD j 0) (((3 * v2) + v3).toNatClampNeg))).bind fun r3 => k7 r3 v1 v2 (v3 + 1)) none)) (some s)) m
theorem dzs_M282_64_7 (m : Nat) (s : q_S) (v1 : Int32) (v2 : Int32) (v3 : Int32) : dz_M282_64_7 (m + 1) s v1 v2 v3 = (fun k7 : q_S → Int32 → Int32 → Int32 → Option (q_S) =>
  cond (decide (v3 < 3)) (cond (decide (v2 < 0)) (cond (q_in ((3 * (v1 - 128)) + v3) 120) ((dz_M280_64 s ((fun j => q_o5.getD j 0) (((3 * (v1 - 128)) + v3).toNatClampNeg))).bind fun r2 => k7 r2 v1 v2 (v3 + 1)) none) (cond (q_in ((3 * v2) + v3) 63) ((dz_M280_64 s ((fun j => q_o4.getD j 0) (((3 * v2) + v3).toNatClampNeg))).bind fun r3 => k7 r3 v1 v2 (v3 + 1)) none)) (some s)) (dz_M282_64_7 m) := rfl
set_option maxHeartbeats 4000000 in
theorem dzt_M282_64_7 (c n : Nat) : ∀ (m : Nat) (s : q_S) (v1 : Int32) (v2 : Int32) (v3 : Int32), q_RP q_TB0 2 281 (7, [(0, .ref 64), (1, .int v1), (2, .int v2), (3, .int v3)], [], (q_kM s c n)) (q_oSM c n) (dz_M282_64_7 m s v1 v2 v3) := by
  intro m
  induction m with
  | zero => intro s v1 v2 v3; exact q_RP_no
  | succ m ih =>
    intro s v1 v2 v3
    have hk7 := ih
    clear ih
    rw [dzs_M282_64_7]
    generalize dz_M282_64_7 m = k7 at hk7 ⊢
    dsimp only
    refine q_RP_seg (g2 := (9, [(0, .ref 64), (1, .int v1), (2, .int v2), (3, .int v3)], [.int 3, .int v3], (q_kM s c n))) 2 (fun _ _ => rfl) ?_
    cases h1 : decide (v3 < 3) with
    | true =>
      refine q_RP_cT ?_
      refine q_RP_rsF (g2 := (12, [(0, .ref 64), (1, .int v1), (2, .int v2), (3, .int v3)], [], (q_kM s c n))) rfl rfl (q_d_geT h1) ?_
      refine q_RP_seg (g2 := (14, [(0, .ref 64), (1, .int v1), (2, .int v2), (3, .int v3)], [.int v2, .ref 64], (q_kM s c n))) 2 (fun _ _ => rfl) ?_
      cases h2 : decide (v2 < 0) with
      | true =>
        refine q_RP_cT ?_
        refine q_RP_rsT (g2 := (29, [(0, .ref 64), (1, .int v1), (2, .int v2), (3, .int v3)], [.ref 64], (q_kM s c n))) rfl rfl h2 ?_
        refine q_RP_seg (g2 := (41, [(0, .ref 64), (1, .int v1), (2, .int v2), (3, .int v3)], [.int ((3 * (v1 - 128)) + v3), .ref 5, .ref 64], (q_kM s c n))) 8 (fun _ _ => rfl) ?_
        refine q_RP_as fun i3 => ?_
        refine q_RP_rsT (g2 := (42, [(0, .ref 64), (1, .int v1), (2, .int v2), (3, .int v3)], [.int ((fun j => q_o5.getD j 0) (((3 * (v1 - 128)) + v3).toNatClampNeg)), .ref 64], (q_kM s c n))) rfl rfl i3 ?_
        refine q_RP_bd fun r2 er2 => ?_
        refine q_RP_call (v := none) (h2 := (q_kM r2 c n)) rfl rfl ((dzt_M280_64 s c n ((fun j => q_o5.getD j 0) (((3 * (v1 - 128)) + v3).toNatClampNeg)) r2 er2).le (Nat.le_of_ble_eq_true rfl)) ?_
        show q_RP _ _ _ (45, [(0, .ref 64), (1, .int v1), (2, .int v2), (3, .int v3)], [], (q_kM r2 c n)) _ _
        refine q_RP_seg (g2 := (7, [(3, .int (v3 + 1)), (0, .ref 64), (1, .int v1), (2, .int v2)], [], (q_kM r2 c n))) 2 (fun _ _ => rfl) ?_
        exact q_RP_xt (q_xt_mk (q_mn1 1 rfl (q_mn1 2 rfl (q_mn1 3 rfl (q_mn1 0 rfl q_mn0)))) rfl) (hk7 r2 v1 v2 (v3 + 1))
      | false =>
        refine q_RP_cF ?_
        refine q_RP_rsF (g2 := (17, [(0, .ref 64), (1, .int v1), (2, .int v2), (3, .int v3)], [.ref 64], (q_kM s c n))) rfl rfl h2 ?_
        refine q_RP_seg (g2 := (25, [(0, .ref 64), (1, .int v1), (2, .int v2), (3, .int v3)], [.int ((3 * v2) + v3), .ref 4, .ref 64], (q_kM s c n))) 6 (fun _ _ => rfl) ?_
        refine q_RP_as fun i4 => ?_
        refine q_RP_rsT (g2 := (26, [(0, .ref 64), (1, .int v1), (2, .int v2), (3, .int v3)], [.int ((fun j => q_o4.getD j 0) (((3 * v2) + v3).toNatClampNeg)), .ref 64], (q_kM s c n))) rfl rfl i4 ?_
        refine q_RP_seg (g2 := (42, [(0, .ref 64), (1, .int v1), (2, .int v2), (3, .int v3)], [.int ((fun j => q_o4.getD j 0) (((3 * v2) + v3).toNatClampNeg)), .ref 64], (q_kM s c n))) 1 (fun _ _ => rfl) ?_
        refine q_RP_bd fun r3 er3 => ?_
        refine q_RP_call (v := none) (h2 := (q_kM r3 c n)) rfl rfl ((dzt_M280_64 s c n ((fun j => q_o4.getD j 0) (((3 * v2) + v3).toNatClampNeg)) r3 er3).le (Nat.le_of_ble_eq_true rfl)) ?_
        show q_RP _ _ _ (45, [(0, .ref 64), (1, .int v1), (2, .int v2), (3, .int v3)], [], (q_kM r3 c n)) _ _
        refine q_RP_seg (g2 := (7, [(3, .int (v3 + 1)), (0, .ref 64), (1, .int v1), (2, .int v2)], [], (q_kM r3 c n))) 2 (fun _ _ => rfl) ?_
        exact q_RP_xt (q_xt_mk (q_mn1 1 rfl (q_mn1 2 rfl (q_mn1 3 rfl (q_mn1 0 rfl q_mn0)))) rfl) (hk7 r3 v1 v2 (v3 + 1))
    | false =>
      refine q_RP_cF ?_
      refine q_RP_rsT (g2 := (51, [(0, .ref 64), (1, .int v1), (2, .int v2), (3, .int v3)], [], (q_kM s c n))) rfl rfl (q_d_geF h1) ?_
      exact q_RP_ret rfl rfl rfl
def dz_M282_64 (s : q_S) (a1 : Int32) : Option (q_S) :=
  q_let (dz_M244 s a1) fun r1 => dz_M282_64_7 5000 s a1 r1 0
set_option maxHeartbeats 4000000 in
theorem dzt_M282_64 (s : q_S) (c n : Nat) (a1 : Int32) (x : q_S) (h : dz_M282_64 s a1 = some x) : q_Ca q_TB0 3 281 [.ref 64, .int a1] (q_kM s c n) ((q_oSM c n) x) := by
  refine q_CaP_of (φ := (q_oSM c n)) (Nat.le_of_ble_eq_true rfl) ?_ h
  clear h
  unfold dz_M282_64
  refine q_RP_seg (g2 := (1, [(0, .ref 64), (1, .int a1)], [.int a1], (q_kM s c n))) 1 (fun _ _ => rfl) ?_
  refine q_RP_call (v := (some (.int (dz_M244 s a1)))) (h2 := (q_kM s c n)) rfl rfl ((dzt_M244 s c n a1).le (Nat.le_of_ble_eq_true rfl)) ?_
  generalize dz_M244 s a1 = r1
  refine q_RP_let ?_
  show q_RP _ _ _ (4, [(0, .ref 64), (1, .int a1)], [.int r1], (q_kM s c n)) _ _
  refine q_RP_seg (g2 := (7, [(3, .int 0), (2, .int r1), (0, .ref 64), (1, .int a1)], [], (q_kM s c n))) 3 (fun _ _ => rfl) ?_
  exact q_RP_xt (q_xt_mk (q_mn1 2 rfl (q_mn1 3 rfl (q_mn1 1 rfl (q_mn1 0 rfl q_mn0)))) rfl) (dzt_M282_64_7 c n 5000 s a1 r1 0)
def dz_M283_64_107 (s : q_S) (v1 : Int32) : Option (q_S) :=
  cond (decide (v1 = 5)) ((dz_M280_64 s 121).bind fun r11 => cond (decide (v1 = 7)) ((dz_M280_64 r11 41).bind fun r12 => some r12) (some r11)) (cond (decide (v1 = 6)) ((dz_M280_64 s 121).bind fun r13 => cond (decide (v1 = 7)) ((dz_M280_64 r13 41).bind fun r14 => some r14) (some r13)) (cond (decide (v1 = 7)) ((dz_M280_64 s 41).bind fun r15 => some r15) (some s)))
set_option maxHeartbeats 4000000 in
theorem dzt_M283_64_107 (c n : Nat) (s : q_S) (v1 : Int32) : q_RP q_TB0 16 282 (107, [(0, .ref 64), (1, .int v1)], [], (q_kM s c n)) (q_oSM c n) (dz_M283_64_107 s v1) := by
  unfold dz_M283_64_107
  refine q_RP_seg (g2 := (109, [(0, .ref 64), (1, .int v1)], [.int 5, .int v1], (q_kM s c n))) 2 (fun _ _ => rfl) ?_
  cases h7 : decide (v1 = 5) with
  | true =>
    refine q_RP_cT ?_
    refine q_RP_rsT (g2 := (118, [(0, .ref 64), (1, .int v1)], [], (q_kM s c n))) rfl rfl h7 ?_
    refine q_RP_seg (g2 := (121, [(0, .ref 64), (1, .int v1)], [.int 121, .ref 64], (q_kM s c n))) 2 (fun _ _ => rfl) ?_
    refine q_RP_bd fun r11 er11 => ?_
    refine q_RP_call (v := none) (h2 := (q_kM r11 c n)) rfl rfl ((dzt_M280_64 s c n 121 r11 er11).le (Nat.le_of_ble_eq_true rfl)) ?_
    show q_RP _ _ _ (124, [(0, .ref 64), (1, .int v1)], [], (q_kM r11 c n)) _ _
    refine q_RP_seg (g2 := (127, [(0, .ref 64), (1, .int v1)], [.int 7, .int v1], (q_kM r11 c n))) 2 (fun _ _ => rfl) ?_
    cases h8 : decide (v1 = 7) with
    | true =>
      refine q_RP_cT ?_
      refine q_RP_rsF (g2 := (130, [(0, .ref 64), (1, .int v1)], [], (q_kM r11 c n))) rfl rfl (q_d_neT h8) ?_
      refine q_RP_seg (g2 := (133, [(0, .ref 64), (1, .int v1)], [.int 41, .ref 64], (q_kM r11 c n))) 2 (fun _ _ => rfl) ?_
      refine q_RP_bd fun r12 er12 => ?_
      refine q_RP_call (v := none) (h2 := (q_kM r12 c n)) rfl rfl ((dzt_M280_64 r11 c n 41 r12 er12).le (Nat.le_of_ble_eq_true rfl)) ?_
      show q_RP _ _ _ (136, [(0, .ref 64), (1, .int v1)], [], (q_kM r12 c n)) _ _
      exact q_RP_ret rfl rfl rfl
    | false =>
      refine q_RP_cF ?_
      refine q_RP_rsT (g2 := (136, [(0, .ref 64), (1, .int v1)], [], (q_kM r11 c n))) rfl rfl (q_d_neF h8) ?_
      exact q_RP_ret rfl rfl rfl
  | false =>
    refine q_RP_cF ?_
    refine q_RP_rsF (g2 := (112, [(0, .ref 64), (1, .int v1)], [], (q_kM s c n))) rfl rfl h7 ?_
    refine q_RP_seg (g2 := (115, [(0, .ref 64), (1, .int v1)], [.int 6, .int v1], (q_kM s c n))) 2 (fun _ _ => rfl) ?_
    cases h9 : decide (v1 = 6) with
    | true =>
      refine q_RP_cT ?_
      refine q_RP_rsF (g2 := (118, [(0, .ref 64), (1, .int v1)], [], (q_kM s c n))) rfl rfl (q_d_neT h9) ?_
      refine q_RP_seg (g2 := (121, [(0, .ref 64), (1, .int v1)], [.int 121, .ref 64], (q_kM s c n))) 2 (fun _ _ => rfl) ?_
      refine q_RP_bd fun r13 er13 => ?_
      refine q_RP_call (v := none) (h2 := (q_kM r13 c n)) rfl rfl ((dzt_M280_64 s c n 121 r13 er13).le (Nat.le_of_ble_eq_true rfl)) ?_
      show q_RP _ _ _ (124, [(0, .ref 64), (1, .int v1)], [], (q_kM r13 c n)) _ _
      refine q_RP_seg (g2 := (127, [(0, .ref 64), (1, .int v1)], [.int 7, .int v1], (q_kM r13 c n))) 2 (fun _ _ => rfl) ?_
      cases h10 : decide (v1 = 7) with
      | true =>
        refine q_RP_cT ?_
        refine q_RP_rsF (g2 := (130, [(0, .ref 64), (1, .int v1)], [], (q_kM r13 c n))) rfl rfl (q_d_neT h10) ?_
        refine q_RP_seg (g2 := (133, [(0, .ref 64), (1, .int v1)], [.int 41, .ref 64], (q_kM r13 c n))) 2 (fun _ _ => rfl) ?_
        refine q_RP_bd fun r14 er14 => ?_
        refine q_RP_call (v := none) (h2 := (q_kM r14 c n)) rfl rfl ((dzt_M280_64 r13 c n 41 r14 er14).le (Nat.le_of_ble_eq_true rfl)) ?_
        show q_RP _ _ _ (136, [(0, .ref 64), (1, .int v1)], [], (q_kM r14 c n)) _ _
        exact q_RP_ret rfl rfl rfl
      | false =>
        refine q_RP_cF ?_
        refine q_RP_rsT (g2 := (136, [(0, .ref 64), (1, .int v1)], [], (q_kM r13 c n))) rfl rfl (q_d_neF h10) ?_
        exact q_RP_ret rfl rfl rfl
    | false =>
      refine q_RP_cF ?_
      refine q_RP_rsT (g2 := (124, [(0, .ref 64), (1, .int v1)], [], (q_kM s c n))) rfl rfl (q_d_neF h9) ?_
      refine q_RP_seg (g2 := (127, [(0, .ref 64), (1, .int v1)], [.int 7, .int v1], (q_kM s c n))) 2 (fun _ _ => rfl) ?_
      cases h11 : decide (v1 = 7) with
      | true =>
        refine q_RP_cT ?_
        refine q_RP_rsF (g2 := (130, [(0, .ref 64), (1, .int v1)], [], (q_kM s c n))) rfl rfl (q_d_neT h11) ?_
        refine q_RP_seg (g2 := (133, [(0, .ref 64), (1, .int v1)], [.int 41, .ref 64], (q_kM s c n))) 2 (fun _ _ => rfl) ?_
        refine q_RP_bd fun r15 er15 => ?_
        refine q_RP_call (v := none) (h2 := (q_kM r15 c n)) rfl rfl ((dzt_M280_64 s c n 41 r15 er15).le (Nat.le_of_ble_eq_true rfl)) ?_
        show q_RP _ _ _ (136, [(0, .ref 64), (1, .int v1)], [], (q_kM r15 c n)) _ _
        exact q_RP_ret rfl rfl rfl
      | false =>
        refine q_RP_cF ?_
        refine q_RP_rsT (g2 := (136, [(0, .ref 64), (1, .int v1)], [], (q_kM s c n))) rfl rfl (q_d_neF h11) ?_
        exact q_RP_ret rfl rfl rfl
def dz_M283_64_101 (s : q_S) (v1 : Int32) : Option (q_S) :=
  (dz_M280_64 s 120).bind fun r10 => dz_M283_64_107 r10 v1
set_option maxHeartbeats 4000000 in
theorem dzt_M283_64_101 (c n : Nat) (s : q_S) (v1 : Int32) : q_RP q_TB0 16 282 (101, [(0, .ref 64), (1, .int v1)], [], (q_kM s c n)) (q_oSM c n) (dz_M283_64_101 s v1) := by
  unfold dz_M283_64_101
  refine q_RP_seg (g2 := (104, [(0, .ref 64), (1, .int v1)], [.int 120, .ref 64], (q_kM s c n))) 2 (fun _ _ => rfl) ?_
  refine q_RP_bd fun r10 er10 => ?_
  refine q_RP_call (v := none) (h2 := (q_kM r10 c n)) rfl rfl ((dzt_M280_64 s c n 120 r10 er10).le (Nat.le_of_ble_eq_true rfl)) ?_
  show q_RP _ _ _ (107, [(0, .ref 64), (1, .int v1)], [], (q_kM r10 c n)) _ _
  exact (dzt_M283_64_107 c n r10 v1)
def dz_M283_64_85 (s : q_S) (v1 : Int32) : Option (q_S) :=
  cond (decide (v1 = 2)) (dz_M283_64_101 s v1) (cond (decide (v1 = 4)) (dz_M283_64_101 s v1) (cond (decide (v1 = 7)) (dz_M283_64_101 s v1) (dz_M283_64_107 s v1)))
set_option maxHeartbeats 4000000 in
theorem dzt_M283_64_85 (c n : Nat) (s : q_S) (v1 : Int32) : q_RP q_TB0 16 282 (85, [(0, .ref 64), (1, .int v1)], [], (q_kM s c n)) (q_oSM c n) (dz_M283_64_85 s v1) := by
  unfold dz_M283_64_85
  refine q_RP_seg (g2 := (87, [(0, .ref 64), (1, .int v1)], [.int 2, .int v1], (q_kM s c n))) 2 (fun _ _ => rfl) ?_
  cases h6 : decide (v1 = 2) with
  | true =>
    refine q_RP_cT ?_
    refine q_RP_rsT (g2 := (101, [(0, .ref 64), (1, .int v1)], [], (q_kM s c n))) rfl rfl h6 ?_
    exact (dzt_M283_64_101 c n s v1)
  | false =>
    refine q_RP_cF ?_
    refine q_RP_rsF (g2 := (90, [(0, .ref 64), (1, .int v1)], [], (q_kM s c n))) rfl rfl h6 ?_
    refine q_RP_seg (g2 := (92, [(0, .ref 64), (1, .int v1)], [.int 4, .int v1], (q_kM s c n))) 2 (fun _ _ => rfl) ?_
    cases h12 : decide (v1 = 4) with
    | true =>
      refine q_RP_cT ?_
      refine q_RP_rsT (g2 := (101, [(0, .ref 64), (1, .int v1)], [], (q_kM s c n))) rfl rfl h12 ?_
      exact (dzt_M283_64_101 c n s v1)
    | false =>
      refine q_RP_cF ?_
      refine q_RP_rsF (g2 := (95, [(0, .ref 64), (1, .int v1)], [], (q_kM s c n))) rfl rfl h12 ?_
      refine q_RP_seg (g2 := (98, [(0, .ref 64), (1, .int v1)], [.int 7, .int v1], (q_kM s c n))) 2 (fun _ _ => rfl) ?_
      cases h13 : decide (v1 = 7) with
      | true =>
        refine q_RP_cT ?_
        refine q_RP_rsF (g2 := (101, [(0, .ref 64), (1, .int v1)], [], (q_kM s c n))) rfl rfl (q_d_neT h13) ?_
        exact (dzt_M283_64_101 c n s v1)
      | false =>
        refine q_RP_cF ?_
        refine q_RP_rsT (g2 := (107, [(0, .ref 64), (1, .int v1)], [], (q_kM s c n))) rfl rfl (q_d_neF h13) ?_
        exact (dzt_M283_64_107 c n s v1)
def dz_M283_64_79 (s : q_S) (v1 : Int32) : Option (q_S) :=
  (dz_M280_64 s 44).bind fun r9 => dz_M283_64_85 r9 v1
set_option maxHeartbeats 4000000 in
theorem dzt_M283_64_79 (c n : Nat) (s : q_S) (v1 : Int32) : q_RP q_TB0 16 282 (79, [(0, .ref 64), (1, .int v1)], [], (q_kM s c n)) (q_oSM c n) (dz_M283_64_79 s v1) := by
  unfold dz_M283_64_79
  refine q_RP_seg (g2 := (82, [(0, .ref 64), (1, .int v1)], [.int 44, .ref 64], (q_kM s c n))) 2 (fun _ _ => rfl) ?_
  refine q_RP_bd fun r9 er9 => ?_
  refine q_RP_call (v := none) (h2 := (q_kM r9 c n)) rfl rfl ((dzt_M280_64 s c n 44 r9 er9).le (Nat.le_of_ble_eq_true rfl)) ?_
  show q_RP _ _ _ (85, [(0, .ref 64), (1, .int v1)], [], (q_kM r9 c n)) _ _
  exact (dzt_M283_64_85 c n r9 v1)
def dz_M283_64_69 (s : q_S) (v1 : Int32) : Option (q_S) :=
  cond (decide (v1 = 2)) (dz_M283_64_79 s v1) (cond (decide (3 < v1)) (dz_M283_64_79 s v1) (dz_M283_64_85 s v1))
set_option maxHeartbeats 4000000 in
theorem dzt_M283_64_69 (c n : Nat) (s : q_S) (v1 : Int32) : q_RP q_TB0 16 282 (69, [(0, .ref 64), (1, .int v1)], [], (q_kM s c n)) (q_oSM c n) (dz_M283_64_69 s v1) := by
  unfold dz_M283_64_69
  refine q_RP_seg (g2 := (71, [(0, .ref 64), (1, .int v1)], [.int 2, .int v1], (q_kM s c n))) 2 (fun _ _ => rfl) ?_
  cases h5 : decide (v1 = 2) with
  | true =>
    refine q_RP_cT ?_
    refine q_RP_rsT (g2 := (79, [(0, .ref 64), (1, .int v1)], [], (q_kM s c n))) rfl rfl h5 ?_
    exact (dzt_M283_64_79 c n s v1)
  | false =>
    refine q_RP_cF ?_
    refine q_RP_rsF (g2 := (74, [(0, .ref 64), (1, .int v1)], [], (q_kM s c n))) rfl rfl h5 ?_
    refine q_RP_seg (g2 := (76, [(0, .ref 64), (1, .int v1)], [.int 3, .int v1], (q_kM s c n))) 2 (fun _ _ => rfl) ?_
    cases h14 : decide (3 < v1) with
    | true =>
      refine q_RP_cT ?_
      refine q_RP_rsF (g2 := (79, [(0, .ref 64), (1, .int v1)], [], (q_kM s c n))) rfl rfl (q_d_geT h14) ?_
      exact (dzt_M283_64_79 c n s v1)
    | false =>
      refine q_RP_cF ?_
      refine q_RP_rsT (g2 := (85, [(0, .ref 64), (1, .int v1)], [], (q_kM s c n))) rfl rfl (q_d_geF h14) ?_
      exact (dzt_M283_64_85 c n s v1)
def dz_M283_64_27 (s : q_S) (v1 : Int32) (v2 : Int32) : Option (q_S) :=
  q_let (dz_M202 s v1 3 5) fun r5 => cond r5 ((dz_M248_64 s (v2 + 1)).bind fun r6 => (dz_M281_64 r6.1 r6.2).bind fun r7 => cond (decide (v1 = 6)) ((dz_M280_64 r7 41).bind fun r8 => dz_M283_64_69 r8 v1) (dz_M283_64_69 r7 v1)) ((dz_M247_64 s (v2 + 1)).bind fun r16 => (dz_M281_64 r16.1 r16.2).bind fun r17 => cond (decide (v1 = 6)) ((dz_M280_64 r17 41).bind fun r18 => dz_M283_64_69 r18 v1) (dz_M283_64_69 r17 v1))
set_option maxHeartbeats 4000000 in
theorem dzt_M283_64_27 (c n : Nat) (s : q_S) (v1 : Int32) (v2 : Int32) : q_RP q_TB0 16 282 (27, [(0, .ref 64), (1, .int v1), (2, .int v2)], [], (q_kM s c n)) (q_oSM c n) (dz_M283_64_27 s v1 v2) := by
  unfold dz_M283_64_27
  refine q_RP_seg (g2 := (31, [(0, .ref 64), (1, .int v1), (2, .int v2)], [.int 5, .int 3, .int v1, .ref 64], (q_kM s c n))) 4 (fun _ _ => rfl) ?_
  refine q_RP_call (v := (some (.int (q_b (dz_M202 s v1 3 5))))) (h2 := (q_kM s c n)) rfl rfl ((dzt_M202 s c n v1 3 5).le (Nat.le_of_ble_eq_true rfl)) ?_
  generalize dz_M202 s v1 3 5 = r5
  refine q_RP_let ?_
  show q_RP _ _ _ (34, [(0, .ref 64), (1, .int v1), (2, .int v2)], [.int (q_b r5), .ref 64], (q_kM s c n)) _ _
  cases h3 : r5 with
  | true =>
    refine q_RP_cT ?_
    show q_RP _ _ _ (34, [(0, .ref 64), (1, .int v1), (2, .int v2)], [.int 1, .ref 64], (q_kM s c n)) _ _
    refine q_RP_seg (g2 := (41, [(0, .ref 64), (1, .int v1), (2, .int v2)], [.int (v2 + 1), .ref 64, .ref 64], (q_kM s c n))) 5 (fun _ _ => rfl) ?_
    refine q_RP_bd fun r6 er6 => ?_
    refine q_RP_call (v := (some (.int r6.2))) (h2 := (q_kM r6.1 c n)) rfl rfl ((dzt_M248_64 s c n (v2 + 1) r6 er6).le (Nat.le_of_ble_eq_true rfl)) ?_
    show q_RP _ _ _ (44, [(0, .ref 64), (1, .int v1), (2, .int v2)], [.int r6.2, .ref 64], (q_kM r6.1 c n)) _ _
    refine q_RP_seg (g2 := (54, [(0, .ref 64), (1, .int v1), (2, .int v2)], [.int r6.2, .ref 64], (q_kM r6.1 c n))) 1 (fun _ _ => rfl) ?_
    refine q_RP_bd fun r7 er7 => ?_
    refine q_RP_call (v := none) (h2 := (q_kM r7 c n)) rfl rfl ((dzt_M281_64 r6.1 c n r6.2 r7 er7).le (Nat.le_of_ble_eq_true rfl)) ?_
    show q_RP _ _ _ (57, [(0, .ref 64), (1, .int v1), (2, .int v2)], [], (q_kM r7 c n)) _ _
    refine q_RP_seg (g2 := (60, [(0, .ref 64), (1, .int v1), (2, .int v2)], [.int 6, .int v1], (q_kM r7 c n))) 2 (fun _ _ => rfl) ?_
    cases h4 : decide (v1 = 6) with
    | true =>
      refine q_RP_cT ?_
      refine q_RP_rsF (g2 := (63, [(0, .ref 64), (1, .int v1), (2, .int v2)], [], (q_kM r7 c n))) rfl rfl (q_d_neT h4) ?_
      refine q_RP_seg (g2 := (66, [(0, .ref 64), (1, .int v1), (2, .int v2)], [.int 41, .ref 64], (q_kM r7 c n))) 2 (fun _ _ => rfl) ?_
      refine q_RP_bd fun r8 er8 => ?_
      refine q_RP_call (v := none) (h2 := (q_kM r8 c n)) rfl rfl ((dzt_M280_64 r7 c n 41 r8 er8).le (Nat.le_of_ble_eq_true rfl)) ?_
      show q_RP _ _ _ (69, [(0, .ref 64), (1, .int v1), (2, .int v2)], [], (q_kM r8 c n)) _ _
      exact q_RP_xt (q_xt_mk (q_mn1 0 rfl (q_mn1 1 rfl q_mn0)) rfl) (dzt_M283_64_69 c n r8 v1)
    | false =>
      refine q_RP_cF ?_
      refine q_RP_rsT (g2 := (69, [(0, .ref 64), (1, .int v1), (2, .int v2)], [], (q_kM r7 c n))) rfl rfl (q_d_neF h4) ?_
      exact q_RP_xt (q_xt_mk (q_mn1 0 rfl (q_mn1 1 rfl q_mn0)) rfl) (dzt_M283_64_69 c n r7 v1)
  | false =>
    refine q_RP_cF ?_
    show q_RP _ _ _ (34, [(0, .ref 64), (1, .int v1), (2, .int v2)], [.int 0, .ref 64], (q_kM s c n)) _ _
    refine q_RP_seg (g2 := (51, [(0, .ref 64), (1, .int v1), (2, .int v2)], [.int (v2 + 1), .ref 64, .ref 64], (q_kM s c n))) 5 (fun _ _ => rfl) ?_
    refine q_RP_bd fun r16 er16 => ?_
    refine q_RP_call (v := (some (.int r16.2))) (h2 := (q_kM r16.1 c n)) rfl rfl ((dzt_M247_64 s c n (v2 + 1) r16 er16).le (Nat.le_of_ble_eq_true rfl)) ?_
    show q_RP _ _ _ (54, [(0, .ref 64), (1, .int v1), (2, .int v2)], [.int r16.2, .ref 64], (q_kM r16.1 c n)) _ _
    refine q_RP_bd fun r17 er17 => ?_
    refine q_RP_call (v := none) (h2 := (q_kM r17 c n)) rfl rfl ((dzt_M281_64 r16.1 c n r16.2 r17 er17).le (Nat.le_of_ble_eq_true rfl)) ?_
    show q_RP _ _ _ (57, [(0, .ref 64), (1, .int v1), (2, .int v2)], [], (q_kM r17 c n)) _ _
    refine q_RP_seg (g2 := (60, [(0, .ref 64), (1, .int v1), (2, .int v2)], [.int 6, .int v1], (q_kM r17 c n))) 2 (fun _ _ => rfl) ?_
    cases h15 : decide (v1 = 6) with
    | true =>
      refine q_RP_cT ?_
      refine q_RP_rsF (g2 := (63, [(0, .ref 64), (1, .int v1), (2, .int v2)], [], (q_kM r17 c n))) rfl rfl (q_d_neT h15) ?_
      refine q_RP_seg (g2 := (66, [(0, .ref 64), (1, .int v1), (2, .int v2)], [.int 41, .ref 64], (q_kM r17 c n))) 2 (fun _ _ => rfl) ?_
      refine q_RP_bd fun r18 er18 => ?_
      refine q_RP_call (v := none) (h2 := (q_kM r18 c n)) rfl rfl ((dzt_M280_64 r17 c n 41 r18 er18).le (Nat.le_of_ble_eq_true rfl)) ?_
      show q_RP _ _ _ (69, [(0, .ref 64), (1, .int v1), (2, .int v2)], [], (q_kM r18 c n)) _ _
      exact q_RP_xt (q_xt_mk (q_mn1 0 rfl (q_mn1 1 rfl q_mn0)) rfl) (dzt_M283_64_69 c n r18 v1)
    | false =>
      refine q_RP_cF ?_
      refine q_RP_rsT (g2 := (69, [(0, .ref 64), (1, .int v1), (2, .int v2)], [], (q_kM r17 c n))) rfl rfl (q_d_neF h15) ?_
      exact q_RP_xt (q_xt_mk (q_mn1 0 rfl (q_mn1 1 rfl q_mn0)) rfl) (dzt_M283_64_69 c n r17 v1)
def dz_M283_64_16 (s : q_S) (v1 : Int32) (v2 : Int32) : Option (q_S) :=
  cond (decide (5 < v1)) ((dz_M280_64 s 40).bind fun r4 => dz_M283_64_27 r4 v1 v2) (dz_M283_64_27 s v1 v2)
set_option maxHeartbeats 4000000 in
theorem dzt_M283_64_16 (c n : Nat) (s : q_S) (v1 : Int32) (v2 : Int32) : q_RP q_TB0 16 282 (16, [(0, .ref 64), (1, .int v1), (2, .int v2)], [], (q_kM s c n)) (q_oSM c n) (dz_M283_64_16 s v1 v2) := by
  unfold dz_M283_64_16
  refine q_RP_seg (g2 := (18, [(0, .ref 64), (1, .int v1), (2, .int v2)], [.int 5, .int v1], (q_kM s c n))) 2 (fun _ _ => rfl) ?_
  cases h2 : decide (5 < v1) with
  | true =>
    refine q_RP_cT ?_
    refine q_RP_rsF (g2 := (21, [(0, .ref 64), (1, .int v1), (2, .int v2)], [], (q_kM s c n))) rfl rfl (q_d_geT h2) ?_
    refine q_RP_seg (g2 := (24, [(0, .ref 64), (1, .int v1), (2, .int v2)], [.int 40, .ref 64], (q_kM s c n))) 2 (fun _ _ => rfl) ?_
    refine q_RP_bd fun r4 er4 => ?_
    refine q_RP_call (v := none) (h2 := (q_kM r4 c n)) rfl rfl ((dzt_M280_64 s c n 40 r4 er4).le (Nat.le_of_ble_eq_true rfl)) ?_
    show q_RP _ _ _ (27, [(0, .ref 64), (1, .int v1), (2, .int v2)], [], (q_kM r4 c n)) _ _
    exact (dzt_M283_64_27 c n r4 v1 v2)
  | false =>
    refine q_RP_cF ?_
    refine q_RP_rsT (g2 := (27, [(0, .ref 64), (1, .int v1), (2, .int v2)], [], (q_kM s c n))) rfl rfl (q_d_geF h2) ?_
    exact (dzt_M283_64_27 c n s v1 v2)
def dz_M283_64 (s : q_S) (a1 : Int32) (a2 : Int32) : Option (q_S) :=
  (dz_M280_64 s 32).bind fun r2 => cond (decide (a1 = 0)) ((dz_M280_64 r2 35).bind fun r3 => dz_M283_64_16 r3 a1 a2) (dz_M283_64_16 r2 a1 a2)
set_option maxHeartbeats 4000000 in
theorem dzt_M283_64 (s : q_S) (c n : Nat) (a1 : Int32) (a2 : Int32) (x : q_S) (h : dz_M283_64 s a1 a2 = some x) : q_Ca q_TB0 17 282 [.ref 64, .int a1, .int a2] (q_kM s c n) ((q_oSM c n) x) := by
  refine q_CaP_of (φ := (q_oSM c n)) (Nat.le_of_ble_eq_true rfl) ?_ h
  clear h
  unfold dz_M283_64
  refine q_RP_seg (g2 := (3, [(0, .ref 64), (1, .int a1), (2, .int a2)], [.int 32, .ref 64], (q_kM s c n))) 2 (fun _ _ => rfl) ?_
  refine q_RP_bd fun r2 er2 => ?_
  refine q_RP_call (v := none) (h2 := (q_kM r2 c n)) rfl rfl ((dzt_M280_64 s c n 32 r2 er2).le (Nat.le_of_ble_eq_true rfl)) ?_
  show q_RP _ _ _ (6, [(0, .ref 64), (1, .int a1), (2, .int a2)], [], (q_kM r2 c n)) _ _
  refine q_RP_seg (g2 := (7, [(0, .ref 64), (1, .int a1), (2, .int a2)], [.int a1], (q_kM r2 c n))) 1 (fun _ _ => rfl) ?_
  cases h1 : decide (a1 = 0) with
  | true =>
    refine q_RP_cT ?_
    refine q_RP_rsF (g2 := (10, [(0, .ref 64), (1, .int a1), (2, .int a2)], [], (q_kM r2 c n))) rfl rfl (q_d_neT h1) ?_
    refine q_RP_seg (g2 := (13, [(0, .ref 64), (1, .int a1), (2, .int a2)], [.int 35, .ref 64], (q_kM r2 c n))) 2 (fun _ _ => rfl) ?_
    refine q_RP_bd fun r3 er3 => ?_
    refine q_RP_call (v := none) (h2 := (q_kM r3 c n)) rfl rfl ((dzt_M280_64 r2 c n 35 r3 er3).le (Nat.le_of_ble_eq_true rfl)) ?_
    show q_RP _ _ _ (16, [(0, .ref 64), (1, .int a1), (2, .int a2)], [], (q_kM r3 c n)) _ _
    exact (dzt_M283_64_16 c n r3 a1 a2)
  | false =>
    refine q_RP_cF ?_
    refine q_RP_rsT (g2 := (16, [(0, .ref 64), (1, .int a1), (2, .int a2)], [], (q_kM r2 c n))) rfl rfl (q_d_neF h1) ?_
    exact (dzt_M283_64_16 c n r2 a1 a2)
def dz_M284_64_28 (s : q_S) (v1 : Int32) (v2 : Int32) : Option (q_S) :=
  q_let (dz_M246 s v1) fun r6 => cond (decide (r6 = 2)) ((dz_M253_64 s v2).bind fun r7 => (dz_M281_64 r7.1 r7.2).bind fun r8 => cond (decide (v1 = 159)) ((dz_M280_64 r8 41).bind fun r9 => some r9) (some r8)) ((dz_M248_64 s (v2 + 1)).bind fun r10 => (dz_M281_64 r10.1 r10.2).bind fun r11 => cond (decide (v1 = 159)) ((dz_M280_64 r11 41).bind fun r12 => some r12) (some r11))
set_option maxHeartbeats 4000000 in
theorem dzt_M284_64_28 (c n : Nat) (s : q_S) (v1 : Int32) (v2 : Int32) : q_RP q_TB0 16 283 (28, [(0, .ref 64), (1, .int v1), (2, .int v2)], [], (q_kM s c n)) (q_oSM c n) (dz_M284_64_28 s v1 v2) := by
  unfold dz_M284_64_28
  refine q_RP_seg (g2 := (30, [(0, .ref 64), (1, .int v1), (2, .int v2)], [.int v1, .ref 64], (q_kM s c n))) 2 (fun _ _ => rfl) ?_
  refine q_RP_call (v := (some (.int (dz_M246 s v1)))) (h2 := (q_kM s c n)) rfl rfl ((dzt_M246 s c n v1).le (Nat.le_of_ble_eq_true rfl)) ?_
  generalize dz_M246 s v1 = r6
  refine q_RP_let ?_
  show q_RP _ _ _ (33, [(0, .ref 64), (1, .int v1), (2, .int v2)], [.int r6, .ref 64], (q_kM s c n)) _ _
  refine q_RP_seg (g2 := (34, [(0, .ref 64), (1, .int v1), (2, .int v2)], [.int 2, .int r6, .ref 64], (q_kM s c n))) 1 (fun _ _ => rfl) ?_
  cases h4 : decide (r6 = 2) with
  | true =>
    refine q_RP_cT ?_
    refine q_RP_rsF (g2 := (37, [(0, .ref 64), (1, .int v1), (2, .int v2)], [.ref 64], (q_kM s c n))) rfl rfl (q_d_neT h4) ?_
    refine q_RP_seg (g2 := (39, [(0, .ref 64), (1, .int v1), (2, .int v2)], [.int v2, .ref 64, .ref 64], (q_kM s c n))) 2 (fun _ _ => rfl) ?_
    refine q_RP_bd fun r7 er7 => ?_
    refine q_RP_call (v := (some (.int r7.2))) (h2 := (q_kM r7.1 c n)) rfl rfl ((dzt_M253_64 s c n v2 r7 er7).le (Nat.le_of_ble_eq_true rfl)) ?_
    show q_RP _ _ _ (42, [(0, .ref 64), (1, .int v1), (2, .int v2)], [.int r7.2, .ref 64], (q_kM r7.1 c n)) _ _
    refine q_RP_seg (g2 := (52, [(0, .ref 64), (1, .int v1), (2, .int v2)], [.int r7.2, .ref 64], (q_kM r7.1 c n))) 1 (fun _ _ => rfl) ?_
    refine q_RP_bd fun r8 er8 => ?_
    refine q_RP_call (v := none) (h2 := (q_kM r8 c n)) rfl rfl ((dzt_M281_64 r7.1 c n r7.2 r8 er8).le (Nat.le_of_ble_eq_true rfl)) ?_
    show q_RP _ _ _ (55, [(0, .ref 64), (1, .int v1), (2, .int v2)], [], (q_kM r8 c n)) _ _
    refine q_RP_seg (g2 := (59, [(0, .ref 64), (1, .int v1), (2, .int v2)], [.int 159, .int v1], (q_kM r8 c n))) 2 (fun _ _ => rfl) ?_
    cases h5 : decide (v1 = 159) with
    | true =>
      refine q_RP_cT ?_
      refine q_RP_rsF (g2 := (62, [(0, .ref 64), (1, .int v1), (2, .int v2)], [], (q_kM r8 c n))) rfl rfl (q_d_neT h5) ?_
      refine q_RP_seg (g2 := (65, [(0, .ref 64), (1, .int v1), (2, .int v2)], [.int 41, .ref 64], (q_kM r8 c n))) 2 (fun _ _ => rfl) ?_
      refine q_RP_bd fun r9 er9 => ?_
      refine q_RP_call (v := none) (h2 := (q_kM r9 c n)) rfl rfl ((dzt_M280_64 r8 c n 41 r9 er9).le (Nat.le_of_ble_eq_true rfl)) ?_
      show q_RP _ _ _ (68, [(0, .ref 64), (1, .int v1), (2, .int v2)], [], (q_kM r9 c n)) _ _
      exact q_RP_ret rfl rfl rfl
    | false =>
      refine q_RP_cF ?_
      refine q_RP_rsT (g2 := (68, [(0, .ref 64), (1, .int v1), (2, .int v2)], [], (q_kM r8 c n))) rfl rfl (q_d_neF h5) ?_
      exact q_RP_ret rfl rfl rfl
  | false =>
    refine q_RP_cF ?_
    refine q_RP_rsT (g2 := (45, [(0, .ref 64), (1, .int v1), (2, .int v2)], [.ref 64], (q_kM s c n))) rfl rfl (q_d_neF h4) ?_
    refine q_RP_seg (g2 := (49, [(0, .ref 64), (1, .int v1), (2, .int v2)], [.int (v2 + 1), .ref 64, .ref 64], (q_kM s c n))) 4 (fun _ _ => rfl) ?_
    refine q_RP_bd fun r10 er10 => ?_
    refine q_RP_call (v := (some (.int r10.2))) (h2 := (q_kM r10.1 c n)) rfl rfl ((dzt_M248_64 s c n (v2 + 1) r10 er10).le (Nat.le_of_ble_eq_true rfl)) ?_
    show q_RP _ _ _ (52, [(0, .ref 64), (1, .int v1), (2, .int v2)], [.int r10.2, .ref 64], (q_kM r10.1 c n)) _ _
    refine q_RP_bd fun r11 er11 => ?_
    refine q_RP_call (v := none) (h2 := (q_kM r11 c n)) rfl rfl ((dzt_M281_64 r10.1 c n r10.2 r11 er11).le (Nat.le_of_ble_eq_true rfl)) ?_
    show q_RP _ _ _ (55, [(0, .ref 64), (1, .int v1), (2, .int v2)], [], (q_kM r11 c n)) _ _
    refine q_RP_seg (g2 := (59, [(0, .ref 64), (1, .int v1), (2, .int v2)], [.int 159, .int v1], (q_kM r11 c n))) 2 (fun _ _ => rfl) ?_
    cases h6 : decide (v1 = 159) with
    | true =>
      refine q_RP_cT ?_
      refine q_RP_rsF (g2 := (62, [(0, .ref 64), (1, .int v1), (2, .int v2)], [], (q_kM r11 c n))) rfl rfl (q_d_neT h6) ?_
      refine q_RP_seg (g2 := (65, [(0, .ref 64), (1, .int v1), (2, .int v2)], [.int 41, .ref 64], (q_kM r11 c n))) 2 (fun _ _ => rfl) ?_
      refine q_RP_bd fun r12 er12 => ?_
      refine q_RP_call (v := none) (h2 := (q_kM r12 c n)) rfl rfl ((dzt_M280_64 r11 c n 41 r12 er12).le (Nat.le_of_ble_eq_true rfl)) ?_
      show q_RP _ _ _ (68, [(0, .ref 64), (1, .int v1), (2, .int v2)], [], (q_kM r12 c n)) _ _
      exact q_RP_ret rfl rfl rfl
    | false =>
      refine q_RP_cF ?_
      refine q_RP_rsT (g2 := (68, [(0, .ref 64), (1, .int v1), (2, .int v2)], [], (q_kM r11 c n))) rfl rfl (q_d_neF h6) ?_
      exact q_RP_ret rfl rfl rfl
def dz_M284_64 (s : q_S) (a1 : Int32) (a2 : Int32) : Option (q_S) :=
  q_let (dz_M246 s a1) fun r3 => cond (decide (r3 = 1)) (some s) ((dz_M280_64 s 32).bind fun r4 => cond (decide (a1 = 159)) ((dz_M280_64 r4 40).bind fun r5 => dz_M284_64_28 r5 a1 a2) (dz_M284_64_28 r4 a1 a2))
set_option maxHeartbeats 4000000 in
theorem dzt_M284_64 (s : q_S) (c n : Nat) (a1 : Int32) (a2 : Int32) (x : q_S) (h : dz_M284_64 s a1 a2 = some x) : q_Ca q_TB0 17 283 [.ref 64, .int a1, .int a2] (q_kM s c n) ((q_oSM c n) x) := by
  refine q_CaP_of (φ := (q_oSM c n)) (Nat.le_of_ble_eq_true rfl) ?_ h
  clear h
  unfold dz_M284_64
  refine q_RP_seg (g2 := (1, [(0, .ref 64), (1, .int a1), (2, .int a2)], [.int a1], (q_kM s c n))) 1 (fun _ _ => rfl) ?_
  refine q_RP_call (v := (some (.int (dz_M246 s a1)))) (h2 := (q_kM s c n)) rfl rfl ((dzt_M246 s c n a1).le (Nat.le_of_ble_eq_true rfl)) ?_
  generalize dz_M246 s a1 = r3
  refine q_RP_let ?_
  show q_RP _ _ _ (4, [(0, .ref 64), (1, .int a1), (2, .int a2)], [.int r3], (q_kM s c n)) _ _
  refine q_RP_seg (g2 := (5, [(0, .ref 64), (1, .int a1), (2, .int a2)], [.int 1, .int r3], (q_kM s c n))) 1 (fun _ _ => rfl) ?_
  cases h2 : decide (r3 = 1) with
  | true =>
    refine q_RP_cT ?_
    refine q_RP_rsF (g2 := (8, [(0, .ref 64), (1, .int a1), (2, .int a2)], [], (q_kM s c n))) rfl rfl (q_d_neT h2) ?_
    exact q_RP_ret rfl rfl rfl
  | false =>
    refine q_RP_cF ?_
    refine q_RP_rsT (g2 := (9, [(0, .ref 64), (1, .int a1), (2, .int a2)], [], (q_kM s c n))) rfl rfl (q_d_neF h2) ?_
    refine q_RP_seg (g2 := (12, [(0, .ref 64), (1, .int a1), (2, .int a2)], [.int 32, .ref 64], (q_kM s c n))) 2 (fun _ _ => rfl) ?_
    refine q_RP_bd fun r4 er4 => ?_
    refine q_RP_call (v := none) (h2 := (q_kM r4 c n)) rfl rfl ((dzt_M280_64 s c n 32 r4 er4).le (Nat.le_of_ble_eq_true rfl)) ?_
    show q_RP _ _ _ (15, [(0, .ref 64), (1, .int a1), (2, .int a2)], [], (q_kM r4 c n)) _ _
    refine q_RP_seg (g2 := (19, [(0, .ref 64), (1, .int a1), (2, .int a2)], [.int 159, .int a1], (q_kM r4 c n))) 2 (fun _ _ => rfl) ?_
    cases h3 : decide (a1 = 159) with
    | true =>
      refine q_RP_cT ?_
      refine q_RP_rsF (g2 := (22, [(0, .ref 64), (1, .int a1), (2, .int a2)], [], (q_kM r4 c n))) rfl rfl (q_d_neT h3) ?_
      refine q_RP_seg (g2 := (25, [(0, .ref 64), (1, .int a1), (2, .int a2)], [.int 40, .ref 64], (q_kM r4 c n))) 2 (fun _ _ => rfl) ?_
      refine q_RP_bd fun r5 er5 => ?_
      refine q_RP_call (v := none) (h2 := (q_kM r5 c n)) rfl rfl ((dzt_M280_64 r4 c n 40 r5 er5).le (Nat.le_of_ble_eq_true rfl)) ?_
      show q_RP _ _ _ (28, [(0, .ref 64), (1, .int a1), (2, .int a2)], [], (q_kM r5 c n)) _ _
      exact (dzt_M284_64_28 c n r5 a1 a2)
    | false =>
      refine q_RP_cF ?_
      refine q_RP_rsT (g2 := (28, [(0, .ref 64), (1, .int a1), (2, .int a2)], [], (q_kM r4 c n))) rfl rfl (q_d_neF h3) ?_
      exact (dzt_M284_64_28 c n r4 a1 a2)
def dz_M285 (s : q_S) (a0 : Int32) : Bool :=
  q_let (dz_M244 s a0) fun r1 => cond (decide (r1 < 0)) (q_let (dz_M202 s a0 128 167) fun r2 => cond r2 (false) (true)) (false)
set_option maxHeartbeats 4000000 in
theorem dzt_M285 (s : q_S) (c n : Nat) (a0 : Int32) : q_Ca q_TB0 3 284 [.int a0] (q_kM s c n) ((q_oB (q_kM s c n)) (dz_M285 s a0)) := by
  refine q_CaT_of (φ := (q_oB (q_kM s c n))) (Nat.le_of_ble_eq_true rfl) ?_
  unfold dz_M285
  refine q_RT_seg (g2 := (1, [(0, .int a0)], [.int a0], (q_kM s c n))) 1 (fun _ _ => rfl) ?_
  refine q_RT_call (v := (some (.int (dz_M244 s a0)))) (h2 := (q_kM s c n)) rfl rfl ((dzt_M244 s c n a0).le (Nat.le_of_ble_eq_true rfl)) ?_
  generalize dz_M244 s a0 = r1
  refine q_RT_let ?_
  show q_RT _ _ _ (4, [(0, .int a0)], [.int r1], (q_kM s c n)) _ _
  cases h1 : decide (r1 < 0) with
  | true =>
    refine q_RT_cT ?_
    refine q_RT_rsF (g2 := (7, [(0, .int a0)], [], (q_kM s c n))) rfl rfl (q_d_geT h1) ?_
    refine q_RT_seg (g2 := (14, [(0, .int a0)], [.int 167, .int 128, .int a0], (q_kM s c n))) 3 (fun _ _ => rfl) ?_
    refine q_RT_call (v := (some (.int (q_b (dz_M202 s a0 128 167))))) (h2 := (q_kM s c n)) rfl rfl ((dzt_M202 s c n a0 128 167).le (Nat.le_of_ble_eq_true rfl)) ?_
    generalize dz_M202 s a0 128 167 = r2
    refine q_RT_let ?_
    show q_RT _ _ _ (17, [(0, .int a0)], [.int (q_b r2)], (q_kM s c n)) _ _
    cases h2 : r2 with
    | true =>
      refine q_RT_cT ?_
      show q_RT _ _ _ (17, [(0, .int a0)], [.int 1], (q_kM s c n)) _ _
      refine q_RT_seg (g2 := (25, [(0, .int a0)], [.int 0], (q_kM s c n))) 2 (fun _ _ => rfl) ?_
      exact q_RT_ret rfl rfl rfl
    | false =>
      refine q_RT_cF ?_
      show q_RT _ _ _ (17, [(0, .int a0)], [.int 0], (q_kM s c n)) _ _
      refine q_RT_seg (g2 := (25, [(0, .int a0)], [.int 1], (q_kM s c n))) 3 (fun _ _ => rfl) ?_
      exact q_RT_ret rfl rfl rfl
  | false =>
    refine q_RT_cF ?_
    refine q_RT_rsT (g2 := (24, [(0, .int a0)], [], (q_kM s c n))) rfl rfl (q_d_geF h1) ?_
    refine q_RT_seg (g2 := (25, [(0, .int a0)], [.int 0], (q_kM s c n))) 1 (fun _ _ => rfl) ?_
    exact q_RT_ret rfl rfl rfl
def dz_M286_64 (s : q_S) (a1 : Int32) : Option (q_S × Int32) :=
  q_let (dz_M204 s a1) fun r4 => cond r4 (q_let (dz_M200_64 s 1) fun r5 => cond r5.2 (some (r5.1, 0)) ((dz_M247_64 r5.1 a1).bind fun r6 => (dz_M281_64 (q_sI r6.1 0 35 0) a1).bind fun r7 => (dz_M280_64 r7 32).bind fun r8 => q_let (dz_M285 r8 r6.2) fun r9 => cond r9 ((dz_M280_64 r8 106).bind fun r10 => (dz_M280_64 r10 97).bind fun r11 => (dz_M280_64 r11 109).bind fun r12 => some (r12, (r12.2.1 0 35))) ((dz_M282_64 r8 r6.2).bind fun r13 => q_let (dz_M244 r13 r6.2) fun r14 => cond (decide (r14 < 0)) ((dz_M284_64 r13 r6.2 a1).bind fun r15 => some (r15, (r15.2.1 0 35))) ((dz_M283_64 r13 (r6.2 - r6.2 / 8 * 8) a1).bind fun r16 => some (r16, (r16.2.1 0 35)))))) (q_let (dz_M200_64 s 0) fun r17 => cond r17.2 (some (r17.1, 0)) ((dz_M247_64 r17.1 a1).bind fun r18 => (dz_M281_64 (q_sI r18.1 0 35 0) a1).bind fun r19 => (dz_M280_64 r19 32).bind fun r20 => q_let (dz_M285 r20 r18.2) fun r21 => cond r21 ((dz_M280_64 r20 106).bind fun r22 => (dz_M280_64 r22 97).bind fun r23 => (dz_M280_64 r23 109).bind fun r24 => some (r24, (r24.2.1 0 35))) ((dz_M282_64 r20 r18.2).bind fun r25 => q_let (dz_M244 r25 r18.2) fun r26 => cond (decide (r26 < 0)) ((dz_M284_64 r25 r18.2 a1).bind fun r27 => some (r27, (r27.2.1 0 35))) ((dz_M283_64 r25 (r18.2 - r18.2 / 8 * 8) a1).bind fun r28 => some (r28, (r28.2.1 0 35))))))
set_option maxHeartbeats 4000000 in
theorem dzt_M286_64 (s : q_S) (c n : Nat) (a1 : Int32) (x : q_S × Int32) (h : dz_M286_64 s a1 = some x) : q_Ca q_TB0 18 285 [.ref 64, .int a1] (q_kM s c n) ((q_oIM c n) x) := by
  refine q_CaP_of (φ := (q_oIM c n)) (Nat.le_of_ble_eq_true rfl) ?_ h
  clear h
  unfold dz_M286_64
  refine q_RP_seg (g2 := (2, [(0, .ref 64), (1, .int a1)], [.int a1, .ref 64], (q_kM s c n))) 2 (fun _ _ => rfl) ?_
  refine q_RP_call (v := (some (.int (q_b (dz_M204 s a1))))) (h2 := (q_kM s c n)) rfl rfl ((dzt_M204 s c n a1).le (Nat.le_of_ble_eq_true rfl)) ?_
  generalize dz_M204 s a1 = r4
  refine q_RP_let ?_
  show q_RP _ _ _ (5, [(0, .ref 64), (1, .int a1)], [.int (q_b r4), .ref 64], (q_kM s c n)) _ _
  cases h3 : r4 with
  | true =>
    refine q_RP_cT ?_
    show q_RP _ _ _ (5, [(0, .ref 64), (1, .int a1)], [.int 1, .ref 64], (q_kM s c n)) _ _
    refine q_RP_seg (g2 := (13, [(0, .ref 64), (1, .int a1)], [.int 1, .ref 64], (q_kM s c n))) 3 (fun _ _ => rfl) ?_
    refine q_RP_call (v := (some (.int (q_b (dz_M200_64 s 1).2)))) (h2 := (q_kM (dz_M200_64 s 1).1 c n)) rfl rfl ((dzt_M200_64 s c n 1).le (Nat.le_of_ble_eq_true rfl)) ?_
    generalize dz_M200_64 s 1 = r5
    refine q_RP_let ?_
    show q_RP _ _ _ (16, [(0, .ref 64), (1, .int a1)], [.int (q_b r5.2)], (q_kM r5.1 c n)) _ _
    cases h4 : r5.2 with
    | true =>
      refine q_RP_cT ?_
      show q_RP _ _ _ (16, [(0, .ref 64), (1, .int a1)], [.int 1], (q_kM r5.1 c n)) _ _
      refine q_RP_seg (g2 := (20, [(0, .ref 64), (1, .int a1)], [.int 0], (q_kM r5.1 c n))) 2 (fun _ _ => rfl) ?_
      exact q_RP_ret rfl rfl rfl
    | false =>
      refine q_RP_cF ?_
      show q_RP _ _ _ (16, [(0, .ref 64), (1, .int a1)], [.int 0], (q_kM r5.1 c n)) _ _
      refine q_RP_seg (g2 := (23, [(0, .ref 64), (1, .int a1)], [.int a1, .ref 64], (q_kM r5.1 c n))) 3 (fun _ _ => rfl) ?_
      refine q_RP_bd fun r6 er6 => ?_
      refine q_RP_call (v := (some (.int r6.2))) (h2 := (q_kM r6.1 c n)) rfl rfl ((dzt_M247_64 r5.1 c n a1 r6 er6).le (Nat.le_of_ble_eq_true rfl)) ?_
      show q_RP _ _ _ (26, [(0, .ref 64), (1, .int a1)], [.int r6.2], (q_kM r6.1 c n)) _ _
      refine q_RP_seg (g2 := (34, [(2, .int r6.2), (0, .ref 64), (1, .int a1)], [.int a1, .ref 64], (q_kM (q_sI r6.1 0 35 0) c n))) 6 (fun _ _ => rfl) ?_
      refine q_RP_bd fun r7 er7 => ?_
      refine q_RP_call (v := none) (h2 := (q_kM r7 c n)) rfl rfl ((dzt_M281_64 (q_sI r6.1 0 35 0) c n a1 r7 er7).le (Nat.le_of_ble_eq_true rfl)) ?_
      show q_RP _ _ _ (37, [(2, .int r6.2), (0, .ref 64), (1, .int a1)], [], (q_kM r7 c n)) _ _
      refine q_RP_seg (g2 := (40, [(2, .int r6.2), (0, .ref 64), (1, .int a1)], [.int 32, .ref 64], (q_kM r7 c n))) 2 (fun _ _ => rfl) ?_
      refine q_RP_bd fun r8 er8 => ?_
      refine q_RP_call (v := none) (h2 := (q_kM r8 c n)) rfl rfl ((dzt_M280_64 r7 c n 32 r8 er8).le (Nat.le_of_ble_eq_true rfl)) ?_
      show q_RP _ _ _ (43, [(2, .int r6.2), (0, .ref 64), (1, .int a1)], [], (q_kM r8 c n)) _ _
      refine q_RP_seg (g2 := (44, [(2, .int r6.2), (0, .ref 64), (1, .int a1)], [.int r6.2], (q_kM r8 c n))) 1 (fun _ _ => rfl) ?_
      refine q_RP_call (v := (some (.int (q_b (dz_M285 r8 r6.2))))) (h2 := (q_kM r8 c n)) rfl rfl ((dzt_M285 r8 c n r6.2).le (Nat.le_of_ble_eq_true rfl)) ?_
      generalize dz_M285 r8 r6.2 = r9
      refine q_RP_let ?_
      show q_RP _ _ _ (47, [(2, .int r6.2), (0, .ref 64), (1, .int a1)], [.int (q_b r9)], (q_kM r8 c n)) _ _
      cases h5 : r9 with
      | true =>
        refine q_RP_cT ?_
        show q_RP _ _ _ (47, [(2, .int r6.2), (0, .ref 64), (1, .int a1)], [.int 1], (q_kM r8 c n)) _ _
        refine q_RP_seg (g2 := (53, [(2, .int r6.2), (0, .ref 64), (1, .int a1)], [.int 106, .ref 64], (q_kM r8 c n))) 3 (fun _ _ => rfl) ?_
        refine q_RP_bd fun r10 er10 => ?_
        refine q_RP_call (v := none) (h2 := (q_kM r10 c n)) rfl rfl ((dzt_M280_64 r8 c n 106 r10 er10).le (Nat.le_of_ble_eq_true rfl)) ?_
        show q_RP _ _ _ (56, [(2, .int r6.2), (0, .ref 64), (1, .int a1)], [], (q_kM r10 c n)) _ _
        refine q_RP_seg (g2 := (59, [(2, .int r6.2), (0, .ref 64), (1, .int a1)], [.int 97, .ref 64], (q_kM r10 c n))) 2 (fun _ _ => rfl) ?_
        refine q_RP_bd fun r11 er11 => ?_
        refine q_RP_call (v := none) (h2 := (q_kM r11 c n)) rfl rfl ((dzt_M280_64 r10 c n 97 r11 er11).le (Nat.le_of_ble_eq_true rfl)) ?_
        show q_RP _ _ _ (62, [(2, .int r6.2), (0, .ref 64), (1, .int a1)], [], (q_kM r11 c n)) _ _
        refine q_RP_seg (g2 := (65, [(2, .int r6.2), (0, .ref 64), (1, .int a1)], [.int 109, .ref 64], (q_kM r11 c n))) 2 (fun _ _ => rfl) ?_
        refine q_RP_bd fun r12 er12 => ?_
        refine q_RP_call (v := none) (h2 := (q_kM r12 c n)) rfl rfl ((dzt_M280_64 r11 c n 109 r12 er12).le (Nat.le_of_ble_eq_true rfl)) ?_
        show q_RP _ _ _ (68, [(2, .int r6.2), (0, .ref 64), (1, .int a1)], [], (q_kM r12 c n)) _ _
        refine q_RP_seg (g2 := (72, [(2, .int r6.2), (0, .ref 64), (1, .int a1)], [.int (r12.2.1 0 35)], (q_kM r12 c n))) 2 (fun _ _ => rfl) ?_
        exact q_RP_ret rfl rfl rfl
      | false =>
        refine q_RP_cF ?_
        show q_RP _ _ _ (47, [(2, .int r6.2), (0, .ref 64), (1, .int a1)], [.int 0], (q_kM r8 c n)) _ _
        refine q_RP_seg (g2 := (75, [(2, .int r6.2), (0, .ref 64), (1, .int a1)], [.int r6.2, .ref 64], (q_kM r8 c n))) 3 (fun _ _ => rfl) ?_
        refine q_RP_bd fun r13 er13 => ?_
        refine q_RP_call (v := none) (h2 := (q_kM r13 c n)) rfl rfl ((dzt_M282_64 r8 c n r6.2 r13 er13).le (Nat.le_of_ble_eq_true rfl)) ?_
        show q_RP _ _ _ (78, [(2, .int r6.2), (0, .ref 64), (1, .int a1)], [], (q_kM r13 c n)) _ _
        refine q_RP_seg (g2 := (79, [(2, .int r6.2), (0, .ref 64), (1, .int a1)], [.int r6.2], (q_kM r13 c n))) 1 (fun _ _ => rfl) ?_
        refine q_RP_call (v := (some (.int (dz_M244 r13 r6.2)))) (h2 := (q_kM r13 c n)) rfl rfl ((dzt_M244 r13 c n r6.2).le (Nat.le_of_ble_eq_true rfl)) ?_
        generalize dz_M244 r13 r6.2 = r14
        refine q_RP_let ?_
        show q_RP _ _ _ (82, [(2, .int r6.2), (0, .ref 64), (1, .int a1)], [.int r14], (q_kM r13 c n)) _ _
        cases h6 : decide (r14 < 0) with
        | true =>
          refine q_RP_cT ?_
          refine q_RP_rsT (g2 := (97, [(2, .int r6.2), (0, .ref 64), (1, .int a1)], [], (q_kM r13 c n))) rfl rfl h6 ?_
          refine q_RP_seg (g2 := (100, [(2, .int r6.2), (0, .ref 64), (1, .int a1)], [.int a1, .int r6.2, .ref 64], (q_kM r13 c n))) 3 (fun _ _ => rfl) ?_
          refine q_RP_bd fun r15 er15 => ?_
          refine q_RP_call (v := none) (h2 := (q_kM r15 c n)) rfl rfl ((dzt_M284_64 r13 c n r6.2 a1 r15 er15).le (Nat.le_of_ble_eq_true rfl)) ?_
          show q_RP _ _ _ (103, [(2, .int r6.2), (0, .ref 64), (1, .int a1)], [], (q_kM r15 c n)) _ _
          refine q_RP_seg (g2 := (107, [(2, .int r6.2), (0, .ref 64), (1, .int a1)], [.int (r15.2.1 0 35)], (q_kM r15 c n))) 2 (fun _ _ => rfl) ?_
          exact q_RP_ret rfl rfl rfl
        | false =>
          refine q_RP_cF ?_
          refine q_RP_rsF (g2 := (85, [(2, .int r6.2), (0, .ref 64), (1, .int a1)], [], (q_kM r13 c n))) rfl rfl h6 ?_
          refine q_RP_seg (g2 := (91, [(2, .int r6.2), (0, .ref 64), (1, .int a1)], [.int a1, .int (r6.2 - r6.2 / 8 * 8), .ref 64], (q_kM r13 c n))) 5 (fun _ _ => rfl) ?_
          refine q_RP_bd fun r16 er16 => ?_
          refine q_RP_call (v := none) (h2 := (q_kM r16 c n)) rfl rfl ((dzt_M283_64 r13 c n (r6.2 - r6.2 / 8 * 8) a1 r16 er16).le (Nat.le_of_ble_eq_true rfl)) ?_
          show q_RP _ _ _ (94, [(2, .int r6.2), (0, .ref 64), (1, .int a1)], [], (q_kM r16 c n)) _ _
          refine q_RP_seg (g2 := (107, [(2, .int r6.2), (0, .ref 64), (1, .int a1)], [.int (r16.2.1 0 35)], (q_kM r16 c n))) 3 (fun _ _ => rfl) ?_
          exact q_RP_ret rfl rfl rfl
  | false =>
    refine q_RP_cF ?_
    show q_RP _ _ _ (5, [(0, .ref 64), (1, .int a1)], [.int 0, .ref 64], (q_kM s c n)) _ _
    refine q_RP_seg (g2 := (13, [(0, .ref 64), (1, .int a1)], [.int 0, .ref 64], (q_kM s c n))) 2 (fun _ _ => rfl) ?_
    refine q_RP_call (v := (some (.int (q_b (dz_M200_64 s 0).2)))) (h2 := (q_kM (dz_M200_64 s 0).1 c n)) rfl rfl ((dzt_M200_64 s c n 0).le (Nat.le_of_ble_eq_true rfl)) ?_
    generalize dz_M200_64 s 0 = r17
    refine q_RP_let ?_
    show q_RP _ _ _ (16, [(0, .ref 64), (1, .int a1)], [.int (q_b r17.2)], (q_kM r17.1 c n)) _ _
    cases h7 : r17.2 with
    | true =>
      refine q_RP_cT ?_
      show q_RP _ _ _ (16, [(0, .ref 64), (1, .int a1)], [.int 1], (q_kM r17.1 c n)) _ _
      refine q_RP_seg (g2 := (20, [(0, .ref 64), (1, .int a1)], [.int 0], (q_kM r17.1 c n))) 2 (fun _ _ => rfl) ?_
      exact q_RP_ret rfl rfl rfl
    | false =>
      refine q_RP_cF ?_
      show q_RP _ _ _ (16, [(0, .ref 64), (1, .int a1)], [.int 0], (q_kM r17.1 c n)) _ _
      refine q_RP_seg (g2 := (23, [(0, .ref 64), (1, .int a1)], [.int a1, .ref 64], (q_kM r17.1 c n))) 3 (fun _ _ => rfl) ?_
      refine q_RP_bd fun r18 er18 => ?_
      refine q_RP_call (v := (some (.int r18.2))) (h2 := (q_kM r18.1 c n)) rfl rfl ((dzt_M247_64 r17.1 c n a1 r18 er18).le (Nat.le_of_ble_eq_true rfl)) ?_
      show q_RP _ _ _ (26, [(0, .ref 64), (1, .int a1)], [.int r18.2], (q_kM r18.1 c n)) _ _
      refine q_RP_seg (g2 := (34, [(2, .int r18.2), (0, .ref 64), (1, .int a1)], [.int a1, .ref 64], (q_kM (q_sI r18.1 0 35 0) c n))) 6 (fun _ _ => rfl) ?_
      refine q_RP_bd fun r19 er19 => ?_
      refine q_RP_call (v := none) (h2 := (q_kM r19 c n)) rfl rfl ((dzt_M281_64 (q_sI r18.1 0 35 0) c n a1 r19 er19).le (Nat.le_of_ble_eq_true rfl)) ?_
      show q_RP _ _ _ (37, [(2, .int r18.2), (0, .ref 64), (1, .int a1)], [], (q_kM r19 c n)) _ _
      refine q_RP_seg (g2 := (40, [(2, .int r18.2), (0, .ref 64), (1, .int a1)], [.int 32, .ref 64], (q_kM r19 c n))) 2 (fun _ _ => rfl) ?_
      refine q_RP_bd fun r20 er20 => ?_
      refine q_RP_call (v := none) (h2 := (q_kM r20 c n)) rfl rfl ((dzt_M280_64 r19 c n 32 r20 er20).le (Nat.le_of_ble_eq_true rfl)) ?_
      show q_RP _ _ _ (43, [(2, .int r18.2), (0, .ref 64), (1, .int a1)], [], (q_kM r20 c n)) _ _
      refine q_RP_seg (g2 := (44, [(2, .int r18.2), (0, .ref 64), (1, .int a1)], [.int r18.2], (q_kM r20 c n))) 1 (fun _ _ => rfl) ?_
      refine q_RP_call (v := (some (.int (q_b (dz_M285 r20 r18.2))))) (h2 := (q_kM r20 c n)) rfl rfl ((dzt_M285 r20 c n r18.2).le (Nat.le_of_ble_eq_true rfl)) ?_
      generalize dz_M285 r20 r18.2 = r21
      refine q_RP_let ?_
      show q_RP _ _ _ (47, [(2, .int r18.2), (0, .ref 64), (1, .int a1)], [.int (q_b r21)], (q_kM r20 c n)) _ _
      cases h8 : r21 with
      | true =>
        refine q_RP_cT ?_
        show q_RP _ _ _ (47, [(2, .int r18.2), (0, .ref 64), (1, .int a1)], [.int 1], (q_kM r20 c n)) _ _
        refine q_RP_seg (g2 := (53, [(2, .int r18.2), (0, .ref 64), (1, .int a1)], [.int 106, .ref 64], (q_kM r20 c n))) 3 (fun _ _ => rfl) ?_
        refine q_RP_bd fun r22 er22 => ?_
        refine q_RP_call (v := none) (h2 := (q_kM r22 c n)) rfl rfl ((dzt_M280_64 r20 c n 106 r22 er22).le (Nat.le_of_ble_eq_true rfl)) ?_
        show q_RP _ _ _ (56, [(2, .int r18.2), (0, .ref 64), (1, .int a1)], [], (q_kM r22 c n)) _ _
        refine q_RP_seg (g2 := (59, [(2, .int r18.2), (0, .ref 64), (1, .int a1)], [.int 97, .ref 64], (q_kM r22 c n))) 2 (fun _ _ => rfl) ?_
        refine q_RP_bd fun r23 er23 => ?_
        refine q_RP_call (v := none) (h2 := (q_kM r23 c n)) rfl rfl ((dzt_M280_64 r22 c n 97 r23 er23).le (Nat.le_of_ble_eq_true rfl)) ?_
        show q_RP _ _ _ (62, [(2, .int r18.2), (0, .ref 64), (1, .int a1)], [], (q_kM r23 c n)) _ _
        refine q_RP_seg (g2 := (65, [(2, .int r18.2), (0, .ref 64), (1, .int a1)], [.int 109, .ref 64], (q_kM r23 c n))) 2 (fun _ _ => rfl) ?_
        refine q_RP_bd fun r24 er24 => ?_
        refine q_RP_call (v := none) (h2 := (q_kM r24 c n)) rfl rfl ((dzt_M280_64 r23 c n 109 r24 er24).le (Nat.le_of_ble_eq_true rfl)) ?_
        show q_RP _ _ _ (68, [(2, .int r18.2), (0, .ref 64), (1, .int a1)], [], (q_kM r24 c n)) _ _
        refine q_RP_seg (g2 := (72, [(2, .int r18.2), (0, .ref 64), (1, .int a1)], [.int (r24.2.1 0 35)], (q_kM r24 c n))) 2 (fun _ _ => rfl) ?_
        exact q_RP_ret rfl rfl rfl
      | false =>
        refine q_RP_cF ?_
        show q_RP _ _ _ (47, [(2, .int r18.2), (0, .ref 64), (1, .int a1)], [.int 0], (q_kM r20 c n)) _ _
        refine q_RP_seg (g2 := (75, [(2, .int r18.2), (0, .ref 64), (1, .int a1)], [.int r18.2, .ref 64], (q_kM r20 c n))) 3 (fun _ _ => rfl) ?_
        refine q_RP_bd fun r25 er25 => ?_
        refine q_RP_call (v := none) (h2 := (q_kM r25 c n)) rfl rfl ((dzt_M282_64 r20 c n r18.2 r25 er25).le (Nat.le_of_ble_eq_true rfl)) ?_
        show q_RP _ _ _ (78, [(2, .int r18.2), (0, .ref 64), (1, .int a1)], [], (q_kM r25 c n)) _ _
        refine q_RP_seg (g2 := (79, [(2, .int r18.2), (0, .ref 64), (1, .int a1)], [.int r18.2], (q_kM r25 c n))) 1 (fun _ _ => rfl) ?_
        refine q_RP_call (v := (some (.int (dz_M244 r25 r18.2)))) (h2 := (q_kM r25 c n)) rfl rfl ((dzt_M244 r25 c n r18.2).le (Nat.le_of_ble_eq_true rfl)) ?_
        generalize dz_M244 r25 r18.2 = r26
        refine q_RP_let ?_
        show q_RP _ _ _ (82, [(2, .int r18.2), (0, .ref 64), (1, .int a1)], [.int r26], (q_kM r25 c n)) _ _
        cases h9 : decide (r26 < 0) with
        | true =>
          refine q_RP_cT ?_
          refine q_RP_rsT (g2 := (97, [(2, .int r18.2), (0, .ref 64), (1, .int a1)], [], (q_kM r25 c n))) rfl rfl h9 ?_
          refine q_RP_seg (g2 := (100, [(2, .int r18.2), (0, .ref 64), (1, .int a1)], [.int a1, .int r18.2, .ref 64], (q_kM r25 c n))) 3 (fun _ _ => rfl) ?_
          refine q_RP_bd fun r27 er27 => ?_
          refine q_RP_call (v := none) (h2 := (q_kM r27 c n)) rfl rfl ((dzt_M284_64 r25 c n r18.2 a1 r27 er27).le (Nat.le_of_ble_eq_true rfl)) ?_
          show q_RP _ _ _ (103, [(2, .int r18.2), (0, .ref 64), (1, .int a1)], [], (q_kM r27 c n)) _ _
          refine q_RP_seg (g2 := (107, [(2, .int r18.2), (0, .ref 64), (1, .int a1)], [.int (r27.2.1 0 35)], (q_kM r27 c n))) 2 (fun _ _ => rfl) ?_
          exact q_RP_ret rfl rfl rfl
        | false =>
          refine q_RP_cF ?_
          refine q_RP_rsF (g2 := (85, [(2, .int r18.2), (0, .ref 64), (1, .int a1)], [], (q_kM r25 c n))) rfl rfl h9 ?_
          refine q_RP_seg (g2 := (91, [(2, .int r18.2), (0, .ref 64), (1, .int a1)], [.int a1, .int (r18.2 - r18.2 / 8 * 8), .ref 64], (q_kM r25 c n))) 5 (fun _ _ => rfl) ?_
          refine q_RP_bd fun r28 er28 => ?_
          refine q_RP_call (v := none) (h2 := (q_kM r28 c n)) rfl rfl ((dzt_M283_64 r25 c n (r18.2 - r18.2 / 8 * 8) a1 r28 er28).le (Nat.le_of_ble_eq_true rfl)) ?_
          show q_RP _ _ _ (94, [(2, .int r18.2), (0, .ref 64), (1, .int a1)], [], (q_kM r28 c n)) _ _
          refine q_RP_seg (g2 := (107, [(2, .int r18.2), (0, .ref 64), (1, .int a1)], [.int (r28.2.1 0 35)], (q_kM r28 c n))) 3 (fun _ _ => rfl) ?_
          exact q_RP_ret rfl rfl rfl
def dz_M287_64 (s : q_S) (a1 : Int32) : Option (q_S × Int32) :=
  q_let (dz_M202 s a1 0 ((s.2.1 0 35) - 1)) fun r3 => cond r3 (q_let (dz_M200_64 s 0) fun r4 => cond r4.2 (some (r4.1, 32)) (cond (q_in a1 40) (cond (decide (vp_nar .char ((r4.1.1 32) (a1.toNatClampNeg)) = (r4.1.1 32) (a1.toNatClampNeg))) (some (r4.1, ((r4.1.1 32) (a1.toNatClampNeg)))) none) none)) (q_let (dz_M200_64 s 1) fun r5 => cond r5.2 (some (r5.1, 32)) (cond (q_in a1 40) (cond (decide (vp_nar .char ((r5.1.1 32) (a1.toNatClampNeg)) = (r5.1.1 32) (a1.toNatClampNeg))) (some (r5.1, ((r5.1.1 32) (a1.toNatClampNeg)))) none) none))
set_option maxHeartbeats 4000000 in
theorem dzt_M287_64 (s : q_S) (c n : Nat) (a1 : Int32) (x : q_S × Int32) (h : dz_M287_64 s a1 = some x) : q_Ca q_TB0 2 286 [.ref 64, .int a1] (q_kM s c n) ((q_oIM c n) x) := by
  refine q_CaP_of (φ := (q_oIM c n)) (Nat.le_of_ble_eq_true rfl) ?_ h
  clear h
  unfold dz_M287_64
  refine q_RP_seg (g2 := (7, [(0, .ref 64), (1, .int a1)], [.int (s.2.1 0 35), .int 0, .int a1, .ref 64], (q_kM s c n))) 5 (fun _ _ => rfl) ?_
  refine q_RP_seg (g2 := (9, [(0, .ref 64), (1, .int a1)], [.int ((s.2.1 0 35) - 1), .int 0, .int a1, .ref 64], (q_kM s c n))) 2 (fun _ _ => rfl) ?_
  refine q_RP_call (v := (some (.int (q_b (dz_M202 s a1 0 ((s.2.1 0 35) - 1)))))) (h2 := (q_kM s c n)) rfl rfl ((dzt_M202 s c n a1 0 ((s.2.1 0 35) - 1)).le (Nat.le_of_ble_eq_true rfl)) ?_
  generalize dz_M202 s a1 0 ((s.2.1 0 35) - 1) = r3
  refine q_RP_let ?_
  show q_RP _ _ _ (12, [(0, .ref 64), (1, .int a1)], [.int (q_b r3), .ref 64], (q_kM s c n)) _ _
  cases h3 : r3 with
  | true =>
    refine q_RP_cT ?_
    show q_RP _ _ _ (12, [(0, .ref 64), (1, .int a1)], [.int 1, .ref 64], (q_kM s c n)) _ _
    refine q_RP_seg (g2 := (20, [(0, .ref 64), (1, .int a1)], [.int 0, .ref 64], (q_kM s c n))) 3 (fun _ _ => rfl) ?_
    refine q_RP_call (v := (some (.int (q_b (dz_M200_64 s 0).2)))) (h2 := (q_kM (dz_M200_64 s 0).1 c n)) rfl rfl ((dzt_M200_64 s c n 0).le (Nat.le_of_ble_eq_true rfl)) ?_
    generalize dz_M200_64 s 0 = r4
    refine q_RP_let ?_
    show q_RP _ _ _ (23, [(0, .ref 64), (1, .int a1)], [.int (q_b r4.2)], (q_kM r4.1 c n)) _ _
    cases h4 : r4.2 with
    | true =>
      refine q_RP_cT ?_
      show q_RP _ _ _ (23, [(0, .ref 64), (1, .int a1)], [.int 1], (q_kM r4.1 c n)) _ _
      refine q_RP_seg (g2 := (37, [(0, .ref 64), (1, .int a1)], [.int 32], (q_kM r4.1 c n))) 3 (fun _ _ => rfl) ?_
      exact q_RP_ret rfl rfl rfl
    | false =>
      refine q_RP_cF ?_
      show q_RP _ _ _ (23, [(0, .ref 64), (1, .int a1)], [.int 0], (q_kM r4.1 c n)) _ _
      refine q_RP_seg (g2 := (36, [(0, .ref 64), (1, .int a1)], [.int a1, .ref 96], (q_kM r4.1 c n))) 4 (fun _ _ => rfl) ?_
      refine q_RP_as fun i5 => ?_
      refine q_RP_rsT (g2 := (37, [(0, .ref 64), (1, .int a1)], [.int ((r4.1.1 32) (a1.toNatClampNeg))], (q_kM r4.1 c n))) rfl rfl i5 ?_
      refine q_RP_as fun i6 => ?_
      exact q_RP_ret rfl (if_pos (of_decide_eq_true i6)) rfl
  | false =>
    refine q_RP_cF ?_
    show q_RP _ _ _ (12, [(0, .ref 64), (1, .int a1)], [.int 0, .ref 64], (q_kM s c n)) _ _
    refine q_RP_seg (g2 := (20, [(0, .ref 64), (1, .int a1)], [.int 1, .ref 64], (q_kM s c n))) 2 (fun _ _ => rfl) ?_
    refine q_RP_call (v := (some (.int (q_b (dz_M200_64 s 1).2)))) (h2 := (q_kM (dz_M200_64 s 1).1 c n)) rfl rfl ((dzt_M200_64 s c n 1).le (Nat.le_of_ble_eq_true rfl)) ?_
    generalize dz_M200_64 s 1 = r5
    refine q_RP_let ?_
    show q_RP _ _ _ (23, [(0, .ref 64), (1, .int a1)], [.int (q_b r5.2)], (q_kM r5.1 c n)) _ _
    cases h7 : r5.2 with
    | true =>
      refine q_RP_cT ?_
      show q_RP _ _ _ (23, [(0, .ref 64), (1, .int a1)], [.int 1], (q_kM r5.1 c n)) _ _
      refine q_RP_seg (g2 := (37, [(0, .ref 64), (1, .int a1)], [.int 32], (q_kM r5.1 c n))) 3 (fun _ _ => rfl) ?_
      exact q_RP_ret rfl rfl rfl
    | false =>
      refine q_RP_cF ?_
      show q_RP _ _ _ (23, [(0, .ref 64), (1, .int a1)], [.int 0], (q_kM r5.1 c n)) _ _
      refine q_RP_seg (g2 := (36, [(0, .ref 64), (1, .int a1)], [.int a1, .ref 96], (q_kM r5.1 c n))) 4 (fun _ _ => rfl) ?_
      refine q_RP_as fun i8 => ?_
      refine q_RP_rsT (g2 := (37, [(0, .ref 64), (1, .int a1)], [.int ((r5.1.1 32) (a1.toNatClampNeg))], (q_kM r5.1 c n))) rfl rfl i8 ?_
      refine q_RP_as fun i9 => ?_
      exact q_RP_ret rfl (if_pos (of_decide_eq_true i9)) rfl
def dz_M288_64 (s : q_S) (a1 : Int32) : Option (q_S × Int32) :=
  q_let (dz_M202 s a1 0 4) fun r3 => cond r3 (q_let (dz_M200_64 s 0) fun r4 => cond r4.2 (some (r4.1, 0)) (cond (q_in a1 24) (some (r4.1, ((r4.1.1 14) (a1.toNatClampNeg)))) none)) (q_let (dz_M200_64 s 1) fun r5 => cond r5.2 (some (r5.1, 0)) (cond (q_in a1 24) (some (r5.1, ((r5.1.1 14) (a1.toNatClampNeg)))) none))
set_option maxHeartbeats 4000000 in
theorem dzt_M288_64 (s : q_S) (c n : Nat) (a1 : Int32) (x : q_S × Int32) (h : dz_M288_64 s a1 = some x) : q_Ca q_TB0 2 287 [.ref 64, .int a1] (q_kM s c n) ((q_oIM c n) x) := by
  refine q_CaP_of (φ := (q_oIM c n)) (Nat.le_of_ble_eq_true rfl) ?_ h
  clear h
  unfold dz_M288_64
  refine q_RP_seg (g2 := (4, [(0, .ref 64), (1, .int a1)], [.int 4, .int 0, .int a1, .ref 64], (q_kM s c n))) 4 (fun _ _ => rfl) ?_
  refine q_RP_call (v := (some (.int (q_b (dz_M202 s a1 0 4))))) (h2 := (q_kM s c n)) rfl rfl ((dzt_M202 s c n a1 0 4).le (Nat.le_of_ble_eq_true rfl)) ?_
  generalize dz_M202 s a1 0 4 = r3
  refine q_RP_let ?_
  show q_RP _ _ _ (7, [(0, .ref 64), (1, .int a1)], [.int (q_b r3), .ref 64], (q_kM s c n)) _ _
  cases h3 : r3 with
  | true =>
    refine q_RP_cT ?_
    show q_RP _ _ _ (7, [(0, .ref 64), (1, .int a1)], [.int 1, .ref 64], (q_kM s c n)) _ _
    refine q_RP_seg (g2 := (15, [(0, .ref 64), (1, .int a1)], [.int 0, .ref 64], (q_kM s c n))) 3 (fun _ _ => rfl) ?_
    refine q_RP_call (v := (some (.int (q_b (dz_M200_64 s 0).2)))) (h2 := (q_kM (dz_M200_64 s 0).1 c n)) rfl rfl ((dzt_M200_64 s c n 0).le (Nat.le_of_ble_eq_true rfl)) ?_
    generalize dz_M200_64 s 0 = r4
    refine q_RP_let ?_
    show q_RP _ _ _ (18, [(0, .ref 64), (1, .int a1)], [.int (q_b r4.2)], (q_kM r4.1 c n)) _ _
    cases h4 : r4.2 with
    | true =>
      refine q_RP_cT ?_
      show q_RP _ _ _ (18, [(0, .ref 64), (1, .int a1)], [.int 1], (q_kM r4.1 c n)) _ _
      refine q_RP_seg (g2 := (31, [(0, .ref 64), (1, .int a1)], [.int 0], (q_kM r4.1 c n))) 3 (fun _ _ => rfl) ?_
      exact q_RP_ret rfl rfl rfl
    | false =>
      refine q_RP_cF ?_
      show q_RP _ _ _ (18, [(0, .ref 64), (1, .int a1)], [.int 0], (q_kM r4.1 c n)) _ _
      refine q_RP_seg (g2 := (30, [(0, .ref 64), (1, .int a1)], [.int a1, .ref 78], (q_kM r4.1 c n))) 4 (fun _ _ => rfl) ?_
      refine q_RP_as fun i5 => ?_
      refine q_RP_rsT (g2 := (31, [(0, .ref 64), (1, .int a1)], [.int ((r4.1.1 14) (a1.toNatClampNeg))], (q_kM r4.1 c n))) rfl rfl i5 ?_
      exact q_RP_ret rfl rfl rfl
  | false =>
    refine q_RP_cF ?_
    show q_RP _ _ _ (7, [(0, .ref 64), (1, .int a1)], [.int 0, .ref 64], (q_kM s c n)) _ _
    refine q_RP_seg (g2 := (15, [(0, .ref 64), (1, .int a1)], [.int 1, .ref 64], (q_kM s c n))) 2 (fun _ _ => rfl) ?_
    refine q_RP_call (v := (some (.int (q_b (dz_M200_64 s 1).2)))) (h2 := (q_kM (dz_M200_64 s 1).1 c n)) rfl rfl ((dzt_M200_64 s c n 1).le (Nat.le_of_ble_eq_true rfl)) ?_
    generalize dz_M200_64 s 1 = r5
    refine q_RP_let ?_
    show q_RP _ _ _ (18, [(0, .ref 64), (1, .int a1)], [.int (q_b r5.2)], (q_kM r5.1 c n)) _ _
    cases h6 : r5.2 with
    | true =>
      refine q_RP_cT ?_
      show q_RP _ _ _ (18, [(0, .ref 64), (1, .int a1)], [.int 1], (q_kM r5.1 c n)) _ _
      refine q_RP_seg (g2 := (31, [(0, .ref 64), (1, .int a1)], [.int 0], (q_kM r5.1 c n))) 3 (fun _ _ => rfl) ?_
      exact q_RP_ret rfl rfl rfl
    | false =>
      refine q_RP_cF ?_
      show q_RP _ _ _ (18, [(0, .ref 64), (1, .int a1)], [.int 0], (q_kM r5.1 c n)) _ _
      refine q_RP_seg (g2 := (30, [(0, .ref 64), (1, .int a1)], [.int a1, .ref 78], (q_kM r5.1 c n))) 4 (fun _ _ => rfl) ?_
      refine q_RP_as fun i7 => ?_
      refine q_RP_rsT (g2 := (31, [(0, .ref 64), (1, .int a1)], [.int ((r5.1.1 14) (a1.toNatClampNeg))], (q_kM r5.1 c n))) rfl rfl i7 ?_
      exact q_RP_ret rfl rfl rfl
def dz_M289_64 (s : q_S) (a1 : Int32) (a2 : Int32) : Option (q_S × Int32) :=
  q_let (dz_M202 s a1 0 4) fun r4 => cond r4 (cond (decide (a1 = 4)) (q_let (dz_M202 s a2 0 4095) fun r5 => cond r5 (cond (decide (0 < (s.1 14) 17)) (q_let (dz_M200_64 s 3) fun r6 => cond r6.2 (some (r6.1, 0)) (cond (q_in a1 24) (q_let (dz_M205_64 (q_sA r6.1 14 (upd (r6.1.1 14) (a1.toNatClampNeg) a2))) fun r7 => some (r7, ((r6.1.1 14) (a1.toNatClampNeg)))) none)) (q_let (dz_M200_64 s 0) fun r8 => cond r8.2 (some (r8.1, 0)) (cond (q_in a1 24) (q_let (dz_M205_64 (q_sA r8.1 14 (upd (r8.1.1 14) (a1.toNatClampNeg) a2))) fun r9 => some (r9, ((r8.1.1 14) (a1.toNatClampNeg)))) none))) (q_let (dz_M200_64 s 2) fun r10 => cond r10.2 (some (r10.1, 0)) (cond (q_in a1 24) (q_let (dz_M205_64 (q_sA r10.1 14 (upd (r10.1.1 14) (a1.toNatClampNeg) a2))) fun r11 => some (r11, ((r10.1.1 14) (a1.toNatClampNeg)))) none))) (q_let (dz_M202 s a2 0 255) fun r12 => cond r12 (cond (decide (0 < (s.1 14) 17)) (q_let (dz_M200_64 s 3) fun r13 => cond r13.2 (some (r13.1, 0)) (cond (q_in a1 24) (q_let (dz_M205_64 (q_sA r13.1 14 (upd (r13.1.1 14) (a1.toNatClampNeg) a2))) fun r14 => some (r14, ((r13.1.1 14) (a1.toNatClampNeg)))) none)) (q_let (dz_M200_64 s 0) fun r15 => cond r15.2 (some (r15.1, 0)) (cond (q_in a1 24) (q_let (dz_M205_64 (q_sA r15.1 14 (upd (r15.1.1 14) (a1.toNatClampNeg) a2))) fun r16 => some (r16, ((r15.1.1 14) (a1.toNatClampNeg)))) none))) (q_let (dz_M200_64 s 2) fun r17 => cond r17.2 (some (r17.1, 0)) (cond (q_in a1 24) (q_let (dz_M205_64 (q_sA r17.1 14 (upd (r17.1.1 14) (a1.toNatClampNeg) a2))) fun r18 => some (r18, ((r17.1.1 14) (a1.toNatClampNeg)))) none)))) (q_let (dz_M200_64 s 1) fun r19 => cond r19.2 (some (r19.1, 0)) (cond (q_in a1 24) (q_let (dz_M205_64 (q_sA r19.1 14 (upd (r19.1.1 14) (a1.toNatClampNeg) a2))) fun r20 => some (r20, ((r19.1.1 14) (a1.toNatClampNeg)))) none))
set_option maxHeartbeats 4000000 in
theorem dzt_M289_64 (s : q_S) (c n : Nat) (a1 : Int32) (a2 : Int32) (x : q_S × Int32) (h : dz_M289_64 s a1 a2 = some x) : q_Ca q_TB0 2 288 [.ref 64, .int a1, .int a2] (q_kM s c n) ((q_oIM c n) x) := by
  refine q_CaP_of (φ := (q_oIM c n)) (Nat.le_of_ble_eq_true rfl) ?_ h
  clear h
  unfold dz_M289_64
  refine q_RP_seg (g2 := (4, [(0, .ref 64), (1, .int a1), (2, .int a2)], [.int 4, .int 0, .int a1, .ref 64], (q_kM s c n))) 4 (fun _ _ => rfl) ?_
  refine q_RP_call (v := (some (.int (q_b (dz_M202 s a1 0 4))))) (h2 := (q_kM s c n)) rfl rfl ((dzt_M202 s c n a1 0 4).le (Nat.le_of_ble_eq_true rfl)) ?_
  generalize dz_M202 s a1 0 4 = r4
  refine q_RP_let ?_
  show q_RP _ _ _ (7, [(0, .ref 64), (1, .int a1), (2, .int a2)], [.int (q_b r4), .ref 64], (q_kM s c n)) _ _
  cases h6 : r4 with
  | true =>
    refine q_RP_cT ?_
    show q_RP _ _ _ (7, [(0, .ref 64), (1, .int a1), (2, .int a2)], [.int 1, .ref 64], (q_kM s c n)) _ _
    refine q_RP_seg (g2 := (18, [(0, .ref 64), (1, .int a1), (2, .int a2)], [.int 4, .int a1, .int 0, .int a2, .ref 64], (q_kM s c n))) 5 (fun _ _ => rfl) ?_
    cases h7 : decide (a1 = 4) with
    | true =>
      refine q_RP_cT ?_
      refine q_RP_rsF (g2 := (21, [(0, .ref 64), (1, .int a1), (2, .int a2)], [.int 0, .int a2, .ref 64], (q_kM s c n))) rfl rfl (q_d_neT h7) ?_
      refine q_RP_seg (g2 := (30, [(0, .ref 64), (1, .int a1), (2, .int a2)], [.int 4095, .int 0, .int a2, .ref 64], (q_kM s c n))) 2 (fun _ _ => rfl) ?_
      refine q_RP_call (v := (some (.int (q_b (dz_M202 s a2 0 4095))))) (h2 := (q_kM s c n)) rfl rfl ((dzt_M202 s c n a2 0 4095).le (Nat.le_of_ble_eq_true rfl)) ?_
      generalize dz_M202 s a2 0 4095 = r5
      refine q_RP_let ?_
      show q_RP _ _ _ (33, [(0, .ref 64), (1, .int a1), (2, .int a2)], [.int (q_b r5), .ref 64], (q_kM s c n)) _ _
      cases h8 : r5 with
      | true =>
        refine q_RP_cT ?_
        show q_RP _ _ _ (33, [(0, .ref 64), (1, .int a1), (2, .int a2)], [.int 1, .ref 64], (q_kM s c n)) _ _
        refine q_RP_seg (g2 := (47, [(0, .ref 64), (1, .int a1), (2, .int a2)], [.int ((s.1 14) 17), .ref 64], (q_kM s c n))) 5 (fun _ _ => rfl) ?_
        cases h9 : decide (0 < (s.1 14) 17) with
        | true =>
          refine q_RP_cT ?_
          refine q_RP_rsF (g2 := (50, [(0, .ref 64), (1, .int a1), (2, .int a2)], [.ref 64], (q_kM s c n))) rfl rfl (q_d_geT h9) ?_
          refine q_RP_seg (g2 := (55, [(0, .ref 64), (1, .int a1), (2, .int a2)], [.int 3, .ref 64], (q_kM s c n))) 2 (fun _ _ => rfl) ?_
          refine q_RP_call (v := (some (.int (q_b (dz_M200_64 s 3).2)))) (h2 := (q_kM (dz_M200_64 s 3).1 c n)) rfl rfl ((dzt_M200_64 s c n 3).le (Nat.le_of_ble_eq_true rfl)) ?_
          generalize dz_M200_64 s 3 = r6
          refine q_RP_let ?_
          show q_RP _ _ _ (58, [(0, .ref 64), (1, .int a1), (2, .int a2)], [.int (q_b r6.2)], (q_kM r6.1 c n)) _ _
          cases h10 : r6.2 with
          | true =>
            refine q_RP_cT ?_
            show q_RP _ _ _ (58, [(0, .ref 64), (1, .int a1), (2, .int a2)], [.int 1], (q_kM r6.1 c n)) _ _
            refine q_RP_seg (g2 := (62, [(0, .ref 64), (1, .int a1), (2, .int a2)], [.int 0], (q_kM r6.1 c n))) 2 (fun _ _ => rfl) ?_
            exact q_RP_ret rfl rfl rfl
          | false =>
            refine q_RP_cF ?_
            show q_RP _ _ _ (58, [(0, .ref 64), (1, .int a1), (2, .int a2)], [.int 0], (q_kM r6.1 c n)) _ _
            refine q_RP_seg (g2 := (68, [(0, .ref 64), (1, .int a1), (2, .int a2)], [.int a1, .ref 78], (q_kM r6.1 c n))) 4 (fun _ _ => rfl) ?_
            refine q_RP_as fun i11 => ?_
            refine q_RP_rsT (g2 := (69, [(0, .ref 64), (1, .int a1), (2, .int a2)], [.int ((r6.1.1 14) (a1.toNatClampNeg))], (q_kM r6.1 c n))) rfl rfl i11 ?_
            refine q_RP_seg (g2 := (76, [(3, .int ((r6.1.1 14) (a1.toNatClampNeg))), (0, .ref 64), (1, .int a1), (2, .int a2)], [.int a2, .int a1, .ref 78], (q_kM r6.1 c n))) 5 (fun _ _ => rfl) ?_
            refine q_RP_rsT (g2 := (77, [(3, .int ((r6.1.1 14) (a1.toNatClampNeg))), (0, .ref 64), (1, .int a1), (2, .int a2)], [], (q_kM (q_sA r6.1 14 (upd (r6.1.1 14) (a1.toNatClampNeg) a2)) c n))) rfl q_wM14 i11 ?_
            refine q_RP_seg (g2 := (78, [(3, .int ((r6.1.1 14) (a1.toNatClampNeg))), (0, .ref 64), (1, .int a1), (2, .int a2)], [.ref 64], (q_kM (q_sA r6.1 14 (upd (r6.1.1 14) (a1.toNatClampNeg) a2)) c n))) 1 (fun _ _ => rfl) ?_
            refine q_RP_call (v := none) (h2 := (q_kM (dz_M205_64 (q_sA r6.1 14 (upd (r6.1.1 14) (a1.toNatClampNeg) a2))) c n)) rfl rfl ((dzt_M205_64 (q_sA r6.1 14 (upd (r6.1.1 14) (a1.toNatClampNeg) a2)) c n).le (Nat.le_of_ble_eq_true rfl)) ?_
            generalize dz_M205_64 (q_sA r6.1 14 (upd (r6.1.1 14) (a1.toNatClampNeg) a2)) = r7
            refine q_RP_let ?_
            show q_RP _ _ _ (81, [(3, .int ((r6.1.1 14) (a1.toNatClampNeg))), (0, .ref 64), (1, .int a1), (2, .int a2)], [], (q_kM r7 c n)) _ _
            refine q_RP_seg (g2 := (82, [(3, .int ((r6.1.1 14) (a1.toNatClampNeg))), (0, .ref 64), (1, .int a1), (2, .int a2)], [.int ((r6.1.1 14) (a1.toNatClampNeg))], (q_kM r7 c n))) 1 (fun _ _ => rfl) ?_
            exact q_RP_ret rfl rfl rfl
        | false =>
          refine q_RP_cF ?_
          refine q_RP_rsT (g2 := (54, [(0, .ref 64), (1, .int a1), (2, .int a2)], [.ref 64], (q_kM s c n))) rfl rfl (q_d_geF h9) ?_
          refine q_RP_seg (g2 := (55, [(0, .ref 64), (1, .int a1), (2, .int a2)], [.int 0, .ref 64], (q_kM s c n))) 1 (fun _ _ => rfl) ?_
          refine q_RP_call (v := (some (.int (q_b (dz_M200_64 s 0).2)))) (h2 := (q_kM (dz_M200_64 s 0).1 c n)) rfl rfl ((dzt_M200_64 s c n 0).le (Nat.le_of_ble_eq_true rfl)) ?_
          generalize dz_M200_64 s 0 = r8
          refine q_RP_let ?_
          show q_RP _ _ _ (58, [(0, .ref 64), (1, .int a1), (2, .int a2)], [.int (q_b r8.2)], (q_kM r8.1 c n)) _ _
          cases h12 : r8.2 with
          | true =>
            refine q_RP_cT ?_
            show q_RP _ _ _ (58, [(0, .ref 64), (1, .int a1), (2, .int a2)], [.int 1], (q_kM r8.1 c n)) _ _
            refine q_RP_seg (g2 := (62, [(0, .ref 64), (1, .int a1), (2, .int a2)], [.int 0], (q_kM r8.1 c n))) 2 (fun _ _ => rfl) ?_
            exact q_RP_ret rfl rfl rfl
          | false =>
            refine q_RP_cF ?_
            show q_RP _ _ _ (58, [(0, .ref 64), (1, .int a1), (2, .int a2)], [.int 0], (q_kM r8.1 c n)) _ _
            refine q_RP_seg (g2 := (68, [(0, .ref 64), (1, .int a1), (2, .int a2)], [.int a1, .ref 78], (q_kM r8.1 c n))) 4 (fun _ _ => rfl) ?_
            refine q_RP_as fun i13 => ?_
            refine q_RP_rsT (g2 := (69, [(0, .ref 64), (1, .int a1), (2, .int a2)], [.int ((r8.1.1 14) (a1.toNatClampNeg))], (q_kM r8.1 c n))) rfl rfl i13 ?_
            refine q_RP_seg (g2 := (76, [(3, .int ((r8.1.1 14) (a1.toNatClampNeg))), (0, .ref 64), (1, .int a1), (2, .int a2)], [.int a2, .int a1, .ref 78], (q_kM r8.1 c n))) 5 (fun _ _ => rfl) ?_
            refine q_RP_rsT (g2 := (77, [(3, .int ((r8.1.1 14) (a1.toNatClampNeg))), (0, .ref 64), (1, .int a1), (2, .int a2)], [], (q_kM (q_sA r8.1 14 (upd (r8.1.1 14) (a1.toNatClampNeg) a2)) c n))) rfl q_wM14 i13 ?_
            refine q_RP_seg (g2 := (78, [(3, .int ((r8.1.1 14) (a1.toNatClampNeg))), (0, .ref 64), (1, .int a1), (2, .int a2)], [.ref 64], (q_kM (q_sA r8.1 14 (upd (r8.1.1 14) (a1.toNatClampNeg) a2)) c n))) 1 (fun _ _ => rfl) ?_
            refine q_RP_call (v := none) (h2 := (q_kM (dz_M205_64 (q_sA r8.1 14 (upd (r8.1.1 14) (a1.toNatClampNeg) a2))) c n)) rfl rfl ((dzt_M205_64 (q_sA r8.1 14 (upd (r8.1.1 14) (a1.toNatClampNeg) a2)) c n).le (Nat.le_of_ble_eq_true rfl)) ?_
            generalize dz_M205_64 (q_sA r8.1 14 (upd (r8.1.1 14) (a1.toNatClampNeg) a2)) = r9
            refine q_RP_let ?_
            show q_RP _ _ _ (81, [(3, .int ((r8.1.1 14) (a1.toNatClampNeg))), (0, .ref 64), (1, .int a1), (2, .int a2)], [], (q_kM r9 c n)) _ _
            refine q_RP_seg (g2 := (82, [(3, .int ((r8.1.1 14) (a1.toNatClampNeg))), (0, .ref 64), (1, .int a1), (2, .int a2)], [.int ((r8.1.1 14) (a1.toNatClampNeg))], (q_kM r9 c n))) 1 (fun _ _ => rfl) ?_
            exact q_RP_ret rfl rfl rfl
      | false =>
        refine q_RP_cF ?_
        show q_RP _ _ _ (33, [(0, .ref 64), (1, .int a1), (2, .int a2)], [.int 0, .ref 64], (q_kM s c n)) _ _
        refine q_RP_seg (g2 := (55, [(0, .ref 64), (1, .int a1), (2, .int a2)], [.int 2, .ref 64], (q_kM s c n))) 3 (fun _ _ => rfl) ?_
        refine q_RP_call (v := (some (.int (q_b (dz_M200_64 s 2).2)))) (h2 := (q_kM (dz_M200_64 s 2).1 c n)) rfl rfl ((dzt_M200_64 s c n 2).le (Nat.le_of_ble_eq_true rfl)) ?_
        generalize dz_M200_64 s 2 = r10
        refine q_RP_let ?_
        show q_RP _ _ _ (58, [(0, .ref 64), (1, .int a1), (2, .int a2)], [.int (q_b r10.2)], (q_kM r10.1 c n)) _ _
        cases h14 : r10.2 with
        | true =>
          refine q_RP_cT ?_
          show q_RP _ _ _ (58, [(0, .ref 64), (1, .int a1), (2, .int a2)], [.int 1], (q_kM r10.1 c n)) _ _
          refine q_RP_seg (g2 := (62, [(0, .ref 64), (1, .int a1), (2, .int a2)], [.int 0], (q_kM r10.1 c n))) 2 (fun _ _ => rfl) ?_
          exact q_RP_ret rfl rfl rfl
        | false =>
          refine q_RP_cF ?_
          show q_RP _ _ _ (58, [(0, .ref 64), (1, .int a1), (2, .int a2)], [.int 0], (q_kM r10.1 c n)) _ _
          refine q_RP_seg (g2 := (68, [(0, .ref 64), (1, .int a1), (2, .int a2)], [.int a1, .ref 78], (q_kM r10.1 c n))) 4 (fun _ _ => rfl) ?_
          refine q_RP_as fun i15 => ?_
          refine q_RP_rsT (g2 := (69, [(0, .ref 64), (1, .int a1), (2, .int a2)], [.int ((r10.1.1 14) (a1.toNatClampNeg))], (q_kM r10.1 c n))) rfl rfl i15 ?_
          refine q_RP_seg (g2 := (76, [(3, .int ((r10.1.1 14) (a1.toNatClampNeg))), (0, .ref 64), (1, .int a1), (2, .int a2)], [.int a2, .int a1, .ref 78], (q_kM r10.1 c n))) 5 (fun _ _ => rfl) ?_
          refine q_RP_rsT (g2 := (77, [(3, .int ((r10.1.1 14) (a1.toNatClampNeg))), (0, .ref 64), (1, .int a1), (2, .int a2)], [], (q_kM (q_sA r10.1 14 (upd (r10.1.1 14) (a1.toNatClampNeg) a2)) c n))) rfl q_wM14 i15 ?_
          refine q_RP_seg (g2 := (78, [(3, .int ((r10.1.1 14) (a1.toNatClampNeg))), (0, .ref 64), (1, .int a1), (2, .int a2)], [.ref 64], (q_kM (q_sA r10.1 14 (upd (r10.1.1 14) (a1.toNatClampNeg) a2)) c n))) 1 (fun _ _ => rfl) ?_
          refine q_RP_call (v := none) (h2 := (q_kM (dz_M205_64 (q_sA r10.1 14 (upd (r10.1.1 14) (a1.toNatClampNeg) a2))) c n)) rfl rfl ((dzt_M205_64 (q_sA r10.1 14 (upd (r10.1.1 14) (a1.toNatClampNeg) a2)) c n).le (Nat.le_of_ble_eq_true rfl)) ?_
          generalize dz_M205_64 (q_sA r10.1 14 (upd (r10.1.1 14) (a1.toNatClampNeg) a2)) = r11
          refine q_RP_let ?_
          show q_RP _ _ _ (81, [(3, .int ((r10.1.1 14) (a1.toNatClampNeg))), (0, .ref 64), (1, .int a1), (2, .int a2)], [], (q_kM r11 c n)) _ _
          refine q_RP_seg (g2 := (82, [(3, .int ((r10.1.1 14) (a1.toNatClampNeg))), (0, .ref 64), (1, .int a1), (2, .int a2)], [.int ((r10.1.1 14) (a1.toNatClampNeg))], (q_kM r11 c n))) 1 (fun _ _ => rfl) ?_
          exact q_RP_ret rfl rfl rfl
    | false =>
      refine q_RP_cF ?_
      refine q_RP_rsT (g2 := (27, [(0, .ref 64), (1, .int a1), (2, .int a2)], [.int 0, .int a2, .ref 64], (q_kM s c n))) rfl rfl (q_d_neF h7) ?_
      refine q_RP_seg (g2 := (30, [(0, .ref 64), (1, .int a1), (2, .int a2)], [.int 255, .int 0, .int a2, .ref 64], (q_kM s c n))) 1 (fun _ _ => rfl) ?_
      refine q_RP_call (v := (some (.int (q_b (dz_M202 s a2 0 255))))) (h2 := (q_kM s c n)) rfl rfl ((dzt_M202 s c n a2 0 255).le (Nat.le_of_ble_eq_true rfl)) ?_
      generalize dz_M202 s a2 0 255 = r12
      refine q_RP_let ?_
      show q_RP _ _ _ (33, [(0, .ref 64), (1, .int a1), (2, .int a2)], [.int (q_b r12), .ref 64], (q_kM s c n)) _ _
      cases h16 : r12 with
      | true =>
        refine q_RP_cT ?_
        show q_RP _ _ _ (33, [(0, .ref 64), (1, .int a1), (2, .int a2)], [.int 1, .ref 64], (q_kM s c n)) _ _
        refine q_RP_seg (g2 := (47, [(0, .ref 64), (1, .int a1), (2, .int a2)], [.int ((s.1 14) 17), .ref 64], (q_kM s c n))) 5 (fun _ _ => rfl) ?_
        cases h17 : decide (0 < (s.1 14) 17) with
        | true =>
          refine q_RP_cT ?_
          refine q_RP_rsF (g2 := (50, [(0, .ref 64), (1, .int a1), (2, .int a2)], [.ref 64], (q_kM s c n))) rfl rfl (q_d_geT h17) ?_
          refine q_RP_seg (g2 := (55, [(0, .ref 64), (1, .int a1), (2, .int a2)], [.int 3, .ref 64], (q_kM s c n))) 2 (fun _ _ => rfl) ?_
          refine q_RP_call (v := (some (.int (q_b (dz_M200_64 s 3).2)))) (h2 := (q_kM (dz_M200_64 s 3).1 c n)) rfl rfl ((dzt_M200_64 s c n 3).le (Nat.le_of_ble_eq_true rfl)) ?_
          generalize dz_M200_64 s 3 = r13
          refine q_RP_let ?_
          show q_RP _ _ _ (58, [(0, .ref 64), (1, .int a1), (2, .int a2)], [.int (q_b r13.2)], (q_kM r13.1 c n)) _ _
          cases h18 : r13.2 with
          | true =>
            refine q_RP_cT ?_
            show q_RP _ _ _ (58, [(0, .ref 64), (1, .int a1), (2, .int a2)], [.int 1], (q_kM r13.1 c n)) _ _
            refine q_RP_seg (g2 := (62, [(0, .ref 64), (1, .int a1), (2, .int a2)], [.int 0], (q_kM r13.1 c n))) 2 (fun _ _ => rfl) ?_
            exact q_RP_ret rfl rfl rfl
          | false =>
            refine q_RP_cF ?_
            show q_RP _ _ _ (58, [(0, .ref 64), (1, .int a1), (2, .int a2)], [.int 0], (q_kM r13.1 c n)) _ _
            refine q_RP_seg (g2 := (68, [(0, .ref 64), (1, .int a1), (2, .int a2)], [.int a1, .ref 78], (q_kM r13.1 c n))) 4 (fun _ _ => rfl) ?_
            refine q_RP_as fun i19 => ?_
            refine q_RP_rsT (g2 := (69, [(0, .ref 64), (1, .int a1), (2, .int a2)], [.int ((r13.1.1 14) (a1.toNatClampNeg))], (q_kM r13.1 c n))) rfl rfl i19 ?_
            refine q_RP_seg (g2 := (76, [(3, .int ((r13.1.1 14) (a1.toNatClampNeg))), (0, .ref 64), (1, .int a1), (2, .int a2)], [.int a2, .int a1, .ref 78], (q_kM r13.1 c n))) 5 (fun _ _ => rfl) ?_
            refine q_RP_rsT (g2 := (77, [(3, .int ((r13.1.1 14) (a1.toNatClampNeg))), (0, .ref 64), (1, .int a1), (2, .int a2)], [], (q_kM (q_sA r13.1 14 (upd (r13.1.1 14) (a1.toNatClampNeg) a2)) c n))) rfl q_wM14 i19 ?_
            refine q_RP_seg (g2 := (78, [(3, .int ((r13.1.1 14) (a1.toNatClampNeg))), (0, .ref 64), (1, .int a1), (2, .int a2)], [.ref 64], (q_kM (q_sA r13.1 14 (upd (r13.1.1 14) (a1.toNatClampNeg) a2)) c n))) 1 (fun _ _ => rfl) ?_
            refine q_RP_call (v := none) (h2 := (q_kM (dz_M205_64 (q_sA r13.1 14 (upd (r13.1.1 14) (a1.toNatClampNeg) a2))) c n)) rfl rfl ((dzt_M205_64 (q_sA r13.1 14 (upd (r13.1.1 14) (a1.toNatClampNeg) a2)) c n).le (Nat.le_of_ble_eq_true rfl)) ?_
            generalize dz_M205_64 (q_sA r13.1 14 (upd (r13.1.1 14) (a1.toNatClampNeg) a2)) = r14
            refine q_RP_let ?_
            show q_RP _ _ _ (81, [(3, .int ((r13.1.1 14) (a1.toNatClampNeg))), (0, .ref 64), (1, .int a1), (2, .int a2)], [], (q_kM r14 c n)) _ _
            refine q_RP_seg (g2 := (82, [(3, .int ((r13.1.1 14) (a1.toNatClampNeg))), (0, .ref 64), (1, .int a1), (2, .int a2)], [.int ((r13.1.1 14) (a1.toNatClampNeg))], (q_kM r14 c n))) 1 (fun _ _ => rfl) ?_
            exact q_RP_ret rfl rfl rfl
        | false =>
          refine q_RP_cF ?_
          refine q_RP_rsT (g2 := (54, [(0, .ref 64), (1, .int a1), (2, .int a2)], [.ref 64], (q_kM s c n))) rfl rfl (q_d_geF h17) ?_
          refine q_RP_seg (g2 := (55, [(0, .ref 64), (1, .int a1), (2, .int a2)], [.int 0, .ref 64], (q_kM s c n))) 1 (fun _ _ => rfl) ?_
          refine q_RP_call (v := (some (.int (q_b (dz_M200_64 s 0).2)))) (h2 := (q_kM (dz_M200_64 s 0).1 c n)) rfl rfl ((dzt_M200_64 s c n 0).le (Nat.le_of_ble_eq_true rfl)) ?_
          generalize dz_M200_64 s 0 = r15
          refine q_RP_let ?_
          show q_RP _ _ _ (58, [(0, .ref 64), (1, .int a1), (2, .int a2)], [.int (q_b r15.2)], (q_kM r15.1 c n)) _ _
          cases h20 : r15.2 with
          | true =>
            refine q_RP_cT ?_
            show q_RP _ _ _ (58, [(0, .ref 64), (1, .int a1), (2, .int a2)], [.int 1], (q_kM r15.1 c n)) _ _
            refine q_RP_seg (g2 := (62, [(0, .ref 64), (1, .int a1), (2, .int a2)], [.int 0], (q_kM r15.1 c n))) 2 (fun _ _ => rfl) ?_
            exact q_RP_ret rfl rfl rfl
          | false =>
            refine q_RP_cF ?_
            show q_RP _ _ _ (58, [(0, .ref 64), (1, .int a1), (2, .int a2)], [.int 0], (q_kM r15.1 c n)) _ _
            refine q_RP_seg (g2 := (68, [(0, .ref 64), (1, .int a1), (2, .int a2)], [.int a1, .ref 78], (q_kM r15.1 c n))) 4 (fun _ _ => rfl) ?_
            refine q_RP_as fun i21 => ?_
            refine q_RP_rsT (g2 := (69, [(0, .ref 64), (1, .int a1), (2, .int a2)], [.int ((r15.1.1 14) (a1.toNatClampNeg))], (q_kM r15.1 c n))) rfl rfl i21 ?_
            refine q_RP_seg (g2 := (76, [(3, .int ((r15.1.1 14) (a1.toNatClampNeg))), (0, .ref 64), (1, .int a1), (2, .int a2)], [.int a2, .int a1, .ref 78], (q_kM r15.1 c n))) 5 (fun _ _ => rfl) ?_
            refine q_RP_rsT (g2 := (77, [(3, .int ((r15.1.1 14) (a1.toNatClampNeg))), (0, .ref 64), (1, .int a1), (2, .int a2)], [], (q_kM (q_sA r15.1 14 (upd (r15.1.1 14) (a1.toNatClampNeg) a2)) c n))) rfl q_wM14 i21 ?_
            refine q_RP_seg (g2 := (78, [(3, .int ((r15.1.1 14) (a1.toNatClampNeg))), (0, .ref 64), (1, .int a1), (2, .int a2)], [.ref 64], (q_kM (q_sA r15.1 14 (upd (r15.1.1 14) (a1.toNatClampNeg) a2)) c n))) 1 (fun _ _ => rfl) ?_
            refine q_RP_call (v := none) (h2 := (q_kM (dz_M205_64 (q_sA r15.1 14 (upd (r15.1.1 14) (a1.toNatClampNeg) a2))) c n)) rfl rfl ((dzt_M205_64 (q_sA r15.1 14 (upd (r15.1.1 14) (a1.toNatClampNeg) a2)) c n).le (Nat.le_of_ble_eq_true rfl)) ?_
            generalize dz_M205_64 (q_sA r15.1 14 (upd (r15.1.1 14) (a1.toNatClampNeg) a2)) = r16
            refine q_RP_let ?_
            show q_RP _ _ _ (81, [(3, .int ((r15.1.1 14) (a1.toNatClampNeg))), (0, .ref 64), (1, .int a1), (2, .int a2)], [], (q_kM r16 c n)) _ _
            refine q_RP_seg (g2 := (82, [(3, .int ((r15.1.1 14) (a1.toNatClampNeg))), (0, .ref 64), (1, .int a1), (2, .int a2)], [.int ((r15.1.1 14) (a1.toNatClampNeg))], (q_kM r16 c n))) 1 (fun _ _ => rfl) ?_
            exact q_RP_ret rfl rfl rfl
      | false =>
        refine q_RP_cF ?_
        show q_RP _ _ _ (33, [(0, .ref 64), (1, .int a1), (2, .int a2)], [.int 0, .ref 64], (q_kM s c n)) _ _
        refine q_RP_seg (g2 := (55, [(0, .ref 64), (1, .int a1), (2, .int a2)], [.int 2, .ref 64], (q_kM s c n))) 3 (fun _ _ => rfl) ?_
        refine q_RP_call (v := (some (.int (q_b (dz_M200_64 s 2).2)))) (h2 := (q_kM (dz_M200_64 s 2).1 c n)) rfl rfl ((dzt_M200_64 s c n 2).le (Nat.le_of_ble_eq_true rfl)) ?_
        generalize dz_M200_64 s 2 = r17
        refine q_RP_let ?_
        show q_RP _ _ _ (58, [(0, .ref 64), (1, .int a1), (2, .int a2)], [.int (q_b r17.2)], (q_kM r17.1 c n)) _ _
        cases h22 : r17.2 with
        | true =>
          refine q_RP_cT ?_
          show q_RP _ _ _ (58, [(0, .ref 64), (1, .int a1), (2, .int a2)], [.int 1], (q_kM r17.1 c n)) _ _
          refine q_RP_seg (g2 := (62, [(0, .ref 64), (1, .int a1), (2, .int a2)], [.int 0], (q_kM r17.1 c n))) 2 (fun _ _ => rfl) ?_
          exact q_RP_ret rfl rfl rfl
        | false =>
          refine q_RP_cF ?_
          show q_RP _ _ _ (58, [(0, .ref 64), (1, .int a1), (2, .int a2)], [.int 0], (q_kM r17.1 c n)) _ _
          refine q_RP_seg (g2 := (68, [(0, .ref 64), (1, .int a1), (2, .int a2)], [.int a1, .ref 78], (q_kM r17.1 c n))) 4 (fun _ _ => rfl) ?_
          refine q_RP_as fun i23 => ?_
          refine q_RP_rsT (g2 := (69, [(0, .ref 64), (1, .int a1), (2, .int a2)], [.int ((r17.1.1 14) (a1.toNatClampNeg))], (q_kM r17.1 c n))) rfl rfl i23 ?_
          refine q_RP_seg (g2 := (76, [(3, .int ((r17.1.1 14) (a1.toNatClampNeg))), (0, .ref 64), (1, .int a1), (2, .int a2)], [.int a2, .int a1, .ref 78], (q_kM r17.1 c n))) 5 (fun _ _ => rfl) ?_
          refine q_RP_rsT (g2 := (77, [(3, .int ((r17.1.1 14) (a1.toNatClampNeg))), (0, .ref 64), (1, .int a1), (2, .int a2)], [], (q_kM (q_sA r17.1 14 (upd (r17.1.1 14) (a1.toNatClampNeg) a2)) c n))) rfl q_wM14 i23 ?_
          refine q_RP_seg (g2 := (78, [(3, .int ((r17.1.1 14) (a1.toNatClampNeg))), (0, .ref 64), (1, .int a1), (2, .int a2)], [.ref 64], (q_kM (q_sA r17.1 14 (upd (r17.1.1 14) (a1.toNatClampNeg) a2)) c n))) 1 (fun _ _ => rfl) ?_
          refine q_RP_call (v := none) (h2 := (q_kM (dz_M205_64 (q_sA r17.1 14 (upd (r17.1.1 14) (a1.toNatClampNeg) a2))) c n)) rfl rfl ((dzt_M205_64 (q_sA r17.1 14 (upd (r17.1.1 14) (a1.toNatClampNeg) a2)) c n).le (Nat.le_of_ble_eq_true rfl)) ?_
          generalize dz_M205_64 (q_sA r17.1 14 (upd (r17.1.1 14) (a1.toNatClampNeg) a2)) = r18
          refine q_RP_let ?_
          show q_RP _ _ _ (81, [(3, .int ((r17.1.1 14) (a1.toNatClampNeg))), (0, .ref 64), (1, .int a1), (2, .int a2)], [], (q_kM r18 c n)) _ _
          refine q_RP_seg (g2 := (82, [(3, .int ((r17.1.1 14) (a1.toNatClampNeg))), (0, .ref 64), (1, .int a1), (2, .int a2)], [.int ((r17.1.1 14) (a1.toNatClampNeg))], (q_kM r18 c n))) 1 (fun _ _ => rfl) ?_
          exact q_RP_ret rfl rfl rfl
  | false =>
    refine q_RP_cF ?_
    show q_RP _ _ _ (7, [(0, .ref 64), (1, .int a1), (2, .int a2)], [.int 0, .ref 64], (q_kM s c n)) _ _
    refine q_RP_seg (g2 := (55, [(0, .ref 64), (1, .int a1), (2, .int a2)], [.int 1, .ref 64], (q_kM s c n))) 3 (fun _ _ => rfl) ?_
    refine q_RP_call (v := (some (.int (q_b (dz_M200_64 s 1).2)))) (h2 := (q_kM (dz_M200_64 s 1).1 c n)) rfl rfl ((dzt_M200_64 s c n 1).le (Nat.le_of_ble_eq_true rfl)) ?_
    generalize dz_M200_64 s 1 = r19
    refine q_RP_let ?_
    show q_RP _ _ _ (58, [(0, .ref 64), (1, .int a1), (2, .int a2)], [.int (q_b r19.2)], (q_kM r19.1 c n)) _ _
    cases h24 : r19.2 with
    | true =>
      refine q_RP_cT ?_
      show q_RP _ _ _ (58, [(0, .ref 64), (1, .int a1), (2, .int a2)], [.int 1], (q_kM r19.1 c n)) _ _
      refine q_RP_seg (g2 := (62, [(0, .ref 64), (1, .int a1), (2, .int a2)], [.int 0], (q_kM r19.1 c n))) 2 (fun _ _ => rfl) ?_
      exact q_RP_ret rfl rfl rfl
    | false =>
      refine q_RP_cF ?_
      show q_RP _ _ _ (58, [(0, .ref 64), (1, .int a1), (2, .int a2)], [.int 0], (q_kM r19.1 c n)) _ _
      refine q_RP_seg (g2 := (68, [(0, .ref 64), (1, .int a1), (2, .int a2)], [.int a1, .ref 78], (q_kM r19.1 c n))) 4 (fun _ _ => rfl) ?_
      refine q_RP_as fun i25 => ?_
      refine q_RP_rsT (g2 := (69, [(0, .ref 64), (1, .int a1), (2, .int a2)], [.int ((r19.1.1 14) (a1.toNatClampNeg))], (q_kM r19.1 c n))) rfl rfl i25 ?_
      refine q_RP_seg (g2 := (76, [(3, .int ((r19.1.1 14) (a1.toNatClampNeg))), (0, .ref 64), (1, .int a1), (2, .int a2)], [.int a2, .int a1, .ref 78], (q_kM r19.1 c n))) 5 (fun _ _ => rfl) ?_
      refine q_RP_rsT (g2 := (77, [(3, .int ((r19.1.1 14) (a1.toNatClampNeg))), (0, .ref 64), (1, .int a1), (2, .int a2)], [], (q_kM (q_sA r19.1 14 (upd (r19.1.1 14) (a1.toNatClampNeg) a2)) c n))) rfl q_wM14 i25 ?_
      refine q_RP_seg (g2 := (78, [(3, .int ((r19.1.1 14) (a1.toNatClampNeg))), (0, .ref 64), (1, .int a1), (2, .int a2)], [.ref 64], (q_kM (q_sA r19.1 14 (upd (r19.1.1 14) (a1.toNatClampNeg) a2)) c n))) 1 (fun _ _ => rfl) ?_
      refine q_RP_call (v := none) (h2 := (q_kM (dz_M205_64 (q_sA r19.1 14 (upd (r19.1.1 14) (a1.toNatClampNeg) a2))) c n)) rfl rfl ((dzt_M205_64 (q_sA r19.1 14 (upd (r19.1.1 14) (a1.toNatClampNeg) a2)) c n).le (Nat.le_of_ble_eq_true rfl)) ?_
      generalize dz_M205_64 (q_sA r19.1 14 (upd (r19.1.1 14) (a1.toNatClampNeg) a2)) = r20
      refine q_RP_let ?_
      show q_RP _ _ _ (81, [(3, .int ((r19.1.1 14) (a1.toNatClampNeg))), (0, .ref 64), (1, .int a1), (2, .int a2)], [], (q_kM r20 c n)) _ _
      refine q_RP_seg (g2 := (82, [(3, .int ((r19.1.1 14) (a1.toNatClampNeg))), (0, .ref 64), (1, .int a1), (2, .int a2)], [.int ((r19.1.1 14) (a1.toNatClampNeg))], (q_kM r20 c n))) 1 (fun _ _ => rfl) ?_
      exact q_RP_ret rfl rfl rfl
def dz_M290_64 (s : q_S) : Option (q_S × Int32) :=
  (dz_M258_64 s 16).bind fun r2 => q_let (dz_M201_64 s r2) fun r3 => some (r3.1, r3.2)
set_option maxHeartbeats 4000000 in
theorem dzt_M290_64 (s : q_S) (c n : Nat) (x : q_S × Int32) (h : dz_M290_64 s = some x) : q_Ca q_TB0 3 289 [.ref 64] (q_kM s c n) ((q_oIM c n) x) := by
  refine q_CaP_of (φ := (q_oIM c n)) (Nat.le_of_ble_eq_true rfl) ?_ h
  clear h
  unfold dz_M290_64
  refine q_RP_seg (g2 := (4, [(0, .ref 64)], [.int 16, .ref 64, .ref 64], (q_kM s c n))) 3 (fun _ _ => rfl) ?_
  refine q_RP_bd fun r2 er2 => ?_
  refine q_RP_call (v := (some (.int r2))) (h2 := (q_kM s c n)) rfl rfl ((dzt_M258_64 s c n 16 r2 er2).le (Nat.le_of_ble_eq_true rfl)) ?_
  show q_RP _ _ _ (7, [(0, .ref 64)], [.int r2, .ref 64], (q_kM s c n)) _ _
  refine q_RP_call (v := (some (.int (dz_M201_64 s r2).2))) (h2 := (q_kM (dz_M201_64 s r2).1 c n)) rfl rfl ((dzt_M201_64 s c n r2).le (Nat.le_of_ble_eq_true rfl)) ?_
  generalize dz_M201_64 s r2 = r3
  refine q_RP_let ?_
  show q_RP _ _ _ (10, [(0, .ref 64)], [.int r3.2], (q_kM r3.1 c n)) _ _
  exact q_RP_ret rfl rfl rfl
def dz_M291_64_66 (m : Nat) : q_S → Int32 → Option (q_S × Int32) := Nat.rec (motive := fun _ => q_S → Int32 → Option (q_S × Int32)) (fun _ _ => none) (fun _ k66 s v1 =>
  cond (decide (v1 < 8)) (cond (decide (v1 = 3)) (cond (q_in v1 8) (k66 (q_sA s 15 (upd (s.1 15) (v1.toNatClampNeg) (vp_nar .boolean 1))) (v1 + 1)) none) (cond (q_in v1 8) (k66 (q_sA s 15 (upd (s.1 15) (v1.toNatClampNeg) (vp_nar .boolean 0))) (v1 + 1)) none)) ((dz_M248_64 s 3836).bind fun r2 => q_let (dz_M205_64 (q_sA r2.1 14 (upd (r2.1.1 14) 4 r2.2))) fun r3 => some (r3, ((r3.1 14) 4)))) m
theorem dzs_M291_64_66 (m : Nat) (s : q_S) (v1 : Int32) : dz_M291_64_66 (m + 1) s v1 = (fun k66 : q_S → Int32 → Option (q_S × Int32) =>
  cond (decide (v1 < 8)) (cond (decide (v1 = 3)) (cond (q_in v1 8) (k66 (q_sA s 15 (upd (s.1 15) (v1.toNatClampNeg) (vp_nar .boolean 1))) (v1 + 1)) none) (cond (q_in v1 8) (k66 (q_sA s 15 (upd (s.1 15) (v1.toNatClampNeg) (vp_nar .boolean 0))) (v1 + 1)) none)) ((dz_M248_64 s 3836).bind fun r2 => q_let (dz_M205_64 (q_sA r2.1 14 (upd (r2.1.1 14) 4 r2.2))) fun r3 => some (r3, ((r3.1 14) 4)))) (dz_M291_64_66 m) := rfl
set_option maxHeartbeats 4000000 in
theorem dzt_M291_64_66 (c n : Nat) : ∀ (m : Nat) (s : q_S) (v1 : Int32), q_RP q_TB0 6 290 (66, [(0, .ref 64), (1, .int v1)], [], (q_kM s c n)) (q_oIM c n) (dz_M291_64_66 m s v1) := by
  intro m
  induction m with
  | zero => intro s v1; exact q_RP_no
  | succ m ih =>
    intro s v1
    have hk66 := ih
    clear ih
    rw [dzs_M291_64_66]
    generalize dz_M291_64_66 m = k66 at hk66 ⊢
    dsimp only
    refine q_RP_seg (g2 := (69, [(0, .ref 64), (1, .int v1)], [.int 8, .int v1], (q_kM s c n))) 2 (fun _ _ => rfl) ?_
    cases h5 : decide (v1 < 8) with
    | true =>
      refine q_RP_cT ?_
      refine q_RP_rsF (g2 := (72, [(0, .ref 64), (1, .int v1)], [], (q_kM s c n))) rfl rfl (q_d_geT h5) ?_
      refine q_RP_seg (g2 := (79, [(0, .ref 64), (1, .int v1)], [.int 3, .int v1, .int v1, .ref 79], (q_kM s c n))) 5 (fun _ _ => rfl) ?_
      cases h6 : decide (v1 = 3) with
      | true =>
        refine q_RP_cT ?_
        refine q_RP_rsF (g2 := (82, [(0, .ref 64), (1, .int v1)], [.int v1, .ref 79], (q_kM s c n))) rfl rfl (q_d_neT h6) ?_
        refine q_RP_seg (g2 := (87, [(0, .ref 64), (1, .int v1)], [.int 1, .int v1, .ref 79], (q_kM s c n))) 2 (fun _ _ => rfl) ?_
        refine q_RP_as fun i7 => ?_
        refine q_RP_rsT (g2 := (88, [(0, .ref 64), (1, .int v1)], [], (q_kM (q_sA s 15 (upd (s.1 15) (v1.toNatClampNeg) (vp_nar .boolean 1))) c n))) rfl q_wM15 i7 ?_
        refine q_RP_seg (g2 := (66, [(1, .int (v1 + 1)), (0, .ref 64)], [], (q_kM (q_sA s 15 (upd (s.1 15) (v1.toNatClampNeg) (vp_nar .boolean 1))) c n))) 2 (fun _ _ => rfl) ?_
        exact q_RP_xt (q_xt_mk (q_mn1 1 rfl (q_mn1 0 rfl q_mn0)) rfl) (hk66 (q_sA s 15 (upd (s.1 15) (v1.toNatClampNeg) (vp_nar .boolean 1))) (v1 + 1))
      | false =>
        refine q_RP_cF ?_
        refine q_RP_rsT (g2 := (86, [(0, .ref 64), (1, .int v1)], [.int v1, .ref 79], (q_kM s c n))) rfl rfl (q_d_neF h6) ?_
        refine q_RP_seg (g2 := (87, [(0, .ref 64), (1, .int v1)], [.int 0, .int v1, .ref 79], (q_kM s c n))) 1 (fun _ _ => rfl) ?_
        refine q_RP_as fun i8 => ?_
        refine q_RP_rsT (g2 := (88, [(0, .ref 64), (1, .int v1)], [], (q_kM (q_sA s 15 (upd (s.1 15) (v1.toNatClampNeg) (vp_nar .boolean 0))) c n))) rfl q_wM15 i8 ?_
        refine q_RP_seg (g2 := (66, [(1, .int (v1 + 1)), (0, .ref 64)], [], (q_kM (q_sA s 15 (upd (s.1 15) (v1.toNatClampNeg) (vp_nar .boolean 0))) c n))) 2 (fun _ _ => rfl) ?_
        exact q_RP_xt (q_xt_mk (q_mn1 1 rfl (q_mn1 0 rfl q_mn0)) rfl) (hk66 (q_sA s 15 (upd (s.1 15) (v1.toNatClampNeg) (vp_nar .boolean 0))) (v1 + 1))
    | false =>
      refine q_RP_cF ?_
      refine q_RP_rsT (g2 := (94, [(0, .ref 64), (1, .int v1)], [], (q_kM s c n))) rfl rfl (q_d_geF h5) ?_
      refine q_RP_seg (g2 := (103, [(0, .ref 64), (1, .int v1)], [.int 3836, .ref 64, .int 4, .ref 78], (q_kM s c n))) 5 (fun _ _ => rfl) ?_
      refine q_RP_bd fun r2 er2 => ?_
      refine q_RP_call (v := (some (.int r2.2))) (h2 := (q_kM r2.1 c n)) rfl rfl ((dzt_M248_64 s c n 3836 r2 er2).le (Nat.le_of_ble_eq_true rfl)) ?_
      show q_RP _ _ _ (106, [(0, .ref 64), (1, .int v1)], [.int r2.2, .int 4, .ref 78], (q_kM r2.1 c n)) _ _
      refine q_RP_seg (g2 := (108, [(0, .ref 64), (1, .int v1)], [.ref 64], (q_kM (q_sA r2.1 14 (upd (r2.1.1 14) 4 r2.2)) c n))) 2 (fun _ _ => rfl) ?_
      refine q_RP_call (v := none) (h2 := (q_kM (dz_M205_64 (q_sA r2.1 14 (upd (r2.1.1 14) 4 r2.2))) c n)) rfl rfl ((dzt_M205_64 (q_sA r2.1 14 (upd (r2.1.1 14) 4 r2.2)) c n).le (Nat.le_of_ble_eq_true rfl)) ?_
      generalize dz_M205_64 (q_sA r2.1 14 (upd (r2.1.1 14) 4 r2.2)) = r3
      refine q_RP_let ?_
      show q_RP _ _ _ (111, [(0, .ref 64), (1, .int v1)], [], (q_kM r3 c n)) _ _
      refine q_RP_seg (g2 := (117, [(0, .ref 64), (1, .int v1)], [.int ((r3.1 14) 4)], (q_kM r3 c n))) 4 (fun _ _ => rfl) ?_
      exact q_RP_ret rfl rfl rfl
def dz_M291_64_28 (m : Nat) : q_S → Int32 → Option (q_S × Int32) := Nat.rec (motive := fun _ => q_S → Int32 → Option (q_S × Int32)) (fun _ _ => none) (fun _ k28 s v1 =>
  cond (decide (v1 < 12)) (cond (q_in v1 24) (k28 (q_sA s 14 (upd (s.1 14) (v1.toNatClampNeg) 0)) (v1 + 1)) none) (q_let ((q_sA s 14 (upd (s.1 14) 3 255))) fun r1 => dz_M291_64_66 5000 (q_sA r1 14 (upd (r1.1 14) 17 0)) 0)) m
theorem dzs_M291_64_28 (m : Nat) (s : q_S) (v1 : Int32) : dz_M291_64_28 (m + 1) s v1 = (fun k28 : q_S → Int32 → Option (q_S × Int32) =>
  cond (decide (v1 < 12)) (cond (q_in v1 24) (k28 (q_sA s 14 (upd (s.1 14) (v1.toNatClampNeg) 0)) (v1 + 1)) none) (q_let ((q_sA s 14 (upd (s.1 14) 3 255))) fun r1 => dz_M291_64_66 5000 (q_sA r1 14 (upd (r1.1 14) 17 0)) 0)) (dz_M291_64_28 m) := rfl
set_option maxHeartbeats 4000000 in
theorem dzt_M291_64_28 (c n : Nat) : ∀ (m : Nat) (s : q_S) (v1 : Int32), q_RP q_TB0 6 290 (28, [(0, .ref 64), (1, .int v1)], [], (q_kM s c n)) (q_oIM c n) (dz_M291_64_28 m s v1) := by
  intro m
  induction m with
  | zero => intro s v1; exact q_RP_no
  | succ m ih =>
    intro s v1
    have hk28 := ih
    clear ih
    rw [dzs_M291_64_28]
    generalize dz_M291_64_28 m = k28 at hk28 ⊢
    dsimp only
    refine q_RP_seg (g2 := (31, [(0, .ref 64), (1, .int v1)], [.int 12, .int v1], (q_kM s c n))) 2 (fun _ _ => rfl) ?_
    cases h3 : decide (v1 < 12) with
    | true =>
      refine q_RP_cT ?_
      refine q_RP_rsF (g2 := (34, [(0, .ref 64), (1, .int v1)], [], (q_kM s c n))) rfl rfl (q_d_geT h3) ?_
      refine q_RP_seg (g2 := (40, [(0, .ref 64), (1, .int v1)], [.int 0, .int v1, .ref 78], (q_kM s c n))) 4 (fun _ _ => rfl) ?_
      refine q_RP_as fun i4 => ?_
      refine q_RP_rsT (g2 := (41, [(0, .ref 64), (1, .int v1)], [], (q_kM (q_sA s 14 (upd (s.1 14) (v1.toNatClampNeg) 0)) c n))) rfl q_wM14 i4 ?_
      refine q_RP_seg (g2 := (28, [(1, .int (v1 + 1)), (0, .ref 64)], [], (q_kM (q_sA s 14 (upd (s.1 14) (v1.toNatClampNeg) 0)) c n))) 2 (fun _ _ => rfl) ?_
      exact q_RP_xt (q_xt_mk (q_mn1 1 rfl (q_mn1 0 rfl q_mn0)) rfl) (hk28 (q_sA s 14 (upd (s.1 14) (v1.toNatClampNeg) 0)) (v1 + 1))
    | false =>
      refine q_RP_cF ?_
      refine q_RP_rsT (g2 := (47, [(0, .ref 64), (1, .int v1)], [], (q_kM s c n))) rfl rfl (q_d_geF h3) ?_
      refine q_RP_seg (g2 := (63, [(0, .ref 64), (1, .int v1)], [.int 0, .int 17, .ref 78], (q_kM (q_sA s 14 (upd (s.1 14) 3 255)) c n))) 9 (fun _ _ => rfl) ?_
      generalize (q_sA s 14 (upd (s.1 14) 3 255)) = r1
      refine q_RP_let ?_
      show q_RP _ _ _ (63, [(0, .ref 64), (1, .int v1)], [.int 0, .int 17, .ref 78], (q_kM r1 c n)) _ _
      refine q_RP_seg (g2 := (66, [(1, .int 0), (0, .ref 64)], [], (q_kM (q_sA r1 14 (upd (r1.1 14) 17 0)) c n))) 3 (fun _ _ => rfl) ?_
      exact q_RP_xt (q_xt_mk (q_mn1 1 rfl (q_mn1 0 rfl q_mn0)) rfl) (dzt_M291_64_66 c n 5000 (q_sA r1 14 (upd (r1.1 14) 17 0)) 0)
def dz_M291_64_7 (m : Nat) : q_S → Int32 → Option (q_S × Int32) := Nat.rec (motive := fun _ => q_S → Int32 → Option (q_S × Int32)) (fun _ _ => none) (fun _ k7 s v1 =>
  cond (decide (v1 < 48)) (cond (q_in v1 48) (k7 (q_sA s 4 (upd (s.1 4) (v1.toNatClampNeg) 0)) (v1 + 1)) none) (dz_M291_64_28 5000 s 0)) m
theorem dzs_M291_64_7 (m : Nat) (s : q_S) (v1 : Int32) : dz_M291_64_7 (m + 1) s v1 = (fun k7 : q_S → Int32 → Option (q_S × Int32) =>
  cond (decide (v1 < 48)) (cond (q_in v1 48) (k7 (q_sA s 4 (upd (s.1 4) (v1.toNatClampNeg) 0)) (v1 + 1)) none) (dz_M291_64_28 5000 s 0)) (dz_M291_64_7 m) := rfl
set_option maxHeartbeats 4000000 in
theorem dzt_M291_64_7 (c n : Nat) : ∀ (m : Nat) (s : q_S) (v1 : Int32), q_RP q_TB0 6 290 (7, [(0, .ref 64), (1, .int v1)], [], (q_kM s c n)) (q_oIM c n) (dz_M291_64_7 m s v1) := by
  intro m
  induction m with
  | zero => intro s v1; exact q_RP_no
  | succ m ih =>
    intro s v1
    have hk7 := ih
    clear ih
    rw [dzs_M291_64_7]
    generalize dz_M291_64_7 m = k7 at hk7 ⊢
    dsimp only
    refine q_RP_seg (g2 := (10, [(0, .ref 64), (1, .int v1)], [.int 48, .int v1], (q_kM s c n))) 2 (fun _ _ => rfl) ?_
    cases h1 : decide (v1 < 48) with
    | true =>
      refine q_RP_cT ?_
      refine q_RP_rsF (g2 := (13, [(0, .ref 64), (1, .int v1)], [], (q_kM s c n))) rfl rfl (q_d_geT h1) ?_
      refine q_RP_seg (g2 := (19, [(0, .ref 64), (1, .int v1)], [.int 0, .int v1, .ref 68], (q_kM s c n))) 4 (fun _ _ => rfl) ?_
      refine q_RP_as fun i2 => ?_
      refine q_RP_rsT (g2 := (20, [(0, .ref 64), (1, .int v1)], [], (q_kM (q_sA s 4 (upd (s.1 4) (v1.toNatClampNeg) 0)) c n))) rfl q_wM4 i2 ?_
      refine q_RP_seg (g2 := (7, [(1, .int (v1 + 1)), (0, .ref 64)], [], (q_kM (q_sA s 4 (upd (s.1 4) (v1.toNatClampNeg) 0)) c n))) 2 (fun _ _ => rfl) ?_
      exact q_RP_xt (q_xt_mk (q_mn1 1 rfl (q_mn1 0 rfl q_mn0)) rfl) (hk7 (q_sA s 4 (upd (s.1 4) (v1.toNatClampNeg) 0)) (v1 + 1))
    | false =>
      refine q_RP_cF ?_
      refine q_RP_rsT (g2 := (26, [(0, .ref 64), (1, .int v1)], [], (q_kM s c n))) rfl rfl (q_d_geF h1) ?_
      refine q_RP_seg (g2 := (28, [(1, .int 0), (0, .ref 64)], [], (q_kM s c n))) 2 (fun _ _ => rfl) ?_
      exact q_RP_xt (q_xt_mk (q_mn1 1 rfl (q_mn1 0 rfl q_mn0)) rfl) (dzt_M291_64_28 c n 5000 s 0)
def dz_M291_64 (s : q_S) : Option (q_S × Int32) :=
  dz_M291_64_7 5000 (q_sI s 0 39 0) 0
set_option maxHeartbeats 4000000 in
theorem dzt_M291_64 (s : q_S) (c n : Nat) (x : q_S × Int32) (h : dz_M291_64 s = some x) : q_Ca q_TB0 7 290 [.ref 64] (q_kM s c n) ((q_oIM c n) x) := by
  refine q_CaP_of (φ := (q_oIM c n)) (Nat.le_of_ble_eq_true rfl) ?_ h
  clear h
  unfold dz_M291_64
  refine q_RP_seg (g2 := (7, [(1, .int 0), (0, .ref 64)], [], (q_kM (q_sI s 0 39 0) c n))) 5 (fun _ _ => rfl) ?_
  exact q_RP_xt (q_xt_mk (q_mn1 1 rfl (q_mn1 0 rfl q_mn0)) rfl) (dzt_M291_64_7 c n 5000 (q_sI s 0 39 0) 0)
def dz_M292_64 (s : q_S) : q_S × Int32 :=
  q_let (dz_M205_64 (q_sA (q_sA (q_sI s 0 39 0) 15 (upd (s.1 15) 6 (vp_nar .boolean 1))) 4 (upd (s.1 4) 0 (((s.1 4) 0) ||| 14)))) fun r1 => (r1, ((s.1 4) 0))
set_option maxHeartbeats 4000000 in
theorem dzt_M292_64 (s : q_S) (c n : Nat) : q_Ca q_TB0 2 291 [.ref 64] (q_kM s c n) ((q_oIM c n) (dz_M292_64 s)) := by
  refine q_CaT_of (φ := (q_oIM c n)) (Nat.le_of_ble_eq_true rfl) ?_
  unfold dz_M292_64
  refine q_RT_seg (g2 := (11, [(0, .ref 64)], [.int ((s.1 4) 0)], (q_kM (q_sI s 0 39 0) c n))) 7 (fun _ _ => rfl) ?_
  refine q_RT_seg (g2 := (27, [(1, .int ((s.1 4) 0)), (0, .ref 64)], [.int ((s.1 4) 0), .int 0, .ref 68], (q_kM (q_sA (q_sI s 0 39 0) 15 (upd (s.1 15) 6 (vp_nar .boolean 1))) c n))) 11 (fun _ _ => rfl) ?_
  refine q_RT_seg (g2 := (32, [(1, .int ((s.1 4) 0)), (0, .ref 64)], [.ref 64], (q_kM (q_sA (q_sA (q_sI s 0 39 0) 15 (upd (s.1 15) 6 (vp_nar .boolean 1))) 4 (upd (s.1 4) 0 (((s.1 4) 0) ||| 14))) c n))) 4 (fun _ _ => rfl) ?_
  refine q_RT_call (v := none) (h2 := (q_kM (dz_M205_64 (q_sA (q_sA (q_sI s 0 39 0) 15 (upd (s.1 15) 6 (vp_nar .boolean 1))) 4 (upd (s.1 4) 0 (((s.1 4) 0) ||| 14)))) c n)) rfl rfl ((dzt_M205_64 (q_sA (q_sA (q_sI s 0 39 0) 15 (upd (s.1 15) 6 (vp_nar .boolean 1))) 4 (upd (s.1 4) 0 (((s.1 4) 0) ||| 14))) c n).le (Nat.le_of_ble_eq_true rfl)) ?_
  generalize dz_M205_64 (q_sA (q_sA (q_sI s 0 39 0) 15 (upd (s.1 15) 6 (vp_nar .boolean 1))) 4 (upd (s.1 4) 0 (((s.1 4) 0) ||| 14))) = r1
  refine q_RT_let ?_
  show q_RT _ _ _ (35, [(1, .int ((s.1 4) 0)), (0, .ref 64)], [], (q_kM r1 c n)) _ _
  refine q_RT_seg (g2 := (36, [(1, .int ((s.1 4) 0)), (0, .ref 64)], [.int ((s.1 4) 0)], (q_kM r1 c n))) 1 (fun _ _ => rfl) ?_
  exact q_RT_ret rfl rfl rfl
def dz_M293_64 (s : q_S) (a1 : Int32) (a2 : Int32) : Option (q_S × Int32) :=
  q_let (dz_M202 s a1 0 31) fun r4 => cond r4 (q_let (dz_M202 s a2 0 31) fun r5 => cond r5 (q_let (dz_M200_64 s 0) fun r6 => cond r6.2 (some (r6.1, 0)) (cond (q_in ((32 * a2) + a1) 1024) (some (r6.1, ((r6.1.1 5) (((32 * a2) + a1).toNatClampNeg)))) none)) (q_let (dz_M200_64 s 1) fun r7 => cond r7.2 (some (r7.1, 0)) (cond (q_in ((32 * a2) + a1) 1024) (some (r7.1, ((r7.1.1 5) (((32 * a2) + a1).toNatClampNeg)))) none))) (q_let (dz_M200_64 s 1) fun r8 => cond r8.2 (some (r8.1, 0)) (cond (q_in ((32 * a2) + a1) 1024) (some (r8.1, ((r8.1.1 5) (((32 * a2) + a1).toNatClampNeg)))) none))
set_option maxHeartbeats 4000000 in
theorem dzt_M293_64 (s : q_S) (c n : Nat) (a1 : Int32) (a2 : Int32) (x : q_S × Int32) (h : dz_M293_64 s a1 a2 = some x) : q_Ca q_TB0 2 292 [.ref 64, .int a1, .int a2] (q_kM s c n) ((q_oIM c n) x) := by
  refine q_CaP_of (φ := (q_oIM c n)) (Nat.le_of_ble_eq_true rfl) ?_ h
  clear h
  unfold dz_M293_64
  refine q_RP_seg (g2 := (5, [(0, .ref 64), (1, .int a1), (2, .int a2)], [.int 31, .int 0, .int a1, .ref 64], (q_kM s c n))) 4 (fun _ _ => rfl) ?_
  refine q_RP_call (v := (some (.int (q_b (dz_M202 s a1 0 31))))) (h2 := (q_kM s c n)) rfl rfl ((dzt_M202 s c n a1 0 31).le (Nat.le_of_ble_eq_true rfl)) ?_
  generalize dz_M202 s a1 0 31 = r4
  refine q_RP_let ?_
  show q_RP _ _ _ (8, [(0, .ref 64), (1, .int a1), (2, .int a2)], [.int (q_b r4), .ref 64], (q_kM s c n)) _ _
  cases h4 : r4 with
  | true =>
    refine q_RP_cT ?_
    show q_RP _ _ _ (8, [(0, .ref 64), (1, .int a1), (2, .int a2)], [.int 1, .ref 64], (q_kM s c n)) _ _
    refine q_RP_seg (g2 := (15, [(0, .ref 64), (1, .int a1), (2, .int a2)], [.int 31, .int 0, .int a2, .ref 64], (q_kM s c n))) 4 (fun _ _ => rfl) ?_
    refine q_RP_call (v := (some (.int (q_b (dz_M202 s a2 0 31))))) (h2 := (q_kM s c n)) rfl rfl ((dzt_M202 s c n a2 0 31).le (Nat.le_of_ble_eq_true rfl)) ?_
    generalize dz_M202 s a2 0 31 = r5
    refine q_RP_let ?_
    show q_RP _ _ _ (18, [(0, .ref 64), (1, .int a1), (2, .int a2)], [.int (q_b r5), .ref 64], (q_kM s c n)) _ _
    cases h5 : r5 with
    | true =>
      refine q_RP_cT ?_
      show q_RP _ _ _ (18, [(0, .ref 64), (1, .int a1), (2, .int a2)], [.int 1, .ref 64], (q_kM s c n)) _ _
      refine q_RP_seg (g2 := (26, [(0, .ref 64), (1, .int a1), (2, .int a2)], [.int 0, .ref 64], (q_kM s c n))) 3 (fun _ _ => rfl) ?_
      refine q_RP_call (v := (some (.int (q_b (dz_M200_64 s 0).2)))) (h2 := (q_kM (dz_M200_64 s 0).1 c n)) rfl rfl ((dzt_M200_64 s c n 0).le (Nat.le_of_ble_eq_true rfl)) ?_
      generalize dz_M200_64 s 0 = r6
      refine q_RP_let ?_
      show q_RP _ _ _ (29, [(0, .ref 64), (1, .int a1), (2, .int a2)], [.int (q_b r6.2)], (q_kM r6.1 c n)) _ _
      cases h6 : r6.2 with
      | true =>
        refine q_RP_cT ?_
        show q_RP _ _ _ (29, [(0, .ref 64), (1, .int a1), (2, .int a2)], [.int 1], (q_kM r6.1 c n)) _ _
        refine q_RP_seg (g2 := (47, [(0, .ref 64), (1, .int a1), (2, .int a2)], [.int 0], (q_kM r6.1 c n))) 3 (fun _ _ => rfl) ?_
        exact q_RP_ret rfl rfl rfl
      | false =>
        refine q_RP_cF ?_
        show q_RP _ _ _ (29, [(0, .ref 64), (1, .int a1), (2, .int a2)], [.int 0], (q_kM r6.1 c n)) _ _
        refine q_RP_seg (g2 := (46, [(0, .ref 64), (1, .int a1), (2, .int a2)], [.int ((32 * a2) + a1), .ref 69], (q_kM r6.1 c n))) 8 (fun _ _ => rfl) ?_
        refine q_RP_as fun i7 => ?_
        refine q_RP_rsT (g2 := (47, [(0, .ref 64), (1, .int a1), (2, .int a2)], [.int ((r6.1.1 5) (((32 * a2) + a1).toNatClampNeg))], (q_kM r6.1 c n))) rfl rfl i7 ?_
        exact q_RP_ret rfl rfl rfl
    | false =>
      refine q_RP_cF ?_
      show q_RP _ _ _ (18, [(0, .ref 64), (1, .int a1), (2, .int a2)], [.int 0, .ref 64], (q_kM s c n)) _ _
      refine q_RP_seg (g2 := (26, [(0, .ref 64), (1, .int a1), (2, .int a2)], [.int 1, .ref 64], (q_kM s c n))) 2 (fun _ _ => rfl) ?_
      refine q_RP_call (v := (some (.int (q_b (dz_M200_64 s 1).2)))) (h2 := (q_kM (dz_M200_64 s 1).1 c n)) rfl rfl ((dzt_M200_64 s c n 1).le (Nat.le_of_ble_eq_true rfl)) ?_
      generalize dz_M200_64 s 1 = r7
      refine q_RP_let ?_
      show q_RP _ _ _ (29, [(0, .ref 64), (1, .int a1), (2, .int a2)], [.int (q_b r7.2)], (q_kM r7.1 c n)) _ _
      cases h8 : r7.2 with
      | true =>
        refine q_RP_cT ?_
        show q_RP _ _ _ (29, [(0, .ref 64), (1, .int a1), (2, .int a2)], [.int 1], (q_kM r7.1 c n)) _ _
        refine q_RP_seg (g2 := (47, [(0, .ref 64), (1, .int a1), (2, .int a2)], [.int 0], (q_kM r7.1 c n))) 3 (fun _ _ => rfl) ?_
        exact q_RP_ret rfl rfl rfl
      | false =>
        refine q_RP_cF ?_
        show q_RP _ _ _ (29, [(0, .ref 64), (1, .int a1), (2, .int a2)], [.int 0], (q_kM r7.1 c n)) _ _
        refine q_RP_seg (g2 := (46, [(0, .ref 64), (1, .int a1), (2, .int a2)], [.int ((32 * a2) + a1), .ref 69], (q_kM r7.1 c n))) 8 (fun _ _ => rfl) ?_
        refine q_RP_as fun i9 => ?_
        refine q_RP_rsT (g2 := (47, [(0, .ref 64), (1, .int a1), (2, .int a2)], [.int ((r7.1.1 5) (((32 * a2) + a1).toNatClampNeg))], (q_kM r7.1 c n))) rfl rfl i9 ?_
        exact q_RP_ret rfl rfl rfl
  | false =>
    refine q_RP_cF ?_
    show q_RP _ _ _ (8, [(0, .ref 64), (1, .int a1), (2, .int a2)], [.int 0, .ref 64], (q_kM s c n)) _ _
    refine q_RP_seg (g2 := (26, [(0, .ref 64), (1, .int a1), (2, .int a2)], [.int 1, .ref 64], (q_kM s c n))) 2 (fun _ _ => rfl) ?_
    refine q_RP_call (v := (some (.int (q_b (dz_M200_64 s 1).2)))) (h2 := (q_kM (dz_M200_64 s 1).1 c n)) rfl rfl ((dzt_M200_64 s c n 1).le (Nat.le_of_ble_eq_true rfl)) ?_
    generalize dz_M200_64 s 1 = r8
    refine q_RP_let ?_
    show q_RP _ _ _ (29, [(0, .ref 64), (1, .int a1), (2, .int a2)], [.int (q_b r8.2)], (q_kM r8.1 c n)) _ _
    cases h10 : r8.2 with
    | true =>
      refine q_RP_cT ?_
      show q_RP _ _ _ (29, [(0, .ref 64), (1, .int a1), (2, .int a2)], [.int 1], (q_kM r8.1 c n)) _ _
      refine q_RP_seg (g2 := (47, [(0, .ref 64), (1, .int a1), (2, .int a2)], [.int 0], (q_kM r8.1 c n))) 3 (fun _ _ => rfl) ?_
      exact q_RP_ret rfl rfl rfl
    | false =>
      refine q_RP_cF ?_
      show q_RP _ _ _ (29, [(0, .ref 64), (1, .int a1), (2, .int a2)], [.int 0], (q_kM r8.1 c n)) _ _
      refine q_RP_seg (g2 := (46, [(0, .ref 64), (1, .int a1), (2, .int a2)], [.int ((32 * a2) + a1), .ref 69], (q_kM r8.1 c n))) 8 (fun _ _ => rfl) ?_
      refine q_RP_as fun i11 => ?_
      refine q_RP_rsT (g2 := (47, [(0, .ref 64), (1, .int a1), (2, .int a2)], [.int ((r8.1.1 5) (((32 * a2) + a1).toNatClampNeg))], (q_kM r8.1 c n))) rfl rfl i11 ?_
      exact q_RP_ret rfl rfl rfl
def dz_M294_64 (s : q_S) (a1 : Int32) (a2 : Int32) : Option (q_S × Int32) :=
  (dz_M293_64 s a1 a2).bind fun r2 => some (r2.1, r2.2)
set_option maxHeartbeats 4000000 in
theorem dzt_M294_64 (s : q_S) (c n : Nat) (a1 : Int32) (a2 : Int32) (x : q_S × Int32) (h : dz_M294_64 s a1 a2 = some x) : q_Ca q_TB0 3 293 [.ref 64, .int a1, .int a2] (q_kM s c n) ((q_oIM c n) x) := by
  refine q_CaP_of (φ := (q_oIM c n)) (Nat.le_of_ble_eq_true rfl) ?_ h
  clear h
  unfold dz_M294_64
  refine q_RP_seg (g2 := (3, [(0, .ref 64), (1, .int a1), (2, .int a2)], [.int a2, .int a1, .ref 64], (q_kM s c n))) 3 (fun _ _ => rfl) ?_
  refine q_RP_bd fun r2 er2 => ?_
  refine q_RP_call (v := (some (.int r2.2))) (h2 := (q_kM r2.1 c n)) rfl rfl ((dzt_M293_64 s c n a1 a2 r2 er2).le (Nat.le_of_ble_eq_true rfl)) ?_
  show q_RP _ _ _ (6, [(0, .ref 64), (1, .int a1), (2, .int a2)], [.int r2.2], (q_kM r2.1 c n)) _ _
  exact q_RP_ret rfl rfl rfl
def dz_M295_64 (s : q_S) (a1 : Int32) (a2 : Int32) : Option (q_S × Int32) :=
  (dz_M293_64 s a1 a2).bind fun r2 => some (r2.1, r2.2)
set_option maxHeartbeats 4000000 in
theorem dzt_M295_64 (s : q_S) (c n : Nat) (a1 : Int32) (a2 : Int32) (x : q_S × Int32) (h : dz_M295_64 s a1 a2 = some x) : q_Ca q_TB0 3 294 [.ref 64, .int a1, .int a2] (q_kM s c n) ((q_oIM c n) x) := by
  refine q_CaP_of (φ := (q_oIM c n)) (Nat.le_of_ble_eq_true rfl) ?_ h
  clear h
  unfold dz_M295_64
  refine q_RP_seg (g2 := (3, [(0, .ref 64), (1, .int a1), (2, .int a2)], [.int a2, .int a1, .ref 64], (q_kM s c n))) 3 (fun _ _ => rfl) ?_
  refine q_RP_bd fun r2 er2 => ?_
  refine q_RP_call (v := (some (.int r2.2))) (h2 := (q_kM r2.1 c n)) rfl rfl ((dzt_M293_64 s c n a1 a2 r2 er2).le (Nat.le_of_ble_eq_true rfl)) ?_
  show q_RP _ _ _ (6, [(0, .ref 64), (1, .int a1), (2, .int a2)], [.int r2.2], (q_kM r2.1 c n)) _ _
  exact q_RP_ret rfl rfl rfl
def dz_M296_64 (s : q_S) (a1 : Int32) : Option (q_S × Int32) :=
  q_let (dz_M202 s a1 0 39) fun r3 => cond r3 (q_let (dz_M200_64 s 0) fun r4 => cond r4.2 (some (r4.1, 0)) (cond (q_in a1 40) (some (r4.1, ((r4.1.1 6) (a1.toNatClampNeg)))) none)) (q_let (dz_M200_64 s 1) fun r5 => cond r5.2 (some (r5.1, 0)) (cond (q_in a1 40) (some (r5.1, ((r5.1.1 6) (a1.toNatClampNeg)))) none))
set_option maxHeartbeats 4000000 in
theorem dzt_M296_64 (s : q_S) (c n : Nat) (a1 : Int32) (x : q_S × Int32) (h : dz_M296_64 s a1 = some x) : q_Ca q_TB0 2 295 [.ref 64, .int a1] (q_kM s c n) ((q_oIM c n) x) := by
  refine q_CaP_of (φ := (q_oIM c n)) (Nat.le_of_ble_eq_true rfl) ?_ h
  clear h
  unfold dz_M296_64
  refine q_RP_seg (g2 := (5, [(0, .ref 64), (1, .int a1)], [.int 39, .int 0, .int a1, .ref 64], (q_kM s c n))) 4 (fun _ _ => rfl) ?_
  refine q_RP_call (v := (some (.int (q_b (dz_M202 s a1 0 39))))) (h2 := (q_kM s c n)) rfl rfl ((dzt_M202 s c n a1 0 39).le (Nat.le_of_ble_eq_true rfl)) ?_
  generalize dz_M202 s a1 0 39 = r3
  refine q_RP_let ?_
  show q_RP _ _ _ (8, [(0, .ref 64), (1, .int a1)], [.int (q_b r3), .ref 64], (q_kM s c n)) _ _
  cases h3 : r3 with
  | true =>
    refine q_RP_cT ?_
    show q_RP _ _ _ (8, [(0, .ref 64), (1, .int a1)], [.int 1, .ref 64], (q_kM s c n)) _ _
    refine q_RP_seg (g2 := (16, [(0, .ref 64), (1, .int a1)], [.int 0, .ref 64], (q_kM s c n))) 3 (fun _ _ => rfl) ?_
    refine q_RP_call (v := (some (.int (q_b (dz_M200_64 s 0).2)))) (h2 := (q_kM (dz_M200_64 s 0).1 c n)) rfl rfl ((dzt_M200_64 s c n 0).le (Nat.le_of_ble_eq_true rfl)) ?_
    generalize dz_M200_64 s 0 = r4
    refine q_RP_let ?_
    show q_RP _ _ _ (19, [(0, .ref 64), (1, .int a1)], [.int (q_b r4.2)], (q_kM r4.1 c n)) _ _
    cases h4 : r4.2 with
    | true =>
      refine q_RP_cT ?_
      show q_RP _ _ _ (19, [(0, .ref 64), (1, .int a1)], [.int 1], (q_kM r4.1 c n)) _ _
      refine q_RP_seg (g2 := (32, [(0, .ref 64), (1, .int a1)], [.int 0], (q_kM r4.1 c n))) 3 (fun _ _ => rfl) ?_
      exact q_RP_ret rfl rfl rfl
    | false =>
      refine q_RP_cF ?_
      show q_RP _ _ _ (19, [(0, .ref 64), (1, .int a1)], [.int 0], (q_kM r4.1 c n)) _ _
      refine q_RP_seg (g2 := (31, [(0, .ref 64), (1, .int a1)], [.int a1, .ref 70], (q_kM r4.1 c n))) 4 (fun _ _ => rfl) ?_
      refine q_RP_as fun i5 => ?_
      refine q_RP_rsT (g2 := (32, [(0, .ref 64), (1, .int a1)], [.int ((r4.1.1 6) (a1.toNatClampNeg))], (q_kM r4.1 c n))) rfl rfl i5 ?_
      exact q_RP_ret rfl rfl rfl
  | false =>
    refine q_RP_cF ?_
    show q_RP _ _ _ (8, [(0, .ref 64), (1, .int a1)], [.int 0, .ref 64], (q_kM s c n)) _ _
    refine q_RP_seg (g2 := (16, [(0, .ref 64), (1, .int a1)], [.int 1, .ref 64], (q_kM s c n))) 2 (fun _ _ => rfl) ?_
    refine q_RP_call (v := (some (.int (q_b (dz_M200_64 s 1).2)))) (h2 := (q_kM (dz_M200_64 s 1).1 c n)) rfl rfl ((dzt_M200_64 s c n 1).le (Nat.le_of_ble_eq_true rfl)) ?_
    generalize dz_M200_64 s 1 = r5
    refine q_RP_let ?_
    show q_RP _ _ _ (19, [(0, .ref 64), (1, .int a1)], [.int (q_b r5.2)], (q_kM r5.1 c n)) _ _
    cases h6 : r5.2 with
    | true =>
      refine q_RP_cT ?_
      show q_RP _ _ _ (19, [(0, .ref 64), (1, .int a1)], [.int 1], (q_kM r5.1 c n)) _ _
      refine q_RP_seg (g2 := (32, [(0, .ref 64), (1, .int a1)], [.int 0], (q_kM r5.1 c n))) 3 (fun _ _ => rfl) ?_
      exact q_RP_ret rfl rfl rfl
    | false =>
      refine q_RP_cF ?_
      show q_RP _ _ _ (19, [(0, .ref 64), (1, .int a1)], [.int 0], (q_kM r5.1 c n)) _ _
      refine q_RP_seg (g2 := (31, [(0, .ref 64), (1, .int a1)], [.int a1, .ref 70], (q_kM r5.1 c n))) 4 (fun _ _ => rfl) ?_
      refine q_RP_as fun i7 => ?_
      refine q_RP_rsT (g2 := (32, [(0, .ref 64), (1, .int a1)], [.int ((r5.1.1 6) (a1.toNatClampNeg))], (q_kM r5.1 c n))) rfl rfl i7 ?_
      exact q_RP_ret rfl rfl rfl
def dz_M297_64 (s : q_S) (a1 : Int32) : Option (q_S × Int32) :=
  q_let (dz_M202 s a1 0 2) fun r3 => cond r3 (q_let (dz_M200_64 s 0) fun r4 => cond r4.2 (some (r4.1, 0)) (cond (q_in a1 3) (some (r4.1, ((r4.1.1 11) (a1.toNatClampNeg)))) none)) (q_let (dz_M200_64 s 1) fun r5 => cond r5.2 (some (r5.1, 0)) (cond (q_in a1 3) (some (r5.1, ((r5.1.1 11) (a1.toNatClampNeg)))) none))
set_option maxHeartbeats 4000000 in
theorem dzt_M297_64 (s : q_S) (c n : Nat) (a1 : Int32) (x : q_S × Int32) (h : dz_M297_64 s a1 = some x) : q_Ca q_TB0 2 296 [.ref 64, .int a1] (q_kM s c n) ((q_oIM c n) x) := by
  refine q_CaP_of (φ := (q_oIM c n)) (Nat.le_of_ble_eq_true rfl) ?_ h
  clear h
  unfold dz_M297_64
  refine q_RP_seg (g2 := (4, [(0, .ref 64), (1, .int a1)], [.int 2, .int 0, .int a1, .ref 64], (q_kM s c n))) 4 (fun _ _ => rfl) ?_
  refine q_RP_call (v := (some (.int (q_b (dz_M202 s a1 0 2))))) (h2 := (q_kM s c n)) rfl rfl ((dzt_M202 s c n a1 0 2).le (Nat.le_of_ble_eq_true rfl)) ?_
  generalize dz_M202 s a1 0 2 = r3
  refine q_RP_let ?_
  show q_RP _ _ _ (7, [(0, .ref 64), (1, .int a1)], [.int (q_b r3), .ref 64], (q_kM s c n)) _ _
  cases h3 : r3 with
  | true =>
    refine q_RP_cT ?_
    show q_RP _ _ _ (7, [(0, .ref 64), (1, .int a1)], [.int 1, .ref 64], (q_kM s c n)) _ _
    refine q_RP_seg (g2 := (15, [(0, .ref 64), (1, .int a1)], [.int 0, .ref 64], (q_kM s c n))) 3 (fun _ _ => rfl) ?_
    refine q_RP_call (v := (some (.int (q_b (dz_M200_64 s 0).2)))) (h2 := (q_kM (dz_M200_64 s 0).1 c n)) rfl rfl ((dzt_M200_64 s c n 0).le (Nat.le_of_ble_eq_true rfl)) ?_
    generalize dz_M200_64 s 0 = r4
    refine q_RP_let ?_
    show q_RP _ _ _ (18, [(0, .ref 64), (1, .int a1)], [.int (q_b r4.2)], (q_kM r4.1 c n)) _ _
    cases h4 : r4.2 with
    | true =>
      refine q_RP_cT ?_
      show q_RP _ _ _ (18, [(0, .ref 64), (1, .int a1)], [.int 1], (q_kM r4.1 c n)) _ _
      refine q_RP_seg (g2 := (31, [(0, .ref 64), (1, .int a1)], [.int 0], (q_kM r4.1 c n))) 3 (fun _ _ => rfl) ?_
      exact q_RP_ret rfl rfl rfl
    | false =>
      refine q_RP_cF ?_
      show q_RP _ _ _ (18, [(0, .ref 64), (1, .int a1)], [.int 0], (q_kM r4.1 c n)) _ _
      refine q_RP_seg (g2 := (30, [(0, .ref 64), (1, .int a1)], [.int a1, .ref 75], (q_kM r4.1 c n))) 4 (fun _ _ => rfl) ?_
      refine q_RP_as fun i5 => ?_
      refine q_RP_rsT (g2 := (31, [(0, .ref 64), (1, .int a1)], [.int ((r4.1.1 11) (a1.toNatClampNeg))], (q_kM r4.1 c n))) rfl rfl i5 ?_
      exact q_RP_ret rfl rfl rfl
  | false =>
    refine q_RP_cF ?_
    show q_RP _ _ _ (7, [(0, .ref 64), (1, .int a1)], [.int 0, .ref 64], (q_kM s c n)) _ _
    refine q_RP_seg (g2 := (15, [(0, .ref 64), (1, .int a1)], [.int 1, .ref 64], (q_kM s c n))) 2 (fun _ _ => rfl) ?_
    refine q_RP_call (v := (some (.int (q_b (dz_M200_64 s 1).2)))) (h2 := (q_kM (dz_M200_64 s 1).1 c n)) rfl rfl ((dzt_M200_64 s c n 1).le (Nat.le_of_ble_eq_true rfl)) ?_
    generalize dz_M200_64 s 1 = r5
    refine q_RP_let ?_
    show q_RP _ _ _ (18, [(0, .ref 64), (1, .int a1)], [.int (q_b r5.2)], (q_kM r5.1 c n)) _ _
    cases h6 : r5.2 with
    | true =>
      refine q_RP_cT ?_
      show q_RP _ _ _ (18, [(0, .ref 64), (1, .int a1)], [.int 1], (q_kM r5.1 c n)) _ _
      refine q_RP_seg (g2 := (31, [(0, .ref 64), (1, .int a1)], [.int 0], (q_kM r5.1 c n))) 3 (fun _ _ => rfl) ?_
      exact q_RP_ret rfl rfl rfl
    | false =>
      refine q_RP_cF ?_
      show q_RP _ _ _ (18, [(0, .ref 64), (1, .int a1)], [.int 0], (q_kM r5.1 c n)) _ _
      refine q_RP_seg (g2 := (30, [(0, .ref 64), (1, .int a1)], [.int a1, .ref 75], (q_kM r5.1 c n))) 4 (fun _ _ => rfl) ?_
      refine q_RP_as fun i7 => ?_
      refine q_RP_rsT (g2 := (31, [(0, .ref 64), (1, .int a1)], [.int ((r5.1.1 11) (a1.toNatClampNeg))], (q_kM r5.1 c n))) rfl rfl i7 ?_
      exact q_RP_ret rfl rfl rfl
def dz_M298_64 (s : q_S) (a1 : Int32) (a2 : Int32) (a3 : Int32) : Option (q_S × Bool) :=
  q_let (dz_M202 s a1 0 3) fun r4 => cond r4 (q_let (dz_M202 s a2 0 3) fun r5 => cond r5 (q_let (dz_M200_64 s 0) fun r6 => cond r6.2 (some (r6.1, false)) (cond (q_in ((4 * a1) + a2) 16) (q_let (dz_M205_64 (q_sA r6.1 7 (upd (r6.1.1 7) (((4 * a1) + a2).toNatClampNeg) (vp_nar .boolean a3)))) fun r7 => cond (q_z1 ((r6.1.1 7) (((4 * a1) + a2).toNatClampNeg))) (some (r7, (decide ((r6.1.1 7) (((4 * a1) + a2).toNatClampNeg) = 1)))) none) none)) (q_let (dz_M200_64 s 1) fun r8 => cond r8.2 (some (r8.1, false)) (cond (q_in ((4 * a1) + a2) 16) (q_let (dz_M205_64 (q_sA r8.1 7 (upd (r8.1.1 7) (((4 * a1) + a2).toNatClampNeg) (vp_nar .boolean a3)))) fun r9 => cond (q_z1 ((r8.1.1 7) (((4 * a1) + a2).toNatClampNeg))) (some (r9, (decide ((r8.1.1 7) (((4 * a1) + a2).toNatClampNeg) = 1)))) none) none))) (q_let (dz_M200_64 s 1) fun r10 => cond r10.2 (some (r10.1, false)) (cond (q_in ((4 * a1) + a2) 16) (q_let (dz_M205_64 (q_sA r10.1 7 (upd (r10.1.1 7) (((4 * a1) + a2).toNatClampNeg) (vp_nar .boolean a3)))) fun r11 => cond (q_z1 ((r10.1.1 7) (((4 * a1) + a2).toNatClampNeg))) (some (r11, (decide ((r10.1.1 7) (((4 * a1) + a2).toNatClampNeg) = 1)))) none) none))
set_option maxHeartbeats 4000000 in
theorem dzt_M298_64 (s : q_S) (c n : Nat) (a1 : Int32) (a2 : Int32) (a3 : Int32) (x : q_S × Bool) (h : dz_M298_64 s a1 a2 a3 = some x) : q_Ca q_TB0 2 297 [.ref 64, .int a1, .int a2, .int a3] (q_kM s c n) ((q_oJM c n) x) := by
  refine q_CaP_of (φ := (q_oJM c n)) (Nat.le_of_ble_eq_true rfl) ?_ h
  clear h
  unfold dz_M298_64
  refine q_RP_seg (g2 := (4, [(0, .ref 64), (1, .int a1), (2, .int a2), (3, .int a3)], [.int 3, .int 0, .int a1, .ref 64], (q_kM s c n))) 4 (fun _ _ => rfl) ?_
  refine q_RP_call (v := (some (.int (q_b (dz_M202 s a1 0 3))))) (h2 := (q_kM s c n)) rfl rfl ((dzt_M202 s c n a1 0 3).le (Nat.le_of_ble_eq_true rfl)) ?_
  generalize dz_M202 s a1 0 3 = r4
  refine q_RP_let ?_
  show q_RP _ _ _ (7, [(0, .ref 64), (1, .int a1), (2, .int a2), (3, .int a3)], [.int (q_b r4), .ref 64], (q_kM s c n)) _ _
  cases h4 : r4 with
  | true =>
    refine q_RP_cT ?_
    show q_RP _ _ _ (7, [(0, .ref 64), (1, .int a1), (2, .int a2), (3, .int a3)], [.int 1, .ref 64], (q_kM s c n)) _ _
    refine q_RP_seg (g2 := (13, [(0, .ref 64), (1, .int a1), (2, .int a2), (3, .int a3)], [.int 3, .int 0, .int a2, .ref 64], (q_kM s c n))) 4 (fun _ _ => rfl) ?_
    refine q_RP_call (v := (some (.int (q_b (dz_M202 s a2 0 3))))) (h2 := (q_kM s c n)) rfl rfl ((dzt_M202 s c n a2 0 3).le (Nat.le_of_ble_eq_true rfl)) ?_
    generalize dz_M202 s a2 0 3 = r5
    refine q_RP_let ?_
    show q_RP _ _ _ (16, [(0, .ref 64), (1, .int a1), (2, .int a2), (3, .int a3)], [.int (q_b r5), .ref 64], (q_kM s c n)) _ _
    cases h5 : r5 with
    | true =>
      refine q_RP_cT ?_
      show q_RP _ _ _ (16, [(0, .ref 64), (1, .int a1), (2, .int a2), (3, .int a3)], [.int 1, .ref 64], (q_kM s c n)) _ _
      refine q_RP_seg (g2 := (24, [(0, .ref 64), (1, .int a1), (2, .int a2), (3, .int a3)], [.int 0, .ref 64], (q_kM s c n))) 3 (fun _ _ => rfl) ?_
      refine q_RP_call (v := (some (.int (q_b (dz_M200_64 s 0).2)))) (h2 := (q_kM (dz_M200_64 s 0).1 c n)) rfl rfl ((dzt_M200_64 s c n 0).le (Nat.le_of_ble_eq_true rfl)) ?_
      generalize dz_M200_64 s 0 = r6
      refine q_RP_let ?_
      show q_RP _ _ _ (27, [(0, .ref 64), (1, .int a1), (2, .int a2), (3, .int a3)], [.int (q_b r6.2)], (q_kM r6.1 c n)) _ _
      cases h6 : r6.2 with
      | true =>
        refine q_RP_cT ?_
        show q_RP _ _ _ (27, [(0, .ref 64), (1, .int a1), (2, .int a2), (3, .int a3)], [.int 1], (q_kM r6.1 c n)) _ _
        refine q_RP_seg (g2 := (31, [(0, .ref 64), (1, .int a1), (2, .int a2), (3, .int a3)], [.int 0], (q_kM r6.1 c n))) 2 (fun _ _ => rfl) ?_
        exact q_RP_ret rfl rfl rfl
      | false =>
        refine q_RP_cF ?_
        show q_RP _ _ _ (27, [(0, .ref 64), (1, .int a1), (2, .int a2), (3, .int a3)], [.int 0], (q_kM r6.1 c n)) _ _
        refine q_RP_seg (g2 := (41, [(0, .ref 64), (1, .int a1), (2, .int a2), (3, .int a3)], [.int ((4 * a1) + a2), .ref 71], (q_kM r6.1 c n))) 8 (fun _ _ => rfl) ?_
        refine q_RP_as fun i7 => ?_
        refine q_RP_rsT (g2 := (42, [(0, .ref 64), (1, .int a1), (2, .int a2), (3, .int a3)], [.int ((r6.1.1 7) (((4 * a1) + a2).toNatClampNeg))], (q_kM r6.1 c n))) rfl rfl i7 ?_
        refine q_RP_seg (g2 := (54, [(4, .int ((r6.1.1 7) (((4 * a1) + a2).toNatClampNeg))), (0, .ref 64), (1, .int a1), (2, .int a2), (3, .int a3)], [.int a3, .int ((4 * a1) + a2), .ref 71], (q_kM r6.1 c n))) 9 (fun _ _ => rfl) ?_
        refine q_RP_rsT (g2 := (55, [(4, .int ((r6.1.1 7) (((4 * a1) + a2).toNatClampNeg))), (0, .ref 64), (1, .int a1), (2, .int a2), (3, .int a3)], [], (q_kM (q_sA r6.1 7 (upd (r6.1.1 7) (((4 * a1) + a2).toNatClampNeg) (vp_nar .boolean a3))) c n))) rfl q_wM7 i7 ?_
        refine q_RP_seg (g2 := (56, [(4, .int ((r6.1.1 7) (((4 * a1) + a2).toNatClampNeg))), (0, .ref 64), (1, .int a1), (2, .int a2), (3, .int a3)], [.ref 64], (q_kM (q_sA r6.1 7 (upd (r6.1.1 7) (((4 * a1) + a2).toNatClampNeg) (vp_nar .boolean a3))) c n))) 1 (fun _ _ => rfl) ?_
        refine q_RP_call (v := none) (h2 := (q_kM (dz_M205_64 (q_sA r6.1 7 (upd (r6.1.1 7) (((4 * a1) + a2).toNatClampNeg) (vp_nar .boolean a3)))) c n)) rfl rfl ((dzt_M205_64 (q_sA r6.1 7 (upd (r6.1.1 7) (((4 * a1) + a2).toNatClampNeg) (vp_nar .boolean a3))) c n).le (Nat.le_of_ble_eq_true rfl)) ?_
        generalize dz_M205_64 (q_sA r6.1 7 (upd (r6.1.1 7) (((4 * a1) + a2).toNatClampNeg) (vp_nar .boolean a3))) = r7
        refine q_RP_let ?_
        show q_RP _ _ _ (59, [(4, .int ((r6.1.1 7) (((4 * a1) + a2).toNatClampNeg))), (0, .ref 64), (1, .int a1), (2, .int a2), (3, .int a3)], [], (q_kM r7 c n)) _ _
        refine q_RP_seg (g2 := (61, [(4, .int ((r6.1.1 7) (((4 * a1) + a2).toNatClampNeg))), (0, .ref 64), (1, .int a1), (2, .int a2), (3, .int a3)], [.int ((r6.1.1 7) (((4 * a1) + a2).toNatClampNeg))], (q_kM r7 c n))) 1 (fun _ _ => rfl) ?_
        refine q_RP_as fun i8 => ?_
        exact q_RP_ret rfl (q_rz01 i8) (by show (Sum.inl (some (Value.int (q_b (decide ((r6.1.1 7) (((4 * a1) + a2).toNatClampNeg) = 1))))), _) = _; rw [q_b01 i8]; try rfl)
    | false =>
      refine q_RP_cF ?_
      show q_RP _ _ _ (16, [(0, .ref 64), (1, .int a1), (2, .int a2), (3, .int a3)], [.int 0, .ref 64], (q_kM s c n)) _ _
      refine q_RP_seg (g2 := (24, [(0, .ref 64), (1, .int a1), (2, .int a2), (3, .int a3)], [.int 1, .ref 64], (q_kM s c n))) 2 (fun _ _ => rfl) ?_
      refine q_RP_call (v := (some (.int (q_b (dz_M200_64 s 1).2)))) (h2 := (q_kM (dz_M200_64 s 1).1 c n)) rfl rfl ((dzt_M200_64 s c n 1).le (Nat.le_of_ble_eq_true rfl)) ?_
      generalize dz_M200_64 s 1 = r8
      refine q_RP_let ?_
      show q_RP _ _ _ (27, [(0, .ref 64), (1, .int a1), (2, .int a2), (3, .int a3)], [.int (q_b r8.2)], (q_kM r8.1 c n)) _ _
      cases h9 : r8.2 with
      | true =>
        refine q_RP_cT ?_
        show q_RP _ _ _ (27, [(0, .ref 64), (1, .int a1), (2, .int a2), (3, .int a3)], [.int 1], (q_kM r8.1 c n)) _ _
        refine q_RP_seg (g2 := (31, [(0, .ref 64), (1, .int a1), (2, .int a2), (3, .int a3)], [.int 0], (q_kM r8.1 c n))) 2 (fun _ _ => rfl) ?_
        exact q_RP_ret rfl rfl rfl
      | false =>
        refine q_RP_cF ?_
        show q_RP _ _ _ (27, [(0, .ref 64), (1, .int a1), (2, .int a2), (3, .int a3)], [.int 0], (q_kM r8.1 c n)) _ _
        refine q_RP_seg (g2 := (41, [(0, .ref 64), (1, .int a1), (2, .int a2), (3, .int a3)], [.int ((4 * a1) + a2), .ref 71], (q_kM r8.1 c n))) 8 (fun _ _ => rfl) ?_
        refine q_RP_as fun i10 => ?_
        refine q_RP_rsT (g2 := (42, [(0, .ref 64), (1, .int a1), (2, .int a2), (3, .int a3)], [.int ((r8.1.1 7) (((4 * a1) + a2).toNatClampNeg))], (q_kM r8.1 c n))) rfl rfl i10 ?_
        refine q_RP_seg (g2 := (54, [(4, .int ((r8.1.1 7) (((4 * a1) + a2).toNatClampNeg))), (0, .ref 64), (1, .int a1), (2, .int a2), (3, .int a3)], [.int a3, .int ((4 * a1) + a2), .ref 71], (q_kM r8.1 c n))) 9 (fun _ _ => rfl) ?_
        refine q_RP_rsT (g2 := (55, [(4, .int ((r8.1.1 7) (((4 * a1) + a2).toNatClampNeg))), (0, .ref 64), (1, .int a1), (2, .int a2), (3, .int a3)], [], (q_kM (q_sA r8.1 7 (upd (r8.1.1 7) (((4 * a1) + a2).toNatClampNeg) (vp_nar .boolean a3))) c n))) rfl q_wM7 i10 ?_
        refine q_RP_seg (g2 := (56, [(4, .int ((r8.1.1 7) (((4 * a1) + a2).toNatClampNeg))), (0, .ref 64), (1, .int a1), (2, .int a2), (3, .int a3)], [.ref 64], (q_kM (q_sA r8.1 7 (upd (r8.1.1 7) (((4 * a1) + a2).toNatClampNeg) (vp_nar .boolean a3))) c n))) 1 (fun _ _ => rfl) ?_
        refine q_RP_call (v := none) (h2 := (q_kM (dz_M205_64 (q_sA r8.1 7 (upd (r8.1.1 7) (((4 * a1) + a2).toNatClampNeg) (vp_nar .boolean a3)))) c n)) rfl rfl ((dzt_M205_64 (q_sA r8.1 7 (upd (r8.1.1 7) (((4 * a1) + a2).toNatClampNeg) (vp_nar .boolean a3))) c n).le (Nat.le_of_ble_eq_true rfl)) ?_
        generalize dz_M205_64 (q_sA r8.1 7 (upd (r8.1.1 7) (((4 * a1) + a2).toNatClampNeg) (vp_nar .boolean a3))) = r9
        refine q_RP_let ?_
        show q_RP _ _ _ (59, [(4, .int ((r8.1.1 7) (((4 * a1) + a2).toNatClampNeg))), (0, .ref 64), (1, .int a1), (2, .int a2), (3, .int a3)], [], (q_kM r9 c n)) _ _
        refine q_RP_seg (g2 := (61, [(4, .int ((r8.1.1 7) (((4 * a1) + a2).toNatClampNeg))), (0, .ref 64), (1, .int a1), (2, .int a2), (3, .int a3)], [.int ((r8.1.1 7) (((4 * a1) + a2).toNatClampNeg))], (q_kM r9 c n))) 1 (fun _ _ => rfl) ?_
        refine q_RP_as fun i11 => ?_
        exact q_RP_ret rfl (q_rz01 i11) (by show (Sum.inl (some (Value.int (q_b (decide ((r8.1.1 7) (((4 * a1) + a2).toNatClampNeg) = 1))))), _) = _; rw [q_b01 i11]; try rfl)
  | false =>
    refine q_RP_cF ?_
    show q_RP _ _ _ (7, [(0, .ref 64), (1, .int a1), (2, .int a2), (3, .int a3)], [.int 0, .ref 64], (q_kM s c n)) _ _
    refine q_RP_seg (g2 := (24, [(0, .ref 64), (1, .int a1), (2, .int a2), (3, .int a3)], [.int 1, .ref 64], (q_kM s c n))) 2 (fun _ _ => rfl) ?_
    refine q_RP_call (v := (some (.int (q_b (dz_M200_64 s 1).2)))) (h2 := (q_kM (dz_M200_64 s 1).1 c n)) rfl rfl ((dzt_M200_64 s c n 1).le (Nat.le_of_ble_eq_true rfl)) ?_
    generalize dz_M200_64 s 1 = r10
    refine q_RP_let ?_
    show q_RP _ _ _ (27, [(0, .ref 64), (1, .int a1), (2, .int a2), (3, .int a3)], [.int (q_b r10.2)], (q_kM r10.1 c n)) _ _
    cases h12 : r10.2 with
    | true =>
      refine q_RP_cT ?_
      show q_RP _ _ _ (27, [(0, .ref 64), (1, .int a1), (2, .int a2), (3, .int a3)], [.int 1], (q_kM r10.1 c n)) _ _
      refine q_RP_seg (g2 := (31, [(0, .ref 64), (1, .int a1), (2, .int a2), (3, .int a3)], [.int 0], (q_kM r10.1 c n))) 2 (fun _ _ => rfl) ?_
      exact q_RP_ret rfl rfl rfl
    | false =>
      refine q_RP_cF ?_
      show q_RP _ _ _ (27, [(0, .ref 64), (1, .int a1), (2, .int a2), (3, .int a3)], [.int 0], (q_kM r10.1 c n)) _ _
      refine q_RP_seg (g2 := (41, [(0, .ref 64), (1, .int a1), (2, .int a2), (3, .int a3)], [.int ((4 * a1) + a2), .ref 71], (q_kM r10.1 c n))) 8 (fun _ _ => rfl) ?_
      refine q_RP_as fun i13 => ?_
      refine q_RP_rsT (g2 := (42, [(0, .ref 64), (1, .int a1), (2, .int a2), (3, .int a3)], [.int ((r10.1.1 7) (((4 * a1) + a2).toNatClampNeg))], (q_kM r10.1 c n))) rfl rfl i13 ?_
      refine q_RP_seg (g2 := (54, [(4, .int ((r10.1.1 7) (((4 * a1) + a2).toNatClampNeg))), (0, .ref 64), (1, .int a1), (2, .int a2), (3, .int a3)], [.int a3, .int ((4 * a1) + a2), .ref 71], (q_kM r10.1 c n))) 9 (fun _ _ => rfl) ?_
      refine q_RP_rsT (g2 := (55, [(4, .int ((r10.1.1 7) (((4 * a1) + a2).toNatClampNeg))), (0, .ref 64), (1, .int a1), (2, .int a2), (3, .int a3)], [], (q_kM (q_sA r10.1 7 (upd (r10.1.1 7) (((4 * a1) + a2).toNatClampNeg) (vp_nar .boolean a3))) c n))) rfl q_wM7 i13 ?_
      refine q_RP_seg (g2 := (56, [(4, .int ((r10.1.1 7) (((4 * a1) + a2).toNatClampNeg))), (0, .ref 64), (1, .int a1), (2, .int a2), (3, .int a3)], [.ref 64], (q_kM (q_sA r10.1 7 (upd (r10.1.1 7) (((4 * a1) + a2).toNatClampNeg) (vp_nar .boolean a3))) c n))) 1 (fun _ _ => rfl) ?_
      refine q_RP_call (v := none) (h2 := (q_kM (dz_M205_64 (q_sA r10.1 7 (upd (r10.1.1 7) (((4 * a1) + a2).toNatClampNeg) (vp_nar .boolean a3)))) c n)) rfl rfl ((dzt_M205_64 (q_sA r10.1 7 (upd (r10.1.1 7) (((4 * a1) + a2).toNatClampNeg) (vp_nar .boolean a3))) c n).le (Nat.le_of_ble_eq_true rfl)) ?_
      generalize dz_M205_64 (q_sA r10.1 7 (upd (r10.1.1 7) (((4 * a1) + a2).toNatClampNeg) (vp_nar .boolean a3))) = r11
      refine q_RP_let ?_
      show q_RP _ _ _ (59, [(4, .int ((r10.1.1 7) (((4 * a1) + a2).toNatClampNeg))), (0, .ref 64), (1, .int a1), (2, .int a2), (3, .int a3)], [], (q_kM r11 c n)) _ _
      refine q_RP_seg (g2 := (61, [(4, .int ((r10.1.1 7) (((4 * a1) + a2).toNatClampNeg))), (0, .ref 64), (1, .int a1), (2, .int a2), (3, .int a3)], [.int ((r10.1.1 7) (((4 * a1) + a2).toNatClampNeg))], (q_kM r11 c n))) 1 (fun _ _ => rfl) ?_
      refine q_RP_as fun i14 => ?_
      exact q_RP_ret rfl (q_rz01 i14) (by show (Sum.inl (some (Value.int (q_b (decide ((r10.1.1 7) (((4 * a1) + a2).toNatClampNeg) = 1))))), _) = _; rw [q_b01 i14]; try rfl)
def dz_M299_64 (s : q_S) (a1 : Int32) : Option (q_S × Int32) :=
  q_let (dz_M202 s a1 0 15) fun r4 => cond r4 (q_let (dz_M200_64 s 0) fun r5 => cond r5.2 (some (r5.1, 0)) ((dz_M208_64 r5.1 a1).bind fun r6 => some (r6.1, r6.2))) (q_let (dz_M200_64 s 1) fun r7 => cond r7.2 (some (r7.1, 0)) ((dz_M208_64 r7.1 a1).bind fun r8 => some (r8.1, r8.2)))
set_option maxHeartbeats 4000000 in
theorem dzt_M299_64 (s : q_S) (c n : Nat) (a1 : Int32) (x : q_S × Int32) (h : dz_M299_64 s a1 = some x) : q_Ca q_TB0 3 298 [.ref 64, .int a1] (q_kM s c n) ((q_oIM c n) x) := by
  refine q_CaP_of (φ := (q_oIM c n)) (Nat.le_of_ble_eq_true rfl) ?_ h
  clear h
  unfold dz_M299_64
  refine q_RP_seg (g2 := (5, [(0, .ref 64), (1, .int a1)], [.int 15, .int 0, .int a1, .ref 64], (q_kM s c n))) 4 (fun _ _ => rfl) ?_
  refine q_RP_call (v := (some (.int (q_b (dz_M202 s a1 0 15))))) (h2 := (q_kM s c n)) rfl rfl ((dzt_M202 s c n a1 0 15).le (Nat.le_of_ble_eq_true rfl)) ?_
  generalize dz_M202 s a1 0 15 = r4
  refine q_RP_let ?_
  show q_RP _ _ _ (8, [(0, .ref 64), (1, .int a1)], [.int (q_b r4), .ref 64], (q_kM s c n)) _ _
  cases h3 : r4 with
  | true =>
    refine q_RP_cT ?_
    show q_RP _ _ _ (8, [(0, .ref 64), (1, .int a1)], [.int 1, .ref 64], (q_kM s c n)) _ _
    refine q_RP_seg (g2 := (16, [(0, .ref 64), (1, .int a1)], [.int 0, .ref 64], (q_kM s c n))) 3 (fun _ _ => rfl) ?_
    refine q_RP_call (v := (some (.int (q_b (dz_M200_64 s 0).2)))) (h2 := (q_kM (dz_M200_64 s 0).1 c n)) rfl rfl ((dzt_M200_64 s c n 0).le (Nat.le_of_ble_eq_true rfl)) ?_
    generalize dz_M200_64 s 0 = r5
    refine q_RP_let ?_
    show q_RP _ _ _ (19, [(0, .ref 64), (1, .int a1)], [.int (q_b r5.2)], (q_kM r5.1 c n)) _ _
    cases h4 : r5.2 with
    | true =>
      refine q_RP_cT ?_
      show q_RP _ _ _ (19, [(0, .ref 64), (1, .int a1)], [.int 1], (q_kM r5.1 c n)) _ _
      refine q_RP_seg (g2 := (31, [(0, .ref 64), (1, .int a1)], [.int 0], (q_kM r5.1 c n))) 3 (fun _ _ => rfl) ?_
      exact q_RP_ret rfl rfl rfl
    | false =>
      refine q_RP_cF ?_
      show q_RP _ _ _ (19, [(0, .ref 64), (1, .int a1)], [.int 0], (q_kM r5.1 c n)) _ _
      refine q_RP_seg (g2 := (28, [(0, .ref 64), (1, .int a1)], [.int a1, .ref 64], (q_kM r5.1 c n))) 3 (fun _ _ => rfl) ?_
      refine q_RP_bd fun r6 er6 => ?_
      refine q_RP_call (v := (some (.int r6.2))) (h2 := (q_kM r6.1 c n)) rfl rfl ((dzt_M208_64 r5.1 c n a1 r6 er6).le (Nat.le_of_ble_eq_true rfl)) ?_
      show q_RP _ _ _ (31, [(0, .ref 64), (1, .int a1)], [.int r6.2], (q_kM r6.1 c n)) _ _
      exact q_RP_ret rfl rfl rfl
  | false =>
    refine q_RP_cF ?_
    show q_RP _ _ _ (8, [(0, .ref 64), (1, .int a1)], [.int 0, .ref 64], (q_kM s c n)) _ _
    refine q_RP_seg (g2 := (16, [(0, .ref 64), (1, .int a1)], [.int 1, .ref 64], (q_kM s c n))) 2 (fun _ _ => rfl) ?_
    refine q_RP_call (v := (some (.int (q_b (dz_M200_64 s 1).2)))) (h2 := (q_kM (dz_M200_64 s 1).1 c n)) rfl rfl ((dzt_M200_64 s c n 1).le (Nat.le_of_ble_eq_true rfl)) ?_
    generalize dz_M200_64 s 1 = r7
    refine q_RP_let ?_
    show q_RP _ _ _ (19, [(0, .ref 64), (1, .int a1)], [.int (q_b r7.2)], (q_kM r7.1 c n)) _ _
    cases h5 : r7.2 with
    | true =>
      refine q_RP_cT ?_
      show q_RP _ _ _ (19, [(0, .ref 64), (1, .int a1)], [.int 1], (q_kM r7.1 c n)) _ _
      refine q_RP_seg (g2 := (31, [(0, .ref 64), (1, .int a1)], [.int 0], (q_kM r7.1 c n))) 3 (fun _ _ => rfl) ?_
      exact q_RP_ret rfl rfl rfl
    | false =>
      refine q_RP_cF ?_
      show q_RP _ _ _ (19, [(0, .ref 64), (1, .int a1)], [.int 0], (q_kM r7.1 c n)) _ _
      refine q_RP_seg (g2 := (28, [(0, .ref 64), (1, .int a1)], [.int a1, .ref 64], (q_kM r7.1 c n))) 3 (fun _ _ => rfl) ?_
      refine q_RP_bd fun r8 er8 => ?_
      refine q_RP_call (v := (some (.int r8.2))) (h2 := (q_kM r8.1 c n)) rfl rfl ((dzt_M208_64 r7.1 c n a1 r8 er8).le (Nat.le_of_ble_eq_true rfl)) ?_
      show q_RP _ _ _ (31, [(0, .ref 64), (1, .int a1)], [.int r8.2], (q_kM r8.1 c n)) _ _
      exact q_RP_ret rfl rfl rfl
def dz_M300_64 (s : q_S) (a1 : Int32) : q_S × Int32 :=
  q_let (dz_M202 s a1 0 15) fun r1 => cond r1 (q_let (dz_M200_64 s 0) fun r2 => cond r2.2 ((r2.1, 0)) (q_let (dz_M205_64 (q_sA r2.1 14 (upd (r2.1.1 14) 12 a1))) fun r3 => (r3, ((r2.1.1 14) 12)))) (q_let (dz_M200_64 s 1) fun r4 => cond r4.2 ((r4.1, 0)) (q_let (dz_M205_64 (q_sA r4.1 14 (upd (r4.1.1 14) 12 a1))) fun r5 => (r5, ((r4.1.1 14) 12))))
set_option maxHeartbeats 4000000 in
theorem dzt_M300_64 (s : q_S) (c n : Nat) (a1 : Int32) : q_Ca q_TB0 2 299 [.ref 64, .int a1] (q_kM s c n) ((q_oIM c n) (dz_M300_64 s a1)) := by
  refine q_CaT_of (φ := (q_oIM c n)) (Nat.le_of_ble_eq_true rfl) ?_
  unfold dz_M300_64
  refine q_RT_seg (g2 := (5, [(0, .ref 64), (1, .int a1)], [.int 15, .int 0, .int a1, .ref 64], (q_kM s c n))) 4 (fun _ _ => rfl) ?_
  refine q_RT_call (v := (some (.int (q_b (dz_M202 s a1 0 15))))) (h2 := (q_kM s c n)) rfl rfl ((dzt_M202 s c n a1 0 15).le (Nat.le_of_ble_eq_true rfl)) ?_
  generalize dz_M202 s a1 0 15 = r1
  refine q_RT_let ?_
  show q_RT _ _ _ (8, [(0, .ref 64), (1, .int a1)], [.int (q_b r1), .ref 64], (q_kM s c n)) _ _
  cases h1 : r1 with
  | true =>
    refine q_RT_cT ?_
    show q_RT _ _ _ (8, [(0, .ref 64), (1, .int a1)], [.int 1, .ref 64], (q_kM s c n)) _ _
    refine q_RT_seg (g2 := (16, [(0, .ref 64), (1, .int a1)], [.int 0, .ref 64], (q_kM s c n))) 3 (fun _ _ => rfl) ?_
    refine q_RT_call (v := (some (.int (q_b (dz_M200_64 s 0).2)))) (h2 := (q_kM (dz_M200_64 s 0).1 c n)) rfl rfl ((dzt_M200_64 s c n 0).le (Nat.le_of_ble_eq_true rfl)) ?_
    generalize dz_M200_64 s 0 = r2
    refine q_RT_let ?_
    show q_RT _ _ _ (19, [(0, .ref 64), (1, .int a1)], [.int (q_b r2.2)], (q_kM r2.1 c n)) _ _
    cases h2 : r2.2 with
    | true =>
      refine q_RT_cT ?_
      show q_RT _ _ _ (19, [(0, .ref 64), (1, .int a1)], [.int 1], (q_kM r2.1 c n)) _ _
      refine q_RT_seg (g2 := (23, [(0, .ref 64), (1, .int a1)], [.int 0], (q_kM r2.1 c n))) 2 (fun _ _ => rfl) ?_
      exact q_RT_ret rfl rfl rfl
    | false =>
      refine q_RT_cF ?_
      show q_RT _ _ _ (19, [(0, .ref 64), (1, .int a1)], [.int 0], (q_kM r2.1 c n)) _ _
      refine q_RT_seg (g2 := (31, [(0, .ref 64), (1, .int a1)], [.int ((r2.1.1 14) 12)], (q_kM r2.1 c n))) 5 (fun _ _ => rfl) ?_
      refine q_RT_seg (g2 := (41, [(2, .int ((r2.1.1 14) 12)), (0, .ref 64), (1, .int a1)], [.ref 64], (q_kM (q_sA r2.1 14 (upd (r2.1.1 14) 12 a1)) c n))) 7 (fun _ _ => rfl) ?_
      refine q_RT_call (v := none) (h2 := (q_kM (dz_M205_64 (q_sA r2.1 14 (upd (r2.1.1 14) 12 a1))) c n)) rfl rfl ((dzt_M205_64 (q_sA r2.1 14 (upd (r2.1.1 14) 12 a1)) c n).le (Nat.le_of_ble_eq_true rfl)) ?_
      generalize dz_M205_64 (q_sA r2.1 14 (upd (r2.1.1 14) 12 a1)) = r3
      refine q_RT_let ?_
      show q_RT _ _ _ (44, [(2, .int ((r2.1.1 14) 12)), (0, .ref 64), (1, .int a1)], [], (q_kM r3 c n)) _ _
      refine q_RT_seg (g2 := (45, [(2, .int ((r2.1.1 14) 12)), (0, .ref 64), (1, .int a1)], [.int ((r2.1.1 14) 12)], (q_kM r3 c n))) 1 (fun _ _ => rfl) ?_
      exact q_RT_ret rfl rfl rfl
  | false =>
    refine q_RT_cF ?_
    show q_RT _ _ _ (8, [(0, .ref 64), (1, .int a1)], [.int 0, .ref 64], (q_kM s c n)) _ _
    refine q_RT_seg (g2 := (16, [(0, .ref 64), (1, .int a1)], [.int 1, .ref 64], (q_kM s c n))) 2 (fun _ _ => rfl) ?_
    refine q_RT_call (v := (some (.int (q_b (dz_M200_64 s 1).2)))) (h2 := (q_kM (dz_M200_64 s 1).1 c n)) rfl rfl ((dzt_M200_64 s c n 1).le (Nat.le_of_ble_eq_true rfl)) ?_
    generalize dz_M200_64 s 1 = r4
    refine q_RT_let ?_
    show q_RT _ _ _ (19, [(0, .ref 64), (1, .int a1)], [.int (q_b r4.2)], (q_kM r4.1 c n)) _ _
    cases h3 : r4.2 with
    | true =>
      refine q_RT_cT ?_
      show q_RT _ _ _ (19, [(0, .ref 64), (1, .int a1)], [.int 1], (q_kM r4.1 c n)) _ _
      refine q_RT_seg (g2 := (23, [(0, .ref 64), (1, .int a1)], [.int 0], (q_kM r4.1 c n))) 2 (fun _ _ => rfl) ?_
      exact q_RT_ret rfl rfl rfl
    | false =>
      refine q_RT_cF ?_
      show q_RT _ _ _ (19, [(0, .ref 64), (1, .int a1)], [.int 0], (q_kM r4.1 c n)) _ _
      refine q_RT_seg (g2 := (31, [(0, .ref 64), (1, .int a1)], [.int ((r4.1.1 14) 12)], (q_kM r4.1 c n))) 5 (fun _ _ => rfl) ?_
      refine q_RT_seg (g2 := (41, [(2, .int ((r4.1.1 14) 12)), (0, .ref 64), (1, .int a1)], [.ref 64], (q_kM (q_sA r4.1 14 (upd (r4.1.1 14) 12 a1)) c n))) 7 (fun _ _ => rfl) ?_
      refine q_RT_call (v := none) (h2 := (q_kM (dz_M205_64 (q_sA r4.1 14 (upd (r4.1.1 14) 12 a1))) c n)) rfl rfl ((dzt_M205_64 (q_sA r4.1 14 (upd (r4.1.1 14) 12 a1)) c n).le (Nat.le_of_ble_eq_true rfl)) ?_
      generalize dz_M205_64 (q_sA r4.1 14 (upd (r4.1.1 14) 12 a1)) = r5
      refine q_RT_let ?_
      show q_RT _ _ _ (44, [(2, .int ((r4.1.1 14) 12)), (0, .ref 64), (1, .int a1)], [], (q_kM r5 c n)) _ _
      refine q_RT_seg (g2 := (45, [(2, .int ((r4.1.1 14) 12)), (0, .ref 64), (1, .int a1)], [.int ((r4.1.1 14) 12)], (q_kM r5 c n))) 1 (fun _ _ => rfl) ?_
      exact q_RT_ret rfl rfl rfl
def dz_M301_64_56 (s : q_S) (v1 : Int32) : Option (q_S × Int32) :=
  cond (q_in ((s.1 14) 13) 40) (q_let (dz_M205_64 (q_sA (q_sA s 8 (upd (s.1 8) (((s.1 14) 13).toNatClampNeg) v1)) 14 (upd (s.1 14) 13 (((s.1 14) 13) + 1)))) fun r7 => some (r7, ((r7.1 14) 13))) none
set_option maxHeartbeats 4000000 in
theorem dzt_M301_64_56 (c n : Nat) (s : q_S) (v1 : Int32) : q_RP q_TB0 1 300 (56, [(0, .ref 64), (1, .int v1)], [], (q_kM s c n)) (q_oIM c n) (dz_M301_64_56 s v1) := by
  unfold dz_M301_64_56
  refine q_RP_seg (g2 := (67, [(0, .ref 64), (1, .int v1)], [.int ((s.1 14) 13), .ref 72], (q_kM s c n))) 6 (fun _ _ => rfl) ?_
  refine q_RP_seg (g2 := (68, [(0, .ref 64), (1, .int v1)], [.int v1, .int ((s.1 14) 13), .ref 72], (q_kM s c n))) 1 (fun _ _ => rfl) ?_
  refine q_RP_as fun i9 => ?_
  refine q_RP_rsT (g2 := (69, [(0, .ref 64), (1, .int v1)], [], (q_kM (q_sA s 8 (upd (s.1 8) (((s.1 14) 13).toNatClampNeg) v1)) c n))) rfl q_wM8 i9 ?_
  refine q_RP_seg (g2 := (77, [(0, .ref 64), (1, .int v1)], [.int ((s.1 14) 13), .int 13, .ref 78], (q_kM (q_sA s 8 (upd (s.1 8) (((s.1 14) 13).toNatClampNeg) v1)) c n))) 5 (fun _ _ => rfl) ?_
  refine q_RP_seg (g2 := (81, [(0, .ref 64), (1, .int v1)], [.ref 64], (q_kM (q_sA (q_sA s 8 (upd (s.1 8) (((s.1 14) 13).toNatClampNeg) v1)) 14 (upd (s.1 14) 13 (((s.1 14) 13) + 1))) c n))) 4 (fun _ _ => rfl) ?_
  refine q_RP_call (v := none) (h2 := (q_kM (dz_M205_64 (q_sA (q_sA s 8 (upd (s.1 8) (((s.1 14) 13).toNatClampNeg) v1)) 14 (upd (s.1 14) 13 (((s.1 14) 13) + 1)))) c n)) rfl rfl ((dzt_M205_64 (q_sA (q_sA s 8 (upd (s.1 8) (((s.1 14) 13).toNatClampNeg) v1)) 14 (upd (s.1 14) 13 (((s.1 14) 13) + 1))) c n).le (Nat.le_of_ble_eq_true rfl)) ?_
  generalize dz_M205_64 (q_sA (q_sA s 8 (upd (s.1 8) (((s.1 14) 13).toNatClampNeg) v1)) 14 (upd (s.1 14) 13 (((s.1 14) 13) + 1))) = r7
  refine q_RP_let ?_
  show q_RP _ _ _ (84, [(0, .ref 64), (1, .int v1)], [], (q_kM r7 c n)) _ _
  refine q_RP_seg (g2 := (91, [(0, .ref 64), (1, .int v1)], [.int ((r7.1 14) 13)], (q_kM r7 c n))) 4 (fun _ _ => rfl) ?_
  exact q_RP_ret rfl rfl rfl
def dz_M301_64 (s : q_S) (a1 : Int32) : Option (q_S × Int32) :=
  q_let (dz_M202 s a1 1 999) fun r4 => cond r4 (cond (decide ((s.1 14) 13 = 40)) (q_let (dz_M200_64 s 2) fun r5 => cond r5.2 (some (r5.1, 0)) (q_let (dz_M209_64 r5.1) fun r6 => cond r6 (dz_M301_64_56 r5.1 a1) (dz_M301_64_56 (q_sA r5.1 14 (upd (r5.1.1 14) 15 a1)) a1))) (q_let (dz_M200_64 s 0) fun r8 => cond r8.2 (some (r8.1, 0)) (q_let (dz_M209_64 r8.1) fun r9 => cond r9 (dz_M301_64_56 r8.1 a1) (dz_M301_64_56 (q_sA r8.1 14 (upd (r8.1.1 14) 15 a1)) a1)))) (q_let (dz_M200_64 s 1) fun r10 => cond r10.2 (some (r10.1, 0)) (q_let (dz_M209_64 r10.1) fun r11 => cond r11 (dz_M301_64_56 r10.1 a1) (dz_M301_64_56 (q_sA r10.1 14 (upd (r10.1.1 14) 15 a1)) a1)))
set_option maxHeartbeats 4000000 in
theorem dzt_M301_64 (s : q_S) (c n : Nat) (a1 : Int32) (x : q_S × Int32) (h : dz_M301_64 s a1 = some x) : q_Ca q_TB0 2 300 [.ref 64, .int a1] (q_kM s c n) ((q_oIM c n) x) := by
  refine q_CaP_of (φ := (q_oIM c n)) (Nat.le_of_ble_eq_true rfl) ?_ h
  clear h
  unfold dz_M301_64
  refine q_RP_seg (g2 := (6, [(0, .ref 64), (1, .int a1)], [.int 999, .int 1, .int a1, .ref 64], (q_kM s c n))) 4 (fun _ _ => rfl) ?_
  refine q_RP_call (v := (some (.int (q_b (dz_M202 s a1 1 999))))) (h2 := (q_kM s c n)) rfl rfl ((dzt_M202 s c n a1 1 999).le (Nat.le_of_ble_eq_true rfl)) ?_
  generalize dz_M202 s a1 1 999 = r4
  refine q_RP_let ?_
  show q_RP _ _ _ (9, [(0, .ref 64), (1, .int a1)], [.int (q_b r4), .ref 64], (q_kM s c n)) _ _
  cases h5 : r4 with
  | true =>
    refine q_RP_cT ?_
    show q_RP _ _ _ (9, [(0, .ref 64), (1, .int a1)], [.int 1, .ref 64], (q_kM s c n)) _ _
    refine q_RP_seg (g2 := (23, [(0, .ref 64), (1, .int a1)], [.int ((s.1 14) 13), .ref 64], (q_kM s c n))) 5 (fun _ _ => rfl) ?_
    refine q_RP_seg (g2 := (25, [(0, .ref 64), (1, .int a1)], [.int 40, .int ((s.1 14) 13), .ref 64], (q_kM s c n))) 1 (fun _ _ => rfl) ?_
    cases h6 : decide ((s.1 14) 13 = 40) with
    | true =>
      refine q_RP_cT ?_
      refine q_RP_rsF (g2 := (28, [(0, .ref 64), (1, .int a1)], [.ref 64], (q_kM s c n))) rfl rfl (q_d_neT h6) ?_
      refine q_RP_seg (g2 := (33, [(0, .ref 64), (1, .int a1)], [.int 2, .ref 64], (q_kM s c n))) 2 (fun _ _ => rfl) ?_
      refine q_RP_call (v := (some (.int (q_b (dz_M200_64 s 2).2)))) (h2 := (q_kM (dz_M200_64 s 2).1 c n)) rfl rfl ((dzt_M200_64 s c n 2).le (Nat.le_of_ble_eq_true rfl)) ?_
      generalize dz_M200_64 s 2 = r5
      refine q_RP_let ?_
      show q_RP _ _ _ (36, [(0, .ref 64), (1, .int a1)], [.int (q_b r5.2)], (q_kM r5.1 c n)) _ _
      cases h7 : r5.2 with
      | true =>
        refine q_RP_cT ?_
        show q_RP _ _ _ (36, [(0, .ref 64), (1, .int a1)], [.int 1], (q_kM r5.1 c n)) _ _
        refine q_RP_seg (g2 := (40, [(0, .ref 64), (1, .int a1)], [.int 0], (q_kM r5.1 c n))) 2 (fun _ _ => rfl) ?_
        exact q_RP_ret rfl rfl rfl
      | false =>
        refine q_RP_cF ?_
        show q_RP _ _ _ (36, [(0, .ref 64), (1, .int a1)], [.int 0], (q_kM r5.1 c n)) _ _
        refine q_RP_seg (g2 := (42, [(0, .ref 64), (1, .int a1)], [.ref 64], (q_kM r5.1 c n))) 2 (fun _ _ => rfl) ?_
        refine q_RP_call (v := (some (.int (q_b (dz_M209_64 r5.1))))) (h2 := (q_kM r5.1 c n)) rfl rfl ((dzt_M209_64 r5.1 c n).le (Nat.le_of_ble_eq_true rfl)) ?_
        generalize dz_M209_64 r5.1 = r6
        refine q_RP_let ?_
        show q_RP _ _ _ (45, [(0, .ref 64), (1, .int a1)], [.int (q_b r6)], (q_kM r5.1 c n)) _ _
        cases h8 : r6 with
        | true =>
          refine q_RP_cT ?_
          show q_RP _ _ _ (45, [(0, .ref 64), (1, .int a1)], [.int 1], (q_kM r5.1 c n)) _ _
          refine q_RP_seg (g2 := (56, [(0, .ref 64), (1, .int a1)], [], (q_kM r5.1 c n))) 1 (fun _ _ => rfl) ?_
          exact (dzt_M301_64_56 c n r5.1 a1)
        | false =>
          refine q_RP_cF ?_
          show q_RP _ _ _ (45, [(0, .ref 64), (1, .int a1)], [.int 0], (q_kM r5.1 c n)) _ _
          refine q_RP_seg (g2 := (56, [(0, .ref 64), (1, .int a1)], [], (q_kM (q_sA r5.1 14 (upd (r5.1.1 14) 15 a1)) c n))) 6 (fun _ _ => rfl) ?_
          exact (dzt_M301_64_56 c n (q_sA r5.1 14 (upd (r5.1.1 14) 15 a1)) a1)
    | false =>
      refine q_RP_cF ?_
      refine q_RP_rsT (g2 := (32, [(0, .ref 64), (1, .int a1)], [.ref 64], (q_kM s c n))) rfl rfl (q_d_neF h6) ?_
      refine q_RP_seg (g2 := (33, [(0, .ref 64), (1, .int a1)], [.int 0, .ref 64], (q_kM s c n))) 1 (fun _ _ => rfl) ?_
      refine q_RP_call (v := (some (.int (q_b (dz_M200_64 s 0).2)))) (h2 := (q_kM (dz_M200_64 s 0).1 c n)) rfl rfl ((dzt_M200_64 s c n 0).le (Nat.le_of_ble_eq_true rfl)) ?_
      generalize dz_M200_64 s 0 = r8
      refine q_RP_let ?_
      show q_RP _ _ _ (36, [(0, .ref 64), (1, .int a1)], [.int (q_b r8.2)], (q_kM r8.1 c n)) _ _
      cases h10 : r8.2 with
      | true =>
        refine q_RP_cT ?_
        show q_RP _ _ _ (36, [(0, .ref 64), (1, .int a1)], [.int 1], (q_kM r8.1 c n)) _ _
        refine q_RP_seg (g2 := (40, [(0, .ref 64), (1, .int a1)], [.int 0], (q_kM r8.1 c n))) 2 (fun _ _ => rfl) ?_
        exact q_RP_ret rfl rfl rfl
      | false =>
        refine q_RP_cF ?_
        show q_RP _ _ _ (36, [(0, .ref 64), (1, .int a1)], [.int 0], (q_kM r8.1 c n)) _ _
        refine q_RP_seg (g2 := (42, [(0, .ref 64), (1, .int a1)], [.ref 64], (q_kM r8.1 c n))) 2 (fun _ _ => rfl) ?_
        refine q_RP_call (v := (some (.int (q_b (dz_M209_64 r8.1))))) (h2 := (q_kM r8.1 c n)) rfl rfl ((dzt_M209_64 r8.1 c n).le (Nat.le_of_ble_eq_true rfl)) ?_
        generalize dz_M209_64 r8.1 = r9
        refine q_RP_let ?_
        show q_RP _ _ _ (45, [(0, .ref 64), (1, .int a1)], [.int (q_b r9)], (q_kM r8.1 c n)) _ _
        cases h11 : r9 with
        | true =>
          refine q_RP_cT ?_
          show q_RP _ _ _ (45, [(0, .ref 64), (1, .int a1)], [.int 1], (q_kM r8.1 c n)) _ _
          refine q_RP_seg (g2 := (56, [(0, .ref 64), (1, .int a1)], [], (q_kM r8.1 c n))) 1 (fun _ _ => rfl) ?_
          exact (dzt_M301_64_56 c n r8.1 a1)
        | false =>
          refine q_RP_cF ?_
          show q_RP _ _ _ (45, [(0, .ref 64), (1, .int a1)], [.int 0], (q_kM r8.1 c n)) _ _
          refine q_RP_seg (g2 := (56, [(0, .ref 64), (1, .int a1)], [], (q_kM (q_sA r8.1 14 (upd (r8.1.1 14) 15 a1)) c n))) 6 (fun _ _ => rfl) ?_
          exact (dzt_M301_64_56 c n (q_sA r8.1 14 (upd (r8.1.1 14) 15 a1)) a1)
  | false =>
    refine q_RP_cF ?_
    show q_RP _ _ _ (9, [(0, .ref 64), (1, .int a1)], [.int 0, .ref 64], (q_kM s c n)) _ _
    refine q_RP_seg (g2 := (33, [(0, .ref 64), (1, .int a1)], [.int 1, .ref 64], (q_kM s c n))) 3 (fun _ _ => rfl) ?_
    refine q_RP_call (v := (some (.int (q_b (dz_M200_64 s 1).2)))) (h2 := (q_kM (dz_M200_64 s 1).1 c n)) rfl rfl ((dzt_M200_64 s c n 1).le (Nat.le_of_ble_eq_true rfl)) ?_
    generalize dz_M200_64 s 1 = r10
    refine q_RP_let ?_
    show q_RP _ _ _ (36, [(0, .ref 64), (1, .int a1)], [.int (q_b r10.2)], (q_kM r10.1 c n)) _ _
    cases h12 : r10.2 with
    | true =>
      refine q_RP_cT ?_
      show q_RP _ _ _ (36, [(0, .ref 64), (1, .int a1)], [.int 1], (q_kM r10.1 c n)) _ _
      refine q_RP_seg (g2 := (40, [(0, .ref 64), (1, .int a1)], [.int 0], (q_kM r10.1 c n))) 2 (fun _ _ => rfl) ?_
      exact q_RP_ret rfl rfl rfl
    | false =>
      refine q_RP_cF ?_
      show q_RP _ _ _ (36, [(0, .ref 64), (1, .int a1)], [.int 0], (q_kM r10.1 c n)) _ _
      refine q_RP_seg (g2 := (42, [(0, .ref 64), (1, .int a1)], [.ref 64], (q_kM r10.1 c n))) 2 (fun _ _ => rfl) ?_
      refine q_RP_call (v := (some (.int (q_b (dz_M209_64 r10.1))))) (h2 := (q_kM r10.1 c n)) rfl rfl ((dzt_M209_64 r10.1 c n).le (Nat.le_of_ble_eq_true rfl)) ?_
      generalize dz_M209_64 r10.1 = r11
      refine q_RP_let ?_
      show q_RP _ _ _ (45, [(0, .ref 64), (1, .int a1)], [.int (q_b r11)], (q_kM r10.1 c n)) _ _
      cases h13 : r11 with
      | true =>
        refine q_RP_cT ?_
        show q_RP _ _ _ (45, [(0, .ref 64), (1, .int a1)], [.int 1], (q_kM r10.1 c n)) _ _
        refine q_RP_seg (g2 := (56, [(0, .ref 64), (1, .int a1)], [], (q_kM r10.1 c n))) 1 (fun _ _ => rfl) ?_
        exact (dzt_M301_64_56 c n r10.1 a1)
      | false =>
        refine q_RP_cF ?_
        show q_RP _ _ _ (45, [(0, .ref 64), (1, .int a1)], [.int 0], (q_kM r10.1 c n)) _ _
        refine q_RP_seg (g2 := (56, [(0, .ref 64), (1, .int a1)], [], (q_kM (q_sA r10.1 14 (upd (r10.1.1 14) 15 a1)) c n))) 6 (fun _ _ => rfl) ?_
        exact (dzt_M301_64_56 c n (q_sA r10.1 14 (upd (r10.1.1 14) 15 a1)) a1)
def dz_M302_64 (s : q_S) : q_S × Int32 :=
  q_let (dz_M209_64 (q_sA (q_sI s 0 39 0) 14 (upd (s.1 14) 14 0))) fun r1 => cond r1 (q_let ((q_sA (q_sI s 0 39 0) 14 (upd (s.1 14) 14 0))) fun r2 => q_let (dz_M205_64 (q_sA r2 14 (upd (r2.1 14) 15 ((s.1 8) 0)))) fun r3 => (r3, ((s.1 14) 14))) (q_let ((q_sA (q_sI s 0 39 0) 14 (upd (s.1 14) 14 0))) fun r4 => q_let (dz_M205_64 (q_sA r4 14 (upd (r4.1 14) 15 0))) fun r5 => (r5, ((s.1 14) 14)))
set_option maxHeartbeats 4000000 in
theorem dzt_M302_64 (s : q_S) (c n : Nat) : q_Ca q_TB0 2 301 [.ref 64] (q_kM s c n) ((q_oIM c n) (dz_M302_64 s)) := by
  refine q_CaT_of (φ := (q_oIM c n)) (Nat.le_of_ble_eq_true rfl) ?_
  unfold dz_M302_64
  refine q_RT_seg (g2 := (12, [(0, .ref 64)], [.int ((s.1 14) 14)], (q_kM (q_sI s 0 39 0) c n))) 7 (fun _ _ => rfl) ?_
  refine q_RT_seg (g2 := (28, [(1, .int ((s.1 14) 14)), (0, .ref 64)], [.ref 64, .int 15, .ref 78], (q_kM (q_sA (q_sI s 0 39 0) 14 (upd (s.1 14) 14 0)) c n))) 10 (fun _ _ => rfl) ?_
  refine q_RT_call (v := (some (.int (q_b (dz_M209_64 (q_sA (q_sI s 0 39 0) 14 (upd (s.1 14) 14 0))))))) (h2 := (q_kM (q_sA (q_sI s 0 39 0) 14 (upd (s.1 14) 14 0)) c n)) rfl rfl ((dzt_M209_64 (q_sA (q_sI s 0 39 0) 14 (upd (s.1 14) 14 0)) c n).le (Nat.le_of_ble_eq_true rfl)) ?_
  generalize dz_M209_64 (q_sA (q_sI s 0 39 0) 14 (upd (s.1 14) 14 0)) = r1
  refine q_RT_let ?_
  show q_RT _ _ _ (31, [(1, .int ((s.1 14) 14)), (0, .ref 64)], [.int (q_b r1), .int 15, .ref 78], (q_kM (q_sA (q_sI s 0 39 0) 14 (upd (s.1 14) 14 0)) c n)) _ _
  cases h1 : r1 with
  | true =>
    refine q_RT_cT ?_
    show q_RT _ _ _ (31, [(1, .int ((s.1 14) 14)), (0, .ref 64)], [.int 1, .int 15, .ref 78], (q_kM (q_sA (q_sI s 0 39 0) 14 (upd (s.1 14) 14 0)) c n)) _ _
    refine q_RT_seg (g2 := (40, [(1, .int ((s.1 14) 14)), (0, .ref 64)], [.int ((s.1 8) 0), .int 15, .ref 78], (q_kM (q_sA (q_sI s 0 39 0) 14 (upd (s.1 14) 14 0)) c n))) 5 (fun _ _ => rfl) ?_
    refine q_RT_seg (g2 := (44, [(1, .int ((s.1 14) 14)), (0, .ref 64)], [.int ((s.1 8) 0), .int 15, .ref 78], (q_kM (q_sA (q_sI s 0 39 0) 14 (upd (s.1 14) 14 0)) c n))) 1 (fun _ _ => rfl) ?_
    generalize (q_sA (q_sI s 0 39 0) 14 (upd (s.1 14) 14 0)) = r2
    refine q_RT_let ?_
    show q_RT _ _ _ (44, [(1, .int ((s.1 14) 14)), (0, .ref 64)], [.int ((s.1 8) 0), .int 15, .ref 78], (q_kM r2 c n)) _ _
    refine q_RT_seg (g2 := (46, [(1, .int ((s.1 14) 14)), (0, .ref 64)], [.ref 64], (q_kM (q_sA r2 14 (upd (r2.1 14) 15 ((s.1 8) 0))) c n))) 2 (fun _ _ => rfl) ?_
    refine q_RT_call (v := none) (h2 := (q_kM (dz_M205_64 (q_sA r2 14 (upd (r2.1 14) 15 ((s.1 8) 0)))) c n)) rfl rfl ((dzt_M205_64 (q_sA r2 14 (upd (r2.1 14) 15 ((s.1 8) 0))) c n).le (Nat.le_of_ble_eq_true rfl)) ?_
    generalize dz_M205_64 (q_sA r2 14 (upd (r2.1 14) 15 ((s.1 8) 0))) = r3
    refine q_RT_let ?_
    show q_RT _ _ _ (49, [(1, .int ((s.1 14) 14)), (0, .ref 64)], [], (q_kM r3 c n)) _ _
    refine q_RT_seg (g2 := (50, [(1, .int ((s.1 14) 14)), (0, .ref 64)], [.int ((s.1 14) 14)], (q_kM r3 c n))) 1 (fun _ _ => rfl) ?_
    exact q_RT_ret rfl rfl rfl
  | false =>
    refine q_RT_cF ?_
    show q_RT _ _ _ (31, [(1, .int ((s.1 14) 14)), (0, .ref 64)], [.int 0, .int 15, .ref 78], (q_kM (q_sA (q_sI s 0 39 0) 14 (upd (s.1 14) 14 0)) c n)) _ _
    refine q_RT_seg (g2 := (44, [(1, .int ((s.1 14) 14)), (0, .ref 64)], [.int 0, .int 15, .ref 78], (q_kM (q_sA (q_sI s 0 39 0) 14 (upd (s.1 14) 14 0)) c n))) 2 (fun _ _ => rfl) ?_
    generalize (q_sA (q_sI s 0 39 0) 14 (upd (s.1 14) 14 0)) = r4
    refine q_RT_let ?_
    show q_RT _ _ _ (44, [(1, .int ((s.1 14) 14)), (0, .ref 64)], [.int 0, .int 15, .ref 78], (q_kM r4 c n)) _ _
    refine q_RT_seg (g2 := (46, [(1, .int ((s.1 14) 14)), (0, .ref 64)], [.ref 64], (q_kM (q_sA r4 14 (upd (r4.1 14) 15 0)) c n))) 2 (fun _ _ => rfl) ?_
    refine q_RT_call (v := none) (h2 := (q_kM (dz_M205_64 (q_sA r4 14 (upd (r4.1 14) 15 0))) c n)) rfl rfl ((dzt_M205_64 (q_sA r4 14 (upd (r4.1 14) 15 0)) c n).le (Nat.le_of_ble_eq_true rfl)) ?_
    generalize dz_M205_64 (q_sA r4 14 (upd (r4.1 14) 15 0)) = r5
    refine q_RT_let ?_
    show q_RT _ _ _ (49, [(1, .int ((s.1 14) 14)), (0, .ref 64)], [], (q_kM r5 c n)) _ _
    refine q_RT_seg (g2 := (50, [(1, .int ((s.1 14) 14)), (0, .ref 64)], [.int ((s.1 14) 14)], (q_kM r5 c n))) 1 (fun _ _ => rfl) ?_
    exact q_RT_ret rfl rfl rfl
def dz_M303_64 (s : q_S) : q_S × Int32 :=
  q_let (dz_M201_64 s (((s.1 14) 13) - ((s.1 14) 14))) fun r1 => (r1.1, r1.2)
set_option maxHeartbeats 4000000 in
theorem dzt_M303_64 (s : q_S) (c n : Nat) : q_Ca q_TB0 2 302 [.ref 64] (q_kM s c n) ((q_oIM c n) (dz_M303_64 s)) := by
  refine q_CaT_of (φ := (q_oIM c n)) (Nat.le_of_ble_eq_true rfl) ?_
  unfold dz_M303_64
  refine q_RT_seg (g2 := (8, [(0, .ref 64)], [.int ((s.1 14) 13), .ref 64], (q_kM s c n))) 5 (fun _ _ => rfl) ?_
  refine q_RT_seg (g2 := (15, [(0, .ref 64)], [.int ((s.1 14) 14), .int ((s.1 14) 13), .ref 64], (q_kM s c n))) 4 (fun _ _ => rfl) ?_
  refine q_RT_seg (g2 := (16, [(0, .ref 64)], [.int (((s.1 14) 13) - ((s.1 14) 14)), .ref 64], (q_kM s c n))) 1 (fun _ _ => rfl) ?_
  refine q_RT_call (v := (some (.int (dz_M201_64 s (((s.1 14) 13) - ((s.1 14) 14))).2))) (h2 := (q_kM (dz_M201_64 s (((s.1 14) 13) - ((s.1 14) 14))).1 c n)) rfl rfl ((dzt_M201_64 s c n (((s.1 14) 13) - ((s.1 14) 14))).le (Nat.le_of_ble_eq_true rfl)) ?_
  generalize dz_M201_64 s (((s.1 14) 13) - ((s.1 14) 14)) = r1
  refine q_RT_let ?_
  show q_RT _ _ _ (19, [(0, .ref 64)], [.int r1.2], (q_kM r1.1 c n)) _ _
  exact q_RT_ret rfl rfl rfl
def dz_M304_65_80_3 (m : Nat) : q_S → Int32 → Int32 → Int32 → Int32 → Option (q_S) := Nat.rec (motive := fun _ => q_S → Int32 → Int32 → Int32 → Int32 → Option (q_S)) (fun _ _ _ _ _ => none) (fun _ k3 s v1 v3 v4 v5 =>
  cond (decide (v5 < v4)) (cond (q_in (v1 + v5) 4096) (cond (q_in (v3 + v5) 12288) (k3 (q_sA s 16 (upd (s.1 16) ((v3 + v5).toNatClampNeg) ((s.1 1) ((v1 + v5).toNatClampNeg)))) v1 v3 v4 (v5 + 1)) none) none) (some s)) m
theorem dzs_M304_65_80_3 (m : Nat) (s : q_S) (v1 : Int32) (v3 : Int32) (v4 : Int32) (v5 : Int32) : dz_M304_65_80_3 (m + 1) s v1 v3 v4 v5 = (fun k3 : q_S → Int32 → Int32 → Int32 → Int32 → Option (q_S) =>
  cond (decide (v5 < v4)) (cond (q_in (v1 + v5) 4096) (cond (q_in (v3 + v5) 12288) (k3 (q_sA s 16 (upd (s.1 16) ((v3 + v5).toNatClampNeg) ((s.1 1) ((v1 + v5).toNatClampNeg)))) v1 v3 v4 (v5 + 1)) none) none) (some s)) (dz_M304_65_80_3 m) := rfl
set_option maxHeartbeats 4000000 in
theorem dzt_M304_65_80_3 (c n : Nat) : ∀ (m : Nat) (s : q_S) (v1 : Int32) (v3 : Int32) (v4 : Int32) (v5 : Int32), q_RP q_TB0 0 303 (3, [(0, .ref 65), (1, .int v1), (2, .ref 80), (3, .int v3), (4, .int v4), (5, .int v5)], [], (q_kM s c n)) (q_oSM c n) (dz_M304_65_80_3 m s v1 v3 v4 v5) := by
  intro m
  induction m with
  | zero => intro s v1 v3 v4 v5; exact q_RP_no
  | succ m ih =>
    intro s v1 v3 v4 v5
    have hk3 := ih
    clear ih
    rw [dzs_M304_65_80_3]
    generalize dz_M304_65_80_3 m = k3 at hk3 ⊢
    dsimp only
    refine q_RP_seg (g2 := (7, [(0, .ref 65), (1, .int v1), (2, .ref 80), (3, .int v3), (4, .int v4), (5, .int v5)], [.int v4, .int v5], (q_kM s c n))) 2 (fun _ _ => rfl) ?_
    cases h1 : decide (v5 < v4) with
    | true =>
      refine q_RP_cT ?_
      refine q_RP_rsF (g2 := (10, [(0, .ref 65), (1, .int v1), (2, .ref 80), (3, .int v3), (4, .int v4), (5, .int v5)], [], (q_kM s c n))) rfl rfl (q_d_geT h1) ?_
      refine q_RP_seg (g2 := (20, [(0, .ref 65), (1, .int v1), (2, .ref 80), (3, .int v3), (4, .int v4), (5, .int v5)], [.int (v1 + v5), .ref 65, .int (v3 + v5), .ref 80], (q_kM s c n))) 8 (fun _ _ => rfl) ?_
      refine q_RP_as fun i2 => ?_
      refine q_RP_rsT (g2 := (21, [(0, .ref 65), (1, .int v1), (2, .ref 80), (3, .int v3), (4, .int v4), (5, .int v5)], [.int ((s.1 1) ((v1 + v5).toNatClampNeg)), .int (v3 + v5), .ref 80], (q_kM s c n))) rfl rfl i2 ?_
      refine q_RP_as fun i3 => ?_
      refine q_RP_rsT (g2 := (22, [(0, .ref 65), (1, .int v1), (2, .ref 80), (3, .int v3), (4, .int v4), (5, .int v5)], [], (q_kM (q_sA s 16 (upd (s.1 16) ((v3 + v5).toNatClampNeg) ((s.1 1) ((v1 + v5).toNatClampNeg)))) c n))) rfl q_wM16 i3 ?_
      refine q_RP_seg (g2 := (3, [(5, .int (v5 + 1)), (0, .ref 65), (1, .int v1), (2, .ref 80), (3, .int v3), (4, .int v4)], [], (q_kM (q_sA s 16 (upd (s.1 16) ((v3 + v5).toNatClampNeg) ((s.1 1) ((v1 + v5).toNatClampNeg)))) c n))) 2 (fun _ _ => rfl) ?_
      exact q_RP_xt (q_xt_mk (q_mn1 1 rfl (q_mn1 2 rfl (q_mn1 3 rfl (q_mn1 4 rfl (q_mn1 5 rfl (q_mn1 0 rfl q_mn0)))))) rfl) (hk3 (q_sA s 16 (upd (s.1 16) ((v3 + v5).toNatClampNeg) ((s.1 1) ((v1 + v5).toNatClampNeg)))) v1 v3 v4 (v5 + 1))
    | false =>
      refine q_RP_cF ?_
      refine q_RP_rsT (g2 := (28, [(0, .ref 65), (1, .int v1), (2, .ref 80), (3, .int v3), (4, .int v4), (5, .int v5)], [], (q_kM s c n))) rfl rfl (q_d_geF h1) ?_
      exact q_RP_ret rfl rfl rfl
def dz_M304_65_80 (s : q_S) (a1 : Int32) (a3 : Int32) (a4 : Int32) : Option (q_S) :=
  dz_M304_65_80_3 5000 s a1 a3 a4 0
set_option maxHeartbeats 4000000 in
theorem dzt_M304_65_80 (s : q_S) (c n : Nat) (a1 : Int32) (a3 : Int32) (a4 : Int32) (x : q_S) (h : dz_M304_65_80 s a1 a3 a4 = some x) : q_Ca q_TB0 1 303 [.ref 65, .int a1, .ref 80, .int a3, .int a4] (q_kM s c n) ((q_oSM c n) x) := by
  refine q_CaP_of (φ := (q_oSM c n)) (Nat.le_of_ble_eq_true rfl) ?_ h
  clear h
  unfold dz_M304_65_80
  refine q_RP_seg (g2 := (3, [(5, .int 0), (0, .ref 65), (1, .int a1), (2, .ref 80), (3, .int a3), (4, .int a4)], [], (q_kM s c n))) 2 (fun _ _ => rfl) ?_
  exact q_RP_xt (q_xt_mk (q_mn1 1 rfl (q_mn1 2 rfl (q_mn1 3 rfl (q_mn1 4 rfl (q_mn1 5 rfl (q_mn1 0 rfl q_mn0)))))) rfl) (dzt_M304_65_80_3 c n 5000 s a1 a3 a4 0)
def dz_M304_66_81_3 (m : Nat) : q_S → Int32 → Int32 → Int32 → Int32 → Option (q_S) := Nat.rec (motive := fun _ => q_S → Int32 → Int32 → Int32 → Int32 → Option (q_S)) (fun _ _ _ _ _ => none) (fun _ k3 s v1 v3 v4 v5 =>
  cond (decide (v5 < v4)) (cond (q_in (v1 + v5) 512) (cond (q_in (v3 + v5) 1536) (k3 (q_sA s 17 (upd (s.1 17) ((v3 + v5).toNatClampNeg) ((s.1 2) ((v1 + v5).toNatClampNeg)))) v1 v3 v4 (v5 + 1)) none) none) (some s)) m
theorem dzs_M304_66_81_3 (m : Nat) (s : q_S) (v1 : Int32) (v3 : Int32) (v4 : Int32) (v5 : Int32) : dz_M304_66_81_3 (m + 1) s v1 v3 v4 v5 = (fun k3 : q_S → Int32 → Int32 → Int32 → Int32 → Option (q_S) =>
  cond (decide (v5 < v4)) (cond (q_in (v1 + v5) 512) (cond (q_in (v3 + v5) 1536) (k3 (q_sA s 17 (upd (s.1 17) ((v3 + v5).toNatClampNeg) ((s.1 2) ((v1 + v5).toNatClampNeg)))) v1 v3 v4 (v5 + 1)) none) none) (some s)) (dz_M304_66_81_3 m) := rfl
set_option maxHeartbeats 4000000 in
theorem dzt_M304_66_81_3 (c n : Nat) : ∀ (m : Nat) (s : q_S) (v1 : Int32) (v3 : Int32) (v4 : Int32) (v5 : Int32), q_RP q_TB0 0 303 (3, [(0, .ref 66), (1, .int v1), (2, .ref 81), (3, .int v3), (4, .int v4), (5, .int v5)], [], (q_kM s c n)) (q_oSM c n) (dz_M304_66_81_3 m s v1 v3 v4 v5) := by
  intro m
  induction m with
  | zero => intro s v1 v3 v4 v5; exact q_RP_no
  | succ m ih =>
    intro s v1 v3 v4 v5
    have hk3 := ih
    clear ih
    rw [dzs_M304_66_81_3]
    generalize dz_M304_66_81_3 m = k3 at hk3 ⊢
    dsimp only
    refine q_RP_seg (g2 := (7, [(0, .ref 66), (1, .int v1), (2, .ref 81), (3, .int v3), (4, .int v4), (5, .int v5)], [.int v4, .int v5], (q_kM s c n))) 2 (fun _ _ => rfl) ?_
    cases h1 : decide (v5 < v4) with
    | true =>
      refine q_RP_cT ?_
      refine q_RP_rsF (g2 := (10, [(0, .ref 66), (1, .int v1), (2, .ref 81), (3, .int v3), (4, .int v4), (5, .int v5)], [], (q_kM s c n))) rfl rfl (q_d_geT h1) ?_
      refine q_RP_seg (g2 := (20, [(0, .ref 66), (1, .int v1), (2, .ref 81), (3, .int v3), (4, .int v4), (5, .int v5)], [.int (v1 + v5), .ref 66, .int (v3 + v5), .ref 81], (q_kM s c n))) 8 (fun _ _ => rfl) ?_
      refine q_RP_as fun i2 => ?_
      refine q_RP_rsT (g2 := (21, [(0, .ref 66), (1, .int v1), (2, .ref 81), (3, .int v3), (4, .int v4), (5, .int v5)], [.int ((s.1 2) ((v1 + v5).toNatClampNeg)), .int (v3 + v5), .ref 81], (q_kM s c n))) rfl rfl i2 ?_
      refine q_RP_as fun i3 => ?_
      refine q_RP_rsT (g2 := (22, [(0, .ref 66), (1, .int v1), (2, .ref 81), (3, .int v3), (4, .int v4), (5, .int v5)], [], (q_kM (q_sA s 17 (upd (s.1 17) ((v3 + v5).toNatClampNeg) ((s.1 2) ((v1 + v5).toNatClampNeg)))) c n))) rfl q_wM17 i3 ?_
      refine q_RP_seg (g2 := (3, [(5, .int (v5 + 1)), (0, .ref 66), (1, .int v1), (2, .ref 81), (3, .int v3), (4, .int v4)], [], (q_kM (q_sA s 17 (upd (s.1 17) ((v3 + v5).toNatClampNeg) ((s.1 2) ((v1 + v5).toNatClampNeg)))) c n))) 2 (fun _ _ => rfl) ?_
      exact q_RP_xt (q_xt_mk (q_mn1 1 rfl (q_mn1 2 rfl (q_mn1 3 rfl (q_mn1 4 rfl (q_mn1 5 rfl (q_mn1 0 rfl q_mn0)))))) rfl) (hk3 (q_sA s 17 (upd (s.1 17) ((v3 + v5).toNatClampNeg) ((s.1 2) ((v1 + v5).toNatClampNeg)))) v1 v3 v4 (v5 + 1))
    | false =>
      refine q_RP_cF ?_
      refine q_RP_rsT (g2 := (28, [(0, .ref 66), (1, .int v1), (2, .ref 81), (3, .int v3), (4, .int v4), (5, .int v5)], [], (q_kM s c n))) rfl rfl (q_d_geF h1) ?_
      exact q_RP_ret rfl rfl rfl
def dz_M304_66_81 (s : q_S) (a1 : Int32) (a3 : Int32) (a4 : Int32) : Option (q_S) :=
  dz_M304_66_81_3 5000 s a1 a3 a4 0
set_option maxHeartbeats 4000000 in
theorem dzt_M304_66_81 (s : q_S) (c n : Nat) (a1 : Int32) (a3 : Int32) (a4 : Int32) (x : q_S) (h : dz_M304_66_81 s a1 a3 a4 = some x) : q_Ca q_TB0 1 303 [.ref 66, .int a1, .ref 81, .int a3, .int a4] (q_kM s c n) ((q_oSM c n) x) := by
  refine q_CaP_of (φ := (q_oSM c n)) (Nat.le_of_ble_eq_true rfl) ?_ h
  clear h
  unfold dz_M304_66_81
  refine q_RP_seg (g2 := (3, [(5, .int 0), (0, .ref 66), (1, .int a1), (2, .ref 81), (3, .int a3), (4, .int a4)], [], (q_kM s c n))) 2 (fun _ _ => rfl) ?_
  exact q_RP_xt (q_xt_mk (q_mn1 1 rfl (q_mn1 2 rfl (q_mn1 3 rfl (q_mn1 4 rfl (q_mn1 5 rfl (q_mn1 0 rfl q_mn0)))))) rfl) (dzt_M304_66_81_3 c n 5000 s a1 a3 a4 0)
def dz_M304_67_82_3 (m : Nat) : q_S → Int32 → Int32 → Int32 → Int32 → Option (q_S) := Nat.rec (motive := fun _ => q_S → Int32 → Int32 → Int32 → Int32 → Option (q_S)) (fun _ _ _ _ _ => none) (fun _ k3 s v1 v3 v4 v5 =>
  cond (decide (v5 < v4)) (cond (q_in (v1 + v5) 2048) (cond (q_in (v3 + v5) 6144) (k3 (q_sA s 18 (upd (s.1 18) ((v3 + v5).toNatClampNeg) ((s.1 3) ((v1 + v5).toNatClampNeg)))) v1 v3 v4 (v5 + 1)) none) none) (some s)) m
theorem dzs_M304_67_82_3 (m : Nat) (s : q_S) (v1 : Int32) (v3 : Int32) (v4 : Int32) (v5 : Int32) : dz_M304_67_82_3 (m + 1) s v1 v3 v4 v5 = (fun k3 : q_S → Int32 → Int32 → Int32 → Int32 → Option (q_S) =>
  cond (decide (v5 < v4)) (cond (q_in (v1 + v5) 2048) (cond (q_in (v3 + v5) 6144) (k3 (q_sA s 18 (upd (s.1 18) ((v3 + v5).toNatClampNeg) ((s.1 3) ((v1 + v5).toNatClampNeg)))) v1 v3 v4 (v5 + 1)) none) none) (some s)) (dz_M304_67_82_3 m) := rfl
set_option maxHeartbeats 4000000 in
theorem dzt_M304_67_82_3 (c n : Nat) : ∀ (m : Nat) (s : q_S) (v1 : Int32) (v3 : Int32) (v4 : Int32) (v5 : Int32), q_RP q_TB0 0 303 (3, [(0, .ref 67), (1, .int v1), (2, .ref 82), (3, .int v3), (4, .int v4), (5, .int v5)], [], (q_kM s c n)) (q_oSM c n) (dz_M304_67_82_3 m s v1 v3 v4 v5) := by
  intro m
  induction m with
  | zero => intro s v1 v3 v4 v5; exact q_RP_no
  | succ m ih =>
    intro s v1 v3 v4 v5
    have hk3 := ih
    clear ih
    rw [dzs_M304_67_82_3]
    generalize dz_M304_67_82_3 m = k3 at hk3 ⊢
    dsimp only
    refine q_RP_seg (g2 := (7, [(0, .ref 67), (1, .int v1), (2, .ref 82), (3, .int v3), (4, .int v4), (5, .int v5)], [.int v4, .int v5], (q_kM s c n))) 2 (fun _ _ => rfl) ?_
    cases h1 : decide (v5 < v4) with
    | true =>
      refine q_RP_cT ?_
      refine q_RP_rsF (g2 := (10, [(0, .ref 67), (1, .int v1), (2, .ref 82), (3, .int v3), (4, .int v4), (5, .int v5)], [], (q_kM s c n))) rfl rfl (q_d_geT h1) ?_
      refine q_RP_seg (g2 := (20, [(0, .ref 67), (1, .int v1), (2, .ref 82), (3, .int v3), (4, .int v4), (5, .int v5)], [.int (v1 + v5), .ref 67, .int (v3 + v5), .ref 82], (q_kM s c n))) 8 (fun _ _ => rfl) ?_
      refine q_RP_as fun i2 => ?_
      refine q_RP_rsT (g2 := (21, [(0, .ref 67), (1, .int v1), (2, .ref 82), (3, .int v3), (4, .int v4), (5, .int v5)], [.int ((s.1 3) ((v1 + v5).toNatClampNeg)), .int (v3 + v5), .ref 82], (q_kM s c n))) rfl rfl i2 ?_
      refine q_RP_as fun i3 => ?_
      refine q_RP_rsT (g2 := (22, [(0, .ref 67), (1, .int v1), (2, .ref 82), (3, .int v3), (4, .int v4), (5, .int v5)], [], (q_kM (q_sA s 18 (upd (s.1 18) ((v3 + v5).toNatClampNeg) ((s.1 3) ((v1 + v5).toNatClampNeg)))) c n))) rfl q_wM18 i3 ?_
      refine q_RP_seg (g2 := (3, [(5, .int (v5 + 1)), (0, .ref 67), (1, .int v1), (2, .ref 82), (3, .int v3), (4, .int v4)], [], (q_kM (q_sA s 18 (upd (s.1 18) ((v3 + v5).toNatClampNeg) ((s.1 3) ((v1 + v5).toNatClampNeg)))) c n))) 2 (fun _ _ => rfl) ?_
      exact q_RP_xt (q_xt_mk (q_mn1 1 rfl (q_mn1 2 rfl (q_mn1 3 rfl (q_mn1 4 rfl (q_mn1 5 rfl (q_mn1 0 rfl q_mn0)))))) rfl) (hk3 (q_sA s 18 (upd (s.1 18) ((v3 + v5).toNatClampNeg) ((s.1 3) ((v1 + v5).toNatClampNeg)))) v1 v3 v4 (v5 + 1))
    | false =>
      refine q_RP_cF ?_
      refine q_RP_rsT (g2 := (28, [(0, .ref 67), (1, .int v1), (2, .ref 82), (3, .int v3), (4, .int v4), (5, .int v5)], [], (q_kM s c n))) rfl rfl (q_d_geF h1) ?_
      exact q_RP_ret rfl rfl rfl
def dz_M304_67_82 (s : q_S) (a1 : Int32) (a3 : Int32) (a4 : Int32) : Option (q_S) :=
  dz_M304_67_82_3 5000 s a1 a3 a4 0
set_option maxHeartbeats 4000000 in
theorem dzt_M304_67_82 (s : q_S) (c n : Nat) (a1 : Int32) (a3 : Int32) (a4 : Int32) (x : q_S) (h : dz_M304_67_82 s a1 a3 a4 = some x) : q_Ca q_TB0 1 303 [.ref 67, .int a1, .ref 82, .int a3, .int a4] (q_kM s c n) ((q_oSM c n) x) := by
  refine q_CaP_of (φ := (q_oSM c n)) (Nat.le_of_ble_eq_true rfl) ?_ h
  clear h
  unfold dz_M304_67_82
  refine q_RP_seg (g2 := (3, [(5, .int 0), (0, .ref 67), (1, .int a1), (2, .ref 82), (3, .int a3), (4, .int a4)], [], (q_kM s c n))) 2 (fun _ _ => rfl) ?_
  exact q_RP_xt (q_xt_mk (q_mn1 1 rfl (q_mn1 2 rfl (q_mn1 3 rfl (q_mn1 4 rfl (q_mn1 5 rfl (q_mn1 0 rfl q_mn0)))))) rfl) (dzt_M304_67_82_3 c n 5000 s a1 a3 a4 0)
def dz_M304_68_83_3 (m : Nat) : q_S → Int32 → Int32 → Int32 → Int32 → Option (q_S) := Nat.rec (motive := fun _ => q_S → Int32 → Int32 → Int32 → Int32 → Option (q_S)) (fun _ _ _ _ _ => none) (fun _ k3 s v1 v3 v4 v5 =>
  cond (decide (v5 < v4)) (cond (q_in (v1 + v5) 48) (cond (q_in (v3 + v5) 144) (k3 (q_sA s 19 (upd (s.1 19) ((v3 + v5).toNatClampNeg) ((s.1 4) ((v1 + v5).toNatClampNeg)))) v1 v3 v4 (v5 + 1)) none) none) (some s)) m
theorem dzs_M304_68_83_3 (m : Nat) (s : q_S) (v1 : Int32) (v3 : Int32) (v4 : Int32) (v5 : Int32) : dz_M304_68_83_3 (m + 1) s v1 v3 v4 v5 = (fun k3 : q_S → Int32 → Int32 → Int32 → Int32 → Option (q_S) =>
  cond (decide (v5 < v4)) (cond (q_in (v1 + v5) 48) (cond (q_in (v3 + v5) 144) (k3 (q_sA s 19 (upd (s.1 19) ((v3 + v5).toNatClampNeg) ((s.1 4) ((v1 + v5).toNatClampNeg)))) v1 v3 v4 (v5 + 1)) none) none) (some s)) (dz_M304_68_83_3 m) := rfl
set_option maxHeartbeats 4000000 in
theorem dzt_M304_68_83_3 (c n : Nat) : ∀ (m : Nat) (s : q_S) (v1 : Int32) (v3 : Int32) (v4 : Int32) (v5 : Int32), q_RP q_TB0 0 303 (3, [(0, .ref 68), (1, .int v1), (2, .ref 83), (3, .int v3), (4, .int v4), (5, .int v5)], [], (q_kM s c n)) (q_oSM c n) (dz_M304_68_83_3 m s v1 v3 v4 v5) := by
  intro m
  induction m with
  | zero => intro s v1 v3 v4 v5; exact q_RP_no
  | succ m ih =>
    intro s v1 v3 v4 v5
    have hk3 := ih
    clear ih
    rw [dzs_M304_68_83_3]
    generalize dz_M304_68_83_3 m = k3 at hk3 ⊢
    dsimp only
    refine q_RP_seg (g2 := (7, [(0, .ref 68), (1, .int v1), (2, .ref 83), (3, .int v3), (4, .int v4), (5, .int v5)], [.int v4, .int v5], (q_kM s c n))) 2 (fun _ _ => rfl) ?_
    cases h1 : decide (v5 < v4) with
    | true =>
      refine q_RP_cT ?_
      refine q_RP_rsF (g2 := (10, [(0, .ref 68), (1, .int v1), (2, .ref 83), (3, .int v3), (4, .int v4), (5, .int v5)], [], (q_kM s c n))) rfl rfl (q_d_geT h1) ?_
      refine q_RP_seg (g2 := (20, [(0, .ref 68), (1, .int v1), (2, .ref 83), (3, .int v3), (4, .int v4), (5, .int v5)], [.int (v1 + v5), .ref 68, .int (v3 + v5), .ref 83], (q_kM s c n))) 8 (fun _ _ => rfl) ?_
      refine q_RP_as fun i2 => ?_
      refine q_RP_rsT (g2 := (21, [(0, .ref 68), (1, .int v1), (2, .ref 83), (3, .int v3), (4, .int v4), (5, .int v5)], [.int ((s.1 4) ((v1 + v5).toNatClampNeg)), .int (v3 + v5), .ref 83], (q_kM s c n))) rfl rfl i2 ?_
      refine q_RP_as fun i3 => ?_
      refine q_RP_rsT (g2 := (22, [(0, .ref 68), (1, .int v1), (2, .ref 83), (3, .int v3), (4, .int v4), (5, .int v5)], [], (q_kM (q_sA s 19 (upd (s.1 19) ((v3 + v5).toNatClampNeg) ((s.1 4) ((v1 + v5).toNatClampNeg)))) c n))) rfl q_wM19 i3 ?_
      refine q_RP_seg (g2 := (3, [(5, .int (v5 + 1)), (0, .ref 68), (1, .int v1), (2, .ref 83), (3, .int v3), (4, .int v4)], [], (q_kM (q_sA s 19 (upd (s.1 19) ((v3 + v5).toNatClampNeg) ((s.1 4) ((v1 + v5).toNatClampNeg)))) c n))) 2 (fun _ _ => rfl) ?_
      exact q_RP_xt (q_xt_mk (q_mn1 1 rfl (q_mn1 2 rfl (q_mn1 3 rfl (q_mn1 4 rfl (q_mn1 5 rfl (q_mn1 0 rfl q_mn0)))))) rfl) (hk3 (q_sA s 19 (upd (s.1 19) ((v3 + v5).toNatClampNeg) ((s.1 4) ((v1 + v5).toNatClampNeg)))) v1 v3 v4 (v5 + 1))
    | false =>
      refine q_RP_cF ?_
      refine q_RP_rsT (g2 := (28, [(0, .ref 68), (1, .int v1), (2, .ref 83), (3, .int v3), (4, .int v4), (5, .int v5)], [], (q_kM s c n))) rfl rfl (q_d_geF h1) ?_
      exact q_RP_ret rfl rfl rfl
def dz_M304_68_83 (s : q_S) (a1 : Int32) (a3 : Int32) (a4 : Int32) : Option (q_S) :=
  dz_M304_68_83_3 5000 s a1 a3 a4 0
set_option maxHeartbeats 4000000 in
theorem dzt_M304_68_83 (s : q_S) (c n : Nat) (a1 : Int32) (a3 : Int32) (a4 : Int32) (x : q_S) (h : dz_M304_68_83 s a1 a3 a4 = some x) : q_Ca q_TB0 1 303 [.ref 68, .int a1, .ref 83, .int a3, .int a4] (q_kM s c n) ((q_oSM c n) x) := by
  refine q_CaP_of (φ := (q_oSM c n)) (Nat.le_of_ble_eq_true rfl) ?_ h
  clear h
  unfold dz_M304_68_83
  refine q_RP_seg (g2 := (3, [(5, .int 0), (0, .ref 68), (1, .int a1), (2, .ref 83), (3, .int a3), (4, .int a4)], [], (q_kM s c n))) 2 (fun _ _ => rfl) ?_
  exact q_RP_xt (q_xt_mk (q_mn1 1 rfl (q_mn1 2 rfl (q_mn1 3 rfl (q_mn1 4 rfl (q_mn1 5 rfl (q_mn1 0 rfl q_mn0)))))) rfl) (dzt_M304_68_83_3 c n 5000 s a1 a3 a4 0)
def dz_M304_69_84_3 (m : Nat) : q_S → Int32 → Int32 → Int32 → Int32 → Option (q_S) := Nat.rec (motive := fun _ => q_S → Int32 → Int32 → Int32 → Int32 → Option (q_S)) (fun _ _ _ _ _ => none) (fun _ k3 s v1 v3 v4 v5 =>
  cond (decide (v5 < v4)) (cond (q_in (v1 + v5) 1024) (cond (q_in (v3 + v5) 3072) (k3 (q_sA s 20 (upd (s.1 20) ((v3 + v5).toNatClampNeg) ((s.1 5) ((v1 + v5).toNatClampNeg)))) v1 v3 v4 (v5 + 1)) none) none) (some s)) m
theorem dzs_M304_69_84_3 (m : Nat) (s : q_S) (v1 : Int32) (v3 : Int32) (v4 : Int32) (v5 : Int32) : dz_M304_69_84_3 (m + 1) s v1 v3 v4 v5 = (fun k3 : q_S → Int32 → Int32 → Int32 → Int32 → Option (q_S) =>
  cond (decide (v5 < v4)) (cond (q_in (v1 + v5) 1024) (cond (q_in (v3 + v5) 3072) (k3 (q_sA s 20 (upd (s.1 20) ((v3 + v5).toNatClampNeg) ((s.1 5) ((v1 + v5).toNatClampNeg)))) v1 v3 v4 (v5 + 1)) none) none) (some s)) (dz_M304_69_84_3 m) := rfl
set_option maxHeartbeats 4000000 in
theorem dzt_M304_69_84_3 (c n : Nat) : ∀ (m : Nat) (s : q_S) (v1 : Int32) (v3 : Int32) (v4 : Int32) (v5 : Int32), q_RP q_TB0 0 303 (3, [(0, .ref 69), (1, .int v1), (2, .ref 84), (3, .int v3), (4, .int v4), (5, .int v5)], [], (q_kM s c n)) (q_oSM c n) (dz_M304_69_84_3 m s v1 v3 v4 v5) := by
  intro m
  induction m with
  | zero => intro s v1 v3 v4 v5; exact q_RP_no
  | succ m ih =>
    intro s v1 v3 v4 v5
    have hk3 := ih
    clear ih
    rw [dzs_M304_69_84_3]
    generalize dz_M304_69_84_3 m = k3 at hk3 ⊢
    dsimp only
    refine q_RP_seg (g2 := (7, [(0, .ref 69), (1, .int v1), (2, .ref 84), (3, .int v3), (4, .int v4), (5, .int v5)], [.int v4, .int v5], (q_kM s c n))) 2 (fun _ _ => rfl) ?_
    cases h1 : decide (v5 < v4) with
    | true =>
      refine q_RP_cT ?_
      refine q_RP_rsF (g2 := (10, [(0, .ref 69), (1, .int v1), (2, .ref 84), (3, .int v3), (4, .int v4), (5, .int v5)], [], (q_kM s c n))) rfl rfl (q_d_geT h1) ?_
      refine q_RP_seg (g2 := (20, [(0, .ref 69), (1, .int v1), (2, .ref 84), (3, .int v3), (4, .int v4), (5, .int v5)], [.int (v1 + v5), .ref 69, .int (v3 + v5), .ref 84], (q_kM s c n))) 8 (fun _ _ => rfl) ?_
      refine q_RP_as fun i2 => ?_
      refine q_RP_rsT (g2 := (21, [(0, .ref 69), (1, .int v1), (2, .ref 84), (3, .int v3), (4, .int v4), (5, .int v5)], [.int ((s.1 5) ((v1 + v5).toNatClampNeg)), .int (v3 + v5), .ref 84], (q_kM s c n))) rfl rfl i2 ?_
      refine q_RP_as fun i3 => ?_
      refine q_RP_rsT (g2 := (22, [(0, .ref 69), (1, .int v1), (2, .ref 84), (3, .int v3), (4, .int v4), (5, .int v5)], [], (q_kM (q_sA s 20 (upd (s.1 20) ((v3 + v5).toNatClampNeg) ((s.1 5) ((v1 + v5).toNatClampNeg)))) c n))) rfl q_wM20 i3 ?_
      refine q_RP_seg (g2 := (3, [(5, .int (v5 + 1)), (0, .ref 69), (1, .int v1), (2, .ref 84), (3, .int v3), (4, .int v4)], [], (q_kM (q_sA s 20 (upd (s.1 20) ((v3 + v5).toNatClampNeg) ((s.1 5) ((v1 + v5).toNatClampNeg)))) c n))) 2 (fun _ _ => rfl) ?_
      exact q_RP_xt (q_xt_mk (q_mn1 1 rfl (q_mn1 2 rfl (q_mn1 3 rfl (q_mn1 4 rfl (q_mn1 5 rfl (q_mn1 0 rfl q_mn0)))))) rfl) (hk3 (q_sA s 20 (upd (s.1 20) ((v3 + v5).toNatClampNeg) ((s.1 5) ((v1 + v5).toNatClampNeg)))) v1 v3 v4 (v5 + 1))
    | false =>
      refine q_RP_cF ?_
      refine q_RP_rsT (g2 := (28, [(0, .ref 69), (1, .int v1), (2, .ref 84), (3, .int v3), (4, .int v4), (5, .int v5)], [], (q_kM s c n))) rfl rfl (q_d_geF h1) ?_
      exact q_RP_ret rfl rfl rfl
def dz_M304_69_84 (s : q_S) (a1 : Int32) (a3 : Int32) (a4 : Int32) : Option (q_S) :=
  dz_M304_69_84_3 5000 s a1 a3 a4 0
set_option maxHeartbeats 4000000 in
theorem dzt_M304_69_84 (s : q_S) (c n : Nat) (a1 : Int32) (a3 : Int32) (a4 : Int32) (x : q_S) (h : dz_M304_69_84 s a1 a3 a4 = some x) : q_Ca q_TB0 1 303 [.ref 69, .int a1, .ref 84, .int a3, .int a4] (q_kM s c n) ((q_oSM c n) x) := by
  refine q_CaP_of (φ := (q_oSM c n)) (Nat.le_of_ble_eq_true rfl) ?_ h
  clear h
  unfold dz_M304_69_84
  refine q_RP_seg (g2 := (3, [(5, .int 0), (0, .ref 69), (1, .int a1), (2, .ref 84), (3, .int a3), (4, .int a4)], [], (q_kM s c n))) 2 (fun _ _ => rfl) ?_
  exact q_RP_xt (q_xt_mk (q_mn1 1 rfl (q_mn1 2 rfl (q_mn1 3 rfl (q_mn1 4 rfl (q_mn1 5 rfl (q_mn1 0 rfl q_mn0)))))) rfl) (dzt_M304_69_84_3 c n 5000 s a1 a3 a4 0)
def dz_M304_70_85_3 (m : Nat) : q_S → Int32 → Int32 → Int32 → Int32 → Option (q_S) := Nat.rec (motive := fun _ => q_S → Int32 → Int32 → Int32 → Int32 → Option (q_S)) (fun _ _ _ _ _ => none) (fun _ k3 s v1 v3 v4 v5 =>
  cond (decide (v5 < v4)) (cond (q_in (v1 + v5) 40) (cond (q_in (v3 + v5) 120) (k3 (q_sA s 21 (upd (s.1 21) ((v3 + v5).toNatClampNeg) ((s.1 6) ((v1 + v5).toNatClampNeg)))) v1 v3 v4 (v5 + 1)) none) none) (some s)) m
theorem dzs_M304_70_85_3 (m : Nat) (s : q_S) (v1 : Int32) (v3 : Int32) (v4 : Int32) (v5 : Int32) : dz_M304_70_85_3 (m + 1) s v1 v3 v4 v5 = (fun k3 : q_S → Int32 → Int32 → Int32 → Int32 → Option (q_S) =>
  cond (decide (v5 < v4)) (cond (q_in (v1 + v5) 40) (cond (q_in (v3 + v5) 120) (k3 (q_sA s 21 (upd (s.1 21) ((v3 + v5).toNatClampNeg) ((s.1 6) ((v1 + v5).toNatClampNeg)))) v1 v3 v4 (v5 + 1)) none) none) (some s)) (dz_M304_70_85_3 m) := rfl
set_option maxHeartbeats 4000000 in
theorem dzt_M304_70_85_3 (c n : Nat) : ∀ (m : Nat) (s : q_S) (v1 : Int32) (v3 : Int32) (v4 : Int32) (v5 : Int32), q_RP q_TB0 0 303 (3, [(0, .ref 70), (1, .int v1), (2, .ref 85), (3, .int v3), (4, .int v4), (5, .int v5)], [], (q_kM s c n)) (q_oSM c n) (dz_M304_70_85_3 m s v1 v3 v4 v5) := by
  intro m
  induction m with
  | zero => intro s v1 v3 v4 v5; exact q_RP_no
  | succ m ih =>
    intro s v1 v3 v4 v5
    have hk3 := ih
    clear ih
    rw [dzs_M304_70_85_3]
    generalize dz_M304_70_85_3 m = k3 at hk3 ⊢
    dsimp only
    refine q_RP_seg (g2 := (7, [(0, .ref 70), (1, .int v1), (2, .ref 85), (3, .int v3), (4, .int v4), (5, .int v5)], [.int v4, .int v5], (q_kM s c n))) 2 (fun _ _ => rfl) ?_
    cases h1 : decide (v5 < v4) with
    | true =>
      refine q_RP_cT ?_
      refine q_RP_rsF (g2 := (10, [(0, .ref 70), (1, .int v1), (2, .ref 85), (3, .int v3), (4, .int v4), (5, .int v5)], [], (q_kM s c n))) rfl rfl (q_d_geT h1) ?_
      refine q_RP_seg (g2 := (20, [(0, .ref 70), (1, .int v1), (2, .ref 85), (3, .int v3), (4, .int v4), (5, .int v5)], [.int (v1 + v5), .ref 70, .int (v3 + v5), .ref 85], (q_kM s c n))) 8 (fun _ _ => rfl) ?_
      refine q_RP_as fun i2 => ?_
      refine q_RP_rsT (g2 := (21, [(0, .ref 70), (1, .int v1), (2, .ref 85), (3, .int v3), (4, .int v4), (5, .int v5)], [.int ((s.1 6) ((v1 + v5).toNatClampNeg)), .int (v3 + v5), .ref 85], (q_kM s c n))) rfl rfl i2 ?_
      refine q_RP_as fun i3 => ?_
      refine q_RP_rsT (g2 := (22, [(0, .ref 70), (1, .int v1), (2, .ref 85), (3, .int v3), (4, .int v4), (5, .int v5)], [], (q_kM (q_sA s 21 (upd (s.1 21) ((v3 + v5).toNatClampNeg) ((s.1 6) ((v1 + v5).toNatClampNeg)))) c n))) rfl q_wM21 i3 ?_
      refine q_RP_seg (g2 := (3, [(5, .int (v5 + 1)), (0, .ref 70), (1, .int v1), (2, .ref 85), (3, .int v3), (4, .int v4)], [], (q_kM (q_sA s 21 (upd (s.1 21) ((v3 + v5).toNatClampNeg) ((s.1 6) ((v1 + v5).toNatClampNeg)))) c n))) 2 (fun _ _ => rfl) ?_
      exact q_RP_xt (q_xt_mk (q_mn1 1 rfl (q_mn1 2 rfl (q_mn1 3 rfl (q_mn1 4 rfl (q_mn1 5 rfl (q_mn1 0 rfl q_mn0)))))) rfl) (hk3 (q_sA s 21 (upd (s.1 21) ((v3 + v5).toNatClampNeg) ((s.1 6) ((v1 + v5).toNatClampNeg)))) v1 v3 v4 (v5 + 1))
    | false =>
      refine q_RP_cF ?_
      refine q_RP_rsT (g2 := (28, [(0, .ref 70), (1, .int v1), (2, .ref 85), (3, .int v3), (4, .int v4), (5, .int v5)], [], (q_kM s c n))) rfl rfl (q_d_geF h1) ?_
      exact q_RP_ret rfl rfl rfl
def dz_M304_70_85 (s : q_S) (a1 : Int32) (a3 : Int32) (a4 : Int32) : Option (q_S) :=
  dz_M304_70_85_3 5000 s a1 a3 a4 0
set_option maxHeartbeats 4000000 in
theorem dzt_M304_70_85 (s : q_S) (c n : Nat) (a1 : Int32) (a3 : Int32) (a4 : Int32) (x : q_S) (h : dz_M304_70_85 s a1 a3 a4 = some x) : q_Ca q_TB0 1 303 [.ref 70, .int a1, .ref 85, .int a3, .int a4] (q_kM s c n) ((q_oSM c n) x) := by
  refine q_CaP_of (φ := (q_oSM c n)) (Nat.le_of_ble_eq_true rfl) ?_ h
  clear h
  unfold dz_M304_70_85
  refine q_RP_seg (g2 := (3, [(5, .int 0), (0, .ref 70), (1, .int a1), (2, .ref 85), (3, .int a3), (4, .int a4)], [], (q_kM s c n))) 2 (fun _ _ => rfl) ?_
  exact q_RP_xt (q_xt_mk (q_mn1 1 rfl (q_mn1 2 rfl (q_mn1 3 rfl (q_mn1 4 rfl (q_mn1 5 rfl (q_mn1 0 rfl q_mn0)))))) rfl) (dzt_M304_70_85_3 c n 5000 s a1 a3 a4 0)
def dz_M304_72_87_3 (m : Nat) : q_S → Int32 → Int32 → Int32 → Int32 → Option (q_S) := Nat.rec (motive := fun _ => q_S → Int32 → Int32 → Int32 → Int32 → Option (q_S)) (fun _ _ _ _ _ => none) (fun _ k3 s v1 v3 v4 v5 =>
  cond (decide (v5 < v4)) (cond (q_in (v1 + v5) 40) (cond (q_in (v3 + v5) 120) (k3 (q_sA s 23 (upd (s.1 23) ((v3 + v5).toNatClampNeg) ((s.1 8) ((v1 + v5).toNatClampNeg)))) v1 v3 v4 (v5 + 1)) none) none) (some s)) m
theorem dzs_M304_72_87_3 (m : Nat) (s : q_S) (v1 : Int32) (v3 : Int32) (v4 : Int32) (v5 : Int32) : dz_M304_72_87_3 (m + 1) s v1 v3 v4 v5 = (fun k3 : q_S → Int32 → Int32 → Int32 → Int32 → Option (q_S) =>
  cond (decide (v5 < v4)) (cond (q_in (v1 + v5) 40) (cond (q_in (v3 + v5) 120) (k3 (q_sA s 23 (upd (s.1 23) ((v3 + v5).toNatClampNeg) ((s.1 8) ((v1 + v5).toNatClampNeg)))) v1 v3 v4 (v5 + 1)) none) none) (some s)) (dz_M304_72_87_3 m) := rfl
set_option maxHeartbeats 4000000 in
theorem dzt_M304_72_87_3 (c n : Nat) : ∀ (m : Nat) (s : q_S) (v1 : Int32) (v3 : Int32) (v4 : Int32) (v5 : Int32), q_RP q_TB0 0 303 (3, [(0, .ref 72), (1, .int v1), (2, .ref 87), (3, .int v3), (4, .int v4), (5, .int v5)], [], (q_kM s c n)) (q_oSM c n) (dz_M304_72_87_3 m s v1 v3 v4 v5) := by
  intro m
  induction m with
  | zero => intro s v1 v3 v4 v5; exact q_RP_no
  | succ m ih =>
    intro s v1 v3 v4 v5
    have hk3 := ih
    clear ih
    rw [dzs_M304_72_87_3]
    generalize dz_M304_72_87_3 m = k3 at hk3 ⊢
    dsimp only
    refine q_RP_seg (g2 := (7, [(0, .ref 72), (1, .int v1), (2, .ref 87), (3, .int v3), (4, .int v4), (5, .int v5)], [.int v4, .int v5], (q_kM s c n))) 2 (fun _ _ => rfl) ?_
    cases h1 : decide (v5 < v4) with
    | true =>
      refine q_RP_cT ?_
      refine q_RP_rsF (g2 := (10, [(0, .ref 72), (1, .int v1), (2, .ref 87), (3, .int v3), (4, .int v4), (5, .int v5)], [], (q_kM s c n))) rfl rfl (q_d_geT h1) ?_
      refine q_RP_seg (g2 := (20, [(0, .ref 72), (1, .int v1), (2, .ref 87), (3, .int v3), (4, .int v4), (5, .int v5)], [.int (v1 + v5), .ref 72, .int (v3 + v5), .ref 87], (q_kM s c n))) 8 (fun _ _ => rfl) ?_
      refine q_RP_as fun i2 => ?_
      refine q_RP_rsT (g2 := (21, [(0, .ref 72), (1, .int v1), (2, .ref 87), (3, .int v3), (4, .int v4), (5, .int v5)], [.int ((s.1 8) ((v1 + v5).toNatClampNeg)), .int (v3 + v5), .ref 87], (q_kM s c n))) rfl rfl i2 ?_
      refine q_RP_as fun i3 => ?_
      refine q_RP_rsT (g2 := (22, [(0, .ref 72), (1, .int v1), (2, .ref 87), (3, .int v3), (4, .int v4), (5, .int v5)], [], (q_kM (q_sA s 23 (upd (s.1 23) ((v3 + v5).toNatClampNeg) ((s.1 8) ((v1 + v5).toNatClampNeg)))) c n))) rfl q_wM23 i3 ?_
      refine q_RP_seg (g2 := (3, [(5, .int (v5 + 1)), (0, .ref 72), (1, .int v1), (2, .ref 87), (3, .int v3), (4, .int v4)], [], (q_kM (q_sA s 23 (upd (s.1 23) ((v3 + v5).toNatClampNeg) ((s.1 8) ((v1 + v5).toNatClampNeg)))) c n))) 2 (fun _ _ => rfl) ?_
      exact q_RP_xt (q_xt_mk (q_mn1 1 rfl (q_mn1 2 rfl (q_mn1 3 rfl (q_mn1 4 rfl (q_mn1 5 rfl (q_mn1 0 rfl q_mn0)))))) rfl) (hk3 (q_sA s 23 (upd (s.1 23) ((v3 + v5).toNatClampNeg) ((s.1 8) ((v1 + v5).toNatClampNeg)))) v1 v3 v4 (v5 + 1))
    | false =>
      refine q_RP_cF ?_
      refine q_RP_rsT (g2 := (28, [(0, .ref 72), (1, .int v1), (2, .ref 87), (3, .int v3), (4, .int v4), (5, .int v5)], [], (q_kM s c n))) rfl rfl (q_d_geF h1) ?_
      exact q_RP_ret rfl rfl rfl
def dz_M304_72_87 (s : q_S) (a1 : Int32) (a3 : Int32) (a4 : Int32) : Option (q_S) :=
  dz_M304_72_87_3 5000 s a1 a3 a4 0
set_option maxHeartbeats 4000000 in
theorem dzt_M304_72_87 (s : q_S) (c n : Nat) (a1 : Int32) (a3 : Int32) (a4 : Int32) (x : q_S) (h : dz_M304_72_87 s a1 a3 a4 = some x) : q_Ca q_TB0 1 303 [.ref 72, .int a1, .ref 87, .int a3, .int a4] (q_kM s c n) ((q_oSM c n) x) := by
  refine q_CaP_of (φ := (q_oSM c n)) (Nat.le_of_ble_eq_true rfl) ?_ h
  clear h
  unfold dz_M304_72_87
  refine q_RP_seg (g2 := (3, [(5, .int 0), (0, .ref 72), (1, .int a1), (2, .ref 87), (3, .int a3), (4, .int a4)], [], (q_kM s c n))) 2 (fun _ _ => rfl) ?_
  exact q_RP_xt (q_xt_mk (q_mn1 1 rfl (q_mn1 2 rfl (q_mn1 3 rfl (q_mn1 4 rfl (q_mn1 5 rfl (q_mn1 0 rfl q_mn0)))))) rfl) (dzt_M304_72_87_3 c n 5000 s a1 a3 a4 0)
end
section
-- 47.mf
def dz_M304_73_88_3 (m : Nat) : q_S → Int32 → Int32 → Int32 → Int32 → Option (q_S) := Nat.rec (motive := fun _ => q_S → Int32 → Int32 → Int32 → Int32 → Option (q_S)) (fun _ _ _ _ _ => none) (fun _ k3 s v1 v3 v4 v5 =>
  cond (decide (v5 < v4)) (cond (q_in (v1 + v5) 16) (cond (q_in (v3 + v5) 48) (k3 (q_sA s 24 (upd (s.1 24) ((v3 + v5).toNatClampNeg) ((s.1 9) ((v1 + v5).toNatClampNeg)))) v1 v3 v4 (v5 + 1)) none) none) (some s)) m
theorem dzs_M304_73_88_3 (m : Nat) (s : q_S) (v1 : Int32) (v3 : Int32) (v4 : Int32) (v5 : Int32) : dz_M304_73_88_3 (m + 1) s v1 v3 v4 v5 = (fun k3 : q_S → Int32 → Int32 → Int32 → Int32 → Option (q_S) =>
  cond (decide (v5 < v4)) (cond (q_in (v1 + v5) 16) (cond (q_in (v3 + v5) 48) (k3 (q_sA s 24 (upd (s.1 24) ((v3 + v5).toNatClampNeg) ((s.1 9) ((v1 + v5).toNatClampNeg)))) v1 v3 v4 (v5 + 1)) none) none) (some s)) (dz_M304_73_88_3 m) := rfl
set_option maxHeartbeats 4000000 in
theorem dzt_M304_73_88_3 (c n : Nat) : ∀ (m : Nat) (s : q_S) (v1 : Int32) (v3 : Int32) (v4 : Int32) (v5 : Int32), q_RP q_TB0 0 303 (3, [(0, .ref 73), (1, .int v1), (2, .ref 88), (3, .int v3), (4, .int v4), (5, .int v5)], [], (q_kM s c n)) (q_oSM c n) (dz_M304_73_88_3 m s v1 v3 v4 v5) := by
  intro m
  induction m with
  | zero => intro s v1 v3 v4 v5; exact q_RP_no
  | succ m ih =>
    intro s v1 v3 v4 v5
    have hk3 := ih
    clear ih
    rw [dzs_M304_73_88_3]
    generalize dz_M304_73_88_3 m = k3 at hk3 ⊢
    dsimp only
    refine q_RP_seg (g2 := (7, [(0, .ref 73), (1, .int v1), (2, .ref 88), (3, .int v3), (4, .int v4), (5, .int v5)], [.int v4, .int v5], (q_kM s c n))) 2 (fun _ _ => rfl) ?_
    cases h1 : decide (v5 < v4) with
    | true =>
      refine q_RP_cT ?_
      refine q_RP_rsF (g2 := (10, [(0, .ref 73), (1, .int v1), (2, .ref 88), (3, .int v3), (4, .int v4), (5, .int v5)], [], (q_kM s c n))) rfl rfl (q_d_geT h1) ?_
      refine q_RP_seg (g2 := (20, [(0, .ref 73), (1, .int v1), (2, .ref 88), (3, .int v3), (4, .int v4), (5, .int v5)], [.int (v1 + v5), .ref 73, .int (v3 + v5), .ref 88], (q_kM s c n))) 8 (fun _ _ => rfl) ?_
      refine q_RP_as fun i2 => ?_
      refine q_RP_rsT (g2 := (21, [(0, .ref 73), (1, .int v1), (2, .ref 88), (3, .int v3), (4, .int v4), (5, .int v5)], [.int ((s.1 9) ((v1 + v5).toNatClampNeg)), .int (v3 + v5), .ref 88], (q_kM s c n))) rfl rfl i2 ?_
      refine q_RP_as fun i3 => ?_
      refine q_RP_rsT (g2 := (22, [(0, .ref 73), (1, .int v1), (2, .ref 88), (3, .int v3), (4, .int v4), (5, .int v5)], [], (q_kM (q_sA s 24 (upd (s.1 24) ((v3 + v5).toNatClampNeg) ((s.1 9) ((v1 + v5).toNatClampNeg)))) c n))) rfl q_wM24 i3 ?_
      refine q_RP_seg (g2 := (3, [(5, .int (v5 + 1)), (0, .ref 73), (1, .int v1), (2, .ref 88), (3, .int v3), (4, .int v4)], [], (q_kM (q_sA s 24 (upd (s.1 24) ((v3 + v5).toNatClampNeg) ((s.1 9) ((v1 + v5).toNatClampNeg)))) c n))) 2 (fun _ _ => rfl) ?_
      exact q_RP_xt (q_xt_mk (q_mn1 1 rfl (q_mn1 2 rfl (q_mn1 3 rfl (q_mn1 4 rfl (q_mn1 5 rfl (q_mn1 0 rfl q_mn0)))))) rfl) (hk3 (q_sA s 24 (upd (s.1 24) ((v3 + v5).toNatClampNeg) ((s.1 9) ((v1 + v5).toNatClampNeg)))) v1 v3 v4 (v5 + 1))
    | false =>
      refine q_RP_cF ?_
      refine q_RP_rsT (g2 := (28, [(0, .ref 73), (1, .int v1), (2, .ref 88), (3, .int v3), (4, .int v4), (5, .int v5)], [], (q_kM s c n))) rfl rfl (q_d_geF h1) ?_
      exact q_RP_ret rfl rfl rfl
def dz_M304_73_88 (s : q_S) (a1 : Int32) (a3 : Int32) (a4 : Int32) : Option (q_S) :=
  dz_M304_73_88_3 5000 s a1 a3 a4 0
set_option maxHeartbeats 4000000 in
theorem dzt_M304_73_88 (s : q_S) (c n : Nat) (a1 : Int32) (a3 : Int32) (a4 : Int32) (x : q_S) (h : dz_M304_73_88 s a1 a3 a4 = some x) : q_Ca q_TB0 1 303 [.ref 73, .int a1, .ref 88, .int a3, .int a4] (q_kM s c n) ((q_oSM c n) x) := by
  refine q_CaP_of (φ := (q_oSM c n)) (Nat.le_of_ble_eq_true rfl) ?_ h
  clear h
  unfold dz_M304_73_88
  refine q_RP_seg (g2 := (3, [(5, .int 0), (0, .ref 73), (1, .int a1), (2, .ref 88), (3, .int a3), (4, .int a4)], [], (q_kM s c n))) 2 (fun _ _ => rfl) ?_
  exact q_RP_xt (q_xt_mk (q_mn1 1 rfl (q_mn1 2 rfl (q_mn1 3 rfl (q_mn1 4 rfl (q_mn1 5 rfl (q_mn1 0 rfl q_mn0)))))) rfl) (dzt_M304_73_88_3 c n 5000 s a1 a3 a4 0)
def dz_M304_74_89_3 (m : Nat) : q_S → Int32 → Int32 → Int32 → Int32 → Option (q_S) := Nat.rec (motive := fun _ => q_S → Int32 → Int32 → Int32 → Int32 → Option (q_S)) (fun _ _ _ _ _ => none) (fun _ k3 s v1 v3 v4 v5 =>
  cond (decide (v5 < v4)) (cond (q_in (v1 + v5) 3) (cond (q_in (v3 + v5) 9) (k3 (q_sA s 25 (upd (s.1 25) ((v3 + v5).toNatClampNeg) ((s.1 10) ((v1 + v5).toNatClampNeg)))) v1 v3 v4 (v5 + 1)) none) none) (some s)) m
theorem dzs_M304_74_89_3 (m : Nat) (s : q_S) (v1 : Int32) (v3 : Int32) (v4 : Int32) (v5 : Int32) : dz_M304_74_89_3 (m + 1) s v1 v3 v4 v5 = (fun k3 : q_S → Int32 → Int32 → Int32 → Int32 → Option (q_S) =>
  cond (decide (v5 < v4)) (cond (q_in (v1 + v5) 3) (cond (q_in (v3 + v5) 9) (k3 (q_sA s 25 (upd (s.1 25) ((v3 + v5).toNatClampNeg) ((s.1 10) ((v1 + v5).toNatClampNeg)))) v1 v3 v4 (v5 + 1)) none) none) (some s)) (dz_M304_74_89_3 m) := rfl
set_option maxHeartbeats 4000000 in
theorem dzt_M304_74_89_3 (c n : Nat) : ∀ (m : Nat) (s : q_S) (v1 : Int32) (v3 : Int32) (v4 : Int32) (v5 : Int32), q_RP q_TB0 0 303 (3, [(0, .ref 74), (1, .int v1), (2, .ref 89), (3, .int v3), (4, .int v4), (5, .int v5)], [], (q_kM s c n)) (q_oSM c n) (dz_M304_74_89_3 m s v1 v3 v4 v5) := by
  intro m
  induction m with
  | zero => intro s v1 v3 v4 v5; exact q_RP_no
  | succ m ih =>
    intro s v1 v3 v4 v5
    have hk3 := ih
    clear ih
    rw [dzs_M304_74_89_3]
    generalize dz_M304_74_89_3 m = k3 at hk3 ⊢
    dsimp only
    refine q_RP_seg (g2 := (7, [(0, .ref 74), (1, .int v1), (2, .ref 89), (3, .int v3), (4, .int v4), (5, .int v5)], [.int v4, .int v5], (q_kM s c n))) 2 (fun _ _ => rfl) ?_
    cases h1 : decide (v5 < v4) with
    | true =>
      refine q_RP_cT ?_
      refine q_RP_rsF (g2 := (10, [(0, .ref 74), (1, .int v1), (2, .ref 89), (3, .int v3), (4, .int v4), (5, .int v5)], [], (q_kM s c n))) rfl rfl (q_d_geT h1) ?_
      refine q_RP_seg (g2 := (20, [(0, .ref 74), (1, .int v1), (2, .ref 89), (3, .int v3), (4, .int v4), (5, .int v5)], [.int (v1 + v5), .ref 74, .int (v3 + v5), .ref 89], (q_kM s c n))) 8 (fun _ _ => rfl) ?_
      refine q_RP_as fun i2 => ?_
      refine q_RP_rsT (g2 := (21, [(0, .ref 74), (1, .int v1), (2, .ref 89), (3, .int v3), (4, .int v4), (5, .int v5)], [.int ((s.1 10) ((v1 + v5).toNatClampNeg)), .int (v3 + v5), .ref 89], (q_kM s c n))) rfl rfl i2 ?_
      refine q_RP_as fun i3 => ?_
      refine q_RP_rsT (g2 := (22, [(0, .ref 74), (1, .int v1), (2, .ref 89), (3, .int v3), (4, .int v4), (5, .int v5)], [], (q_kM (q_sA s 25 (upd (s.1 25) ((v3 + v5).toNatClampNeg) ((s.1 10) ((v1 + v5).toNatClampNeg)))) c n))) rfl q_wM25 i3 ?_
      refine q_RP_seg (g2 := (3, [(5, .int (v5 + 1)), (0, .ref 74), (1, .int v1), (2, .ref 89), (3, .int v3), (4, .int v4)], [], (q_kM (q_sA s 25 (upd (s.1 25) ((v3 + v5).toNatClampNeg) ((s.1 10) ((v1 + v5).toNatClampNeg)))) c n))) 2 (fun _ _ => rfl) ?_
      exact q_RP_xt (q_xt_mk (q_mn1 1 rfl (q_mn1 2 rfl (q_mn1 3 rfl (q_mn1 4 rfl (q_mn1 5 rfl (q_mn1 0 rfl q_mn0)))))) rfl) (hk3 (q_sA s 25 (upd (s.1 25) ((v3 + v5).toNatClampNeg) ((s.1 10) ((v1 + v5).toNatClampNeg)))) v1 v3 v4 (v5 + 1))
    | false =>
      refine q_RP_cF ?_
      refine q_RP_rsT (g2 := (28, [(0, .ref 74), (1, .int v1), (2, .ref 89), (3, .int v3), (4, .int v4), (5, .int v5)], [], (q_kM s c n))) rfl rfl (q_d_geF h1) ?_
      exact q_RP_ret rfl rfl rfl
def dz_M304_74_89 (s : q_S) (a1 : Int32) (a3 : Int32) (a4 : Int32) : Option (q_S) :=
  dz_M304_74_89_3 5000 s a1 a3 a4 0
set_option maxHeartbeats 4000000 in
theorem dzt_M304_74_89 (s : q_S) (c n : Nat) (a1 : Int32) (a3 : Int32) (a4 : Int32) (x : q_S) (h : dz_M304_74_89 s a1 a3 a4 = some x) : q_Ca q_TB0 1 303 [.ref 74, .int a1, .ref 89, .int a3, .int a4] (q_kM s c n) ((q_oSM c n) x) := by
  refine q_CaP_of (φ := (q_oSM c n)) (Nat.le_of_ble_eq_true rfl) ?_ h
  clear h
  unfold dz_M304_74_89
  refine q_RP_seg (g2 := (3, [(5, .int 0), (0, .ref 74), (1, .int a1), (2, .ref 89), (3, .int a3), (4, .int a4)], [], (q_kM s c n))) 2 (fun _ _ => rfl) ?_
  exact q_RP_xt (q_xt_mk (q_mn1 1 rfl (q_mn1 2 rfl (q_mn1 3 rfl (q_mn1 4 rfl (q_mn1 5 rfl (q_mn1 0 rfl q_mn0)))))) rfl) (dzt_M304_74_89_3 c n 5000 s a1 a3 a4 0)
def dz_M304_75_90_3 (m : Nat) : q_S → Int32 → Int32 → Int32 → Int32 → Option (q_S) := Nat.rec (motive := fun _ => q_S → Int32 → Int32 → Int32 → Int32 → Option (q_S)) (fun _ _ _ _ _ => none) (fun _ k3 s v1 v3 v4 v5 =>
  cond (decide (v5 < v4)) (cond (q_in (v1 + v5) 3) (cond (q_in (v3 + v5) 9) (k3 (q_sA s 26 (upd (s.1 26) ((v3 + v5).toNatClampNeg) ((s.1 11) ((v1 + v5).toNatClampNeg)))) v1 v3 v4 (v5 + 1)) none) none) (some s)) m
theorem dzs_M304_75_90_3 (m : Nat) (s : q_S) (v1 : Int32) (v3 : Int32) (v4 : Int32) (v5 : Int32) : dz_M304_75_90_3 (m + 1) s v1 v3 v4 v5 = (fun k3 : q_S → Int32 → Int32 → Int32 → Int32 → Option (q_S) =>
  cond (decide (v5 < v4)) (cond (q_in (v1 + v5) 3) (cond (q_in (v3 + v5) 9) (k3 (q_sA s 26 (upd (s.1 26) ((v3 + v5).toNatClampNeg) ((s.1 11) ((v1 + v5).toNatClampNeg)))) v1 v3 v4 (v5 + 1)) none) none) (some s)) (dz_M304_75_90_3 m) := rfl
set_option maxHeartbeats 4000000 in
theorem dzt_M304_75_90_3 (c n : Nat) : ∀ (m : Nat) (s : q_S) (v1 : Int32) (v3 : Int32) (v4 : Int32) (v5 : Int32), q_RP q_TB0 0 303 (3, [(0, .ref 75), (1, .int v1), (2, .ref 90), (3, .int v3), (4, .int v4), (5, .int v5)], [], (q_kM s c n)) (q_oSM c n) (dz_M304_75_90_3 m s v1 v3 v4 v5) := by
  intro m
  induction m with
  | zero => intro s v1 v3 v4 v5; exact q_RP_no
  | succ m ih =>
    intro s v1 v3 v4 v5
    have hk3 := ih
    clear ih
    rw [dzs_M304_75_90_3]
    generalize dz_M304_75_90_3 m = k3 at hk3 ⊢
    dsimp only
    refine q_RP_seg (g2 := (7, [(0, .ref 75), (1, .int v1), (2, .ref 90), (3, .int v3), (4, .int v4), (5, .int v5)], [.int v4, .int v5], (q_kM s c n))) 2 (fun _ _ => rfl) ?_
    cases h1 : decide (v5 < v4) with
    | true =>
      refine q_RP_cT ?_
      refine q_RP_rsF (g2 := (10, [(0, .ref 75), (1, .int v1), (2, .ref 90), (3, .int v3), (4, .int v4), (5, .int v5)], [], (q_kM s c n))) rfl rfl (q_d_geT h1) ?_
      refine q_RP_seg (g2 := (20, [(0, .ref 75), (1, .int v1), (2, .ref 90), (3, .int v3), (4, .int v4), (5, .int v5)], [.int (v1 + v5), .ref 75, .int (v3 + v5), .ref 90], (q_kM s c n))) 8 (fun _ _ => rfl) ?_
      refine q_RP_as fun i2 => ?_
      refine q_RP_rsT (g2 := (21, [(0, .ref 75), (1, .int v1), (2, .ref 90), (3, .int v3), (4, .int v4), (5, .int v5)], [.int ((s.1 11) ((v1 + v5).toNatClampNeg)), .int (v3 + v5), .ref 90], (q_kM s c n))) rfl rfl i2 ?_
      refine q_RP_as fun i3 => ?_
      refine q_RP_rsT (g2 := (22, [(0, .ref 75), (1, .int v1), (2, .ref 90), (3, .int v3), (4, .int v4), (5, .int v5)], [], (q_kM (q_sA s 26 (upd (s.1 26) ((v3 + v5).toNatClampNeg) ((s.1 11) ((v1 + v5).toNatClampNeg)))) c n))) rfl q_wM26 i3 ?_
      refine q_RP_seg (g2 := (3, [(5, .int (v5 + 1)), (0, .ref 75), (1, .int v1), (2, .ref 90), (3, .int v3), (4, .int v4)], [], (q_kM (q_sA s 26 (upd (s.1 26) ((v3 + v5).toNatClampNeg) ((s.1 11) ((v1 + v5).toNatClampNeg)))) c n))) 2 (fun _ _ => rfl) ?_
      exact q_RP_xt (q_xt_mk (q_mn1 1 rfl (q_mn1 2 rfl (q_mn1 3 rfl (q_mn1 4 rfl (q_mn1 5 rfl (q_mn1 0 rfl q_mn0)))))) rfl) (hk3 (q_sA s 26 (upd (s.1 26) ((v3 + v5).toNatClampNeg) ((s.1 11) ((v1 + v5).toNatClampNeg)))) v1 v3 v4 (v5 + 1))
    | false =>
      refine q_RP_cF ?_
      refine q_RP_rsT (g2 := (28, [(0, .ref 75), (1, .int v1), (2, .ref 90), (3, .int v3), (4, .int v4), (5, .int v5)], [], (q_kM s c n))) rfl rfl (q_d_geF h1) ?_
      exact q_RP_ret rfl rfl rfl
def dz_M304_75_90 (s : q_S) (a1 : Int32) (a3 : Int32) (a4 : Int32) : Option (q_S) :=
  dz_M304_75_90_3 5000 s a1 a3 a4 0
set_option maxHeartbeats 4000000 in
theorem dzt_M304_75_90 (s : q_S) (c n : Nat) (a1 : Int32) (a3 : Int32) (a4 : Int32) (x : q_S) (h : dz_M304_75_90 s a1 a3 a4 = some x) : q_Ca q_TB0 1 303 [.ref 75, .int a1, .ref 90, .int a3, .int a4] (q_kM s c n) ((q_oSM c n) x) := by
  refine q_CaP_of (φ := (q_oSM c n)) (Nat.le_of_ble_eq_true rfl) ?_ h
  clear h
  unfold dz_M304_75_90
  refine q_RP_seg (g2 := (3, [(5, .int 0), (0, .ref 75), (1, .int a1), (2, .ref 90), (3, .int a3), (4, .int a4)], [], (q_kM s c n))) 2 (fun _ _ => rfl) ?_
  exact q_RP_xt (q_xt_mk (q_mn1 1 rfl (q_mn1 2 rfl (q_mn1 3 rfl (q_mn1 4 rfl (q_mn1 5 rfl (q_mn1 0 rfl q_mn0)))))) rfl) (dzt_M304_75_90_3 c n 5000 s a1 a3 a4 0)
def dz_M304_76_91_3 (m : Nat) : q_S → Int32 → Int32 → Int32 → Int32 → Option (q_S) := Nat.rec (motive := fun _ => q_S → Int32 → Int32 → Int32 → Int32 → Option (q_S)) (fun _ _ _ _ _ => none) (fun _ k3 s v1 v3 v4 v5 =>
  cond (decide (v5 < v4)) (cond (q_in (v1 + v5) 3) (cond (q_in (v3 + v5) 9) (k3 (q_sA s 27 (upd (s.1 27) ((v3 + v5).toNatClampNeg) ((s.1 12) ((v1 + v5).toNatClampNeg)))) v1 v3 v4 (v5 + 1)) none) none) (some s)) m
theorem dzs_M304_76_91_3 (m : Nat) (s : q_S) (v1 : Int32) (v3 : Int32) (v4 : Int32) (v5 : Int32) : dz_M304_76_91_3 (m + 1) s v1 v3 v4 v5 = (fun k3 : q_S → Int32 → Int32 → Int32 → Int32 → Option (q_S) =>
  cond (decide (v5 < v4)) (cond (q_in (v1 + v5) 3) (cond (q_in (v3 + v5) 9) (k3 (q_sA s 27 (upd (s.1 27) ((v3 + v5).toNatClampNeg) ((s.1 12) ((v1 + v5).toNatClampNeg)))) v1 v3 v4 (v5 + 1)) none) none) (some s)) (dz_M304_76_91_3 m) := rfl
set_option maxHeartbeats 4000000 in
theorem dzt_M304_76_91_3 (c n : Nat) : ∀ (m : Nat) (s : q_S) (v1 : Int32) (v3 : Int32) (v4 : Int32) (v5 : Int32), q_RP q_TB0 0 303 (3, [(0, .ref 76), (1, .int v1), (2, .ref 91), (3, .int v3), (4, .int v4), (5, .int v5)], [], (q_kM s c n)) (q_oSM c n) (dz_M304_76_91_3 m s v1 v3 v4 v5) := by
  intro m
  induction m with
  | zero => intro s v1 v3 v4 v5; exact q_RP_no
  | succ m ih =>
    intro s v1 v3 v4 v5
    have hk3 := ih
    clear ih
    rw [dzs_M304_76_91_3]
    generalize dz_M304_76_91_3 m = k3 at hk3 ⊢
    dsimp only
    refine q_RP_seg (g2 := (7, [(0, .ref 76), (1, .int v1), (2, .ref 91), (3, .int v3), (4, .int v4), (5, .int v5)], [.int v4, .int v5], (q_kM s c n))) 2 (fun _ _ => rfl) ?_
    cases h1 : decide (v5 < v4) with
    | true =>
      refine q_RP_cT ?_
      refine q_RP_rsF (g2 := (10, [(0, .ref 76), (1, .int v1), (2, .ref 91), (3, .int v3), (4, .int v4), (5, .int v5)], [], (q_kM s c n))) rfl rfl (q_d_geT h1) ?_
      refine q_RP_seg (g2 := (20, [(0, .ref 76), (1, .int v1), (2, .ref 91), (3, .int v3), (4, .int v4), (5, .int v5)], [.int (v1 + v5), .ref 76, .int (v3 + v5), .ref 91], (q_kM s c n))) 8 (fun _ _ => rfl) ?_
      refine q_RP_as fun i2 => ?_
      refine q_RP_rsT (g2 := (21, [(0, .ref 76), (1, .int v1), (2, .ref 91), (3, .int v3), (4, .int v4), (5, .int v5)], [.int ((s.1 12) ((v1 + v5).toNatClampNeg)), .int (v3 + v5), .ref 91], (q_kM s c n))) rfl rfl i2 ?_
      refine q_RP_as fun i3 => ?_
      refine q_RP_rsT (g2 := (22, [(0, .ref 76), (1, .int v1), (2, .ref 91), (3, .int v3), (4, .int v4), (5, .int v5)], [], (q_kM (q_sA s 27 (upd (s.1 27) ((v3 + v5).toNatClampNeg) ((s.1 12) ((v1 + v5).toNatClampNeg)))) c n))) rfl q_wM27 i3 ?_
      refine q_RP_seg (g2 := (3, [(5, .int (v5 + 1)), (0, .ref 76), (1, .int v1), (2, .ref 91), (3, .int v3), (4, .int v4)], [], (q_kM (q_sA s 27 (upd (s.1 27) ((v3 + v5).toNatClampNeg) ((s.1 12) ((v1 + v5).toNatClampNeg)))) c n))) 2 (fun _ _ => rfl) ?_
      exact q_RP_xt (q_xt_mk (q_mn1 1 rfl (q_mn1 2 rfl (q_mn1 3 rfl (q_mn1 4 rfl (q_mn1 5 rfl (q_mn1 0 rfl q_mn0)))))) rfl) (hk3 (q_sA s 27 (upd (s.1 27) ((v3 + v5).toNatClampNeg) ((s.1 12) ((v1 + v5).toNatClampNeg)))) v1 v3 v4 (v5 + 1))
    | false =>
      refine q_RP_cF ?_
      refine q_RP_rsT (g2 := (28, [(0, .ref 76), (1, .int v1), (2, .ref 91), (3, .int v3), (4, .int v4), (5, .int v5)], [], (q_kM s c n))) rfl rfl (q_d_geF h1) ?_
      exact q_RP_ret rfl rfl rfl
def dz_M304_76_91 (s : q_S) (a1 : Int32) (a3 : Int32) (a4 : Int32) : Option (q_S) :=
  dz_M304_76_91_3 5000 s a1 a3 a4 0
set_option maxHeartbeats 4000000 in
theorem dzt_M304_76_91 (s : q_S) (c n : Nat) (a1 : Int32) (a3 : Int32) (a4 : Int32) (x : q_S) (h : dz_M304_76_91 s a1 a3 a4 = some x) : q_Ca q_TB0 1 303 [.ref 76, .int a1, .ref 91, .int a3, .int a4] (q_kM s c n) ((q_oSM c n) x) := by
  refine q_CaP_of (φ := (q_oSM c n)) (Nat.le_of_ble_eq_true rfl) ?_ h
  clear h
  unfold dz_M304_76_91
  refine q_RP_seg (g2 := (3, [(5, .int 0), (0, .ref 76), (1, .int a1), (2, .ref 91), (3, .int a3), (4, .int a4)], [], (q_kM s c n))) 2 (fun _ _ => rfl) ?_
  exact q_RP_xt (q_xt_mk (q_mn1 1 rfl (q_mn1 2 rfl (q_mn1 3 rfl (q_mn1 4 rfl (q_mn1 5 rfl (q_mn1 0 rfl q_mn0)))))) rfl) (dzt_M304_76_91_3 c n 5000 s a1 a3 a4 0)
def dz_M304_77_92_3 (m : Nat) : q_S → Int32 → Int32 → Int32 → Int32 → Option (q_S) := Nat.rec (motive := fun _ => q_S → Int32 → Int32 → Int32 → Int32 → Option (q_S)) (fun _ _ _ _ _ => none) (fun _ k3 s v1 v3 v4 v5 =>
  cond (decide (v5 < v4)) (cond (q_in (v1 + v5) 3) (cond (q_in (v3 + v5) 9) (k3 (q_sA s 28 (upd (s.1 28) ((v3 + v5).toNatClampNeg) ((s.1 13) ((v1 + v5).toNatClampNeg)))) v1 v3 v4 (v5 + 1)) none) none) (some s)) m
theorem dzs_M304_77_92_3 (m : Nat) (s : q_S) (v1 : Int32) (v3 : Int32) (v4 : Int32) (v5 : Int32) : dz_M304_77_92_3 (m + 1) s v1 v3 v4 v5 = (fun k3 : q_S → Int32 → Int32 → Int32 → Int32 → Option (q_S) =>
  cond (decide (v5 < v4)) (cond (q_in (v1 + v5) 3) (cond (q_in (v3 + v5) 9) (k3 (q_sA s 28 (upd (s.1 28) ((v3 + v5).toNatClampNeg) ((s.1 13) ((v1 + v5).toNatClampNeg)))) v1 v3 v4 (v5 + 1)) none) none) (some s)) (dz_M304_77_92_3 m) := rfl
set_option maxHeartbeats 4000000 in
theorem dzt_M304_77_92_3 (c n : Nat) : ∀ (m : Nat) (s : q_S) (v1 : Int32) (v3 : Int32) (v4 : Int32) (v5 : Int32), q_RP q_TB0 0 303 (3, [(0, .ref 77), (1, .int v1), (2, .ref 92), (3, .int v3), (4, .int v4), (5, .int v5)], [], (q_kM s c n)) (q_oSM c n) (dz_M304_77_92_3 m s v1 v3 v4 v5) := by
  intro m
  induction m with
  | zero => intro s v1 v3 v4 v5; exact q_RP_no
  | succ m ih =>
    intro s v1 v3 v4 v5
    have hk3 := ih
    clear ih
    rw [dzs_M304_77_92_3]
    generalize dz_M304_77_92_3 m = k3 at hk3 ⊢
    dsimp only
    refine q_RP_seg (g2 := (7, [(0, .ref 77), (1, .int v1), (2, .ref 92), (3, .int v3), (4, .int v4), (5, .int v5)], [.int v4, .int v5], (q_kM s c n))) 2 (fun _ _ => rfl) ?_
    cases h1 : decide (v5 < v4) with
    | true =>
      refine q_RP_cT ?_
      refine q_RP_rsF (g2 := (10, [(0, .ref 77), (1, .int v1), (2, .ref 92), (3, .int v3), (4, .int v4), (5, .int v5)], [], (q_kM s c n))) rfl rfl (q_d_geT h1) ?_
      refine q_RP_seg (g2 := (20, [(0, .ref 77), (1, .int v1), (2, .ref 92), (3, .int v3), (4, .int v4), (5, .int v5)], [.int (v1 + v5), .ref 77, .int (v3 + v5), .ref 92], (q_kM s c n))) 8 (fun _ _ => rfl) ?_
      refine q_RP_as fun i2 => ?_
      refine q_RP_rsT (g2 := (21, [(0, .ref 77), (1, .int v1), (2, .ref 92), (3, .int v3), (4, .int v4), (5, .int v5)], [.int ((s.1 13) ((v1 + v5).toNatClampNeg)), .int (v3 + v5), .ref 92], (q_kM s c n))) rfl rfl i2 ?_
      refine q_RP_as fun i3 => ?_
      refine q_RP_rsT (g2 := (22, [(0, .ref 77), (1, .int v1), (2, .ref 92), (3, .int v3), (4, .int v4), (5, .int v5)], [], (q_kM (q_sA s 28 (upd (s.1 28) ((v3 + v5).toNatClampNeg) ((s.1 13) ((v1 + v5).toNatClampNeg)))) c n))) rfl q_wM28 i3 ?_
      refine q_RP_seg (g2 := (3, [(5, .int (v5 + 1)), (0, .ref 77), (1, .int v1), (2, .ref 92), (3, .int v3), (4, .int v4)], [], (q_kM (q_sA s 28 (upd (s.1 28) ((v3 + v5).toNatClampNeg) ((s.1 13) ((v1 + v5).toNatClampNeg)))) c n))) 2 (fun _ _ => rfl) ?_
      exact q_RP_xt (q_xt_mk (q_mn1 1 rfl (q_mn1 2 rfl (q_mn1 3 rfl (q_mn1 4 rfl (q_mn1 5 rfl (q_mn1 0 rfl q_mn0)))))) rfl) (hk3 (q_sA s 28 (upd (s.1 28) ((v3 + v5).toNatClampNeg) ((s.1 13) ((v1 + v5).toNatClampNeg)))) v1 v3 v4 (v5 + 1))
    | false =>
      refine q_RP_cF ?_
      refine q_RP_rsT (g2 := (28, [(0, .ref 77), (1, .int v1), (2, .ref 92), (3, .int v3), (4, .int v4), (5, .int v5)], [], (q_kM s c n))) rfl rfl (q_d_geF h1) ?_
      exact q_RP_ret rfl rfl rfl
def dz_M304_77_92 (s : q_S) (a1 : Int32) (a3 : Int32) (a4 : Int32) : Option (q_S) :=
  dz_M304_77_92_3 5000 s a1 a3 a4 0
set_option maxHeartbeats 4000000 in
theorem dzt_M304_77_92 (s : q_S) (c n : Nat) (a1 : Int32) (a3 : Int32) (a4 : Int32) (x : q_S) (h : dz_M304_77_92 s a1 a3 a4 = some x) : q_Ca q_TB0 1 303 [.ref 77, .int a1, .ref 92, .int a3, .int a4] (q_kM s c n) ((q_oSM c n) x) := by
  refine q_CaP_of (φ := (q_oSM c n)) (Nat.le_of_ble_eq_true rfl) ?_ h
  clear h
  unfold dz_M304_77_92
  refine q_RP_seg (g2 := (3, [(5, .int 0), (0, .ref 77), (1, .int a1), (2, .ref 92), (3, .int a3), (4, .int a4)], [], (q_kM s c n))) 2 (fun _ _ => rfl) ?_
  exact q_RP_xt (q_xt_mk (q_mn1 1 rfl (q_mn1 2 rfl (q_mn1 3 rfl (q_mn1 4 rfl (q_mn1 5 rfl (q_mn1 0 rfl q_mn0)))))) rfl) (dzt_M304_77_92_3 c n 5000 s a1 a3 a4 0)
def dz_M304_78_93_3 (m : Nat) : q_S → Int32 → Int32 → Int32 → Int32 → Option (q_S) := Nat.rec (motive := fun _ => q_S → Int32 → Int32 → Int32 → Int32 → Option (q_S)) (fun _ _ _ _ _ => none) (fun _ k3 s v1 v3 v4 v5 =>
  cond (decide (v5 < v4)) (cond (q_in (v1 + v5) 24) (cond (q_in (v3 + v5) 72) (k3 (q_sA s 29 (upd (s.1 29) ((v3 + v5).toNatClampNeg) ((s.1 14) ((v1 + v5).toNatClampNeg)))) v1 v3 v4 (v5 + 1)) none) none) (some s)) m
theorem dzs_M304_78_93_3 (m : Nat) (s : q_S) (v1 : Int32) (v3 : Int32) (v4 : Int32) (v5 : Int32) : dz_M304_78_93_3 (m + 1) s v1 v3 v4 v5 = (fun k3 : q_S → Int32 → Int32 → Int32 → Int32 → Option (q_S) =>
  cond (decide (v5 < v4)) (cond (q_in (v1 + v5) 24) (cond (q_in (v3 + v5) 72) (k3 (q_sA s 29 (upd (s.1 29) ((v3 + v5).toNatClampNeg) ((s.1 14) ((v1 + v5).toNatClampNeg)))) v1 v3 v4 (v5 + 1)) none) none) (some s)) (dz_M304_78_93_3 m) := rfl
set_option maxHeartbeats 4000000 in
theorem dzt_M304_78_93_3 (c n : Nat) : ∀ (m : Nat) (s : q_S) (v1 : Int32) (v3 : Int32) (v4 : Int32) (v5 : Int32), q_RP q_TB0 0 303 (3, [(0, .ref 78), (1, .int v1), (2, .ref 93), (3, .int v3), (4, .int v4), (5, .int v5)], [], (q_kM s c n)) (q_oSM c n) (dz_M304_78_93_3 m s v1 v3 v4 v5) := by
  intro m
  induction m with
  | zero => intro s v1 v3 v4 v5; exact q_RP_no
  | succ m ih =>
    intro s v1 v3 v4 v5
    have hk3 := ih
    clear ih
    rw [dzs_M304_78_93_3]
    generalize dz_M304_78_93_3 m = k3 at hk3 ⊢
    dsimp only
    refine q_RP_seg (g2 := (7, [(0, .ref 78), (1, .int v1), (2, .ref 93), (3, .int v3), (4, .int v4), (5, .int v5)], [.int v4, .int v5], (q_kM s c n))) 2 (fun _ _ => rfl) ?_
    cases h1 : decide (v5 < v4) with
    | true =>
      refine q_RP_cT ?_
      refine q_RP_rsF (g2 := (10, [(0, .ref 78), (1, .int v1), (2, .ref 93), (3, .int v3), (4, .int v4), (5, .int v5)], [], (q_kM s c n))) rfl rfl (q_d_geT h1) ?_
      refine q_RP_seg (g2 := (20, [(0, .ref 78), (1, .int v1), (2, .ref 93), (3, .int v3), (4, .int v4), (5, .int v5)], [.int (v1 + v5), .ref 78, .int (v3 + v5), .ref 93], (q_kM s c n))) 8 (fun _ _ => rfl) ?_
      refine q_RP_as fun i2 => ?_
      refine q_RP_rsT (g2 := (21, [(0, .ref 78), (1, .int v1), (2, .ref 93), (3, .int v3), (4, .int v4), (5, .int v5)], [.int ((s.1 14) ((v1 + v5).toNatClampNeg)), .int (v3 + v5), .ref 93], (q_kM s c n))) rfl rfl i2 ?_
      refine q_RP_as fun i3 => ?_
      refine q_RP_rsT (g2 := (22, [(0, .ref 78), (1, .int v1), (2, .ref 93), (3, .int v3), (4, .int v4), (5, .int v5)], [], (q_kM (q_sA s 29 (upd (s.1 29) ((v3 + v5).toNatClampNeg) ((s.1 14) ((v1 + v5).toNatClampNeg)))) c n))) rfl q_wM29 i3 ?_
      refine q_RP_seg (g2 := (3, [(5, .int (v5 + 1)), (0, .ref 78), (1, .int v1), (2, .ref 93), (3, .int v3), (4, .int v4)], [], (q_kM (q_sA s 29 (upd (s.1 29) ((v3 + v5).toNatClampNeg) ((s.1 14) ((v1 + v5).toNatClampNeg)))) c n))) 2 (fun _ _ => rfl) ?_
      exact q_RP_xt (q_xt_mk (q_mn1 1 rfl (q_mn1 2 rfl (q_mn1 3 rfl (q_mn1 4 rfl (q_mn1 5 rfl (q_mn1 0 rfl q_mn0)))))) rfl) (hk3 (q_sA s 29 (upd (s.1 29) ((v3 + v5).toNatClampNeg) ((s.1 14) ((v1 + v5).toNatClampNeg)))) v1 v3 v4 (v5 + 1))
    | false =>
      refine q_RP_cF ?_
      refine q_RP_rsT (g2 := (28, [(0, .ref 78), (1, .int v1), (2, .ref 93), (3, .int v3), (4, .int v4), (5, .int v5)], [], (q_kM s c n))) rfl rfl (q_d_geF h1) ?_
      exact q_RP_ret rfl rfl rfl
def dz_M304_78_93 (s : q_S) (a1 : Int32) (a3 : Int32) (a4 : Int32) : Option (q_S) :=
  dz_M304_78_93_3 5000 s a1 a3 a4 0
set_option maxHeartbeats 4000000 in
theorem dzt_M304_78_93 (s : q_S) (c n : Nat) (a1 : Int32) (a3 : Int32) (a4 : Int32) (x : q_S) (h : dz_M304_78_93 s a1 a3 a4 = some x) : q_Ca q_TB0 1 303 [.ref 78, .int a1, .ref 93, .int a3, .int a4] (q_kM s c n) ((q_oSM c n) x) := by
  refine q_CaP_of (φ := (q_oSM c n)) (Nat.le_of_ble_eq_true rfl) ?_ h
  clear h
  unfold dz_M304_78_93
  refine q_RP_seg (g2 := (3, [(5, .int 0), (0, .ref 78), (1, .int a1), (2, .ref 93), (3, .int a3), (4, .int a4)], [], (q_kM s c n))) 2 (fun _ _ => rfl) ?_
  exact q_RP_xt (q_xt_mk (q_mn1 1 rfl (q_mn1 2 rfl (q_mn1 3 rfl (q_mn1 4 rfl (q_mn1 5 rfl (q_mn1 0 rfl q_mn0)))))) rfl) (dzt_M304_78_93_3 c n 5000 s a1 a3 a4 0)
def dz_M305_71_86_3 (m : Nat) : q_S → Int32 → Int32 → Int32 → Int32 → Option (q_S) := Nat.rec (motive := fun _ => q_S → Int32 → Int32 → Int32 → Int32 → Option (q_S)) (fun _ _ _ _ _ => none) (fun _ k3 s v1 v3 v4 v5 =>
  cond (decide (v5 < v4)) (cond (q_in (v1 + v5) 16) (cond (q_in (v3 + v5) 48) (k3 (q_sA s 22 (upd (s.1 22) ((v3 + v5).toNatClampNeg) (vp_nar .boolean ((s.1 7) ((v1 + v5).toNatClampNeg))))) v1 v3 v4 (v5 + 1)) none) none) (some s)) m
theorem dzs_M305_71_86_3 (m : Nat) (s : q_S) (v1 : Int32) (v3 : Int32) (v4 : Int32) (v5 : Int32) : dz_M305_71_86_3 (m + 1) s v1 v3 v4 v5 = (fun k3 : q_S → Int32 → Int32 → Int32 → Int32 → Option (q_S) =>
  cond (decide (v5 < v4)) (cond (q_in (v1 + v5) 16) (cond (q_in (v3 + v5) 48) (k3 (q_sA s 22 (upd (s.1 22) ((v3 + v5).toNatClampNeg) (vp_nar .boolean ((s.1 7) ((v1 + v5).toNatClampNeg))))) v1 v3 v4 (v5 + 1)) none) none) (some s)) (dz_M305_71_86_3 m) := rfl
set_option maxHeartbeats 4000000 in
theorem dzt_M305_71_86_3 (c n : Nat) : ∀ (m : Nat) (s : q_S) (v1 : Int32) (v3 : Int32) (v4 : Int32) (v5 : Int32), q_RP q_TB0 0 304 (3, [(0, .ref 71), (1, .int v1), (2, .ref 86), (3, .int v3), (4, .int v4), (5, .int v5)], [], (q_kM s c n)) (q_oSM c n) (dz_M305_71_86_3 m s v1 v3 v4 v5) := by
  intro m
  induction m with
  | zero => intro s v1 v3 v4 v5; exact q_RP_no
  | succ m ih =>
    intro s v1 v3 v4 v5
    have hk3 := ih
    clear ih
    rw [dzs_M305_71_86_3]
    generalize dz_M305_71_86_3 m = k3 at hk3 ⊢
    dsimp only
    refine q_RP_seg (g2 := (7, [(0, .ref 71), (1, .int v1), (2, .ref 86), (3, .int v3), (4, .int v4), (5, .int v5)], [.int v4, .int v5], (q_kM s c n))) 2 (fun _ _ => rfl) ?_
    cases h1 : decide (v5 < v4) with
    | true =>
      refine q_RP_cT ?_
      refine q_RP_rsF (g2 := (10, [(0, .ref 71), (1, .int v1), (2, .ref 86), (3, .int v3), (4, .int v4), (5, .int v5)], [], (q_kM s c n))) rfl rfl (q_d_geT h1) ?_
      refine q_RP_seg (g2 := (20, [(0, .ref 71), (1, .int v1), (2, .ref 86), (3, .int v3), (4, .int v4), (5, .int v5)], [.int (v1 + v5), .ref 71, .int (v3 + v5), .ref 86], (q_kM s c n))) 8 (fun _ _ => rfl) ?_
      refine q_RP_as fun i2 => ?_
      refine q_RP_rsT (g2 := (21, [(0, .ref 71), (1, .int v1), (2, .ref 86), (3, .int v3), (4, .int v4), (5, .int v5)], [.int ((s.1 7) ((v1 + v5).toNatClampNeg)), .int (v3 + v5), .ref 86], (q_kM s c n))) rfl rfl i2 ?_
      refine q_RP_as fun i3 => ?_
      refine q_RP_rsT (g2 := (22, [(0, .ref 71), (1, .int v1), (2, .ref 86), (3, .int v3), (4, .int v4), (5, .int v5)], [], (q_kM (q_sA s 22 (upd (s.1 22) ((v3 + v5).toNatClampNeg) (vp_nar .boolean ((s.1 7) ((v1 + v5).toNatClampNeg))))) c n))) rfl q_wM22 i3 ?_
      refine q_RP_seg (g2 := (3, [(5, .int (v5 + 1)), (0, .ref 71), (1, .int v1), (2, .ref 86), (3, .int v3), (4, .int v4)], [], (q_kM (q_sA s 22 (upd (s.1 22) ((v3 + v5).toNatClampNeg) (vp_nar .boolean ((s.1 7) ((v1 + v5).toNatClampNeg))))) c n))) 2 (fun _ _ => rfl) ?_
      exact q_RP_xt (q_xt_mk (q_mn1 1 rfl (q_mn1 2 rfl (q_mn1 3 rfl (q_mn1 4 rfl (q_mn1 5 rfl (q_mn1 0 rfl q_mn0)))))) rfl) (hk3 (q_sA s 22 (upd (s.1 22) ((v3 + v5).toNatClampNeg) (vp_nar .boolean ((s.1 7) ((v1 + v5).toNatClampNeg))))) v1 v3 v4 (v5 + 1))
    | false =>
      refine q_RP_cF ?_
      refine q_RP_rsT (g2 := (28, [(0, .ref 71), (1, .int v1), (2, .ref 86), (3, .int v3), (4, .int v4), (5, .int v5)], [], (q_kM s c n))) rfl rfl (q_d_geF h1) ?_
      exact q_RP_ret rfl rfl rfl
def dz_M305_71_86 (s : q_S) (a1 : Int32) (a3 : Int32) (a4 : Int32) : Option (q_S) :=
  dz_M305_71_86_3 5000 s a1 a3 a4 0
set_option maxHeartbeats 4000000 in
theorem dzt_M305_71_86 (s : q_S) (c n : Nat) (a1 : Int32) (a3 : Int32) (a4 : Int32) (x : q_S) (h : dz_M305_71_86 s a1 a3 a4 = some x) : q_Ca q_TB0 1 304 [.ref 71, .int a1, .ref 86, .int a3, .int a4] (q_kM s c n) ((q_oSM c n) x) := by
  refine q_CaP_of (φ := (q_oSM c n)) (Nat.le_of_ble_eq_true rfl) ?_ h
  clear h
  unfold dz_M305_71_86
  refine q_RP_seg (g2 := (3, [(5, .int 0), (0, .ref 71), (1, .int a1), (2, .ref 86), (3, .int a3), (4, .int a4)], [], (q_kM s c n))) 2 (fun _ _ => rfl) ?_
  exact q_RP_xt (q_xt_mk (q_mn1 1 rfl (q_mn1 2 rfl (q_mn1 3 rfl (q_mn1 4 rfl (q_mn1 5 rfl (q_mn1 0 rfl q_mn0)))))) rfl) (dzt_M305_71_86_3 c n 5000 s a1 a3 a4 0)
def dz_M305_79_94_3 (m : Nat) : q_S → Int32 → Int32 → Int32 → Int32 → Option (q_S) := Nat.rec (motive := fun _ => q_S → Int32 → Int32 → Int32 → Int32 → Option (q_S)) (fun _ _ _ _ _ => none) (fun _ k3 s v1 v3 v4 v5 =>
  cond (decide (v5 < v4)) (cond (q_in (v1 + v5) 8) (cond (q_in (v3 + v5) 24) (k3 (q_sA s 30 (upd (s.1 30) ((v3 + v5).toNatClampNeg) (vp_nar .boolean ((s.1 15) ((v1 + v5).toNatClampNeg))))) v1 v3 v4 (v5 + 1)) none) none) (some s)) m
theorem dzs_M305_79_94_3 (m : Nat) (s : q_S) (v1 : Int32) (v3 : Int32) (v4 : Int32) (v5 : Int32) : dz_M305_79_94_3 (m + 1) s v1 v3 v4 v5 = (fun k3 : q_S → Int32 → Int32 → Int32 → Int32 → Option (q_S) =>
  cond (decide (v5 < v4)) (cond (q_in (v1 + v5) 8) (cond (q_in (v3 + v5) 24) (k3 (q_sA s 30 (upd (s.1 30) ((v3 + v5).toNatClampNeg) (vp_nar .boolean ((s.1 15) ((v1 + v5).toNatClampNeg))))) v1 v3 v4 (v5 + 1)) none) none) (some s)) (dz_M305_79_94_3 m) := rfl
set_option maxHeartbeats 4000000 in
theorem dzt_M305_79_94_3 (c n : Nat) : ∀ (m : Nat) (s : q_S) (v1 : Int32) (v3 : Int32) (v4 : Int32) (v5 : Int32), q_RP q_TB0 0 304 (3, [(0, .ref 79), (1, .int v1), (2, .ref 94), (3, .int v3), (4, .int v4), (5, .int v5)], [], (q_kM s c n)) (q_oSM c n) (dz_M305_79_94_3 m s v1 v3 v4 v5) := by
  intro m
  induction m with
  | zero => intro s v1 v3 v4 v5; exact q_RP_no
  | succ m ih =>
    intro s v1 v3 v4 v5
    have hk3 := ih
    clear ih
    rw [dzs_M305_79_94_3]
    generalize dz_M305_79_94_3 m = k3 at hk3 ⊢
    dsimp only
    refine q_RP_seg (g2 := (7, [(0, .ref 79), (1, .int v1), (2, .ref 94), (3, .int v3), (4, .int v4), (5, .int v5)], [.int v4, .int v5], (q_kM s c n))) 2 (fun _ _ => rfl) ?_
    cases h1 : decide (v5 < v4) with
    | true =>
      refine q_RP_cT ?_
      refine q_RP_rsF (g2 := (10, [(0, .ref 79), (1, .int v1), (2, .ref 94), (3, .int v3), (4, .int v4), (5, .int v5)], [], (q_kM s c n))) rfl rfl (q_d_geT h1) ?_
      refine q_RP_seg (g2 := (20, [(0, .ref 79), (1, .int v1), (2, .ref 94), (3, .int v3), (4, .int v4), (5, .int v5)], [.int (v1 + v5), .ref 79, .int (v3 + v5), .ref 94], (q_kM s c n))) 8 (fun _ _ => rfl) ?_
      refine q_RP_as fun i2 => ?_
      refine q_RP_rsT (g2 := (21, [(0, .ref 79), (1, .int v1), (2, .ref 94), (3, .int v3), (4, .int v4), (5, .int v5)], [.int ((s.1 15) ((v1 + v5).toNatClampNeg)), .int (v3 + v5), .ref 94], (q_kM s c n))) rfl rfl i2 ?_
      refine q_RP_as fun i3 => ?_
      refine q_RP_rsT (g2 := (22, [(0, .ref 79), (1, .int v1), (2, .ref 94), (3, .int v3), (4, .int v4), (5, .int v5)], [], (q_kM (q_sA s 30 (upd (s.1 30) ((v3 + v5).toNatClampNeg) (vp_nar .boolean ((s.1 15) ((v1 + v5).toNatClampNeg))))) c n))) rfl q_wM30 i3 ?_
      refine q_RP_seg (g2 := (3, [(5, .int (v5 + 1)), (0, .ref 79), (1, .int v1), (2, .ref 94), (3, .int v3), (4, .int v4)], [], (q_kM (q_sA s 30 (upd (s.1 30) ((v3 + v5).toNatClampNeg) (vp_nar .boolean ((s.1 15) ((v1 + v5).toNatClampNeg))))) c n))) 2 (fun _ _ => rfl) ?_
      exact q_RP_xt (q_xt_mk (q_mn1 1 rfl (q_mn1 2 rfl (q_mn1 3 rfl (q_mn1 4 rfl (q_mn1 5 rfl (q_mn1 0 rfl q_mn0)))))) rfl) (hk3 (q_sA s 30 (upd (s.1 30) ((v3 + v5).toNatClampNeg) (vp_nar .boolean ((s.1 15) ((v1 + v5).toNatClampNeg))))) v1 v3 v4 (v5 + 1))
    | false =>
      refine q_RP_cF ?_
      refine q_RP_rsT (g2 := (28, [(0, .ref 79), (1, .int v1), (2, .ref 94), (3, .int v3), (4, .int v4), (5, .int v5)], [], (q_kM s c n))) rfl rfl (q_d_geF h1) ?_
      exact q_RP_ret rfl rfl rfl
def dz_M305_79_94 (s : q_S) (a1 : Int32) (a3 : Int32) (a4 : Int32) : Option (q_S) :=
  dz_M305_79_94_3 5000 s a1 a3 a4 0
set_option maxHeartbeats 4000000 in
theorem dzt_M305_79_94 (s : q_S) (c n : Nat) (a1 : Int32) (a3 : Int32) (a4 : Int32) (x : q_S) (h : dz_M305_79_94 s a1 a3 a4 = some x) : q_Ca q_TB0 1 304 [.ref 79, .int a1, .ref 94, .int a3, .int a4] (q_kM s c n) ((q_oSM c n) x) := by
  refine q_CaP_of (φ := (q_oSM c n)) (Nat.le_of_ble_eq_true rfl) ?_ h
  clear h
  unfold dz_M305_79_94
  refine q_RP_seg (g2 := (3, [(5, .int 0), (0, .ref 79), (1, .int a1), (2, .ref 94), (3, .int a3), (4, .int a4)], [], (q_kM s c n))) 2 (fun _ _ => rfl) ?_
  exact q_RP_xt (q_xt_mk (q_mn1 1 rfl (q_mn1 2 rfl (q_mn1 3 rfl (q_mn1 4 rfl (q_mn1 5 rfl (q_mn1 0 rfl q_mn0)))))) rfl) (dzt_M305_79_94_3 c n 5000 s a1 a3 a4 0)
def dz_M306_64 (s : q_S) : Option (q_S × Int32) :=
  cond (decide (s.2.1 0 17 = 3)) (q_let (dz_M200_64 s 1) fun r3 => cond r3.2 (some (r3.1, 0)) ((dz_M304_65_80 r3.1 0 (4096 * (r3.1.2.1 0 17)) 4096).bind fun r4 => (dz_M304_66_81 r4 0 (512 * (r3.1.2.1 0 17)) 512).bind fun r5 => (dz_M304_67_82 r5 0 (2048 * (r3.1.2.1 0 17)) 2048).bind fun r6 => (dz_M304_68_83 r6 0 (48 * (r3.1.2.1 0 17)) 48).bind fun r7 => (dz_M304_69_84 r7 0 (1024 * (r3.1.2.1 0 17)) 1024).bind fun r8 => (dz_M304_70_85 r8 0 (40 * (r3.1.2.1 0 17)) 40).bind fun r9 => (dz_M304_72_87 r9 0 (40 * (r3.1.2.1 0 17)) 40).bind fun r10 => (dz_M304_73_88 r10 0 (16 * (r3.1.2.1 0 17)) 16).bind fun r11 => (dz_M304_74_89 r11 0 (3 * (r3.1.2.1 0 17)) 3).bind fun r12 => (dz_M304_75_90 r12 0 (3 * (r3.1.2.1 0 17)) 3).bind fun r13 => (dz_M304_76_91 r13 0 (3 * (r3.1.2.1 0 17)) 3).bind fun r14 => (dz_M304_77_92 r14 0 (3 * (r3.1.2.1 0 17)) 3).bind fun r15 => (dz_M304_78_93 r15 0 (24 * (r3.1.2.1 0 17)) 24).bind fun r16 => (dz_M305_71_86 r16 0 (16 * (r3.1.2.1 0 17)) 16).bind fun r17 => (dz_M305_79_94 r17 0 (8 * (r3.1.2.1 0 17)) 8).bind fun r18 => cond (q_in (2 * (r3.1.2.1 0 17)) 6) (cond (q_in ((2 * (r3.1.2.1 0 17)) + 1) 6) (q_let ((q_sL r18 31 (vp_updL (r18.2.2 31) ((2 * (r3.1.2.1 0 17)).toNatClampNeg) (r18.2.2 0 15)))) fun r19 => some ((q_sI (q_sL r19 31 (vp_updL (r19.2.2 31) (((2 * (r3.1.2.1 0 17)) + 1).toNatClampNeg) (r18.2.2 0 16))) 0 17 ((r19.2.1 0 17) + 1)), (r3.1.2.1 0 17))) none) none)) (q_let (dz_M200_64 s 0) fun r20 => cond r20.2 (some (r20.1, 0)) ((dz_M304_65_80 r20.1 0 (4096 * (r20.1.2.1 0 17)) 4096).bind fun r21 => (dz_M304_66_81 r21 0 (512 * (r20.1.2.1 0 17)) 512).bind fun r22 => (dz_M304_67_82 r22 0 (2048 * (r20.1.2.1 0 17)) 2048).bind fun r23 => (dz_M304_68_83 r23 0 (48 * (r20.1.2.1 0 17)) 48).bind fun r24 => (dz_M304_69_84 r24 0 (1024 * (r20.1.2.1 0 17)) 1024).bind fun r25 => (dz_M304_70_85 r25 0 (40 * (r20.1.2.1 0 17)) 40).bind fun r26 => (dz_M304_72_87 r26 0 (40 * (r20.1.2.1 0 17)) 40).bind fun r27 => (dz_M304_73_88 r27 0 (16 * (r20.1.2.1 0 17)) 16).bind fun r28 => (dz_M304_74_89 r28 0 (3 * (r20.1.2.1 0 17)) 3).bind fun r29 => (dz_M304_75_90 r29 0 (3 * (r20.1.2.1 0 17)) 3).bind fun r30 => (dz_M304_76_91 r30 0 (3 * (r20.1.2.1 0 17)) 3).bind fun r31 => (dz_M304_77_92 r31 0 (3 * (r20.1.2.1 0 17)) 3).bind fun r32 => (dz_M304_78_93 r32 0 (24 * (r20.1.2.1 0 17)) 24).bind fun r33 => (dz_M305_71_86 r33 0 (16 * (r20.1.2.1 0 17)) 16).bind fun r34 => (dz_M305_79_94 r34 0 (8 * (r20.1.2.1 0 17)) 8).bind fun r35 => cond (q_in (2 * (r20.1.2.1 0 17)) 6) (cond (q_in ((2 * (r20.1.2.1 0 17)) + 1) 6) (q_let ((q_sL r35 31 (vp_updL (r35.2.2 31) ((2 * (r20.1.2.1 0 17)).toNatClampNeg) (r35.2.2 0 15)))) fun r36 => some ((q_sI (q_sL r36 31 (vp_updL (r36.2.2 31) (((2 * (r20.1.2.1 0 17)) + 1).toNatClampNeg) (r35.2.2 0 16))) 0 17 ((r36.2.1 0 17) + 1)), (r20.1.2.1 0 17))) none) none))
set_option maxHeartbeats 4000000 in
theorem dzt_M306_64 (s : q_S) (c n : Nat) (x : q_S × Int32) (h : dz_M306_64 s = some x) : q_Ca q_TB0 2 305 [.ref 64] (q_kM s c n) ((q_oIM c n) x) := by
  refine q_CaP_of (φ := (q_oIM c n)) (Nat.le_of_ble_eq_true rfl) ?_ h
  clear h
  unfold dz_M306_64
  refine q_RP_seg (g2 := (5, [(0, .ref 64)], [.int (s.2.1 0 17), .ref 64], (q_kM s c n))) 3 (fun _ _ => rfl) ?_
  refine q_RP_seg (g2 := (6, [(0, .ref 64)], [.int 3, .int (s.2.1 0 17), .ref 64], (q_kM s c n))) 1 (fun _ _ => rfl) ?_
  cases h3 : decide (s.2.1 0 17 = 3) with
  | true =>
    refine q_RP_cT ?_
    refine q_RP_rsF (g2 := (9, [(0, .ref 64)], [.ref 64], (q_kM s c n))) rfl rfl (q_d_neT h3) ?_
    refine q_RP_seg (g2 := (14, [(0, .ref 64)], [.int 1, .ref 64], (q_kM s c n))) 2 (fun _ _ => rfl) ?_
    refine q_RP_call (v := (some (.int (q_b (dz_M200_64 s 1).2)))) (h2 := (q_kM (dz_M200_64 s 1).1 c n)) rfl rfl ((dzt_M200_64 s c n 1).le (Nat.le_of_ble_eq_true rfl)) ?_
    generalize dz_M200_64 s 1 = r3
    refine q_RP_let ?_
    show q_RP _ _ _ (17, [(0, .ref 64)], [.int (q_b r3.2)], (q_kM r3.1 c n)) _ _
    cases h4 : r3.2 with
    | true =>
      refine q_RP_cT ?_
      show q_RP _ _ _ (17, [(0, .ref 64)], [.int 1], (q_kM r3.1 c n)) _ _
      refine q_RP_seg (g2 := (21, [(0, .ref 64)], [.int 0], (q_kM r3.1 c n))) 2 (fun _ _ => rfl) ?_
      exact q_RP_ret rfl rfl rfl
    | false =>
      refine q_RP_cF ?_
      show q_RP _ _ _ (17, [(0, .ref 64)], [.int 0], (q_kM r3.1 c n)) _ _
      refine q_RP_seg (g2 := (26, [(0, .ref 64)], [.int (r3.1.2.1 0 17)], (q_kM r3.1 c n))) 3 (fun _ _ => rfl) ?_
      refine q_RP_seg (g2 := (44, [(1, .int (r3.1.2.1 0 17)), (0, .ref 64)], [.int 4096, .int (4096 * (r3.1.2.1 0 17)), .ref 80, .int 0, .ref 65], (q_kM r3.1 c n))) 10 (fun _ _ => rfl) ?_
      refine q_RP_bd fun r4 er4 => ?_
      refine q_RP_call (v := none) (h2 := (q_kM r4 c n)) rfl rfl ((dzt_M304_65_80 r3.1 c n 0 (4096 * (r3.1.2.1 0 17)) 4096 r4 er4).le (Nat.le_of_ble_eq_true rfl)) ?_
      show q_RP _ _ _ (47, [(1, .int (r3.1.2.1 0 17)), (0, .ref 64)], [], (q_kM r4 c n)) _ _
      refine q_RP_seg (g2 := (64, [(1, .int (r3.1.2.1 0 17)), (0, .ref 64)], [.int 512, .int (512 * (r3.1.2.1 0 17)), .ref 81, .int 0, .ref 66], (q_kM r4 c n))) 9 (fun _ _ => rfl) ?_
      refine q_RP_bd fun r5 er5 => ?_
      refine q_RP_call (v := none) (h2 := (q_kM r5 c n)) rfl rfl ((dzt_M304_66_81 r4 c n 0 (512 * (r3.1.2.1 0 17)) 512 r5 er5).le (Nat.le_of_ble_eq_true rfl)) ?_
      show q_RP _ _ _ (67, [(1, .int (r3.1.2.1 0 17)), (0, .ref 64)], [], (q_kM r5 c n)) _ _
      refine q_RP_seg (g2 := (84, [(1, .int (r3.1.2.1 0 17)), (0, .ref 64)], [.int 2048, .int (2048 * (r3.1.2.1 0 17)), .ref 82, .int 0, .ref 67], (q_kM r5 c n))) 9 (fun _ _ => rfl) ?_
      refine q_RP_bd fun r6 er6 => ?_
      refine q_RP_call (v := none) (h2 := (q_kM r6 c n)) rfl rfl ((dzt_M304_67_82 r5 c n 0 (2048 * (r3.1.2.1 0 17)) 2048 r6 er6).le (Nat.le_of_ble_eq_true rfl)) ?_
      show q_RP _ _ _ (87, [(1, .int (r3.1.2.1 0 17)), (0, .ref 64)], [], (q_kM r6 c n)) _ _
      refine q_RP_seg (g2 := (102, [(1, .int (r3.1.2.1 0 17)), (0, .ref 64)], [.int 48, .int (48 * (r3.1.2.1 0 17)), .ref 83, .int 0, .ref 68], (q_kM r6 c n))) 9 (fun _ _ => rfl) ?_
      refine q_RP_bd fun r7 er7 => ?_
      refine q_RP_call (v := none) (h2 := (q_kM r7 c n)) rfl rfl ((dzt_M304_68_83 r6 c n 0 (48 * (r3.1.2.1 0 17)) 48 r7 er7).le (Nat.le_of_ble_eq_true rfl)) ?_
      show q_RP _ _ _ (105, [(1, .int (r3.1.2.1 0 17)), (0, .ref 64)], [], (q_kM r7 c n)) _ _
      refine q_RP_seg (g2 := (122, [(1, .int (r3.1.2.1 0 17)), (0, .ref 64)], [.int 1024, .int (1024 * (r3.1.2.1 0 17)), .ref 84, .int 0, .ref 69], (q_kM r7 c n))) 9 (fun _ _ => rfl) ?_
      refine q_RP_bd fun r8 er8 => ?_
      refine q_RP_call (v := none) (h2 := (q_kM r8 c n)) rfl rfl ((dzt_M304_69_84 r7 c n 0 (1024 * (r3.1.2.1 0 17)) 1024 r8 er8).le (Nat.le_of_ble_eq_true rfl)) ?_
      show q_RP _ _ _ (125, [(1, .int (r3.1.2.1 0 17)), (0, .ref 64)], [], (q_kM r8 c n)) _ _
      refine q_RP_seg (g2 := (140, [(1, .int (r3.1.2.1 0 17)), (0, .ref 64)], [.int 40, .int (40 * (r3.1.2.1 0 17)), .ref 85, .int 0, .ref 70], (q_kM r8 c n))) 9 (fun _ _ => rfl) ?_
      refine q_RP_bd fun r9 er9 => ?_
      refine q_RP_call (v := none) (h2 := (q_kM r9 c n)) rfl rfl ((dzt_M304_70_85 r8 c n 0 (40 * (r3.1.2.1 0 17)) 40 r9 er9).le (Nat.le_of_ble_eq_true rfl)) ?_
      show q_RP _ _ _ (143, [(1, .int (r3.1.2.1 0 17)), (0, .ref 64)], [], (q_kM r9 c n)) _ _
      refine q_RP_seg (g2 := (158, [(1, .int (r3.1.2.1 0 17)), (0, .ref 64)], [.int 40, .int (40 * (r3.1.2.1 0 17)), .ref 87, .int 0, .ref 72], (q_kM r9 c n))) 9 (fun _ _ => rfl) ?_
      refine q_RP_bd fun r10 er10 => ?_
      refine q_RP_call (v := none) (h2 := (q_kM r10 c n)) rfl rfl ((dzt_M304_72_87 r9 c n 0 (40 * (r3.1.2.1 0 17)) 40 r10 er10).le (Nat.le_of_ble_eq_true rfl)) ?_
      show q_RP _ _ _ (161, [(1, .int (r3.1.2.1 0 17)), (0, .ref 64)], [], (q_kM r10 c n)) _ _
      refine q_RP_seg (g2 := (176, [(1, .int (r3.1.2.1 0 17)), (0, .ref 64)], [.int 16, .int (16 * (r3.1.2.1 0 17)), .ref 88, .int 0, .ref 73], (q_kM r10 c n))) 9 (fun _ _ => rfl) ?_
      refine q_RP_bd fun r11 er11 => ?_
      refine q_RP_call (v := none) (h2 := (q_kM r11 c n)) rfl rfl ((dzt_M304_73_88 r10 c n 0 (16 * (r3.1.2.1 0 17)) 16 r11 er11).le (Nat.le_of_ble_eq_true rfl)) ?_
      show q_RP _ _ _ (179, [(1, .int (r3.1.2.1 0 17)), (0, .ref 64)], [], (q_kM r11 c n)) _ _
      refine q_RP_seg (g2 := (192, [(1, .int (r3.1.2.1 0 17)), (0, .ref 64)], [.int 3, .int (3 * (r3.1.2.1 0 17)), .ref 89, .int 0, .ref 74], (q_kM r11 c n))) 9 (fun _ _ => rfl) ?_
      refine q_RP_bd fun r12 er12 => ?_
      refine q_RP_call (v := none) (h2 := (q_kM r12 c n)) rfl rfl ((dzt_M304_74_89 r11 c n 0 (3 * (r3.1.2.1 0 17)) 3 r12 er12).le (Nat.le_of_ble_eq_true rfl)) ?_
      show q_RP _ _ _ (195, [(1, .int (r3.1.2.1 0 17)), (0, .ref 64)], [], (q_kM r12 c n)) _ _
      refine q_RP_seg (g2 := (208, [(1, .int (r3.1.2.1 0 17)), (0, .ref 64)], [.int 3, .int (3 * (r3.1.2.1 0 17)), .ref 90, .int 0, .ref 75], (q_kM r12 c n))) 9 (fun _ _ => rfl) ?_
      refine q_RP_bd fun r13 er13 => ?_
      refine q_RP_call (v := none) (h2 := (q_kM r13 c n)) rfl rfl ((dzt_M304_75_90 r12 c n 0 (3 * (r3.1.2.1 0 17)) 3 r13 er13).le (Nat.le_of_ble_eq_true rfl)) ?_
      show q_RP _ _ _ (211, [(1, .int (r3.1.2.1 0 17)), (0, .ref 64)], [], (q_kM r13 c n)) _ _
      refine q_RP_seg (g2 := (224, [(1, .int (r3.1.2.1 0 17)), (0, .ref 64)], [.int 3, .int (3 * (r3.1.2.1 0 17)), .ref 91, .int 0, .ref 76], (q_kM r13 c n))) 9 (fun _ _ => rfl) ?_
      refine q_RP_bd fun r14 er14 => ?_
      refine q_RP_call (v := none) (h2 := (q_kM r14 c n)) rfl rfl ((dzt_M304_76_91 r13 c n 0 (3 * (r3.1.2.1 0 17)) 3 r14 er14).le (Nat.le_of_ble_eq_true rfl)) ?_
      show q_RP _ _ _ (227, [(1, .int (r3.1.2.1 0 17)), (0, .ref 64)], [], (q_kM r14 c n)) _ _
      refine q_RP_seg (g2 := (240, [(1, .int (r3.1.2.1 0 17)), (0, .ref 64)], [.int 3, .int (3 * (r3.1.2.1 0 17)), .ref 92, .int 0, .ref 77], (q_kM r14 c n))) 9 (fun _ _ => rfl) ?_
      refine q_RP_bd fun r15 er15 => ?_
      refine q_RP_call (v := none) (h2 := (q_kM r15 c n)) rfl rfl ((dzt_M304_77_92 r14 c n 0 (3 * (r3.1.2.1 0 17)) 3 r15 er15).le (Nat.le_of_ble_eq_true rfl)) ?_
      show q_RP _ _ _ (243, [(1, .int (r3.1.2.1 0 17)), (0, .ref 64)], [], (q_kM r15 c n)) _ _
      refine q_RP_seg (g2 := (258, [(1, .int (r3.1.2.1 0 17)), (0, .ref 64)], [.int 24, .int (24 * (r3.1.2.1 0 17)), .ref 93, .int 0, .ref 78], (q_kM r15 c n))) 9 (fun _ _ => rfl) ?_
      refine q_RP_bd fun r16 er16 => ?_
      refine q_RP_call (v := none) (h2 := (q_kM r16 c n)) rfl rfl ((dzt_M304_78_93 r15 c n 0 (24 * (r3.1.2.1 0 17)) 24 r16 er16).le (Nat.le_of_ble_eq_true rfl)) ?_
      show q_RP _ _ _ (261, [(1, .int (r3.1.2.1 0 17)), (0, .ref 64)], [], (q_kM r16 c n)) _ _
      refine q_RP_seg (g2 := (276, [(1, .int (r3.1.2.1 0 17)), (0, .ref 64)], [.int 16, .int (16 * (r3.1.2.1 0 17)), .ref 86, .int 0, .ref 71], (q_kM r16 c n))) 9 (fun _ _ => rfl) ?_
      refine q_RP_bd fun r17 er17 => ?_
      refine q_RP_call (v := none) (h2 := (q_kM r17 c n)) rfl rfl ((dzt_M305_71_86 r16 c n 0 (16 * (r3.1.2.1 0 17)) 16 r17 er17).le (Nat.le_of_ble_eq_true rfl)) ?_
      show q_RP _ _ _ (279, [(1, .int (r3.1.2.1 0 17)), (0, .ref 64)], [], (q_kM r17 c n)) _ _
      refine q_RP_seg (g2 := (294, [(1, .int (r3.1.2.1 0 17)), (0, .ref 64)], [.int 8, .int (8 * (r3.1.2.1 0 17)), .ref 94, .int 0, .ref 79], (q_kM r17 c n))) 9 (fun _ _ => rfl) ?_
      refine q_RP_bd fun r18 er18 => ?_
      refine q_RP_call (v := none) (h2 := (q_kM r18 c n)) rfl rfl ((dzt_M305_79_94 r17 c n 0 (8 * (r3.1.2.1 0 17)) 8 r18 er18).le (Nat.le_of_ble_eq_true rfl)) ?_
      show q_RP _ _ _ (297, [(1, .int (r3.1.2.1 0 17)), (0, .ref 64)], [], (q_kM r18 c n)) _ _
      refine q_RP_seg (g2 := (308, [(1, .int (r3.1.2.1 0 17)), (0, .ref 64)], [.long (r18.2.2 0 15), .int (2 * (r3.1.2.1 0 17)), .ref 95], (q_kM r18 c n))) 7 (fun _ _ => rfl) ?_
      refine q_RP_as fun i5 => ?_
      refine q_RP_rsT (g2 := (309, [(1, .int (r3.1.2.1 0 17)), (0, .ref 64)], [], (q_kM (q_sL r18 31 (vp_updL (r18.2.2 31) ((2 * (r3.1.2.1 0 17)).toNatClampNeg) (r18.2.2 0 15))) c n))) rfl q_wM31 i5 ?_
      refine q_RP_seg (g2 := (322, [(1, .int (r3.1.2.1 0 17)), (0, .ref 64)], [.long (r18.2.2 0 16), .int ((2 * (r3.1.2.1 0 17)) + 1), .ref 95], (q_kM (q_sL r18 31 (vp_updL (r18.2.2 31) ((2 * (r3.1.2.1 0 17)).toNatClampNeg) (r18.2.2 0 15))) c n))) 9 (fun _ _ => rfl) ?_
      refine q_RP_as fun i6 => ?_
      generalize (q_sL r18 31 (vp_updL (r18.2.2 31) ((2 * (r3.1.2.1 0 17)).toNatClampNeg) (r18.2.2 0 15))) = r19
      refine q_RP_let ?_
      show q_RP _ _ _ (322, [(1, .int (r3.1.2.1 0 17)), (0, .ref 64)], [.long (r18.2.2 0 16), .int ((2 * (r3.1.2.1 0 17)) + 1), .ref 95], (q_kM r19 c n)) _ _
      refine q_RP_rsT (g2 := (323, [(1, .int (r3.1.2.1 0 17)), (0, .ref 64)], [], (q_kM (q_sL r19 31 (vp_updL (r19.2.2 31) (((2 * (r3.1.2.1 0 17)) + 1).toNatClampNeg) (r18.2.2 0 16))) c n))) rfl q_wM31 i6 ?_
      refine q_RP_seg (g2 := (328, [(1, .int (r3.1.2.1 0 17)), (0, .ref 64)], [.int (r19.2.1 0 17), .ref 64], (q_kM (q_sL r19 31 (vp_updL (r19.2.2 31) (((2 * (r3.1.2.1 0 17)) + 1).toNatClampNeg) (r18.2.2 0 16))) c n))) 3 (fun _ _ => rfl) ?_
      refine q_RP_seg (g2 := (334, [(1, .int (r3.1.2.1 0 17)), (0, .ref 64)], [.int (r3.1.2.1 0 17)], (q_kM (q_sI (q_sL r19 31 (vp_updL (r19.2.2 31) (((2 * (r3.1.2.1 0 17)) + 1).toNatClampNeg) (r18.2.2 0 16))) 0 17 ((r19.2.1 0 17) + 1)) c n))) 4 (fun _ _ => rfl) ?_
      exact q_RP_ret rfl rfl rfl
  | false =>
    refine q_RP_cF ?_
    refine q_RP_rsT (g2 := (13, [(0, .ref 64)], [.ref 64], (q_kM s c n))) rfl rfl (q_d_neF h3) ?_
    refine q_RP_seg (g2 := (14, [(0, .ref 64)], [.int 0, .ref 64], (q_kM s c n))) 1 (fun _ _ => rfl) ?_
    refine q_RP_call (v := (some (.int (q_b (dz_M200_64 s 0).2)))) (h2 := (q_kM (dz_M200_64 s 0).1 c n)) rfl rfl ((dzt_M200_64 s c n 0).le (Nat.le_of_ble_eq_true rfl)) ?_
    generalize dz_M200_64 s 0 = r20
    refine q_RP_let ?_
    show q_RP _ _ _ (17, [(0, .ref 64)], [.int (q_b r20.2)], (q_kM r20.1 c n)) _ _
    cases h7 : r20.2 with
    | true =>
      refine q_RP_cT ?_
      show q_RP _ _ _ (17, [(0, .ref 64)], [.int 1], (q_kM r20.1 c n)) _ _
      refine q_RP_seg (g2 := (21, [(0, .ref 64)], [.int 0], (q_kM r20.1 c n))) 2 (fun _ _ => rfl) ?_
      exact q_RP_ret rfl rfl rfl
    | false =>
      refine q_RP_cF ?_
      show q_RP _ _ _ (17, [(0, .ref 64)], [.int 0], (q_kM r20.1 c n)) _ _
      refine q_RP_seg (g2 := (26, [(0, .ref 64)], [.int (r20.1.2.1 0 17)], (q_kM r20.1 c n))) 3 (fun _ _ => rfl) ?_
      refine q_RP_seg (g2 := (44, [(1, .int (r20.1.2.1 0 17)), (0, .ref 64)], [.int 4096, .int (4096 * (r20.1.2.1 0 17)), .ref 80, .int 0, .ref 65], (q_kM r20.1 c n))) 10 (fun _ _ => rfl) ?_
      refine q_RP_bd fun r21 er21 => ?_
      refine q_RP_call (v := none) (h2 := (q_kM r21 c n)) rfl rfl ((dzt_M304_65_80 r20.1 c n 0 (4096 * (r20.1.2.1 0 17)) 4096 r21 er21).le (Nat.le_of_ble_eq_true rfl)) ?_
      show q_RP _ _ _ (47, [(1, .int (r20.1.2.1 0 17)), (0, .ref 64)], [], (q_kM r21 c n)) _ _
      refine q_RP_seg (g2 := (64, [(1, .int (r20.1.2.1 0 17)), (0, .ref 64)], [.int 512, .int (512 * (r20.1.2.1 0 17)), .ref 81, .int 0, .ref 66], (q_kM r21 c n))) 9 (fun _ _ => rfl) ?_
      refine q_RP_bd fun r22 er22 => ?_
      refine q_RP_call (v := none) (h2 := (q_kM r22 c n)) rfl rfl ((dzt_M304_66_81 r21 c n 0 (512 * (r20.1.2.1 0 17)) 512 r22 er22).le (Nat.le_of_ble_eq_true rfl)) ?_
      show q_RP _ _ _ (67, [(1, .int (r20.1.2.1 0 17)), (0, .ref 64)], [], (q_kM r22 c n)) _ _
      refine q_RP_seg (g2 := (84, [(1, .int (r20.1.2.1 0 17)), (0, .ref 64)], [.int 2048, .int (2048 * (r20.1.2.1 0 17)), .ref 82, .int 0, .ref 67], (q_kM r22 c n))) 9 (fun _ _ => rfl) ?_
      refine q_RP_bd fun r23 er23 => ?_
      refine q_RP_call (v := none) (h2 := (q_kM r23 c n)) rfl rfl ((dzt_M304_67_82 r22 c n 0 (2048 * (r20.1.2.1 0 17)) 2048 r23 er23).le (Nat.le_of_ble_eq_true rfl)) ?_
      show q_RP _ _ _ (87, [(1, .int (r20.1.2.1 0 17)), (0, .ref 64)], [], (q_kM r23 c n)) _ _
      refine q_RP_seg (g2 := (102, [(1, .int (r20.1.2.1 0 17)), (0, .ref 64)], [.int 48, .int (48 * (r20.1.2.1 0 17)), .ref 83, .int 0, .ref 68], (q_kM r23 c n))) 9 (fun _ _ => rfl) ?_
      refine q_RP_bd fun r24 er24 => ?_
      refine q_RP_call (v := none) (h2 := (q_kM r24 c n)) rfl rfl ((dzt_M304_68_83 r23 c n 0 (48 * (r20.1.2.1 0 17)) 48 r24 er24).le (Nat.le_of_ble_eq_true rfl)) ?_
      show q_RP _ _ _ (105, [(1, .int (r20.1.2.1 0 17)), (0, .ref 64)], [], (q_kM r24 c n)) _ _
      refine q_RP_seg (g2 := (122, [(1, .int (r20.1.2.1 0 17)), (0, .ref 64)], [.int 1024, .int (1024 * (r20.1.2.1 0 17)), .ref 84, .int 0, .ref 69], (q_kM r24 c n))) 9 (fun _ _ => rfl) ?_
      refine q_RP_bd fun r25 er25 => ?_
      refine q_RP_call (v := none) (h2 := (q_kM r25 c n)) rfl rfl ((dzt_M304_69_84 r24 c n 0 (1024 * (r20.1.2.1 0 17)) 1024 r25 er25).le (Nat.le_of_ble_eq_true rfl)) ?_
      show q_RP _ _ _ (125, [(1, .int (r20.1.2.1 0 17)), (0, .ref 64)], [], (q_kM r25 c n)) _ _
      refine q_RP_seg (g2 := (140, [(1, .int (r20.1.2.1 0 17)), (0, .ref 64)], [.int 40, .int (40 * (r20.1.2.1 0 17)), .ref 85, .int 0, .ref 70], (q_kM r25 c n))) 9 (fun _ _ => rfl) ?_
      refine q_RP_bd fun r26 er26 => ?_
      refine q_RP_call (v := none) (h2 := (q_kM r26 c n)) rfl rfl ((dzt_M304_70_85 r25 c n 0 (40 * (r20.1.2.1 0 17)) 40 r26 er26).le (Nat.le_of_ble_eq_true rfl)) ?_
      show q_RP _ _ _ (143, [(1, .int (r20.1.2.1 0 17)), (0, .ref 64)], [], (q_kM r26 c n)) _ _
      refine q_RP_seg (g2 := (158, [(1, .int (r20.1.2.1 0 17)), (0, .ref 64)], [.int 40, .int (40 * (r20.1.2.1 0 17)), .ref 87, .int 0, .ref 72], (q_kM r26 c n))) 9 (fun _ _ => rfl) ?_
      refine q_RP_bd fun r27 er27 => ?_
      refine q_RP_call (v := none) (h2 := (q_kM r27 c n)) rfl rfl ((dzt_M304_72_87 r26 c n 0 (40 * (r20.1.2.1 0 17)) 40 r27 er27).le (Nat.le_of_ble_eq_true rfl)) ?_
      show q_RP _ _ _ (161, [(1, .int (r20.1.2.1 0 17)), (0, .ref 64)], [], (q_kM r27 c n)) _ _
      refine q_RP_seg (g2 := (176, [(1, .int (r20.1.2.1 0 17)), (0, .ref 64)], [.int 16, .int (16 * (r20.1.2.1 0 17)), .ref 88, .int 0, .ref 73], (q_kM r27 c n))) 9 (fun _ _ => rfl) ?_
      refine q_RP_bd fun r28 er28 => ?_
      refine q_RP_call (v := none) (h2 := (q_kM r28 c n)) rfl rfl ((dzt_M304_73_88 r27 c n 0 (16 * (r20.1.2.1 0 17)) 16 r28 er28).le (Nat.le_of_ble_eq_true rfl)) ?_
      show q_RP _ _ _ (179, [(1, .int (r20.1.2.1 0 17)), (0, .ref 64)], [], (q_kM r28 c n)) _ _
      refine q_RP_seg (g2 := (192, [(1, .int (r20.1.2.1 0 17)), (0, .ref 64)], [.int 3, .int (3 * (r20.1.2.1 0 17)), .ref 89, .int 0, .ref 74], (q_kM r28 c n))) 9 (fun _ _ => rfl) ?_
      refine q_RP_bd fun r29 er29 => ?_
      refine q_RP_call (v := none) (h2 := (q_kM r29 c n)) rfl rfl ((dzt_M304_74_89 r28 c n 0 (3 * (r20.1.2.1 0 17)) 3 r29 er29).le (Nat.le_of_ble_eq_true rfl)) ?_
      show q_RP _ _ _ (195, [(1, .int (r20.1.2.1 0 17)), (0, .ref 64)], [], (q_kM r29 c n)) _ _
      refine q_RP_seg (g2 := (208, [(1, .int (r20.1.2.1 0 17)), (0, .ref 64)], [.int 3, .int (3 * (r20.1.2.1 0 17)), .ref 90, .int 0, .ref 75], (q_kM r29 c n))) 9 (fun _ _ => rfl) ?_
      refine q_RP_bd fun r30 er30 => ?_
      refine q_RP_call (v := none) (h2 := (q_kM r30 c n)) rfl rfl ((dzt_M304_75_90 r29 c n 0 (3 * (r20.1.2.1 0 17)) 3 r30 er30).le (Nat.le_of_ble_eq_true rfl)) ?_
      show q_RP _ _ _ (211, [(1, .int (r20.1.2.1 0 17)), (0, .ref 64)], [], (q_kM r30 c n)) _ _
      refine q_RP_seg (g2 := (224, [(1, .int (r20.1.2.1 0 17)), (0, .ref 64)], [.int 3, .int (3 * (r20.1.2.1 0 17)), .ref 91, .int 0, .ref 76], (q_kM r30 c n))) 9 (fun _ _ => rfl) ?_
      refine q_RP_bd fun r31 er31 => ?_
      refine q_RP_call (v := none) (h2 := (q_kM r31 c n)) rfl rfl ((dzt_M304_76_91 r30 c n 0 (3 * (r20.1.2.1 0 17)) 3 r31 er31).le (Nat.le_of_ble_eq_true rfl)) ?_
      show q_RP _ _ _ (227, [(1, .int (r20.1.2.1 0 17)), (0, .ref 64)], [], (q_kM r31 c n)) _ _
      refine q_RP_seg (g2 := (240, [(1, .int (r20.1.2.1 0 17)), (0, .ref 64)], [.int 3, .int (3 * (r20.1.2.1 0 17)), .ref 92, .int 0, .ref 77], (q_kM r31 c n))) 9 (fun _ _ => rfl) ?_
      refine q_RP_bd fun r32 er32 => ?_
      refine q_RP_call (v := none) (h2 := (q_kM r32 c n)) rfl rfl ((dzt_M304_77_92 r31 c n 0 (3 * (r20.1.2.1 0 17)) 3 r32 er32).le (Nat.le_of_ble_eq_true rfl)) ?_
      show q_RP _ _ _ (243, [(1, .int (r20.1.2.1 0 17)), (0, .ref 64)], [], (q_kM r32 c n)) _ _
      refine q_RP_seg (g2 := (258, [(1, .int (r20.1.2.1 0 17)), (0, .ref 64)], [.int 24, .int (24 * (r20.1.2.1 0 17)), .ref 93, .int 0, .ref 78], (q_kM r32 c n))) 9 (fun _ _ => rfl) ?_
      refine q_RP_bd fun r33 er33 => ?_
      refine q_RP_call (v := none) (h2 := (q_kM r33 c n)) rfl rfl ((dzt_M304_78_93 r32 c n 0 (24 * (r20.1.2.1 0 17)) 24 r33 er33).le (Nat.le_of_ble_eq_true rfl)) ?_
      show q_RP _ _ _ (261, [(1, .int (r20.1.2.1 0 17)), (0, .ref 64)], [], (q_kM r33 c n)) _ _
      refine q_RP_seg (g2 := (276, [(1, .int (r20.1.2.1 0 17)), (0, .ref 64)], [.int 16, .int (16 * (r20.1.2.1 0 17)), .ref 86, .int 0, .ref 71], (q_kM r33 c n))) 9 (fun _ _ => rfl) ?_
      refine q_RP_bd fun r34 er34 => ?_
      refine q_RP_call (v := none) (h2 := (q_kM r34 c n)) rfl rfl ((dzt_M305_71_86 r33 c n 0 (16 * (r20.1.2.1 0 17)) 16 r34 er34).le (Nat.le_of_ble_eq_true rfl)) ?_
      show q_RP _ _ _ (279, [(1, .int (r20.1.2.1 0 17)), (0, .ref 64)], [], (q_kM r34 c n)) _ _
      refine q_RP_seg (g2 := (294, [(1, .int (r20.1.2.1 0 17)), (0, .ref 64)], [.int 8, .int (8 * (r20.1.2.1 0 17)), .ref 94, .int 0, .ref 79], (q_kM r34 c n))) 9 (fun _ _ => rfl) ?_
      refine q_RP_bd fun r35 er35 => ?_
      refine q_RP_call (v := none) (h2 := (q_kM r35 c n)) rfl rfl ((dzt_M305_79_94 r34 c n 0 (8 * (r20.1.2.1 0 17)) 8 r35 er35).le (Nat.le_of_ble_eq_true rfl)) ?_
      show q_RP _ _ _ (297, [(1, .int (r20.1.2.1 0 17)), (0, .ref 64)], [], (q_kM r35 c n)) _ _
      refine q_RP_seg (g2 := (308, [(1, .int (r20.1.2.1 0 17)), (0, .ref 64)], [.long (r35.2.2 0 15), .int (2 * (r20.1.2.1 0 17)), .ref 95], (q_kM r35 c n))) 7 (fun _ _ => rfl) ?_
      refine q_RP_as fun i8 => ?_
      refine q_RP_rsT (g2 := (309, [(1, .int (r20.1.2.1 0 17)), (0, .ref 64)], [], (q_kM (q_sL r35 31 (vp_updL (r35.2.2 31) ((2 * (r20.1.2.1 0 17)).toNatClampNeg) (r35.2.2 0 15))) c n))) rfl q_wM31 i8 ?_
      refine q_RP_seg (g2 := (322, [(1, .int (r20.1.2.1 0 17)), (0, .ref 64)], [.long (r35.2.2 0 16), .int ((2 * (r20.1.2.1 0 17)) + 1), .ref 95], (q_kM (q_sL r35 31 (vp_updL (r35.2.2 31) ((2 * (r20.1.2.1 0 17)).toNatClampNeg) (r35.2.2 0 15))) c n))) 9 (fun _ _ => rfl) ?_
      refine q_RP_as fun i9 => ?_
      generalize (q_sL r35 31 (vp_updL (r35.2.2 31) ((2 * (r20.1.2.1 0 17)).toNatClampNeg) (r35.2.2 0 15))) = r36
      refine q_RP_let ?_
      show q_RP _ _ _ (322, [(1, .int (r20.1.2.1 0 17)), (0, .ref 64)], [.long (r35.2.2 0 16), .int ((2 * (r20.1.2.1 0 17)) + 1), .ref 95], (q_kM r36 c n)) _ _
      refine q_RP_rsT (g2 := (323, [(1, .int (r20.1.2.1 0 17)), (0, .ref 64)], [], (q_kM (q_sL r36 31 (vp_updL (r36.2.2 31) (((2 * (r20.1.2.1 0 17)) + 1).toNatClampNeg) (r35.2.2 0 16))) c n))) rfl q_wM31 i9 ?_
      refine q_RP_seg (g2 := (328, [(1, .int (r20.1.2.1 0 17)), (0, .ref 64)], [.int (r36.2.1 0 17), .ref 64], (q_kM (q_sL r36 31 (vp_updL (r36.2.2 31) (((2 * (r20.1.2.1 0 17)) + 1).toNatClampNeg) (r35.2.2 0 16))) c n))) 3 (fun _ _ => rfl) ?_
      refine q_RP_seg (g2 := (334, [(1, .int (r20.1.2.1 0 17)), (0, .ref 64)], [.int (r20.1.2.1 0 17)], (q_kM (q_sI (q_sL r36 31 (vp_updL (r36.2.2 31) (((2 * (r20.1.2.1 0 17)) + 1).toNatClampNeg) (r35.2.2 0 16))) 0 17 ((r36.2.1 0 17) + 1)) c n))) 4 (fun _ _ => rfl) ?_
      exact q_RP_ret rfl rfl rfl
def dz_M307_64_4 (m : Nat) : q_S → Int32 → Int32 → Int32 → Option (Int32) := Nat.rec (motive := fun _ => q_S → Int32 → Int32 → Int32 → Option (Int32)) (fun _ _ _ _ => none) (fun _ k4 s v1 v2 v3 =>
  cond (decide (v3 < 4096)) (cond (q_in v3 4096) (cond (q_in ((4096 * v1) + v3) 12288) (cond (decide ((s.1 1) (v3.toNatClampNeg) = (s.1 16) (((4096 * v1) + v3).toNatClampNeg))) (k4 s v1 (v2 + 0) (v3 + 1)) (k4 s v1 (v2 + 1) (v3 + 1))) none) none) (some v2)) m
theorem dzs_M307_64_4 (m : Nat) (s : q_S) (v1 : Int32) (v2 : Int32) (v3 : Int32) : dz_M307_64_4 (m + 1) s v1 v2 v3 = (fun k4 : q_S → Int32 → Int32 → Int32 → Option (Int32) =>
  cond (decide (v3 < 4096)) (cond (q_in v3 4096) (cond (q_in ((4096 * v1) + v3) 12288) (cond (decide ((s.1 1) (v3.toNatClampNeg) = (s.1 16) (((4096 * v1) + v3).toNatClampNeg))) (k4 s v1 (v2 + 0) (v3 + 1)) (k4 s v1 (v2 + 1) (v3 + 1))) none) none) (some v2)) (dz_M307_64_4 m) := rfl
set_option maxHeartbeats 4000000 in
theorem dzt_M307_64_4 (c n : Nat) (s : q_S) : ∀ (m : Nat) (v1 : Int32) (v2 : Int32) (v3 : Int32), q_RP q_TB0 0 306 (4, [(0, .ref 64), (1, .int v1), (2, .int v2), (3, .int v3)], [], (q_kM s c n)) (q_oP (q_kM s c n)) (dz_M307_64_4 m s v1 v2 v3) := by
  intro m
  induction m with
  | zero => intro v1 v2 v3; exact q_RP_no
  | succ m ih =>
    intro v1 v2 v3
    have hk4 := ih
    clear ih
    rw [dzs_M307_64_4]
    generalize dz_M307_64_4 m = k4 at hk4 ⊢
    dsimp only
    refine q_RP_seg (g2 := (8, [(0, .ref 64), (1, .int v1), (2, .int v2), (3, .int v3)], [.int 4096, .int v3], (q_kM s c n))) 2 (fun _ _ => rfl) ?_
    cases h1 : decide (v3 < 4096) with
    | true =>
      refine q_RP_cT ?_
      refine q_RP_rsF (g2 := (11, [(0, .ref 64), (1, .int v1), (2, .int v2), (3, .int v3)], [], (q_kM s c n))) rfl rfl (q_d_geT h1) ?_
      refine q_RP_seg (g2 := (17, [(0, .ref 64), (1, .int v1), (2, .int v2), (3, .int v3)], [.int v3, .ref 65, .int v2], (q_kM s c n))) 4 (fun _ _ => rfl) ?_
      refine q_RP_as fun i2 => ?_
      refine q_RP_rsT (g2 := (18, [(0, .ref 64), (1, .int v1), (2, .int v2), (3, .int v3)], [.int ((s.1 1) (v3.toNatClampNeg)), .int v2], (q_kM s c n))) rfl rfl i2 ?_
      refine q_RP_seg (g2 := (29, [(0, .ref 64), (1, .int v1), (2, .int v2), (3, .int v3)], [.int ((4096 * v1) + v3), .ref 80, .int ((s.1 1) (v3.toNatClampNeg)), .int v2], (q_kM s c n))) 7 (fun _ _ => rfl) ?_
      refine q_RP_as fun i3 => ?_
      refine q_RP_rsT (g2 := (30, [(0, .ref 64), (1, .int v1), (2, .int v2), (3, .int v3)], [.int ((s.1 16) (((4096 * v1) + v3).toNatClampNeg)), .int ((s.1 1) (v3.toNatClampNeg)), .int v2], (q_kM s c n))) rfl rfl i3 ?_
      cases h4 : decide ((s.1 1) (v3.toNatClampNeg) = (s.1 16) (((4096 * v1) + v3).toNatClampNeg)) with
      | true =>
        refine q_RP_cT ?_
        refine q_RP_rsF (g2 := (33, [(0, .ref 64), (1, .int v1), (2, .int v2), (3, .int v3)], [.int v2], (q_kM s c n))) rfl rfl (q_d_neT h4) ?_
        refine q_RP_seg (g2 := (4, [(3, .int (v3 + 1)), (2, .int (v2 + 0)), (0, .ref 64), (1, .int v1)], [], (q_kM s c n))) 6 (fun _ _ => rfl) ?_
        exact q_RP_xt (q_xt_mk (q_mn1 2 rfl (q_mn1 3 rfl (q_mn1 1 rfl (q_mn1 0 rfl q_mn0)))) rfl) (hk4 v1 (v2 + 0) (v3 + 1))
      | false =>
        refine q_RP_cF ?_
        refine q_RP_rsT (g2 := (37, [(0, .ref 64), (1, .int v1), (2, .int v2), (3, .int v3)], [.int v2], (q_kM s c n))) rfl rfl (q_d_neF h4) ?_
        refine q_RP_seg (g2 := (4, [(3, .int (v3 + 1)), (2, .int (v2 + 1)), (0, .ref 64), (1, .int v1)], [], (q_kM s c n))) 5 (fun _ _ => rfl) ?_
        exact q_RP_xt (q_xt_mk (q_mn1 2 rfl (q_mn1 3 rfl (q_mn1 1 rfl (q_mn1 0 rfl q_mn0)))) rfl) (hk4 v1 (v2 + 1) (v3 + 1))
    | false =>
      refine q_RP_cF ?_
      refine q_RP_rsT (g2 := (46, [(0, .ref 64), (1, .int v1), (2, .int v2), (3, .int v3)], [], (q_kM s c n))) rfl rfl (q_d_geF h1) ?_
      refine q_RP_seg (g2 := (47, [(0, .ref 64), (1, .int v1), (2, .int v2), (3, .int v3)], [.int v2], (q_kM s c n))) 1 (fun _ _ => rfl) ?_
      exact q_RP_ret rfl rfl rfl
def dz_M307_64 (s : q_S) (a1 : Int32) : Option (Int32) :=
  dz_M307_64_4 5000 s a1 0 0
set_option maxHeartbeats 4000000 in
theorem dzt_M307_64 (s : q_S) (c n : Nat) (a1 : Int32) (x : Int32) (h : dz_M307_64 s a1 = some x) : q_Ca q_TB0 1 306 [.ref 64, .int a1] (q_kM s c n) ((q_oP (q_kM s c n)) x) := by
  refine q_CaP_of (φ := (q_oP (q_kM s c n))) (Nat.le_of_ble_eq_true rfl) ?_ h
  clear h
  unfold dz_M307_64
  refine q_RP_seg (g2 := (4, [(3, .int 0), (2, .int 0), (0, .ref 64), (1, .int a1)], [], (q_kM s c n))) 4 (fun _ _ => rfl) ?_
  exact q_RP_xt (q_xt_mk (q_mn1 2 rfl (q_mn1 3 rfl (q_mn1 1 rfl (q_mn1 0 rfl q_mn0)))) rfl) (dzt_M307_64_4 c n s 5000 a1 0 0)
def dz_M304_80_65_3 (m : Nat) : q_S → Int32 → Int32 → Int32 → Int32 → Option (q_S) := Nat.rec (motive := fun _ => q_S → Int32 → Int32 → Int32 → Int32 → Option (q_S)) (fun _ _ _ _ _ => none) (fun _ k3 s v1 v3 v4 v5 =>
  cond (decide (v5 < v4)) (cond (q_in (v1 + v5) 12288) (cond (q_in (v3 + v5) 4096) (k3 (q_sA s 1 (upd (s.1 1) ((v3 + v5).toNatClampNeg) ((s.1 16) ((v1 + v5).toNatClampNeg)))) v1 v3 v4 (v5 + 1)) none) none) (some s)) m
theorem dzs_M304_80_65_3 (m : Nat) (s : q_S) (v1 : Int32) (v3 : Int32) (v4 : Int32) (v5 : Int32) : dz_M304_80_65_3 (m + 1) s v1 v3 v4 v5 = (fun k3 : q_S → Int32 → Int32 → Int32 → Int32 → Option (q_S) =>
  cond (decide (v5 < v4)) (cond (q_in (v1 + v5) 12288) (cond (q_in (v3 + v5) 4096) (k3 (q_sA s 1 (upd (s.1 1) ((v3 + v5).toNatClampNeg) ((s.1 16) ((v1 + v5).toNatClampNeg)))) v1 v3 v4 (v5 + 1)) none) none) (some s)) (dz_M304_80_65_3 m) := rfl
set_option maxHeartbeats 4000000 in
theorem dzt_M304_80_65_3 (c n : Nat) : ∀ (m : Nat) (s : q_S) (v1 : Int32) (v3 : Int32) (v4 : Int32) (v5 : Int32), q_RP q_TB0 0 303 (3, [(0, .ref 80), (1, .int v1), (2, .ref 65), (3, .int v3), (4, .int v4), (5, .int v5)], [], (q_kM s c n)) (q_oSM c n) (dz_M304_80_65_3 m s v1 v3 v4 v5) := by
  intro m
  induction m with
  | zero => intro s v1 v3 v4 v5; exact q_RP_no
  | succ m ih =>
    intro s v1 v3 v4 v5
    have hk3 := ih
    clear ih
    rw [dzs_M304_80_65_3]
    generalize dz_M304_80_65_3 m = k3 at hk3 ⊢
    dsimp only
    refine q_RP_seg (g2 := (7, [(0, .ref 80), (1, .int v1), (2, .ref 65), (3, .int v3), (4, .int v4), (5, .int v5)], [.int v4, .int v5], (q_kM s c n))) 2 (fun _ _ => rfl) ?_
    cases h1 : decide (v5 < v4) with
    | true =>
      refine q_RP_cT ?_
      refine q_RP_rsF (g2 := (10, [(0, .ref 80), (1, .int v1), (2, .ref 65), (3, .int v3), (4, .int v4), (5, .int v5)], [], (q_kM s c n))) rfl rfl (q_d_geT h1) ?_
      refine q_RP_seg (g2 := (20, [(0, .ref 80), (1, .int v1), (2, .ref 65), (3, .int v3), (4, .int v4), (5, .int v5)], [.int (v1 + v5), .ref 80, .int (v3 + v5), .ref 65], (q_kM s c n))) 8 (fun _ _ => rfl) ?_
      refine q_RP_as fun i2 => ?_
      refine q_RP_rsT (g2 := (21, [(0, .ref 80), (1, .int v1), (2, .ref 65), (3, .int v3), (4, .int v4), (5, .int v5)], [.int ((s.1 16) ((v1 + v5).toNatClampNeg)), .int (v3 + v5), .ref 65], (q_kM s c n))) rfl rfl i2 ?_
      refine q_RP_as fun i3 => ?_
      refine q_RP_rsT (g2 := (22, [(0, .ref 80), (1, .int v1), (2, .ref 65), (3, .int v3), (4, .int v4), (5, .int v5)], [], (q_kM (q_sA s 1 (upd (s.1 1) ((v3 + v5).toNatClampNeg) ((s.1 16) ((v1 + v5).toNatClampNeg)))) c n))) rfl q_wM1 i3 ?_
      refine q_RP_seg (g2 := (3, [(5, .int (v5 + 1)), (0, .ref 80), (1, .int v1), (2, .ref 65), (3, .int v3), (4, .int v4)], [], (q_kM (q_sA s 1 (upd (s.1 1) ((v3 + v5).toNatClampNeg) ((s.1 16) ((v1 + v5).toNatClampNeg)))) c n))) 2 (fun _ _ => rfl) ?_
      exact q_RP_xt (q_xt_mk (q_mn1 1 rfl (q_mn1 2 rfl (q_mn1 3 rfl (q_mn1 4 rfl (q_mn1 5 rfl (q_mn1 0 rfl q_mn0)))))) rfl) (hk3 (q_sA s 1 (upd (s.1 1) ((v3 + v5).toNatClampNeg) ((s.1 16) ((v1 + v5).toNatClampNeg)))) v1 v3 v4 (v5 + 1))
    | false =>
      refine q_RP_cF ?_
      refine q_RP_rsT (g2 := (28, [(0, .ref 80), (1, .int v1), (2, .ref 65), (3, .int v3), (4, .int v4), (5, .int v5)], [], (q_kM s c n))) rfl rfl (q_d_geF h1) ?_
      exact q_RP_ret rfl rfl rfl
def dz_M304_80_65 (s : q_S) (a1 : Int32) (a3 : Int32) (a4 : Int32) : Option (q_S) :=
  dz_M304_80_65_3 5000 s a1 a3 a4 0
set_option maxHeartbeats 4000000 in
theorem dzt_M304_80_65 (s : q_S) (c n : Nat) (a1 : Int32) (a3 : Int32) (a4 : Int32) (x : q_S) (h : dz_M304_80_65 s a1 a3 a4 = some x) : q_Ca q_TB0 1 303 [.ref 80, .int a1, .ref 65, .int a3, .int a4] (q_kM s c n) ((q_oSM c n) x) := by
  refine q_CaP_of (φ := (q_oSM c n)) (Nat.le_of_ble_eq_true rfl) ?_ h
  clear h
  unfold dz_M304_80_65
  refine q_RP_seg (g2 := (3, [(5, .int 0), (0, .ref 80), (1, .int a1), (2, .ref 65), (3, .int a3), (4, .int a4)], [], (q_kM s c n))) 2 (fun _ _ => rfl) ?_
  exact q_RP_xt (q_xt_mk (q_mn1 1 rfl (q_mn1 2 rfl (q_mn1 3 rfl (q_mn1 4 rfl (q_mn1 5 rfl (q_mn1 0 rfl q_mn0)))))) rfl) (dzt_M304_80_65_3 c n 5000 s a1 a3 a4 0)
def dz_M304_81_66_3 (m : Nat) : q_S → Int32 → Int32 → Int32 → Int32 → Option (q_S) := Nat.rec (motive := fun _ => q_S → Int32 → Int32 → Int32 → Int32 → Option (q_S)) (fun _ _ _ _ _ => none) (fun _ k3 s v1 v3 v4 v5 =>
  cond (decide (v5 < v4)) (cond (q_in (v1 + v5) 1536) (cond (q_in (v3 + v5) 512) (k3 (q_sA s 2 (upd (s.1 2) ((v3 + v5).toNatClampNeg) ((s.1 17) ((v1 + v5).toNatClampNeg)))) v1 v3 v4 (v5 + 1)) none) none) (some s)) m
theorem dzs_M304_81_66_3 (m : Nat) (s : q_S) (v1 : Int32) (v3 : Int32) (v4 : Int32) (v5 : Int32) : dz_M304_81_66_3 (m + 1) s v1 v3 v4 v5 = (fun k3 : q_S → Int32 → Int32 → Int32 → Int32 → Option (q_S) =>
  cond (decide (v5 < v4)) (cond (q_in (v1 + v5) 1536) (cond (q_in (v3 + v5) 512) (k3 (q_sA s 2 (upd (s.1 2) ((v3 + v5).toNatClampNeg) ((s.1 17) ((v1 + v5).toNatClampNeg)))) v1 v3 v4 (v5 + 1)) none) none) (some s)) (dz_M304_81_66_3 m) := rfl
set_option maxHeartbeats 4000000 in
theorem dzt_M304_81_66_3 (c n : Nat) : ∀ (m : Nat) (s : q_S) (v1 : Int32) (v3 : Int32) (v4 : Int32) (v5 : Int32), q_RP q_TB0 0 303 (3, [(0, .ref 81), (1, .int v1), (2, .ref 66), (3, .int v3), (4, .int v4), (5, .int v5)], [], (q_kM s c n)) (q_oSM c n) (dz_M304_81_66_3 m s v1 v3 v4 v5) := by
  intro m
  induction m with
  | zero => intro s v1 v3 v4 v5; exact q_RP_no
  | succ m ih =>
    intro s v1 v3 v4 v5
    have hk3 := ih
    clear ih
    rw [dzs_M304_81_66_3]
    generalize dz_M304_81_66_3 m = k3 at hk3 ⊢
    dsimp only
    refine q_RP_seg (g2 := (7, [(0, .ref 81), (1, .int v1), (2, .ref 66), (3, .int v3), (4, .int v4), (5, .int v5)], [.int v4, .int v5], (q_kM s c n))) 2 (fun _ _ => rfl) ?_
    cases h1 : decide (v5 < v4) with
    | true =>
      refine q_RP_cT ?_
      refine q_RP_rsF (g2 := (10, [(0, .ref 81), (1, .int v1), (2, .ref 66), (3, .int v3), (4, .int v4), (5, .int v5)], [], (q_kM s c n))) rfl rfl (q_d_geT h1) ?_
      refine q_RP_seg (g2 := (20, [(0, .ref 81), (1, .int v1), (2, .ref 66), (3, .int v3), (4, .int v4), (5, .int v5)], [.int (v1 + v5), .ref 81, .int (v3 + v5), .ref 66], (q_kM s c n))) 8 (fun _ _ => rfl) ?_
      refine q_RP_as fun i2 => ?_
      refine q_RP_rsT (g2 := (21, [(0, .ref 81), (1, .int v1), (2, .ref 66), (3, .int v3), (4, .int v4), (5, .int v5)], [.int ((s.1 17) ((v1 + v5).toNatClampNeg)), .int (v3 + v5), .ref 66], (q_kM s c n))) rfl rfl i2 ?_
      refine q_RP_as fun i3 => ?_
      refine q_RP_rsT (g2 := (22, [(0, .ref 81), (1, .int v1), (2, .ref 66), (3, .int v3), (4, .int v4), (5, .int v5)], [], (q_kM (q_sA s 2 (upd (s.1 2) ((v3 + v5).toNatClampNeg) ((s.1 17) ((v1 + v5).toNatClampNeg)))) c n))) rfl q_wM2 i3 ?_
      refine q_RP_seg (g2 := (3, [(5, .int (v5 + 1)), (0, .ref 81), (1, .int v1), (2, .ref 66), (3, .int v3), (4, .int v4)], [], (q_kM (q_sA s 2 (upd (s.1 2) ((v3 + v5).toNatClampNeg) ((s.1 17) ((v1 + v5).toNatClampNeg)))) c n))) 2 (fun _ _ => rfl) ?_
      exact q_RP_xt (q_xt_mk (q_mn1 1 rfl (q_mn1 2 rfl (q_mn1 3 rfl (q_mn1 4 rfl (q_mn1 5 rfl (q_mn1 0 rfl q_mn0)))))) rfl) (hk3 (q_sA s 2 (upd (s.1 2) ((v3 + v5).toNatClampNeg) ((s.1 17) ((v1 + v5).toNatClampNeg)))) v1 v3 v4 (v5 + 1))
    | false =>
      refine q_RP_cF ?_
      refine q_RP_rsT (g2 := (28, [(0, .ref 81), (1, .int v1), (2, .ref 66), (3, .int v3), (4, .int v4), (5, .int v5)], [], (q_kM s c n))) rfl rfl (q_d_geF h1) ?_
      exact q_RP_ret rfl rfl rfl
def dz_M304_81_66 (s : q_S) (a1 : Int32) (a3 : Int32) (a4 : Int32) : Option (q_S) :=
  dz_M304_81_66_3 5000 s a1 a3 a4 0
set_option maxHeartbeats 4000000 in
theorem dzt_M304_81_66 (s : q_S) (c n : Nat) (a1 : Int32) (a3 : Int32) (a4 : Int32) (x : q_S) (h : dz_M304_81_66 s a1 a3 a4 = some x) : q_Ca q_TB0 1 303 [.ref 81, .int a1, .ref 66, .int a3, .int a4] (q_kM s c n) ((q_oSM c n) x) := by
  refine q_CaP_of (φ := (q_oSM c n)) (Nat.le_of_ble_eq_true rfl) ?_ h
  clear h
  unfold dz_M304_81_66
  refine q_RP_seg (g2 := (3, [(5, .int 0), (0, .ref 81), (1, .int a1), (2, .ref 66), (3, .int a3), (4, .int a4)], [], (q_kM s c n))) 2 (fun _ _ => rfl) ?_
  exact q_RP_xt (q_xt_mk (q_mn1 1 rfl (q_mn1 2 rfl (q_mn1 3 rfl (q_mn1 4 rfl (q_mn1 5 rfl (q_mn1 0 rfl q_mn0)))))) rfl) (dzt_M304_81_66_3 c n 5000 s a1 a3 a4 0)
def dz_M304_82_67_3 (m : Nat) : q_S → Int32 → Int32 → Int32 → Int32 → Option (q_S) := Nat.rec (motive := fun _ => q_S → Int32 → Int32 → Int32 → Int32 → Option (q_S)) (fun _ _ _ _ _ => none) (fun _ k3 s v1 v3 v4 v5 =>
  cond (decide (v5 < v4)) (cond (q_in (v1 + v5) 6144) (cond (q_in (v3 + v5) 2048) (k3 (q_sA s 3 (upd (s.1 3) ((v3 + v5).toNatClampNeg) ((s.1 18) ((v1 + v5).toNatClampNeg)))) v1 v3 v4 (v5 + 1)) none) none) (some s)) m
theorem dzs_M304_82_67_3 (m : Nat) (s : q_S) (v1 : Int32) (v3 : Int32) (v4 : Int32) (v5 : Int32) : dz_M304_82_67_3 (m + 1) s v1 v3 v4 v5 = (fun k3 : q_S → Int32 → Int32 → Int32 → Int32 → Option (q_S) =>
  cond (decide (v5 < v4)) (cond (q_in (v1 + v5) 6144) (cond (q_in (v3 + v5) 2048) (k3 (q_sA s 3 (upd (s.1 3) ((v3 + v5).toNatClampNeg) ((s.1 18) ((v1 + v5).toNatClampNeg)))) v1 v3 v4 (v5 + 1)) none) none) (some s)) (dz_M304_82_67_3 m) := rfl
set_option maxHeartbeats 4000000 in
theorem dzt_M304_82_67_3 (c n : Nat) : ∀ (m : Nat) (s : q_S) (v1 : Int32) (v3 : Int32) (v4 : Int32) (v5 : Int32), q_RP q_TB0 0 303 (3, [(0, .ref 82), (1, .int v1), (2, .ref 67), (3, .int v3), (4, .int v4), (5, .int v5)], [], (q_kM s c n)) (q_oSM c n) (dz_M304_82_67_3 m s v1 v3 v4 v5) := by
  intro m
  induction m with
  | zero => intro s v1 v3 v4 v5; exact q_RP_no
  | succ m ih =>
    intro s v1 v3 v4 v5
    have hk3 := ih
    clear ih
    rw [dzs_M304_82_67_3]
    generalize dz_M304_82_67_3 m = k3 at hk3 ⊢
    dsimp only
    refine q_RP_seg (g2 := (7, [(0, .ref 82), (1, .int v1), (2, .ref 67), (3, .int v3), (4, .int v4), (5, .int v5)], [.int v4, .int v5], (q_kM s c n))) 2 (fun _ _ => rfl) ?_
    cases h1 : decide (v5 < v4) with
    | true =>
      refine q_RP_cT ?_
      refine q_RP_rsF (g2 := (10, [(0, .ref 82), (1, .int v1), (2, .ref 67), (3, .int v3), (4, .int v4), (5, .int v5)], [], (q_kM s c n))) rfl rfl (q_d_geT h1) ?_
      refine q_RP_seg (g2 := (20, [(0, .ref 82), (1, .int v1), (2, .ref 67), (3, .int v3), (4, .int v4), (5, .int v5)], [.int (v1 + v5), .ref 82, .int (v3 + v5), .ref 67], (q_kM s c n))) 8 (fun _ _ => rfl) ?_
      refine q_RP_as fun i2 => ?_
      refine q_RP_rsT (g2 := (21, [(0, .ref 82), (1, .int v1), (2, .ref 67), (3, .int v3), (4, .int v4), (5, .int v5)], [.int ((s.1 18) ((v1 + v5).toNatClampNeg)), .int (v3 + v5), .ref 67], (q_kM s c n))) rfl rfl i2 ?_
      refine q_RP_as fun i3 => ?_
      refine q_RP_rsT (g2 := (22, [(0, .ref 82), (1, .int v1), (2, .ref 67), (3, .int v3), (4, .int v4), (5, .int v5)], [], (q_kM (q_sA s 3 (upd (s.1 3) ((v3 + v5).toNatClampNeg) ((s.1 18) ((v1 + v5).toNatClampNeg)))) c n))) rfl q_wM3 i3 ?_
      refine q_RP_seg (g2 := (3, [(5, .int (v5 + 1)), (0, .ref 82), (1, .int v1), (2, .ref 67), (3, .int v3), (4, .int v4)], [], (q_kM (q_sA s 3 (upd (s.1 3) ((v3 + v5).toNatClampNeg) ((s.1 18) ((v1 + v5).toNatClampNeg)))) c n))) 2 (fun _ _ => rfl) ?_
      exact q_RP_xt (q_xt_mk (q_mn1 1 rfl (q_mn1 2 rfl (q_mn1 3 rfl (q_mn1 4 rfl (q_mn1 5 rfl (q_mn1 0 rfl q_mn0)))))) rfl) (hk3 (q_sA s 3 (upd (s.1 3) ((v3 + v5).toNatClampNeg) ((s.1 18) ((v1 + v5).toNatClampNeg)))) v1 v3 v4 (v5 + 1))
    | false =>
      refine q_RP_cF ?_
      refine q_RP_rsT (g2 := (28, [(0, .ref 82), (1, .int v1), (2, .ref 67), (3, .int v3), (4, .int v4), (5, .int v5)], [], (q_kM s c n))) rfl rfl (q_d_geF h1) ?_
      exact q_RP_ret rfl rfl rfl
def dz_M304_82_67 (s : q_S) (a1 : Int32) (a3 : Int32) (a4 : Int32) : Option (q_S) :=
  dz_M304_82_67_3 5000 s a1 a3 a4 0
set_option maxHeartbeats 4000000 in
theorem dzt_M304_82_67 (s : q_S) (c n : Nat) (a1 : Int32) (a3 : Int32) (a4 : Int32) (x : q_S) (h : dz_M304_82_67 s a1 a3 a4 = some x) : q_Ca q_TB0 1 303 [.ref 82, .int a1, .ref 67, .int a3, .int a4] (q_kM s c n) ((q_oSM c n) x) := by
  refine q_CaP_of (φ := (q_oSM c n)) (Nat.le_of_ble_eq_true rfl) ?_ h
  clear h
  unfold dz_M304_82_67
  refine q_RP_seg (g2 := (3, [(5, .int 0), (0, .ref 82), (1, .int a1), (2, .ref 67), (3, .int a3), (4, .int a4)], [], (q_kM s c n))) 2 (fun _ _ => rfl) ?_
  exact q_RP_xt (q_xt_mk (q_mn1 1 rfl (q_mn1 2 rfl (q_mn1 3 rfl (q_mn1 4 rfl (q_mn1 5 rfl (q_mn1 0 rfl q_mn0)))))) rfl) (dzt_M304_82_67_3 c n 5000 s a1 a3 a4 0)
def dz_M304_83_68_3 (m : Nat) : q_S → Int32 → Int32 → Int32 → Int32 → Option (q_S) := Nat.rec (motive := fun _ => q_S → Int32 → Int32 → Int32 → Int32 → Option (q_S)) (fun _ _ _ _ _ => none) (fun _ k3 s v1 v3 v4 v5 =>
  cond (decide (v5 < v4)) (cond (q_in (v1 + v5) 144) (cond (q_in (v3 + v5) 48) (k3 (q_sA s 4 (upd (s.1 4) ((v3 + v5).toNatClampNeg) ((s.1 19) ((v1 + v5).toNatClampNeg)))) v1 v3 v4 (v5 + 1)) none) none) (some s)) m
theorem dzs_M304_83_68_3 (m : Nat) (s : q_S) (v1 : Int32) (v3 : Int32) (v4 : Int32) (v5 : Int32) : dz_M304_83_68_3 (m + 1) s v1 v3 v4 v5 = (fun k3 : q_S → Int32 → Int32 → Int32 → Int32 → Option (q_S) =>
  cond (decide (v5 < v4)) (cond (q_in (v1 + v5) 144) (cond (q_in (v3 + v5) 48) (k3 (q_sA s 4 (upd (s.1 4) ((v3 + v5).toNatClampNeg) ((s.1 19) ((v1 + v5).toNatClampNeg)))) v1 v3 v4 (v5 + 1)) none) none) (some s)) (dz_M304_83_68_3 m) := rfl
set_option maxHeartbeats 4000000 in
theorem dzt_M304_83_68_3 (c n : Nat) : ∀ (m : Nat) (s : q_S) (v1 : Int32) (v3 : Int32) (v4 : Int32) (v5 : Int32), q_RP q_TB0 0 303 (3, [(0, .ref 83), (1, .int v1), (2, .ref 68), (3, .int v3), (4, .int v4), (5, .int v5)], [], (q_kM s c n)) (q_oSM c n) (dz_M304_83_68_3 m s v1 v3 v4 v5) := by
  intro m
  induction m with
  | zero => intro s v1 v3 v4 v5; exact q_RP_no
  | succ m ih =>
    intro s v1 v3 v4 v5
    have hk3 := ih
    clear ih
    rw [dzs_M304_83_68_3]
    generalize dz_M304_83_68_3 m = k3 at hk3 ⊢
    dsimp only
    refine q_RP_seg (g2 := (7, [(0, .ref 83), (1, .int v1), (2, .ref 68), (3, .int v3), (4, .int v4), (5, .int v5)], [.int v4, .int v5], (q_kM s c n))) 2 (fun _ _ => rfl) ?_
    cases h1 : decide (v5 < v4) with
    | true =>
      refine q_RP_cT ?_
      refine q_RP_rsF (g2 := (10, [(0, .ref 83), (1, .int v1), (2, .ref 68), (3, .int v3), (4, .int v4), (5, .int v5)], [], (q_kM s c n))) rfl rfl (q_d_geT h1) ?_
      refine q_RP_seg (g2 := (20, [(0, .ref 83), (1, .int v1), (2, .ref 68), (3, .int v3), (4, .int v4), (5, .int v5)], [.int (v1 + v5), .ref 83, .int (v3 + v5), .ref 68], (q_kM s c n))) 8 (fun _ _ => rfl) ?_
      refine q_RP_as fun i2 => ?_
      refine q_RP_rsT (g2 := (21, [(0, .ref 83), (1, .int v1), (2, .ref 68), (3, .int v3), (4, .int v4), (5, .int v5)], [.int ((s.1 19) ((v1 + v5).toNatClampNeg)), .int (v3 + v5), .ref 68], (q_kM s c n))) rfl rfl i2 ?_
      refine q_RP_as fun i3 => ?_
      refine q_RP_rsT (g2 := (22, [(0, .ref 83), (1, .int v1), (2, .ref 68), (3, .int v3), (4, .int v4), (5, .int v5)], [], (q_kM (q_sA s 4 (upd (s.1 4) ((v3 + v5).toNatClampNeg) ((s.1 19) ((v1 + v5).toNatClampNeg)))) c n))) rfl q_wM4 i3 ?_
      refine q_RP_seg (g2 := (3, [(5, .int (v5 + 1)), (0, .ref 83), (1, .int v1), (2, .ref 68), (3, .int v3), (4, .int v4)], [], (q_kM (q_sA s 4 (upd (s.1 4) ((v3 + v5).toNatClampNeg) ((s.1 19) ((v1 + v5).toNatClampNeg)))) c n))) 2 (fun _ _ => rfl) ?_
      exact q_RP_xt (q_xt_mk (q_mn1 1 rfl (q_mn1 2 rfl (q_mn1 3 rfl (q_mn1 4 rfl (q_mn1 5 rfl (q_mn1 0 rfl q_mn0)))))) rfl) (hk3 (q_sA s 4 (upd (s.1 4) ((v3 + v5).toNatClampNeg) ((s.1 19) ((v1 + v5).toNatClampNeg)))) v1 v3 v4 (v5 + 1))
    | false =>
      refine q_RP_cF ?_
      refine q_RP_rsT (g2 := (28, [(0, .ref 83), (1, .int v1), (2, .ref 68), (3, .int v3), (4, .int v4), (5, .int v5)], [], (q_kM s c n))) rfl rfl (q_d_geF h1) ?_
      exact q_RP_ret rfl rfl rfl
def dz_M304_83_68 (s : q_S) (a1 : Int32) (a3 : Int32) (a4 : Int32) : Option (q_S) :=
  dz_M304_83_68_3 5000 s a1 a3 a4 0
set_option maxHeartbeats 4000000 in
theorem dzt_M304_83_68 (s : q_S) (c n : Nat) (a1 : Int32) (a3 : Int32) (a4 : Int32) (x : q_S) (h : dz_M304_83_68 s a1 a3 a4 = some x) : q_Ca q_TB0 1 303 [.ref 83, .int a1, .ref 68, .int a3, .int a4] (q_kM s c n) ((q_oSM c n) x) := by
  refine q_CaP_of (φ := (q_oSM c n)) (Nat.le_of_ble_eq_true rfl) ?_ h
  clear h
  unfold dz_M304_83_68
  refine q_RP_seg (g2 := (3, [(5, .int 0), (0, .ref 83), (1, .int a1), (2, .ref 68), (3, .int a3), (4, .int a4)], [], (q_kM s c n))) 2 (fun _ _ => rfl) ?_
  exact q_RP_xt (q_xt_mk (q_mn1 1 rfl (q_mn1 2 rfl (q_mn1 3 rfl (q_mn1 4 rfl (q_mn1 5 rfl (q_mn1 0 rfl q_mn0)))))) rfl) (dzt_M304_83_68_3 c n 5000 s a1 a3 a4 0)
def dz_M304_84_69_3 (m : Nat) : q_S → Int32 → Int32 → Int32 → Int32 → Option (q_S) := Nat.rec (motive := fun _ => q_S → Int32 → Int32 → Int32 → Int32 → Option (q_S)) (fun _ _ _ _ _ => none) (fun _ k3 s v1 v3 v4 v5 =>
  cond (decide (v5 < v4)) (cond (q_in (v1 + v5) 3072) (cond (q_in (v3 + v5) 1024) (k3 (q_sA s 5 (upd (s.1 5) ((v3 + v5).toNatClampNeg) ((s.1 20) ((v1 + v5).toNatClampNeg)))) v1 v3 v4 (v5 + 1)) none) none) (some s)) m
theorem dzs_M304_84_69_3 (m : Nat) (s : q_S) (v1 : Int32) (v3 : Int32) (v4 : Int32) (v5 : Int32) : dz_M304_84_69_3 (m + 1) s v1 v3 v4 v5 = (fun k3 : q_S → Int32 → Int32 → Int32 → Int32 → Option (q_S) =>
  cond (decide (v5 < v4)) (cond (q_in (v1 + v5) 3072) (cond (q_in (v3 + v5) 1024) (k3 (q_sA s 5 (upd (s.1 5) ((v3 + v5).toNatClampNeg) ((s.1 20) ((v1 + v5).toNatClampNeg)))) v1 v3 v4 (v5 + 1)) none) none) (some s)) (dz_M304_84_69_3 m) := rfl
set_option maxHeartbeats 4000000 in
theorem dzt_M304_84_69_3 (c n : Nat) : ∀ (m : Nat) (s : q_S) (v1 : Int32) (v3 : Int32) (v4 : Int32) (v5 : Int32), q_RP q_TB0 0 303 (3, [(0, .ref 84), (1, .int v1), (2, .ref 69), (3, .int v3), (4, .int v4), (5, .int v5)], [], (q_kM s c n)) (q_oSM c n) (dz_M304_84_69_3 m s v1 v3 v4 v5) := by
  intro m
  induction m with
  | zero => intro s v1 v3 v4 v5; exact q_RP_no
  | succ m ih =>
    intro s v1 v3 v4 v5
    have hk3 := ih
    clear ih
    rw [dzs_M304_84_69_3]
    generalize dz_M304_84_69_3 m = k3 at hk3 ⊢
    dsimp only
    refine q_RP_seg (g2 := (7, [(0, .ref 84), (1, .int v1), (2, .ref 69), (3, .int v3), (4, .int v4), (5, .int v5)], [.int v4, .int v5], (q_kM s c n))) 2 (fun _ _ => rfl) ?_
    cases h1 : decide (v5 < v4) with
    | true =>
      refine q_RP_cT ?_
      refine q_RP_rsF (g2 := (10, [(0, .ref 84), (1, .int v1), (2, .ref 69), (3, .int v3), (4, .int v4), (5, .int v5)], [], (q_kM s c n))) rfl rfl (q_d_geT h1) ?_
      refine q_RP_seg (g2 := (20, [(0, .ref 84), (1, .int v1), (2, .ref 69), (3, .int v3), (4, .int v4), (5, .int v5)], [.int (v1 + v5), .ref 84, .int (v3 + v5), .ref 69], (q_kM s c n))) 8 (fun _ _ => rfl) ?_
      refine q_RP_as fun i2 => ?_
      refine q_RP_rsT (g2 := (21, [(0, .ref 84), (1, .int v1), (2, .ref 69), (3, .int v3), (4, .int v4), (5, .int v5)], [.int ((s.1 20) ((v1 + v5).toNatClampNeg)), .int (v3 + v5), .ref 69], (q_kM s c n))) rfl rfl i2 ?_
      refine q_RP_as fun i3 => ?_
      refine q_RP_rsT (g2 := (22, [(0, .ref 84), (1, .int v1), (2, .ref 69), (3, .int v3), (4, .int v4), (5, .int v5)], [], (q_kM (q_sA s 5 (upd (s.1 5) ((v3 + v5).toNatClampNeg) ((s.1 20) ((v1 + v5).toNatClampNeg)))) c n))) rfl q_wM5 i3 ?_
      refine q_RP_seg (g2 := (3, [(5, .int (v5 + 1)), (0, .ref 84), (1, .int v1), (2, .ref 69), (3, .int v3), (4, .int v4)], [], (q_kM (q_sA s 5 (upd (s.1 5) ((v3 + v5).toNatClampNeg) ((s.1 20) ((v1 + v5).toNatClampNeg)))) c n))) 2 (fun _ _ => rfl) ?_
      exact q_RP_xt (q_xt_mk (q_mn1 1 rfl (q_mn1 2 rfl (q_mn1 3 rfl (q_mn1 4 rfl (q_mn1 5 rfl (q_mn1 0 rfl q_mn0)))))) rfl) (hk3 (q_sA s 5 (upd (s.1 5) ((v3 + v5).toNatClampNeg) ((s.1 20) ((v1 + v5).toNatClampNeg)))) v1 v3 v4 (v5 + 1))
    | false =>
      refine q_RP_cF ?_
      refine q_RP_rsT (g2 := (28, [(0, .ref 84), (1, .int v1), (2, .ref 69), (3, .int v3), (4, .int v4), (5, .int v5)], [], (q_kM s c n))) rfl rfl (q_d_geF h1) ?_
      exact q_RP_ret rfl rfl rfl
def dz_M304_84_69 (s : q_S) (a1 : Int32) (a3 : Int32) (a4 : Int32) : Option (q_S) :=
  dz_M304_84_69_3 5000 s a1 a3 a4 0
set_option maxHeartbeats 4000000 in
theorem dzt_M304_84_69 (s : q_S) (c n : Nat) (a1 : Int32) (a3 : Int32) (a4 : Int32) (x : q_S) (h : dz_M304_84_69 s a1 a3 a4 = some x) : q_Ca q_TB0 1 303 [.ref 84, .int a1, .ref 69, .int a3, .int a4] (q_kM s c n) ((q_oSM c n) x) := by
  refine q_CaP_of (φ := (q_oSM c n)) (Nat.le_of_ble_eq_true rfl) ?_ h
  clear h
  unfold dz_M304_84_69
  refine q_RP_seg (g2 := (3, [(5, .int 0), (0, .ref 84), (1, .int a1), (2, .ref 69), (3, .int a3), (4, .int a4)], [], (q_kM s c n))) 2 (fun _ _ => rfl) ?_
  exact q_RP_xt (q_xt_mk (q_mn1 1 rfl (q_mn1 2 rfl (q_mn1 3 rfl (q_mn1 4 rfl (q_mn1 5 rfl (q_mn1 0 rfl q_mn0)))))) rfl) (dzt_M304_84_69_3 c n 5000 s a1 a3 a4 0)
def dz_M304_85_70_3 (m : Nat) : q_S → Int32 → Int32 → Int32 → Int32 → Option (q_S) := Nat.rec (motive := fun _ => q_S → Int32 → Int32 → Int32 → Int32 → Option (q_S)) (fun _ _ _ _ _ => none) (fun _ k3 s v1 v3 v4 v5 =>
  cond (decide (v5 < v4)) (cond (q_in (v1 + v5) 120) (cond (q_in (v3 + v5) 40) (k3 (q_sA s 6 (upd (s.1 6) ((v3 + v5).toNatClampNeg) ((s.1 21) ((v1 + v5).toNatClampNeg)))) v1 v3 v4 (v5 + 1)) none) none) (some s)) m
theorem dzs_M304_85_70_3 (m : Nat) (s : q_S) (v1 : Int32) (v3 : Int32) (v4 : Int32) (v5 : Int32) : dz_M304_85_70_3 (m + 1) s v1 v3 v4 v5 = (fun k3 : q_S → Int32 → Int32 → Int32 → Int32 → Option (q_S) =>
  cond (decide (v5 < v4)) (cond (q_in (v1 + v5) 120) (cond (q_in (v3 + v5) 40) (k3 (q_sA s 6 (upd (s.1 6) ((v3 + v5).toNatClampNeg) ((s.1 21) ((v1 + v5).toNatClampNeg)))) v1 v3 v4 (v5 + 1)) none) none) (some s)) (dz_M304_85_70_3 m) := rfl
set_option maxHeartbeats 4000000 in
theorem dzt_M304_85_70_3 (c n : Nat) : ∀ (m : Nat) (s : q_S) (v1 : Int32) (v3 : Int32) (v4 : Int32) (v5 : Int32), q_RP q_TB0 0 303 (3, [(0, .ref 85), (1, .int v1), (2, .ref 70), (3, .int v3), (4, .int v4), (5, .int v5)], [], (q_kM s c n)) (q_oSM c n) (dz_M304_85_70_3 m s v1 v3 v4 v5) := by
  intro m
  induction m with
  | zero => intro s v1 v3 v4 v5; exact q_RP_no
  | succ m ih =>
    intro s v1 v3 v4 v5
    have hk3 := ih
    clear ih
    rw [dzs_M304_85_70_3]
    generalize dz_M304_85_70_3 m = k3 at hk3 ⊢
    dsimp only
    refine q_RP_seg (g2 := (7, [(0, .ref 85), (1, .int v1), (2, .ref 70), (3, .int v3), (4, .int v4), (5, .int v5)], [.int v4, .int v5], (q_kM s c n))) 2 (fun _ _ => rfl) ?_
    cases h1 : decide (v5 < v4) with
    | true =>
      refine q_RP_cT ?_
      refine q_RP_rsF (g2 := (10, [(0, .ref 85), (1, .int v1), (2, .ref 70), (3, .int v3), (4, .int v4), (5, .int v5)], [], (q_kM s c n))) rfl rfl (q_d_geT h1) ?_
      refine q_RP_seg (g2 := (20, [(0, .ref 85), (1, .int v1), (2, .ref 70), (3, .int v3), (4, .int v4), (5, .int v5)], [.int (v1 + v5), .ref 85, .int (v3 + v5), .ref 70], (q_kM s c n))) 8 (fun _ _ => rfl) ?_
      refine q_RP_as fun i2 => ?_
      refine q_RP_rsT (g2 := (21, [(0, .ref 85), (1, .int v1), (2, .ref 70), (3, .int v3), (4, .int v4), (5, .int v5)], [.int ((s.1 21) ((v1 + v5).toNatClampNeg)), .int (v3 + v5), .ref 70], (q_kM s c n))) rfl rfl i2 ?_
      refine q_RP_as fun i3 => ?_
      refine q_RP_rsT (g2 := (22, [(0, .ref 85), (1, .int v1), (2, .ref 70), (3, .int v3), (4, .int v4), (5, .int v5)], [], (q_kM (q_sA s 6 (upd (s.1 6) ((v3 + v5).toNatClampNeg) ((s.1 21) ((v1 + v5).toNatClampNeg)))) c n))) rfl q_wM6 i3 ?_
      refine q_RP_seg (g2 := (3, [(5, .int (v5 + 1)), (0, .ref 85), (1, .int v1), (2, .ref 70), (3, .int v3), (4, .int v4)], [], (q_kM (q_sA s 6 (upd (s.1 6) ((v3 + v5).toNatClampNeg) ((s.1 21) ((v1 + v5).toNatClampNeg)))) c n))) 2 (fun _ _ => rfl) ?_
      exact q_RP_xt (q_xt_mk (q_mn1 1 rfl (q_mn1 2 rfl (q_mn1 3 rfl (q_mn1 4 rfl (q_mn1 5 rfl (q_mn1 0 rfl q_mn0)))))) rfl) (hk3 (q_sA s 6 (upd (s.1 6) ((v3 + v5).toNatClampNeg) ((s.1 21) ((v1 + v5).toNatClampNeg)))) v1 v3 v4 (v5 + 1))
    | false =>
      refine q_RP_cF ?_
      refine q_RP_rsT (g2 := (28, [(0, .ref 85), (1, .int v1), (2, .ref 70), (3, .int v3), (4, .int v4), (5, .int v5)], [], (q_kM s c n))) rfl rfl (q_d_geF h1) ?_
      exact q_RP_ret rfl rfl rfl
def dz_M304_85_70 (s : q_S) (a1 : Int32) (a3 : Int32) (a4 : Int32) : Option (q_S) :=
  dz_M304_85_70_3 5000 s a1 a3 a4 0
set_option maxHeartbeats 4000000 in
theorem dzt_M304_85_70 (s : q_S) (c n : Nat) (a1 : Int32) (a3 : Int32) (a4 : Int32) (x : q_S) (h : dz_M304_85_70 s a1 a3 a4 = some x) : q_Ca q_TB0 1 303 [.ref 85, .int a1, .ref 70, .int a3, .int a4] (q_kM s c n) ((q_oSM c n) x) := by
  refine q_CaP_of (φ := (q_oSM c n)) (Nat.le_of_ble_eq_true rfl) ?_ h
  clear h
  unfold dz_M304_85_70
  refine q_RP_seg (g2 := (3, [(5, .int 0), (0, .ref 85), (1, .int a1), (2, .ref 70), (3, .int a3), (4, .int a4)], [], (q_kM s c n))) 2 (fun _ _ => rfl) ?_
  exact q_RP_xt (q_xt_mk (q_mn1 1 rfl (q_mn1 2 rfl (q_mn1 3 rfl (q_mn1 4 rfl (q_mn1 5 rfl (q_mn1 0 rfl q_mn0)))))) rfl) (dzt_M304_85_70_3 c n 5000 s a1 a3 a4 0)
def dz_M304_87_72_3 (m : Nat) : q_S → Int32 → Int32 → Int32 → Int32 → Option (q_S) := Nat.rec (motive := fun _ => q_S → Int32 → Int32 → Int32 → Int32 → Option (q_S)) (fun _ _ _ _ _ => none) (fun _ k3 s v1 v3 v4 v5 =>
  cond (decide (v5 < v4)) (cond (q_in (v1 + v5) 120) (cond (q_in (v3 + v5) 40) (k3 (q_sA s 8 (upd (s.1 8) ((v3 + v5).toNatClampNeg) ((s.1 23) ((v1 + v5).toNatClampNeg)))) v1 v3 v4 (v5 + 1)) none) none) (some s)) m
theorem dzs_M304_87_72_3 (m : Nat) (s : q_S) (v1 : Int32) (v3 : Int32) (v4 : Int32) (v5 : Int32) : dz_M304_87_72_3 (m + 1) s v1 v3 v4 v5 = (fun k3 : q_S → Int32 → Int32 → Int32 → Int32 → Option (q_S) =>
  cond (decide (v5 < v4)) (cond (q_in (v1 + v5) 120) (cond (q_in (v3 + v5) 40) (k3 (q_sA s 8 (upd (s.1 8) ((v3 + v5).toNatClampNeg) ((s.1 23) ((v1 + v5).toNatClampNeg)))) v1 v3 v4 (v5 + 1)) none) none) (some s)) (dz_M304_87_72_3 m) := rfl
set_option maxHeartbeats 4000000 in
theorem dzt_M304_87_72_3 (c n : Nat) : ∀ (m : Nat) (s : q_S) (v1 : Int32) (v3 : Int32) (v4 : Int32) (v5 : Int32), q_RP q_TB0 0 303 (3, [(0, .ref 87), (1, .int v1), (2, .ref 72), (3, .int v3), (4, .int v4), (5, .int v5)], [], (q_kM s c n)) (q_oSM c n) (dz_M304_87_72_3 m s v1 v3 v4 v5) := by
  intro m
  induction m with
  | zero => intro s v1 v3 v4 v5; exact q_RP_no
  | succ m ih =>
    intro s v1 v3 v4 v5
    have hk3 := ih
    clear ih
    rw [dzs_M304_87_72_3]
    generalize dz_M304_87_72_3 m = k3 at hk3 ⊢
    dsimp only
    refine q_RP_seg (g2 := (7, [(0, .ref 87), (1, .int v1), (2, .ref 72), (3, .int v3), (4, .int v4), (5, .int v5)], [.int v4, .int v5], (q_kM s c n))) 2 (fun _ _ => rfl) ?_
    cases h1 : decide (v5 < v4) with
    | true =>
      refine q_RP_cT ?_
      refine q_RP_rsF (g2 := (10, [(0, .ref 87), (1, .int v1), (2, .ref 72), (3, .int v3), (4, .int v4), (5, .int v5)], [], (q_kM s c n))) rfl rfl (q_d_geT h1) ?_
      refine q_RP_seg (g2 := (20, [(0, .ref 87), (1, .int v1), (2, .ref 72), (3, .int v3), (4, .int v4), (5, .int v5)], [.int (v1 + v5), .ref 87, .int (v3 + v5), .ref 72], (q_kM s c n))) 8 (fun _ _ => rfl) ?_
      refine q_RP_as fun i2 => ?_
      refine q_RP_rsT (g2 := (21, [(0, .ref 87), (1, .int v1), (2, .ref 72), (3, .int v3), (4, .int v4), (5, .int v5)], [.int ((s.1 23) ((v1 + v5).toNatClampNeg)), .int (v3 + v5), .ref 72], (q_kM s c n))) rfl rfl i2 ?_
      refine q_RP_as fun i3 => ?_
      refine q_RP_rsT (g2 := (22, [(0, .ref 87), (1, .int v1), (2, .ref 72), (3, .int v3), (4, .int v4), (5, .int v5)], [], (q_kM (q_sA s 8 (upd (s.1 8) ((v3 + v5).toNatClampNeg) ((s.1 23) ((v1 + v5).toNatClampNeg)))) c n))) rfl q_wM8 i3 ?_
      refine q_RP_seg (g2 := (3, [(5, .int (v5 + 1)), (0, .ref 87), (1, .int v1), (2, .ref 72), (3, .int v3), (4, .int v4)], [], (q_kM (q_sA s 8 (upd (s.1 8) ((v3 + v5).toNatClampNeg) ((s.1 23) ((v1 + v5).toNatClampNeg)))) c n))) 2 (fun _ _ => rfl) ?_
      exact q_RP_xt (q_xt_mk (q_mn1 1 rfl (q_mn1 2 rfl (q_mn1 3 rfl (q_mn1 4 rfl (q_mn1 5 rfl (q_mn1 0 rfl q_mn0)))))) rfl) (hk3 (q_sA s 8 (upd (s.1 8) ((v3 + v5).toNatClampNeg) ((s.1 23) ((v1 + v5).toNatClampNeg)))) v1 v3 v4 (v5 + 1))
    | false =>
      refine q_RP_cF ?_
      refine q_RP_rsT (g2 := (28, [(0, .ref 87), (1, .int v1), (2, .ref 72), (3, .int v3), (4, .int v4), (5, .int v5)], [], (q_kM s c n))) rfl rfl (q_d_geF h1) ?_
      exact q_RP_ret rfl rfl rfl
def dz_M304_87_72 (s : q_S) (a1 : Int32) (a3 : Int32) (a4 : Int32) : Option (q_S) :=
  dz_M304_87_72_3 5000 s a1 a3 a4 0
set_option maxHeartbeats 4000000 in
theorem dzt_M304_87_72 (s : q_S) (c n : Nat) (a1 : Int32) (a3 : Int32) (a4 : Int32) (x : q_S) (h : dz_M304_87_72 s a1 a3 a4 = some x) : q_Ca q_TB0 1 303 [.ref 87, .int a1, .ref 72, .int a3, .int a4] (q_kM s c n) ((q_oSM c n) x) := by
  refine q_CaP_of (φ := (q_oSM c n)) (Nat.le_of_ble_eq_true rfl) ?_ h
  clear h
  unfold dz_M304_87_72
  refine q_RP_seg (g2 := (3, [(5, .int 0), (0, .ref 87), (1, .int a1), (2, .ref 72), (3, .int a3), (4, .int a4)], [], (q_kM s c n))) 2 (fun _ _ => rfl) ?_
  exact q_RP_xt (q_xt_mk (q_mn1 1 rfl (q_mn1 2 rfl (q_mn1 3 rfl (q_mn1 4 rfl (q_mn1 5 rfl (q_mn1 0 rfl q_mn0)))))) rfl) (dzt_M304_87_72_3 c n 5000 s a1 a3 a4 0)
def dz_M304_88_73_3 (m : Nat) : q_S → Int32 → Int32 → Int32 → Int32 → Option (q_S) := Nat.rec (motive := fun _ => q_S → Int32 → Int32 → Int32 → Int32 → Option (q_S)) (fun _ _ _ _ _ => none) (fun _ k3 s v1 v3 v4 v5 =>
  cond (decide (v5 < v4)) (cond (q_in (v1 + v5) 48) (cond (q_in (v3 + v5) 16) (k3 (q_sA s 9 (upd (s.1 9) ((v3 + v5).toNatClampNeg) ((s.1 24) ((v1 + v5).toNatClampNeg)))) v1 v3 v4 (v5 + 1)) none) none) (some s)) m
theorem dzs_M304_88_73_3 (m : Nat) (s : q_S) (v1 : Int32) (v3 : Int32) (v4 : Int32) (v5 : Int32) : dz_M304_88_73_3 (m + 1) s v1 v3 v4 v5 = (fun k3 : q_S → Int32 → Int32 → Int32 → Int32 → Option (q_S) =>
  cond (decide (v5 < v4)) (cond (q_in (v1 + v5) 48) (cond (q_in (v3 + v5) 16) (k3 (q_sA s 9 (upd (s.1 9) ((v3 + v5).toNatClampNeg) ((s.1 24) ((v1 + v5).toNatClampNeg)))) v1 v3 v4 (v5 + 1)) none) none) (some s)) (dz_M304_88_73_3 m) := rfl
set_option maxHeartbeats 4000000 in
theorem dzt_M304_88_73_3 (c n : Nat) : ∀ (m : Nat) (s : q_S) (v1 : Int32) (v3 : Int32) (v4 : Int32) (v5 : Int32), q_RP q_TB0 0 303 (3, [(0, .ref 88), (1, .int v1), (2, .ref 73), (3, .int v3), (4, .int v4), (5, .int v5)], [], (q_kM s c n)) (q_oSM c n) (dz_M304_88_73_3 m s v1 v3 v4 v5) := by
  intro m
  induction m with
  | zero => intro s v1 v3 v4 v5; exact q_RP_no
  | succ m ih =>
    intro s v1 v3 v4 v5
    have hk3 := ih
    clear ih
    rw [dzs_M304_88_73_3]
    generalize dz_M304_88_73_3 m = k3 at hk3 ⊢
    dsimp only
    refine q_RP_seg (g2 := (7, [(0, .ref 88), (1, .int v1), (2, .ref 73), (3, .int v3), (4, .int v4), (5, .int v5)], [.int v4, .int v5], (q_kM s c n))) 2 (fun _ _ => rfl) ?_
    cases h1 : decide (v5 < v4) with
    | true =>
      refine q_RP_cT ?_
      refine q_RP_rsF (g2 := (10, [(0, .ref 88), (1, .int v1), (2, .ref 73), (3, .int v3), (4, .int v4), (5, .int v5)], [], (q_kM s c n))) rfl rfl (q_d_geT h1) ?_
      refine q_RP_seg (g2 := (20, [(0, .ref 88), (1, .int v1), (2, .ref 73), (3, .int v3), (4, .int v4), (5, .int v5)], [.int (v1 + v5), .ref 88, .int (v3 + v5), .ref 73], (q_kM s c n))) 8 (fun _ _ => rfl) ?_
      refine q_RP_as fun i2 => ?_
      refine q_RP_rsT (g2 := (21, [(0, .ref 88), (1, .int v1), (2, .ref 73), (3, .int v3), (4, .int v4), (5, .int v5)], [.int ((s.1 24) ((v1 + v5).toNatClampNeg)), .int (v3 + v5), .ref 73], (q_kM s c n))) rfl rfl i2 ?_
      refine q_RP_as fun i3 => ?_
      refine q_RP_rsT (g2 := (22, [(0, .ref 88), (1, .int v1), (2, .ref 73), (3, .int v3), (4, .int v4), (5, .int v5)], [], (q_kM (q_sA s 9 (upd (s.1 9) ((v3 + v5).toNatClampNeg) ((s.1 24) ((v1 + v5).toNatClampNeg)))) c n))) rfl q_wM9 i3 ?_
      refine q_RP_seg (g2 := (3, [(5, .int (v5 + 1)), (0, .ref 88), (1, .int v1), (2, .ref 73), (3, .int v3), (4, .int v4)], [], (q_kM (q_sA s 9 (upd (s.1 9) ((v3 + v5).toNatClampNeg) ((s.1 24) ((v1 + v5).toNatClampNeg)))) c n))) 2 (fun _ _ => rfl) ?_
      exact q_RP_xt (q_xt_mk (q_mn1 1 rfl (q_mn1 2 rfl (q_mn1 3 rfl (q_mn1 4 rfl (q_mn1 5 rfl (q_mn1 0 rfl q_mn0)))))) rfl) (hk3 (q_sA s 9 (upd (s.1 9) ((v3 + v5).toNatClampNeg) ((s.1 24) ((v1 + v5).toNatClampNeg)))) v1 v3 v4 (v5 + 1))
    | false =>
      refine q_RP_cF ?_
      refine q_RP_rsT (g2 := (28, [(0, .ref 88), (1, .int v1), (2, .ref 73), (3, .int v3), (4, .int v4), (5, .int v5)], [], (q_kM s c n))) rfl rfl (q_d_geF h1) ?_
      exact q_RP_ret rfl rfl rfl
def dz_M304_88_73 (s : q_S) (a1 : Int32) (a3 : Int32) (a4 : Int32) : Option (q_S) :=
  dz_M304_88_73_3 5000 s a1 a3 a4 0
set_option maxHeartbeats 4000000 in
theorem dzt_M304_88_73 (s : q_S) (c n : Nat) (a1 : Int32) (a3 : Int32) (a4 : Int32) (x : q_S) (h : dz_M304_88_73 s a1 a3 a4 = some x) : q_Ca q_TB0 1 303 [.ref 88, .int a1, .ref 73, .int a3, .int a4] (q_kM s c n) ((q_oSM c n) x) := by
  refine q_CaP_of (φ := (q_oSM c n)) (Nat.le_of_ble_eq_true rfl) ?_ h
  clear h
  unfold dz_M304_88_73
  refine q_RP_seg (g2 := (3, [(5, .int 0), (0, .ref 88), (1, .int a1), (2, .ref 73), (3, .int a3), (4, .int a4)], [], (q_kM s c n))) 2 (fun _ _ => rfl) ?_
  exact q_RP_xt (q_xt_mk (q_mn1 1 rfl (q_mn1 2 rfl (q_mn1 3 rfl (q_mn1 4 rfl (q_mn1 5 rfl (q_mn1 0 rfl q_mn0)))))) rfl) (dzt_M304_88_73_3 c n 5000 s a1 a3 a4 0)
def dz_M304_89_74_3 (m : Nat) : q_S → Int32 → Int32 → Int32 → Int32 → Option (q_S) := Nat.rec (motive := fun _ => q_S → Int32 → Int32 → Int32 → Int32 → Option (q_S)) (fun _ _ _ _ _ => none) (fun _ k3 s v1 v3 v4 v5 =>
  cond (decide (v5 < v4)) (cond (q_in (v1 + v5) 9) (cond (q_in (v3 + v5) 3) (k3 (q_sA s 10 (upd (s.1 10) ((v3 + v5).toNatClampNeg) ((s.1 25) ((v1 + v5).toNatClampNeg)))) v1 v3 v4 (v5 + 1)) none) none) (some s)) m
theorem dzs_M304_89_74_3 (m : Nat) (s : q_S) (v1 : Int32) (v3 : Int32) (v4 : Int32) (v5 : Int32) : dz_M304_89_74_3 (m + 1) s v1 v3 v4 v5 = (fun k3 : q_S → Int32 → Int32 → Int32 → Int32 → Option (q_S) =>
  cond (decide (v5 < v4)) (cond (q_in (v1 + v5) 9) (cond (q_in (v3 + v5) 3) (k3 (q_sA s 10 (upd (s.1 10) ((v3 + v5).toNatClampNeg) ((s.1 25) ((v1 + v5).toNatClampNeg)))) v1 v3 v4 (v5 + 1)) none) none) (some s)) (dz_M304_89_74_3 m) := rfl
set_option maxHeartbeats 4000000 in
theorem dzt_M304_89_74_3 (c n : Nat) : ∀ (m : Nat) (s : q_S) (v1 : Int32) (v3 : Int32) (v4 : Int32) (v5 : Int32), q_RP q_TB0 0 303 (3, [(0, .ref 89), (1, .int v1), (2, .ref 74), (3, .int v3), (4, .int v4), (5, .int v5)], [], (q_kM s c n)) (q_oSM c n) (dz_M304_89_74_3 m s v1 v3 v4 v5) := by
  intro m
  induction m with
  | zero => intro s v1 v3 v4 v5; exact q_RP_no
  | succ m ih =>
    intro s v1 v3 v4 v5
    have hk3 := ih
    clear ih
    rw [dzs_M304_89_74_3]
    generalize dz_M304_89_74_3 m = k3 at hk3 ⊢
    dsimp only
    refine q_RP_seg (g2 := (7, [(0, .ref 89), (1, .int v1), (2, .ref 74), (3, .int v3), (4, .int v4), (5, .int v5)], [.int v4, .int v5], (q_kM s c n))) 2 (fun _ _ => rfl) ?_
    cases h1 : decide (v5 < v4) with
    | true =>
      refine q_RP_cT ?_
      refine q_RP_rsF (g2 := (10, [(0, .ref 89), (1, .int v1), (2, .ref 74), (3, .int v3), (4, .int v4), (5, .int v5)], [], (q_kM s c n))) rfl rfl (q_d_geT h1) ?_
      refine q_RP_seg (g2 := (20, [(0, .ref 89), (1, .int v1), (2, .ref 74), (3, .int v3), (4, .int v4), (5, .int v5)], [.int (v1 + v5), .ref 89, .int (v3 + v5), .ref 74], (q_kM s c n))) 8 (fun _ _ => rfl) ?_
      refine q_RP_as fun i2 => ?_
      refine q_RP_rsT (g2 := (21, [(0, .ref 89), (1, .int v1), (2, .ref 74), (3, .int v3), (4, .int v4), (5, .int v5)], [.int ((s.1 25) ((v1 + v5).toNatClampNeg)), .int (v3 + v5), .ref 74], (q_kM s c n))) rfl rfl i2 ?_
      refine q_RP_as fun i3 => ?_
      refine q_RP_rsT (g2 := (22, [(0, .ref 89), (1, .int v1), (2, .ref 74), (3, .int v3), (4, .int v4), (5, .int v5)], [], (q_kM (q_sA s 10 (upd (s.1 10) ((v3 + v5).toNatClampNeg) ((s.1 25) ((v1 + v5).toNatClampNeg)))) c n))) rfl q_wM10 i3 ?_
      refine q_RP_seg (g2 := (3, [(5, .int (v5 + 1)), (0, .ref 89), (1, .int v1), (2, .ref 74), (3, .int v3), (4, .int v4)], [], (q_kM (q_sA s 10 (upd (s.1 10) ((v3 + v5).toNatClampNeg) ((s.1 25) ((v1 + v5).toNatClampNeg)))) c n))) 2 (fun _ _ => rfl) ?_
      exact q_RP_xt (q_xt_mk (q_mn1 1 rfl (q_mn1 2 rfl (q_mn1 3 rfl (q_mn1 4 rfl (q_mn1 5 rfl (q_mn1 0 rfl q_mn0)))))) rfl) (hk3 (q_sA s 10 (upd (s.1 10) ((v3 + v5).toNatClampNeg) ((s.1 25) ((v1 + v5).toNatClampNeg)))) v1 v3 v4 (v5 + 1))
    | false =>
      refine q_RP_cF ?_
      refine q_RP_rsT (g2 := (28, [(0, .ref 89), (1, .int v1), (2, .ref 74), (3, .int v3), (4, .int v4), (5, .int v5)], [], (q_kM s c n))) rfl rfl (q_d_geF h1) ?_
      exact q_RP_ret rfl rfl rfl
def dz_M304_89_74 (s : q_S) (a1 : Int32) (a3 : Int32) (a4 : Int32) : Option (q_S) :=
  dz_M304_89_74_3 5000 s a1 a3 a4 0
set_option maxHeartbeats 4000000 in
theorem dzt_M304_89_74 (s : q_S) (c n : Nat) (a1 : Int32) (a3 : Int32) (a4 : Int32) (x : q_S) (h : dz_M304_89_74 s a1 a3 a4 = some x) : q_Ca q_TB0 1 303 [.ref 89, .int a1, .ref 74, .int a3, .int a4] (q_kM s c n) ((q_oSM c n) x) := by
  refine q_CaP_of (φ := (q_oSM c n)) (Nat.le_of_ble_eq_true rfl) ?_ h
  clear h
  unfold dz_M304_89_74
  refine q_RP_seg (g2 := (3, [(5, .int 0), (0, .ref 89), (1, .int a1), (2, .ref 74), (3, .int a3), (4, .int a4)], [], (q_kM s c n))) 2 (fun _ _ => rfl) ?_
  exact q_RP_xt (q_xt_mk (q_mn1 1 rfl (q_mn1 2 rfl (q_mn1 3 rfl (q_mn1 4 rfl (q_mn1 5 rfl (q_mn1 0 rfl q_mn0)))))) rfl) (dzt_M304_89_74_3 c n 5000 s a1 a3 a4 0)
def dz_M304_90_75_3 (m : Nat) : q_S → Int32 → Int32 → Int32 → Int32 → Option (q_S) := Nat.rec (motive := fun _ => q_S → Int32 → Int32 → Int32 → Int32 → Option (q_S)) (fun _ _ _ _ _ => none) (fun _ k3 s v1 v3 v4 v5 =>
  cond (decide (v5 < v4)) (cond (q_in (v1 + v5) 9) (cond (q_in (v3 + v5) 3) (k3 (q_sA s 11 (upd (s.1 11) ((v3 + v5).toNatClampNeg) ((s.1 26) ((v1 + v5).toNatClampNeg)))) v1 v3 v4 (v5 + 1)) none) none) (some s)) m
theorem dzs_M304_90_75_3 (m : Nat) (s : q_S) (v1 : Int32) (v3 : Int32) (v4 : Int32) (v5 : Int32) : dz_M304_90_75_3 (m + 1) s v1 v3 v4 v5 = (fun k3 : q_S → Int32 → Int32 → Int32 → Int32 → Option (q_S) =>
  cond (decide (v5 < v4)) (cond (q_in (v1 + v5) 9) (cond (q_in (v3 + v5) 3) (k3 (q_sA s 11 (upd (s.1 11) ((v3 + v5).toNatClampNeg) ((s.1 26) ((v1 + v5).toNatClampNeg)))) v1 v3 v4 (v5 + 1)) none) none) (some s)) (dz_M304_90_75_3 m) := rfl
set_option maxHeartbeats 4000000 in
theorem dzt_M304_90_75_3 (c n : Nat) : ∀ (m : Nat) (s : q_S) (v1 : Int32) (v3 : Int32) (v4 : Int32) (v5 : Int32), q_RP q_TB0 0 303 (3, [(0, .ref 90), (1, .int v1), (2, .ref 75), (3, .int v3), (4, .int v4), (5, .int v5)], [], (q_kM s c n)) (q_oSM c n) (dz_M304_90_75_3 m s v1 v3 v4 v5) := by
  intro m
  induction m with
  | zero => intro s v1 v3 v4 v5; exact q_RP_no
  | succ m ih =>
    intro s v1 v3 v4 v5
    have hk3 := ih
    clear ih
    rw [dzs_M304_90_75_3]
    generalize dz_M304_90_75_3 m = k3 at hk3 ⊢
    dsimp only
    refine q_RP_seg (g2 := (7, [(0, .ref 90), (1, .int v1), (2, .ref 75), (3, .int v3), (4, .int v4), (5, .int v5)], [.int v4, .int v5], (q_kM s c n))) 2 (fun _ _ => rfl) ?_
    cases h1 : decide (v5 < v4) with
    | true =>
      refine q_RP_cT ?_
      refine q_RP_rsF (g2 := (10, [(0, .ref 90), (1, .int v1), (2, .ref 75), (3, .int v3), (4, .int v4), (5, .int v5)], [], (q_kM s c n))) rfl rfl (q_d_geT h1) ?_
      refine q_RP_seg (g2 := (20, [(0, .ref 90), (1, .int v1), (2, .ref 75), (3, .int v3), (4, .int v4), (5, .int v5)], [.int (v1 + v5), .ref 90, .int (v3 + v5), .ref 75], (q_kM s c n))) 8 (fun _ _ => rfl) ?_
      refine q_RP_as fun i2 => ?_
      refine q_RP_rsT (g2 := (21, [(0, .ref 90), (1, .int v1), (2, .ref 75), (3, .int v3), (4, .int v4), (5, .int v5)], [.int ((s.1 26) ((v1 + v5).toNatClampNeg)), .int (v3 + v5), .ref 75], (q_kM s c n))) rfl rfl i2 ?_
      refine q_RP_as fun i3 => ?_
      refine q_RP_rsT (g2 := (22, [(0, .ref 90), (1, .int v1), (2, .ref 75), (3, .int v3), (4, .int v4), (5, .int v5)], [], (q_kM (q_sA s 11 (upd (s.1 11) ((v3 + v5).toNatClampNeg) ((s.1 26) ((v1 + v5).toNatClampNeg)))) c n))) rfl q_wM11 i3 ?_
      refine q_RP_seg (g2 := (3, [(5, .int (v5 + 1)), (0, .ref 90), (1, .int v1), (2, .ref 75), (3, .int v3), (4, .int v4)], [], (q_kM (q_sA s 11 (upd (s.1 11) ((v3 + v5).toNatClampNeg) ((s.1 26) ((v1 + v5).toNatClampNeg)))) c n))) 2 (fun _ _ => rfl) ?_
      exact q_RP_xt (q_xt_mk (q_mn1 1 rfl (q_mn1 2 rfl (q_mn1 3 rfl (q_mn1 4 rfl (q_mn1 5 rfl (q_mn1 0 rfl q_mn0)))))) rfl) (hk3 (q_sA s 11 (upd (s.1 11) ((v3 + v5).toNatClampNeg) ((s.1 26) ((v1 + v5).toNatClampNeg)))) v1 v3 v4 (v5 + 1))
    | false =>
      refine q_RP_cF ?_
      refine q_RP_rsT (g2 := (28, [(0, .ref 90), (1, .int v1), (2, .ref 75), (3, .int v3), (4, .int v4), (5, .int v5)], [], (q_kM s c n))) rfl rfl (q_d_geF h1) ?_
      exact q_RP_ret rfl rfl rfl
def dz_M304_90_75 (s : q_S) (a1 : Int32) (a3 : Int32) (a4 : Int32) : Option (q_S) :=
  dz_M304_90_75_3 5000 s a1 a3 a4 0
set_option maxHeartbeats 4000000 in
theorem dzt_M304_90_75 (s : q_S) (c n : Nat) (a1 : Int32) (a3 : Int32) (a4 : Int32) (x : q_S) (h : dz_M304_90_75 s a1 a3 a4 = some x) : q_Ca q_TB0 1 303 [.ref 90, .int a1, .ref 75, .int a3, .int a4] (q_kM s c n) ((q_oSM c n) x) := by
  refine q_CaP_of (φ := (q_oSM c n)) (Nat.le_of_ble_eq_true rfl) ?_ h
  clear h
  unfold dz_M304_90_75
  refine q_RP_seg (g2 := (3, [(5, .int 0), (0, .ref 90), (1, .int a1), (2, .ref 75), (3, .int a3), (4, .int a4)], [], (q_kM s c n))) 2 (fun _ _ => rfl) ?_
  exact q_RP_xt (q_xt_mk (q_mn1 1 rfl (q_mn1 2 rfl (q_mn1 3 rfl (q_mn1 4 rfl (q_mn1 5 rfl (q_mn1 0 rfl q_mn0)))))) rfl) (dzt_M304_90_75_3 c n 5000 s a1 a3 a4 0)
def dz_M304_91_76_3 (m : Nat) : q_S → Int32 → Int32 → Int32 → Int32 → Option (q_S) := Nat.rec (motive := fun _ => q_S → Int32 → Int32 → Int32 → Int32 → Option (q_S)) (fun _ _ _ _ _ => none) (fun _ k3 s v1 v3 v4 v5 =>
  cond (decide (v5 < v4)) (cond (q_in (v1 + v5) 9) (cond (q_in (v3 + v5) 3) (k3 (q_sA s 12 (upd (s.1 12) ((v3 + v5).toNatClampNeg) ((s.1 27) ((v1 + v5).toNatClampNeg)))) v1 v3 v4 (v5 + 1)) none) none) (some s)) m
theorem dzs_M304_91_76_3 (m : Nat) (s : q_S) (v1 : Int32) (v3 : Int32) (v4 : Int32) (v5 : Int32) : dz_M304_91_76_3 (m + 1) s v1 v3 v4 v5 = (fun k3 : q_S → Int32 → Int32 → Int32 → Int32 → Option (q_S) =>
  cond (decide (v5 < v4)) (cond (q_in (v1 + v5) 9) (cond (q_in (v3 + v5) 3) (k3 (q_sA s 12 (upd (s.1 12) ((v3 + v5).toNatClampNeg) ((s.1 27) ((v1 + v5).toNatClampNeg)))) v1 v3 v4 (v5 + 1)) none) none) (some s)) (dz_M304_91_76_3 m) := rfl
set_option maxHeartbeats 4000000 in
theorem dzt_M304_91_76_3 (c n : Nat) : ∀ (m : Nat) (s : q_S) (v1 : Int32) (v3 : Int32) (v4 : Int32) (v5 : Int32), q_RP q_TB0 0 303 (3, [(0, .ref 91), (1, .int v1), (2, .ref 76), (3, .int v3), (4, .int v4), (5, .int v5)], [], (q_kM s c n)) (q_oSM c n) (dz_M304_91_76_3 m s v1 v3 v4 v5) := by
  intro m
  induction m with
  | zero => intro s v1 v3 v4 v5; exact q_RP_no
  | succ m ih =>
    intro s v1 v3 v4 v5
    have hk3 := ih
    clear ih
    rw [dzs_M304_91_76_3]
    generalize dz_M304_91_76_3 m = k3 at hk3 ⊢
    dsimp only
    refine q_RP_seg (g2 := (7, [(0, .ref 91), (1, .int v1), (2, .ref 76), (3, .int v3), (4, .int v4), (5, .int v5)], [.int v4, .int v5], (q_kM s c n))) 2 (fun _ _ => rfl) ?_
    cases h1 : decide (v5 < v4) with
    | true =>
      refine q_RP_cT ?_
      refine q_RP_rsF (g2 := (10, [(0, .ref 91), (1, .int v1), (2, .ref 76), (3, .int v3), (4, .int v4), (5, .int v5)], [], (q_kM s c n))) rfl rfl (q_d_geT h1) ?_
      refine q_RP_seg (g2 := (20, [(0, .ref 91), (1, .int v1), (2, .ref 76), (3, .int v3), (4, .int v4), (5, .int v5)], [.int (v1 + v5), .ref 91, .int (v3 + v5), .ref 76], (q_kM s c n))) 8 (fun _ _ => rfl) ?_
      refine q_RP_as fun i2 => ?_
      refine q_RP_rsT (g2 := (21, [(0, .ref 91), (1, .int v1), (2, .ref 76), (3, .int v3), (4, .int v4), (5, .int v5)], [.int ((s.1 27) ((v1 + v5).toNatClampNeg)), .int (v3 + v5), .ref 76], (q_kM s c n))) rfl rfl i2 ?_
      refine q_RP_as fun i3 => ?_
      refine q_RP_rsT (g2 := (22, [(0, .ref 91), (1, .int v1), (2, .ref 76), (3, .int v3), (4, .int v4), (5, .int v5)], [], (q_kM (q_sA s 12 (upd (s.1 12) ((v3 + v5).toNatClampNeg) ((s.1 27) ((v1 + v5).toNatClampNeg)))) c n))) rfl q_wM12 i3 ?_
      refine q_RP_seg (g2 := (3, [(5, .int (v5 + 1)), (0, .ref 91), (1, .int v1), (2, .ref 76), (3, .int v3), (4, .int v4)], [], (q_kM (q_sA s 12 (upd (s.1 12) ((v3 + v5).toNatClampNeg) ((s.1 27) ((v1 + v5).toNatClampNeg)))) c n))) 2 (fun _ _ => rfl) ?_
      exact q_RP_xt (q_xt_mk (q_mn1 1 rfl (q_mn1 2 rfl (q_mn1 3 rfl (q_mn1 4 rfl (q_mn1 5 rfl (q_mn1 0 rfl q_mn0)))))) rfl) (hk3 (q_sA s 12 (upd (s.1 12) ((v3 + v5).toNatClampNeg) ((s.1 27) ((v1 + v5).toNatClampNeg)))) v1 v3 v4 (v5 + 1))
    | false =>
      refine q_RP_cF ?_
      refine q_RP_rsT (g2 := (28, [(0, .ref 91), (1, .int v1), (2, .ref 76), (3, .int v3), (4, .int v4), (5, .int v5)], [], (q_kM s c n))) rfl rfl (q_d_geF h1) ?_
      exact q_RP_ret rfl rfl rfl
def dz_M304_91_76 (s : q_S) (a1 : Int32) (a3 : Int32) (a4 : Int32) : Option (q_S) :=
  dz_M304_91_76_3 5000 s a1 a3 a4 0
set_option maxHeartbeats 4000000 in
theorem dzt_M304_91_76 (s : q_S) (c n : Nat) (a1 : Int32) (a3 : Int32) (a4 : Int32) (x : q_S) (h : dz_M304_91_76 s a1 a3 a4 = some x) : q_Ca q_TB0 1 303 [.ref 91, .int a1, .ref 76, .int a3, .int a4] (q_kM s c n) ((q_oSM c n) x) := by
  refine q_CaP_of (φ := (q_oSM c n)) (Nat.le_of_ble_eq_true rfl) ?_ h
  clear h
  unfold dz_M304_91_76
  refine q_RP_seg (g2 := (3, [(5, .int 0), (0, .ref 91), (1, .int a1), (2, .ref 76), (3, .int a3), (4, .int a4)], [], (q_kM s c n))) 2 (fun _ _ => rfl) ?_
  exact q_RP_xt (q_xt_mk (q_mn1 1 rfl (q_mn1 2 rfl (q_mn1 3 rfl (q_mn1 4 rfl (q_mn1 5 rfl (q_mn1 0 rfl q_mn0)))))) rfl) (dzt_M304_91_76_3 c n 5000 s a1 a3 a4 0)
def dz_M304_92_77_3 (m : Nat) : q_S → Int32 → Int32 → Int32 → Int32 → Option (q_S) := Nat.rec (motive := fun _ => q_S → Int32 → Int32 → Int32 → Int32 → Option (q_S)) (fun _ _ _ _ _ => none) (fun _ k3 s v1 v3 v4 v5 =>
  cond (decide (v5 < v4)) (cond (q_in (v1 + v5) 9) (cond (q_in (v3 + v5) 3) (k3 (q_sA s 13 (upd (s.1 13) ((v3 + v5).toNatClampNeg) ((s.1 28) ((v1 + v5).toNatClampNeg)))) v1 v3 v4 (v5 + 1)) none) none) (some s)) m
theorem dzs_M304_92_77_3 (m : Nat) (s : q_S) (v1 : Int32) (v3 : Int32) (v4 : Int32) (v5 : Int32) : dz_M304_92_77_3 (m + 1) s v1 v3 v4 v5 = (fun k3 : q_S → Int32 → Int32 → Int32 → Int32 → Option (q_S) =>
  cond (decide (v5 < v4)) (cond (q_in (v1 + v5) 9) (cond (q_in (v3 + v5) 3) (k3 (q_sA s 13 (upd (s.1 13) ((v3 + v5).toNatClampNeg) ((s.1 28) ((v1 + v5).toNatClampNeg)))) v1 v3 v4 (v5 + 1)) none) none) (some s)) (dz_M304_92_77_3 m) := rfl
set_option maxHeartbeats 4000000 in
theorem dzt_M304_92_77_3 (c n : Nat) : ∀ (m : Nat) (s : q_S) (v1 : Int32) (v3 : Int32) (v4 : Int32) (v5 : Int32), q_RP q_TB0 0 303 (3, [(0, .ref 92), (1, .int v1), (2, .ref 77), (3, .int v3), (4, .int v4), (5, .int v5)], [], (q_kM s c n)) (q_oSM c n) (dz_M304_92_77_3 m s v1 v3 v4 v5) := by
  intro m
  induction m with
  | zero => intro s v1 v3 v4 v5; exact q_RP_no
  | succ m ih =>
    intro s v1 v3 v4 v5
    have hk3 := ih
    clear ih
    rw [dzs_M304_92_77_3]
    generalize dz_M304_92_77_3 m = k3 at hk3 ⊢
    dsimp only
    refine q_RP_seg (g2 := (7, [(0, .ref 92), (1, .int v1), (2, .ref 77), (3, .int v3), (4, .int v4), (5, .int v5)], [.int v4, .int v5], (q_kM s c n))) 2 (fun _ _ => rfl) ?_
    cases h1 : decide (v5 < v4) with
    | true =>
      refine q_RP_cT ?_
      refine q_RP_rsF (g2 := (10, [(0, .ref 92), (1, .int v1), (2, .ref 77), (3, .int v3), (4, .int v4), (5, .int v5)], [], (q_kM s c n))) rfl rfl (q_d_geT h1) ?_
      refine q_RP_seg (g2 := (20, [(0, .ref 92), (1, .int v1), (2, .ref 77), (3, .int v3), (4, .int v4), (5, .int v5)], [.int (v1 + v5), .ref 92, .int (v3 + v5), .ref 77], (q_kM s c n))) 8 (fun _ _ => rfl) ?_
      refine q_RP_as fun i2 => ?_
      refine q_RP_rsT (g2 := (21, [(0, .ref 92), (1, .int v1), (2, .ref 77), (3, .int v3), (4, .int v4), (5, .int v5)], [.int ((s.1 28) ((v1 + v5).toNatClampNeg)), .int (v3 + v5), .ref 77], (q_kM s c n))) rfl rfl i2 ?_
      refine q_RP_as fun i3 => ?_
      refine q_RP_rsT (g2 := (22, [(0, .ref 92), (1, .int v1), (2, .ref 77), (3, .int v3), (4, .int v4), (5, .int v5)], [], (q_kM (q_sA s 13 (upd (s.1 13) ((v3 + v5).toNatClampNeg) ((s.1 28) ((v1 + v5).toNatClampNeg)))) c n))) rfl q_wM13 i3 ?_
      refine q_RP_seg (g2 := (3, [(5, .int (v5 + 1)), (0, .ref 92), (1, .int v1), (2, .ref 77), (3, .int v3), (4, .int v4)], [], (q_kM (q_sA s 13 (upd (s.1 13) ((v3 + v5).toNatClampNeg) ((s.1 28) ((v1 + v5).toNatClampNeg)))) c n))) 2 (fun _ _ => rfl) ?_
      exact q_RP_xt (q_xt_mk (q_mn1 1 rfl (q_mn1 2 rfl (q_mn1 3 rfl (q_mn1 4 rfl (q_mn1 5 rfl (q_mn1 0 rfl q_mn0)))))) rfl) (hk3 (q_sA s 13 (upd (s.1 13) ((v3 + v5).toNatClampNeg) ((s.1 28) ((v1 + v5).toNatClampNeg)))) v1 v3 v4 (v5 + 1))
    | false =>
      refine q_RP_cF ?_
      refine q_RP_rsT (g2 := (28, [(0, .ref 92), (1, .int v1), (2, .ref 77), (3, .int v3), (4, .int v4), (5, .int v5)], [], (q_kM s c n))) rfl rfl (q_d_geF h1) ?_
      exact q_RP_ret rfl rfl rfl
def dz_M304_92_77 (s : q_S) (a1 : Int32) (a3 : Int32) (a4 : Int32) : Option (q_S) :=
  dz_M304_92_77_3 5000 s a1 a3 a4 0
set_option maxHeartbeats 4000000 in
theorem dzt_M304_92_77 (s : q_S) (c n : Nat) (a1 : Int32) (a3 : Int32) (a4 : Int32) (x : q_S) (h : dz_M304_92_77 s a1 a3 a4 = some x) : q_Ca q_TB0 1 303 [.ref 92, .int a1, .ref 77, .int a3, .int a4] (q_kM s c n) ((q_oSM c n) x) := by
  refine q_CaP_of (φ := (q_oSM c n)) (Nat.le_of_ble_eq_true rfl) ?_ h
  clear h
  unfold dz_M304_92_77
  refine q_RP_seg (g2 := (3, [(5, .int 0), (0, .ref 92), (1, .int a1), (2, .ref 77), (3, .int a3), (4, .int a4)], [], (q_kM s c n))) 2 (fun _ _ => rfl) ?_
  exact q_RP_xt (q_xt_mk (q_mn1 1 rfl (q_mn1 2 rfl (q_mn1 3 rfl (q_mn1 4 rfl (q_mn1 5 rfl (q_mn1 0 rfl q_mn0)))))) rfl) (dzt_M304_92_77_3 c n 5000 s a1 a3 a4 0)
def dz_M304_93_78_3 (m : Nat) : q_S → Int32 → Int32 → Int32 → Int32 → Option (q_S) := Nat.rec (motive := fun _ => q_S → Int32 → Int32 → Int32 → Int32 → Option (q_S)) (fun _ _ _ _ _ => none) (fun _ k3 s v1 v3 v4 v5 =>
  cond (decide (v5 < v4)) (cond (q_in (v1 + v5) 72) (cond (q_in (v3 + v5) 24) (k3 (q_sA s 14 (upd (s.1 14) ((v3 + v5).toNatClampNeg) ((s.1 29) ((v1 + v5).toNatClampNeg)))) v1 v3 v4 (v5 + 1)) none) none) (some s)) m
theorem dzs_M304_93_78_3 (m : Nat) (s : q_S) (v1 : Int32) (v3 : Int32) (v4 : Int32) (v5 : Int32) : dz_M304_93_78_3 (m + 1) s v1 v3 v4 v5 = (fun k3 : q_S → Int32 → Int32 → Int32 → Int32 → Option (q_S) =>
  cond (decide (v5 < v4)) (cond (q_in (v1 + v5) 72) (cond (q_in (v3 + v5) 24) (k3 (q_sA s 14 (upd (s.1 14) ((v3 + v5).toNatClampNeg) ((s.1 29) ((v1 + v5).toNatClampNeg)))) v1 v3 v4 (v5 + 1)) none) none) (some s)) (dz_M304_93_78_3 m) := rfl
set_option maxHeartbeats 4000000 in
theorem dzt_M304_93_78_3 (c n : Nat) : ∀ (m : Nat) (s : q_S) (v1 : Int32) (v3 : Int32) (v4 : Int32) (v5 : Int32), q_RP q_TB0 0 303 (3, [(0, .ref 93), (1, .int v1), (2, .ref 78), (3, .int v3), (4, .int v4), (5, .int v5)], [], (q_kM s c n)) (q_oSM c n) (dz_M304_93_78_3 m s v1 v3 v4 v5) := by
  intro m
  induction m with
  | zero => intro s v1 v3 v4 v5; exact q_RP_no
  | succ m ih =>
    intro s v1 v3 v4 v5
    have hk3 := ih
    clear ih
    rw [dzs_M304_93_78_3]
    generalize dz_M304_93_78_3 m = k3 at hk3 ⊢
    dsimp only
    refine q_RP_seg (g2 := (7, [(0, .ref 93), (1, .int v1), (2, .ref 78), (3, .int v3), (4, .int v4), (5, .int v5)], [.int v4, .int v5], (q_kM s c n))) 2 (fun _ _ => rfl) ?_
    cases h1 : decide (v5 < v4) with
    | true =>
      refine q_RP_cT ?_
      refine q_RP_rsF (g2 := (10, [(0, .ref 93), (1, .int v1), (2, .ref 78), (3, .int v3), (4, .int v4), (5, .int v5)], [], (q_kM s c n))) rfl rfl (q_d_geT h1) ?_
      refine q_RP_seg (g2 := (20, [(0, .ref 93), (1, .int v1), (2, .ref 78), (3, .int v3), (4, .int v4), (5, .int v5)], [.int (v1 + v5), .ref 93, .int (v3 + v5), .ref 78], (q_kM s c n))) 8 (fun _ _ => rfl) ?_
      refine q_RP_as fun i2 => ?_
      refine q_RP_rsT (g2 := (21, [(0, .ref 93), (1, .int v1), (2, .ref 78), (3, .int v3), (4, .int v4), (5, .int v5)], [.int ((s.1 29) ((v1 + v5).toNatClampNeg)), .int (v3 + v5), .ref 78], (q_kM s c n))) rfl rfl i2 ?_
      refine q_RP_as fun i3 => ?_
      refine q_RP_rsT (g2 := (22, [(0, .ref 93), (1, .int v1), (2, .ref 78), (3, .int v3), (4, .int v4), (5, .int v5)], [], (q_kM (q_sA s 14 (upd (s.1 14) ((v3 + v5).toNatClampNeg) ((s.1 29) ((v1 + v5).toNatClampNeg)))) c n))) rfl q_wM14 i3 ?_
      refine q_RP_seg (g2 := (3, [(5, .int (v5 + 1)), (0, .ref 93), (1, .int v1), (2, .ref 78), (3, .int v3), (4, .int v4)], [], (q_kM (q_sA s 14 (upd (s.1 14) ((v3 + v5).toNatClampNeg) ((s.1 29) ((v1 + v5).toNatClampNeg)))) c n))) 2 (fun _ _ => rfl) ?_
      exact q_RP_xt (q_xt_mk (q_mn1 1 rfl (q_mn1 2 rfl (q_mn1 3 rfl (q_mn1 4 rfl (q_mn1 5 rfl (q_mn1 0 rfl q_mn0)))))) rfl) (hk3 (q_sA s 14 (upd (s.1 14) ((v3 + v5).toNatClampNeg) ((s.1 29) ((v1 + v5).toNatClampNeg)))) v1 v3 v4 (v5 + 1))
    | false =>
      refine q_RP_cF ?_
      refine q_RP_rsT (g2 := (28, [(0, .ref 93), (1, .int v1), (2, .ref 78), (3, .int v3), (4, .int v4), (5, .int v5)], [], (q_kM s c n))) rfl rfl (q_d_geF h1) ?_
      exact q_RP_ret rfl rfl rfl
def dz_M304_93_78 (s : q_S) (a1 : Int32) (a3 : Int32) (a4 : Int32) : Option (q_S) :=
  dz_M304_93_78_3 5000 s a1 a3 a4 0
set_option maxHeartbeats 4000000 in
theorem dzt_M304_93_78 (s : q_S) (c n : Nat) (a1 : Int32) (a3 : Int32) (a4 : Int32) (x : q_S) (h : dz_M304_93_78 s a1 a3 a4 = some x) : q_Ca q_TB0 1 303 [.ref 93, .int a1, .ref 78, .int a3, .int a4] (q_kM s c n) ((q_oSM c n) x) := by
  refine q_CaP_of (φ := (q_oSM c n)) (Nat.le_of_ble_eq_true rfl) ?_ h
  clear h
  unfold dz_M304_93_78
  refine q_RP_seg (g2 := (3, [(5, .int 0), (0, .ref 93), (1, .int a1), (2, .ref 78), (3, .int a3), (4, .int a4)], [], (q_kM s c n))) 2 (fun _ _ => rfl) ?_
  exact q_RP_xt (q_xt_mk (q_mn1 1 rfl (q_mn1 2 rfl (q_mn1 3 rfl (q_mn1 4 rfl (q_mn1 5 rfl (q_mn1 0 rfl q_mn0)))))) rfl) (dzt_M304_93_78_3 c n 5000 s a1 a3 a4 0)
def dz_M305_86_71_3 (m : Nat) : q_S → Int32 → Int32 → Int32 → Int32 → Option (q_S) := Nat.rec (motive := fun _ => q_S → Int32 → Int32 → Int32 → Int32 → Option (q_S)) (fun _ _ _ _ _ => none) (fun _ k3 s v1 v3 v4 v5 =>
  cond (decide (v5 < v4)) (cond (q_in (v1 + v5) 48) (cond (q_in (v3 + v5) 16) (k3 (q_sA s 7 (upd (s.1 7) ((v3 + v5).toNatClampNeg) (vp_nar .boolean ((s.1 22) ((v1 + v5).toNatClampNeg))))) v1 v3 v4 (v5 + 1)) none) none) (some s)) m
theorem dzs_M305_86_71_3 (m : Nat) (s : q_S) (v1 : Int32) (v3 : Int32) (v4 : Int32) (v5 : Int32) : dz_M305_86_71_3 (m + 1) s v1 v3 v4 v5 = (fun k3 : q_S → Int32 → Int32 → Int32 → Int32 → Option (q_S) =>
  cond (decide (v5 < v4)) (cond (q_in (v1 + v5) 48) (cond (q_in (v3 + v5) 16) (k3 (q_sA s 7 (upd (s.1 7) ((v3 + v5).toNatClampNeg) (vp_nar .boolean ((s.1 22) ((v1 + v5).toNatClampNeg))))) v1 v3 v4 (v5 + 1)) none) none) (some s)) (dz_M305_86_71_3 m) := rfl
set_option maxHeartbeats 4000000 in
theorem dzt_M305_86_71_3 (c n : Nat) : ∀ (m : Nat) (s : q_S) (v1 : Int32) (v3 : Int32) (v4 : Int32) (v5 : Int32), q_RP q_TB0 0 304 (3, [(0, .ref 86), (1, .int v1), (2, .ref 71), (3, .int v3), (4, .int v4), (5, .int v5)], [], (q_kM s c n)) (q_oSM c n) (dz_M305_86_71_3 m s v1 v3 v4 v5) := by
  intro m
  induction m with
  | zero => intro s v1 v3 v4 v5; exact q_RP_no
  | succ m ih =>
    intro s v1 v3 v4 v5
    have hk3 := ih
    clear ih
    rw [dzs_M305_86_71_3]
    generalize dz_M305_86_71_3 m = k3 at hk3 ⊢
    dsimp only
    refine q_RP_seg (g2 := (7, [(0, .ref 86), (1, .int v1), (2, .ref 71), (3, .int v3), (4, .int v4), (5, .int v5)], [.int v4, .int v5], (q_kM s c n))) 2 (fun _ _ => rfl) ?_
    cases h1 : decide (v5 < v4) with
    | true =>
      refine q_RP_cT ?_
      refine q_RP_rsF (g2 := (10, [(0, .ref 86), (1, .int v1), (2, .ref 71), (3, .int v3), (4, .int v4), (5, .int v5)], [], (q_kM s c n))) rfl rfl (q_d_geT h1) ?_
      refine q_RP_seg (g2 := (20, [(0, .ref 86), (1, .int v1), (2, .ref 71), (3, .int v3), (4, .int v4), (5, .int v5)], [.int (v1 + v5), .ref 86, .int (v3 + v5), .ref 71], (q_kM s c n))) 8 (fun _ _ => rfl) ?_
      refine q_RP_as fun i2 => ?_
      refine q_RP_rsT (g2 := (21, [(0, .ref 86), (1, .int v1), (2, .ref 71), (3, .int v3), (4, .int v4), (5, .int v5)], [.int ((s.1 22) ((v1 + v5).toNatClampNeg)), .int (v3 + v5), .ref 71], (q_kM s c n))) rfl rfl i2 ?_
      refine q_RP_as fun i3 => ?_
      refine q_RP_rsT (g2 := (22, [(0, .ref 86), (1, .int v1), (2, .ref 71), (3, .int v3), (4, .int v4), (5, .int v5)], [], (q_kM (q_sA s 7 (upd (s.1 7) ((v3 + v5).toNatClampNeg) (vp_nar .boolean ((s.1 22) ((v1 + v5).toNatClampNeg))))) c n))) rfl q_wM7 i3 ?_
      refine q_RP_seg (g2 := (3, [(5, .int (v5 + 1)), (0, .ref 86), (1, .int v1), (2, .ref 71), (3, .int v3), (4, .int v4)], [], (q_kM (q_sA s 7 (upd (s.1 7) ((v3 + v5).toNatClampNeg) (vp_nar .boolean ((s.1 22) ((v1 + v5).toNatClampNeg))))) c n))) 2 (fun _ _ => rfl) ?_
      exact q_RP_xt (q_xt_mk (q_mn1 1 rfl (q_mn1 2 rfl (q_mn1 3 rfl (q_mn1 4 rfl (q_mn1 5 rfl (q_mn1 0 rfl q_mn0)))))) rfl) (hk3 (q_sA s 7 (upd (s.1 7) ((v3 + v5).toNatClampNeg) (vp_nar .boolean ((s.1 22) ((v1 + v5).toNatClampNeg))))) v1 v3 v4 (v5 + 1))
    | false =>
      refine q_RP_cF ?_
      refine q_RP_rsT (g2 := (28, [(0, .ref 86), (1, .int v1), (2, .ref 71), (3, .int v3), (4, .int v4), (5, .int v5)], [], (q_kM s c n))) rfl rfl (q_d_geF h1) ?_
      exact q_RP_ret rfl rfl rfl
def dz_M305_86_71 (s : q_S) (a1 : Int32) (a3 : Int32) (a4 : Int32) : Option (q_S) :=
  dz_M305_86_71_3 5000 s a1 a3 a4 0
set_option maxHeartbeats 4000000 in
theorem dzt_M305_86_71 (s : q_S) (c n : Nat) (a1 : Int32) (a3 : Int32) (a4 : Int32) (x : q_S) (h : dz_M305_86_71 s a1 a3 a4 = some x) : q_Ca q_TB0 1 304 [.ref 86, .int a1, .ref 71, .int a3, .int a4] (q_kM s c n) ((q_oSM c n) x) := by
  refine q_CaP_of (φ := (q_oSM c n)) (Nat.le_of_ble_eq_true rfl) ?_ h
  clear h
  unfold dz_M305_86_71
  refine q_RP_seg (g2 := (3, [(5, .int 0), (0, .ref 86), (1, .int a1), (2, .ref 71), (3, .int a3), (4, .int a4)], [], (q_kM s c n))) 2 (fun _ _ => rfl) ?_
  exact q_RP_xt (q_xt_mk (q_mn1 1 rfl (q_mn1 2 rfl (q_mn1 3 rfl (q_mn1 4 rfl (q_mn1 5 rfl (q_mn1 0 rfl q_mn0)))))) rfl) (dzt_M305_86_71_3 c n 5000 s a1 a3 a4 0)
def dz_M305_94_79_3 (m : Nat) : q_S → Int32 → Int32 → Int32 → Int32 → Option (q_S) := Nat.rec (motive := fun _ => q_S → Int32 → Int32 → Int32 → Int32 → Option (q_S)) (fun _ _ _ _ _ => none) (fun _ k3 s v1 v3 v4 v5 =>
  cond (decide (v5 < v4)) (cond (q_in (v1 + v5) 24) (cond (q_in (v3 + v5) 8) (k3 (q_sA s 15 (upd (s.1 15) ((v3 + v5).toNatClampNeg) (vp_nar .boolean ((s.1 30) ((v1 + v5).toNatClampNeg))))) v1 v3 v4 (v5 + 1)) none) none) (some s)) m
theorem dzs_M305_94_79_3 (m : Nat) (s : q_S) (v1 : Int32) (v3 : Int32) (v4 : Int32) (v5 : Int32) : dz_M305_94_79_3 (m + 1) s v1 v3 v4 v5 = (fun k3 : q_S → Int32 → Int32 → Int32 → Int32 → Option (q_S) =>
  cond (decide (v5 < v4)) (cond (q_in (v1 + v5) 24) (cond (q_in (v3 + v5) 8) (k3 (q_sA s 15 (upd (s.1 15) ((v3 + v5).toNatClampNeg) (vp_nar .boolean ((s.1 30) ((v1 + v5).toNatClampNeg))))) v1 v3 v4 (v5 + 1)) none) none) (some s)) (dz_M305_94_79_3 m) := rfl
set_option maxHeartbeats 4000000 in
theorem dzt_M305_94_79_3 (c n : Nat) : ∀ (m : Nat) (s : q_S) (v1 : Int32) (v3 : Int32) (v4 : Int32) (v5 : Int32), q_RP q_TB0 0 304 (3, [(0, .ref 94), (1, .int v1), (2, .ref 79), (3, .int v3), (4, .int v4), (5, .int v5)], [], (q_kM s c n)) (q_oSM c n) (dz_M305_94_79_3 m s v1 v3 v4 v5) := by
  intro m
  induction m with
  | zero => intro s v1 v3 v4 v5; exact q_RP_no
  | succ m ih =>
    intro s v1 v3 v4 v5
    have hk3 := ih
    clear ih
    rw [dzs_M305_94_79_3]
    generalize dz_M305_94_79_3 m = k3 at hk3 ⊢
    dsimp only
    refine q_RP_seg (g2 := (7, [(0, .ref 94), (1, .int v1), (2, .ref 79), (3, .int v3), (4, .int v4), (5, .int v5)], [.int v4, .int v5], (q_kM s c n))) 2 (fun _ _ => rfl) ?_
    cases h1 : decide (v5 < v4) with
    | true =>
      refine q_RP_cT ?_
      refine q_RP_rsF (g2 := (10, [(0, .ref 94), (1, .int v1), (2, .ref 79), (3, .int v3), (4, .int v4), (5, .int v5)], [], (q_kM s c n))) rfl rfl (q_d_geT h1) ?_
      refine q_RP_seg (g2 := (20, [(0, .ref 94), (1, .int v1), (2, .ref 79), (3, .int v3), (4, .int v4), (5, .int v5)], [.int (v1 + v5), .ref 94, .int (v3 + v5), .ref 79], (q_kM s c n))) 8 (fun _ _ => rfl) ?_
      refine q_RP_as fun i2 => ?_
      refine q_RP_rsT (g2 := (21, [(0, .ref 94), (1, .int v1), (2, .ref 79), (3, .int v3), (4, .int v4), (5, .int v5)], [.int ((s.1 30) ((v1 + v5).toNatClampNeg)), .int (v3 + v5), .ref 79], (q_kM s c n))) rfl rfl i2 ?_
      refine q_RP_as fun i3 => ?_
      refine q_RP_rsT (g2 := (22, [(0, .ref 94), (1, .int v1), (2, .ref 79), (3, .int v3), (4, .int v4), (5, .int v5)], [], (q_kM (q_sA s 15 (upd (s.1 15) ((v3 + v5).toNatClampNeg) (vp_nar .boolean ((s.1 30) ((v1 + v5).toNatClampNeg))))) c n))) rfl q_wM15 i3 ?_
      refine q_RP_seg (g2 := (3, [(5, .int (v5 + 1)), (0, .ref 94), (1, .int v1), (2, .ref 79), (3, .int v3), (4, .int v4)], [], (q_kM (q_sA s 15 (upd (s.1 15) ((v3 + v5).toNatClampNeg) (vp_nar .boolean ((s.1 30) ((v1 + v5).toNatClampNeg))))) c n))) 2 (fun _ _ => rfl) ?_
      exact q_RP_xt (q_xt_mk (q_mn1 1 rfl (q_mn1 2 rfl (q_mn1 3 rfl (q_mn1 4 rfl (q_mn1 5 rfl (q_mn1 0 rfl q_mn0)))))) rfl) (hk3 (q_sA s 15 (upd (s.1 15) ((v3 + v5).toNatClampNeg) (vp_nar .boolean ((s.1 30) ((v1 + v5).toNatClampNeg))))) v1 v3 v4 (v5 + 1))
    | false =>
      refine q_RP_cF ?_
      refine q_RP_rsT (g2 := (28, [(0, .ref 94), (1, .int v1), (2, .ref 79), (3, .int v3), (4, .int v4), (5, .int v5)], [], (q_kM s c n))) rfl rfl (q_d_geF h1) ?_
      exact q_RP_ret rfl rfl rfl
def dz_M305_94_79 (s : q_S) (a1 : Int32) (a3 : Int32) (a4 : Int32) : Option (q_S) :=
  dz_M305_94_79_3 5000 s a1 a3 a4 0
set_option maxHeartbeats 4000000 in
theorem dzt_M305_94_79 (s : q_S) (c n : Nat) (a1 : Int32) (a3 : Int32) (a4 : Int32) (x : q_S) (h : dz_M305_94_79 s a1 a3 a4 = some x) : q_Ca q_TB0 1 304 [.ref 94, .int a1, .ref 79, .int a3, .int a4] (q_kM s c n) ((q_oSM c n) x) := by
  refine q_CaP_of (φ := (q_oSM c n)) (Nat.le_of_ble_eq_true rfl) ?_ h
  clear h
  unfold dz_M305_94_79
  refine q_RP_seg (g2 := (3, [(5, .int 0), (0, .ref 94), (1, .int a1), (2, .ref 79), (3, .int a3), (4, .int a4)], [], (q_kM s c n))) 2 (fun _ _ => rfl) ?_
  exact q_RP_xt (q_xt_mk (q_mn1 1 rfl (q_mn1 2 rfl (q_mn1 3 rfl (q_mn1 4 rfl (q_mn1 5 rfl (q_mn1 0 rfl q_mn0)))))) rfl) (dzt_M305_94_79_3 c n 5000 s a1 a3 a4 0)
def dz_M308_64 (s : q_S) (a1 : Int32) : Option (q_S × Int32) :=
  q_let (dz_M202 s a1 0 ((s.2.1 0 17) - 1)) fun r4 => cond r4 (q_let (dz_M200_64 s 0) fun r5 => cond r5.2 (some (r5.1, 0)) ((dz_M307_64 r5.1 a1).bind fun r6 => (dz_M304_80_65 r5.1 (4096 * a1) 0 4096).bind fun r7 => (dz_M304_81_66 r7 (512 * a1) 0 512).bind fun r8 => (dz_M304_82_67 r8 (2048 * a1) 0 2048).bind fun r9 => (dz_M304_83_68 r9 (48 * a1) 0 48).bind fun r10 => (dz_M304_84_69 r10 (1024 * a1) 0 1024).bind fun r11 => (dz_M304_85_70 r11 (40 * a1) 0 40).bind fun r12 => (dz_M304_87_72 r12 (40 * a1) 0 40).bind fun r13 => (dz_M304_88_73 r13 (16 * a1) 0 16).bind fun r14 => (dz_M304_89_74 r14 (3 * a1) 0 3).bind fun r15 => (dz_M304_90_75 r15 (3 * a1) 0 3).bind fun r16 => (dz_M304_91_76 r16 (3 * a1) 0 3).bind fun r17 => (dz_M304_92_77 r17 (3 * a1) 0 3).bind fun r18 => (dz_M304_93_78 r18 (24 * a1) 0 24).bind fun r19 => (dz_M305_86_71 r19 (16 * a1) 0 16).bind fun r20 => (dz_M305_94_79 r20 (8 * a1) 0 8).bind fun r21 => cond (q_in (2 * a1) 6) (cond (q_in ((2 * a1) + 1) 6) (some ((q_sI (q_sJ (q_sJ r21 0 15 ((r21.2.2 31) ((2 * a1).toNatClampNeg))) 0 16 ((r21.2.2 31) (((2 * a1) + 1).toNatClampNeg))) 0 34 (-1)), r6)) none) none)) (q_let (dz_M200_64 s 1) fun r22 => cond r22.2 (some (r22.1, 0)) ((dz_M307_64 r22.1 a1).bind fun r23 => (dz_M304_80_65 r22.1 (4096 * a1) 0 4096).bind fun r24 => (dz_M304_81_66 r24 (512 * a1) 0 512).bind fun r25 => (dz_M304_82_67 r25 (2048 * a1) 0 2048).bind fun r26 => (dz_M304_83_68 r26 (48 * a1) 0 48).bind fun r27 => (dz_M304_84_69 r27 (1024 * a1) 0 1024).bind fun r28 => (dz_M304_85_70 r28 (40 * a1) 0 40).bind fun r29 => (dz_M304_87_72 r29 (40 * a1) 0 40).bind fun r30 => (dz_M304_88_73 r30 (16 * a1) 0 16).bind fun r31 => (dz_M304_89_74 r31 (3 * a1) 0 3).bind fun r32 => (dz_M304_90_75 r32 (3 * a1) 0 3).bind fun r33 => (dz_M304_91_76 r33 (3 * a1) 0 3).bind fun r34 => (dz_M304_92_77 r34 (3 * a1) 0 3).bind fun r35 => (dz_M304_93_78 r35 (24 * a1) 0 24).bind fun r36 => (dz_M305_86_71 r36 (16 * a1) 0 16).bind fun r37 => (dz_M305_94_79 r37 (8 * a1) 0 8).bind fun r38 => cond (q_in (2 * a1) 6) (cond (q_in ((2 * a1) + 1) 6) (some ((q_sI (q_sJ (q_sJ r38 0 15 ((r38.2.2 31) ((2 * a1).toNatClampNeg))) 0 16 ((r38.2.2 31) (((2 * a1) + 1).toNatClampNeg))) 0 34 (-1)), r23)) none) none))
set_option maxHeartbeats 4000000 in
theorem dzt_M308_64 (s : q_S) (c n : Nat) (a1 : Int32) (x : q_S × Int32) (h : dz_M308_64 s a1 = some x) : q_Ca q_TB0 2 307 [.ref 64, .int a1] (q_kM s c n) ((q_oIM c n) x) := by
  refine q_CaP_of (φ := (q_oIM c n)) (Nat.le_of_ble_eq_true rfl) ?_ h
  clear h
  unfold dz_M308_64
  refine q_RP_seg (g2 := (7, [(0, .ref 64), (1, .int a1)], [.int (s.2.1 0 17), .int 0, .int a1, .ref 64], (q_kM s c n))) 5 (fun _ _ => rfl) ?_
  refine q_RP_seg (g2 := (9, [(0, .ref 64), (1, .int a1)], [.int ((s.2.1 0 17) - 1), .int 0, .int a1, .ref 64], (q_kM s c n))) 2 (fun _ _ => rfl) ?_
  refine q_RP_call (v := (some (.int (q_b (dz_M202 s a1 0 ((s.2.1 0 17) - 1)))))) (h2 := (q_kM s c n)) rfl rfl ((dzt_M202 s c n a1 0 ((s.2.1 0 17) - 1)).le (Nat.le_of_ble_eq_true rfl)) ?_
  generalize dz_M202 s a1 0 ((s.2.1 0 17) - 1) = r4
  refine q_RP_let ?_
  show q_RP _ _ _ (12, [(0, .ref 64), (1, .int a1)], [.int (q_b r4), .ref 64], (q_kM s c n)) _ _
  cases h3 : r4 with
  | true =>
    refine q_RP_cT ?_
    show q_RP _ _ _ (12, [(0, .ref 64), (1, .int a1)], [.int 1, .ref 64], (q_kM s c n)) _ _
    refine q_RP_seg (g2 := (20, [(0, .ref 64), (1, .int a1)], [.int 0, .ref 64], (q_kM s c n))) 3 (fun _ _ => rfl) ?_
    refine q_RP_call (v := (some (.int (q_b (dz_M200_64 s 0).2)))) (h2 := (q_kM (dz_M200_64 s 0).1 c n)) rfl rfl ((dzt_M200_64 s c n 0).le (Nat.le_of_ble_eq_true rfl)) ?_
    generalize dz_M200_64 s 0 = r5
    refine q_RP_let ?_
    show q_RP _ _ _ (23, [(0, .ref 64), (1, .int a1)], [.int (q_b r5.2)], (q_kM r5.1 c n)) _ _
    cases h4 : r5.2 with
    | true =>
      refine q_RP_cT ?_
      show q_RP _ _ _ (23, [(0, .ref 64), (1, .int a1)], [.int 1], (q_kM r5.1 c n)) _ _
      refine q_RP_seg (g2 := (27, [(0, .ref 64), (1, .int a1)], [.int 0], (q_kM r5.1 c n))) 2 (fun _ _ => rfl) ?_
      exact q_RP_ret rfl rfl rfl
    | false =>
      refine q_RP_cF ?_
      show q_RP _ _ _ (23, [(0, .ref 64), (1, .int a1)], [.int 0], (q_kM r5.1 c n)) _ _
      refine q_RP_seg (g2 := (32, [(2, .int a1), (0, .ref 64), (1, .int a1)], [.int a1, .ref 64], (q_kM r5.1 c n))) 5 (fun _ _ => rfl) ?_
      refine q_RP_bd fun r6 er6 => ?_
      refine q_RP_call (v := (some (.int r6))) (h2 := (q_kM r5.1 c n)) rfl rfl ((dzt_M307_64 r5.1 c n a1 r6 er6).le (Nat.le_of_ble_eq_true rfl)) ?_
      show q_RP _ _ _ (35, [(2, .int a1), (0, .ref 64), (1, .int a1)], [.int r6], (q_kM r5.1 c n)) _ _
      refine q_RP_seg (g2 := (53, [(3, .int r6), (2, .int a1), (0, .ref 64), (1, .int a1)], [.int 4096, .int 0, .ref 65, .int (4096 * a1), .ref 80], (q_kM r5.1 c n))) 10 (fun _ _ => rfl) ?_
      refine q_RP_bd fun r7 er7 => ?_
      refine q_RP_call (v := none) (h2 := (q_kM r7 c n)) rfl rfl ((dzt_M304_80_65 r5.1 c n (4096 * a1) 0 4096 r7 er7).le (Nat.le_of_ble_eq_true rfl)) ?_
      show q_RP _ _ _ (56, [(3, .int r6), (2, .int a1), (0, .ref 64), (1, .int a1)], [], (q_kM r7 c n)) _ _
      refine q_RP_seg (g2 := (73, [(3, .int r6), (2, .int a1), (0, .ref 64), (1, .int a1)], [.int 512, .int 0, .ref 66, .int (512 * a1), .ref 81], (q_kM r7 c n))) 9 (fun _ _ => rfl) ?_
      refine q_RP_bd fun r8 er8 => ?_
      refine q_RP_call (v := none) (h2 := (q_kM r8 c n)) rfl rfl ((dzt_M304_81_66 r7 c n (512 * a1) 0 512 r8 er8).le (Nat.le_of_ble_eq_true rfl)) ?_
      show q_RP _ _ _ (76, [(3, .int r6), (2, .int a1), (0, .ref 64), (1, .int a1)], [], (q_kM r8 c n)) _ _
      refine q_RP_seg (g2 := (93, [(3, .int r6), (2, .int a1), (0, .ref 64), (1, .int a1)], [.int 2048, .int 0, .ref 67, .int (2048 * a1), .ref 82], (q_kM r8 c n))) 9 (fun _ _ => rfl) ?_
      refine q_RP_bd fun r9 er9 => ?_
      refine q_RP_call (v := none) (h2 := (q_kM r9 c n)) rfl rfl ((dzt_M304_82_67 r8 c n (2048 * a1) 0 2048 r9 er9).le (Nat.le_of_ble_eq_true rfl)) ?_
      show q_RP _ _ _ (96, [(3, .int r6), (2, .int a1), (0, .ref 64), (1, .int a1)], [], (q_kM r9 c n)) _ _
      refine q_RP_seg (g2 := (111, [(3, .int r6), (2, .int a1), (0, .ref 64), (1, .int a1)], [.int 48, .int 0, .ref 68, .int (48 * a1), .ref 83], (q_kM r9 c n))) 9 (fun _ _ => rfl) ?_
      refine q_RP_bd fun r10 er10 => ?_
      refine q_RP_call (v := none) (h2 := (q_kM r10 c n)) rfl rfl ((dzt_M304_83_68 r9 c n (48 * a1) 0 48 r10 er10).le (Nat.le_of_ble_eq_true rfl)) ?_
      show q_RP _ _ _ (114, [(3, .int r6), (2, .int a1), (0, .ref 64), (1, .int a1)], [], (q_kM r10 c n)) _ _
      refine q_RP_seg (g2 := (131, [(3, .int r6), (2, .int a1), (0, .ref 64), (1, .int a1)], [.int 1024, .int 0, .ref 69, .int (1024 * a1), .ref 84], (q_kM r10 c n))) 9 (fun _ _ => rfl) ?_
      refine q_RP_bd fun r11 er11 => ?_
      refine q_RP_call (v := none) (h2 := (q_kM r11 c n)) rfl rfl ((dzt_M304_84_69 r10 c n (1024 * a1) 0 1024 r11 er11).le (Nat.le_of_ble_eq_true rfl)) ?_
      show q_RP _ _ _ (134, [(3, .int r6), (2, .int a1), (0, .ref 64), (1, .int a1)], [], (q_kM r11 c n)) _ _
      refine q_RP_seg (g2 := (149, [(3, .int r6), (2, .int a1), (0, .ref 64), (1, .int a1)], [.int 40, .int 0, .ref 70, .int (40 * a1), .ref 85], (q_kM r11 c n))) 9 (fun _ _ => rfl) ?_
      refine q_RP_bd fun r12 er12 => ?_
      refine q_RP_call (v := none) (h2 := (q_kM r12 c n)) rfl rfl ((dzt_M304_85_70 r11 c n (40 * a1) 0 40 r12 er12).le (Nat.le_of_ble_eq_true rfl)) ?_
      show q_RP _ _ _ (152, [(3, .int r6), (2, .int a1), (0, .ref 64), (1, .int a1)], [], (q_kM r12 c n)) _ _
      refine q_RP_seg (g2 := (167, [(3, .int r6), (2, .int a1), (0, .ref 64), (1, .int a1)], [.int 40, .int 0, .ref 72, .int (40 * a1), .ref 87], (q_kM r12 c n))) 9 (fun _ _ => rfl) ?_
      refine q_RP_bd fun r13 er13 => ?_
      refine q_RP_call (v := none) (h2 := (q_kM r13 c n)) rfl rfl ((dzt_M304_87_72 r12 c n (40 * a1) 0 40 r13 er13).le (Nat.le_of_ble_eq_true rfl)) ?_
      show q_RP _ _ _ (170, [(3, .int r6), (2, .int a1), (0, .ref 64), (1, .int a1)], [], (q_kM r13 c n)) _ _
      refine q_RP_seg (g2 := (185, [(3, .int r6), (2, .int a1), (0, .ref 64), (1, .int a1)], [.int 16, .int 0, .ref 73, .int (16 * a1), .ref 88], (q_kM r13 c n))) 9 (fun _ _ => rfl) ?_
      refine q_RP_bd fun r14 er14 => ?_
      refine q_RP_call (v := none) (h2 := (q_kM r14 c n)) rfl rfl ((dzt_M304_88_73 r13 c n (16 * a1) 0 16 r14 er14).le (Nat.le_of_ble_eq_true rfl)) ?_
      show q_RP _ _ _ (188, [(3, .int r6), (2, .int a1), (0, .ref 64), (1, .int a1)], [], (q_kM r14 c n)) _ _
      refine q_RP_seg (g2 := (201, [(3, .int r6), (2, .int a1), (0, .ref 64), (1, .int a1)], [.int 3, .int 0, .ref 74, .int (3 * a1), .ref 89], (q_kM r14 c n))) 9 (fun _ _ => rfl) ?_
      refine q_RP_bd fun r15 er15 => ?_
      refine q_RP_call (v := none) (h2 := (q_kM r15 c n)) rfl rfl ((dzt_M304_89_74 r14 c n (3 * a1) 0 3 r15 er15).le (Nat.le_of_ble_eq_true rfl)) ?_
      show q_RP _ _ _ (204, [(3, .int r6), (2, .int a1), (0, .ref 64), (1, .int a1)], [], (q_kM r15 c n)) _ _
      refine q_RP_seg (g2 := (217, [(3, .int r6), (2, .int a1), (0, .ref 64), (1, .int a1)], [.int 3, .int 0, .ref 75, .int (3 * a1), .ref 90], (q_kM r15 c n))) 9 (fun _ _ => rfl) ?_
      refine q_RP_bd fun r16 er16 => ?_
      refine q_RP_call (v := none) (h2 := (q_kM r16 c n)) rfl rfl ((dzt_M304_90_75 r15 c n (3 * a1) 0 3 r16 er16).le (Nat.le_of_ble_eq_true rfl)) ?_
      show q_RP _ _ _ (220, [(3, .int r6), (2, .int a1), (0, .ref 64), (1, .int a1)], [], (q_kM r16 c n)) _ _
      refine q_RP_seg (g2 := (233, [(3, .int r6), (2, .int a1), (0, .ref 64), (1, .int a1)], [.int 3, .int 0, .ref 76, .int (3 * a1), .ref 91], (q_kM r16 c n))) 9 (fun _ _ => rfl) ?_
      refine q_RP_bd fun r17 er17 => ?_
      refine q_RP_call (v := none) (h2 := (q_kM r17 c n)) rfl rfl ((dzt_M304_91_76 r16 c n (3 * a1) 0 3 r17 er17).le (Nat.le_of_ble_eq_true rfl)) ?_
      show q_RP _ _ _ (236, [(3, .int r6), (2, .int a1), (0, .ref 64), (1, .int a1)], [], (q_kM r17 c n)) _ _
      refine q_RP_seg (g2 := (249, [(3, .int r6), (2, .int a1), (0, .ref 64), (1, .int a1)], [.int 3, .int 0, .ref 77, .int (3 * a1), .ref 92], (q_kM r17 c n))) 9 (fun _ _ => rfl) ?_
      refine q_RP_bd fun r18 er18 => ?_
      refine q_RP_call (v := none) (h2 := (q_kM r18 c n)) rfl rfl ((dzt_M304_92_77 r17 c n (3 * a1) 0 3 r18 er18).le (Nat.le_of_ble_eq_true rfl)) ?_
      show q_RP _ _ _ (252, [(3, .int r6), (2, .int a1), (0, .ref 64), (1, .int a1)], [], (q_kM r18 c n)) _ _
      refine q_RP_seg (g2 := (267, [(3, .int r6), (2, .int a1), (0, .ref 64), (1, .int a1)], [.int 24, .int 0, .ref 78, .int (24 * a1), .ref 93], (q_kM r18 c n))) 9 (fun _ _ => rfl) ?_
      refine q_RP_bd fun r19 er19 => ?_
      refine q_RP_call (v := none) (h2 := (q_kM r19 c n)) rfl rfl ((dzt_M304_93_78 r18 c n (24 * a1) 0 24 r19 er19).le (Nat.le_of_ble_eq_true rfl)) ?_
      show q_RP _ _ _ (270, [(3, .int r6), (2, .int a1), (0, .ref 64), (1, .int a1)], [], (q_kM r19 c n)) _ _
      refine q_RP_seg (g2 := (285, [(3, .int r6), (2, .int a1), (0, .ref 64), (1, .int a1)], [.int 16, .int 0, .ref 71, .int (16 * a1), .ref 86], (q_kM r19 c n))) 9 (fun _ _ => rfl) ?_
      refine q_RP_bd fun r20 er20 => ?_
      refine q_RP_call (v := none) (h2 := (q_kM r20 c n)) rfl rfl ((dzt_M305_86_71 r19 c n (16 * a1) 0 16 r20 er20).le (Nat.le_of_ble_eq_true rfl)) ?_
      show q_RP _ _ _ (288, [(3, .int r6), (2, .int a1), (0, .ref 64), (1, .int a1)], [], (q_kM r20 c n)) _ _
      refine q_RP_seg (g2 := (303, [(3, .int r6), (2, .int a1), (0, .ref 64), (1, .int a1)], [.int 8, .int 0, .ref 79, .int (8 * a1), .ref 94], (q_kM r20 c n))) 9 (fun _ _ => rfl) ?_
      refine q_RP_bd fun r21 er21 => ?_
      refine q_RP_call (v := none) (h2 := (q_kM r21 c n)) rfl rfl ((dzt_M305_94_79 r20 c n (8 * a1) 0 8 r21 er21).le (Nat.le_of_ble_eq_true rfl)) ?_
      show q_RP _ _ _ (306, [(3, .int r6), (2, .int a1), (0, .ref 64), (1, .int a1)], [], (q_kM r21 c n)) _ _
      refine q_RP_seg (g2 := (314, [(3, .int r6), (2, .int a1), (0, .ref 64), (1, .int a1)], [.int (2 * a1), .ref 95, .ref 64], (q_kM r21 c n))) 6 (fun _ _ => rfl) ?_
      refine q_RP_as fun i5 => ?_
      refine q_RP_rsT (g2 := (315, [(3, .int r6), (2, .int a1), (0, .ref 64), (1, .int a1)], [.long ((r21.2.2 31) ((2 * a1).toNatClampNeg)), .ref 64], (q_kM r21 c n))) rfl rfl i5 ?_
      refine q_RP_st1 (g2 := (318, [(3, .int r6), (2, .int a1), (0, .ref 64), (1, .int a1)], [], (q_kM (q_sJ r21 0 15 ((r21.2.2 31) ((2 * a1).toNatClampNeg))) c n))) rfl q_pM0_15 ?_
      refine q_RP_seg (g2 := (328, [(3, .int r6), (2, .int a1), (0, .ref 64), (1, .int a1)], [.int ((2 * a1) + 1), .ref 95, .ref 64], (q_kM (q_sJ r21 0 15 ((r21.2.2 31) ((2 * a1).toNatClampNeg))) c n))) 8 (fun _ _ => rfl) ?_
      refine q_RP_as fun i6 => ?_
      refine q_RP_rsT (g2 := (329, [(3, .int r6), (2, .int a1), (0, .ref 64), (1, .int a1)], [.long ((r21.2.2 31) (((2 * a1) + 1).toNatClampNeg)), .ref 64], (q_kM (q_sJ r21 0 15 ((r21.2.2 31) ((2 * a1).toNatClampNeg))) c n))) rfl rfl i6 ?_
      refine q_RP_st1 (g2 := (332, [(3, .int r6), (2, .int a1), (0, .ref 64), (1, .int a1)], [], (q_kM (q_sJ (q_sJ r21 0 15 ((r21.2.2 31) ((2 * a1).toNatClampNeg))) 0 16 ((r21.2.2 31) (((2 * a1) + 1).toNatClampNeg))) c n))) rfl q_pM0_16 ?_
      refine q_RP_seg (g2 := (334, [(3, .int r6), (2, .int a1), (0, .ref 64), (1, .int a1)], [.int (-1), .ref 64], (q_kM (q_sJ (q_sJ r21 0 15 ((r21.2.2 31) ((2 * a1).toNatClampNeg))) 0 16 ((r21.2.2 31) (((2 * a1) + 1).toNatClampNeg))) c n))) 2 (fun _ _ => rfl) ?_
      refine q_RP_st1 (g2 := (337, [(3, .int r6), (2, .int a1), (0, .ref 64), (1, .int a1)], [], (q_kM (q_sI (q_sJ (q_sJ r21 0 15 ((r21.2.2 31) ((2 * a1).toNatClampNeg))) 0 16 ((r21.2.2 31) (((2 * a1) + 1).toNatClampNeg))) 0 34 (-1)) c n))) rfl q_pM0_34 ?_
      refine q_RP_seg (g2 := (338, [(3, .int r6), (2, .int a1), (0, .ref 64), (1, .int a1)], [.int r6], (q_kM (q_sI (q_sJ (q_sJ r21 0 15 ((r21.2.2 31) ((2 * a1).toNatClampNeg))) 0 16 ((r21.2.2 31) (((2 * a1) + 1).toNatClampNeg))) 0 34 (-1)) c n))) 1 (fun _ _ => rfl) ?_
      exact q_RP_ret rfl rfl rfl
  | false =>
    refine q_RP_cF ?_
    show q_RP _ _ _ (12, [(0, .ref 64), (1, .int a1)], [.int 0, .ref 64], (q_kM s c n)) _ _
    refine q_RP_seg (g2 := (20, [(0, .ref 64), (1, .int a1)], [.int 1, .ref 64], (q_kM s c n))) 2 (fun _ _ => rfl) ?_
    refine q_RP_call (v := (some (.int (q_b (dz_M200_64 s 1).2)))) (h2 := (q_kM (dz_M200_64 s 1).1 c n)) rfl rfl ((dzt_M200_64 s c n 1).le (Nat.le_of_ble_eq_true rfl)) ?_
    generalize dz_M200_64 s 1 = r22
    refine q_RP_let ?_
    show q_RP _ _ _ (23, [(0, .ref 64), (1, .int a1)], [.int (q_b r22.2)], (q_kM r22.1 c n)) _ _
    cases h7 : r22.2 with
    | true =>
      refine q_RP_cT ?_
      show q_RP _ _ _ (23, [(0, .ref 64), (1, .int a1)], [.int 1], (q_kM r22.1 c n)) _ _
      refine q_RP_seg (g2 := (27, [(0, .ref 64), (1, .int a1)], [.int 0], (q_kM r22.1 c n))) 2 (fun _ _ => rfl) ?_
      exact q_RP_ret rfl rfl rfl
    | false =>
      refine q_RP_cF ?_
      show q_RP _ _ _ (23, [(0, .ref 64), (1, .int a1)], [.int 0], (q_kM r22.1 c n)) _ _
      refine q_RP_seg (g2 := (32, [(2, .int a1), (0, .ref 64), (1, .int a1)], [.int a1, .ref 64], (q_kM r22.1 c n))) 5 (fun _ _ => rfl) ?_
      refine q_RP_bd fun r23 er23 => ?_
      refine q_RP_call (v := (some (.int r23))) (h2 := (q_kM r22.1 c n)) rfl rfl ((dzt_M307_64 r22.1 c n a1 r23 er23).le (Nat.le_of_ble_eq_true rfl)) ?_
      show q_RP _ _ _ (35, [(2, .int a1), (0, .ref 64), (1, .int a1)], [.int r23], (q_kM r22.1 c n)) _ _
      refine q_RP_seg (g2 := (53, [(3, .int r23), (2, .int a1), (0, .ref 64), (1, .int a1)], [.int 4096, .int 0, .ref 65, .int (4096 * a1), .ref 80], (q_kM r22.1 c n))) 10 (fun _ _ => rfl) ?_
      refine q_RP_bd fun r24 er24 => ?_
      refine q_RP_call (v := none) (h2 := (q_kM r24 c n)) rfl rfl ((dzt_M304_80_65 r22.1 c n (4096 * a1) 0 4096 r24 er24).le (Nat.le_of_ble_eq_true rfl)) ?_
      show q_RP _ _ _ (56, [(3, .int r23), (2, .int a1), (0, .ref 64), (1, .int a1)], [], (q_kM r24 c n)) _ _
      refine q_RP_seg (g2 := (73, [(3, .int r23), (2, .int a1), (0, .ref 64), (1, .int a1)], [.int 512, .int 0, .ref 66, .int (512 * a1), .ref 81], (q_kM r24 c n))) 9 (fun _ _ => rfl) ?_
      refine q_RP_bd fun r25 er25 => ?_
      refine q_RP_call (v := none) (h2 := (q_kM r25 c n)) rfl rfl ((dzt_M304_81_66 r24 c n (512 * a1) 0 512 r25 er25).le (Nat.le_of_ble_eq_true rfl)) ?_
      show q_RP _ _ _ (76, [(3, .int r23), (2, .int a1), (0, .ref 64), (1, .int a1)], [], (q_kM r25 c n)) _ _
      refine q_RP_seg (g2 := (93, [(3, .int r23), (2, .int a1), (0, .ref 64), (1, .int a1)], [.int 2048, .int 0, .ref 67, .int (2048 * a1), .ref 82], (q_kM r25 c n))) 9 (fun _ _ => rfl) ?_
      refine q_RP_bd fun r26 er26 => ?_
      refine q_RP_call (v := none) (h2 := (q_kM r26 c n)) rfl rfl ((dzt_M304_82_67 r25 c n (2048 * a1) 0 2048 r26 er26).le (Nat.le_of_ble_eq_true rfl)) ?_
      show q_RP _ _ _ (96, [(3, .int r23), (2, .int a1), (0, .ref 64), (1, .int a1)], [], (q_kM r26 c n)) _ _
      refine q_RP_seg (g2 := (111, [(3, .int r23), (2, .int a1), (0, .ref 64), (1, .int a1)], [.int 48, .int 0, .ref 68, .int (48 * a1), .ref 83], (q_kM r26 c n))) 9 (fun _ _ => rfl) ?_
      refine q_RP_bd fun r27 er27 => ?_
      refine q_RP_call (v := none) (h2 := (q_kM r27 c n)) rfl rfl ((dzt_M304_83_68 r26 c n (48 * a1) 0 48 r27 er27).le (Nat.le_of_ble_eq_true rfl)) ?_
      show q_RP _ _ _ (114, [(3, .int r23), (2, .int a1), (0, .ref 64), (1, .int a1)], [], (q_kM r27 c n)) _ _
      refine q_RP_seg (g2 := (131, [(3, .int r23), (2, .int a1), (0, .ref 64), (1, .int a1)], [.int 1024, .int 0, .ref 69, .int (1024 * a1), .ref 84], (q_kM r27 c n))) 9 (fun _ _ => rfl) ?_
      refine q_RP_bd fun r28 er28 => ?_
      refine q_RP_call (v := none) (h2 := (q_kM r28 c n)) rfl rfl ((dzt_M304_84_69 r27 c n (1024 * a1) 0 1024 r28 er28).le (Nat.le_of_ble_eq_true rfl)) ?_
      show q_RP _ _ _ (134, [(3, .int r23), (2, .int a1), (0, .ref 64), (1, .int a1)], [], (q_kM r28 c n)) _ _
      refine q_RP_seg (g2 := (149, [(3, .int r23), (2, .int a1), (0, .ref 64), (1, .int a1)], [.int 40, .int 0, .ref 70, .int (40 * a1), .ref 85], (q_kM r28 c n))) 9 (fun _ _ => rfl) ?_
      refine q_RP_bd fun r29 er29 => ?_
      refine q_RP_call (v := none) (h2 := (q_kM r29 c n)) rfl rfl ((dzt_M304_85_70 r28 c n (40 * a1) 0 40 r29 er29).le (Nat.le_of_ble_eq_true rfl)) ?_
      show q_RP _ _ _ (152, [(3, .int r23), (2, .int a1), (0, .ref 64), (1, .int a1)], [], (q_kM r29 c n)) _ _
      refine q_RP_seg (g2 := (167, [(3, .int r23), (2, .int a1), (0, .ref 64), (1, .int a1)], [.int 40, .int 0, .ref 72, .int (40 * a1), .ref 87], (q_kM r29 c n))) 9 (fun _ _ => rfl) ?_
      refine q_RP_bd fun r30 er30 => ?_
      refine q_RP_call (v := none) (h2 := (q_kM r30 c n)) rfl rfl ((dzt_M304_87_72 r29 c n (40 * a1) 0 40 r30 er30).le (Nat.le_of_ble_eq_true rfl)) ?_
      show q_RP _ _ _ (170, [(3, .int r23), (2, .int a1), (0, .ref 64), (1, .int a1)], [], (q_kM r30 c n)) _ _
      refine q_RP_seg (g2 := (185, [(3, .int r23), (2, .int a1), (0, .ref 64), (1, .int a1)], [.int 16, .int 0, .ref 73, .int (16 * a1), .ref 88], (q_kM r30 c n))) 9 (fun _ _ => rfl) ?_
      refine q_RP_bd fun r31 er31 => ?_
      refine q_RP_call (v := none) (h2 := (q_kM r31 c n)) rfl rfl ((dzt_M304_88_73 r30 c n (16 * a1) 0 16 r31 er31).le (Nat.le_of_ble_eq_true rfl)) ?_
      show q_RP _ _ _ (188, [(3, .int r23), (2, .int a1), (0, .ref 64), (1, .int a1)], [], (q_kM r31 c n)) _ _
      refine q_RP_seg (g2 := (201, [(3, .int r23), (2, .int a1), (0, .ref 64), (1, .int a1)], [.int 3, .int 0, .ref 74, .int (3 * a1), .ref 89], (q_kM r31 c n))) 9 (fun _ _ => rfl) ?_
      refine q_RP_bd fun r32 er32 => ?_
      refine q_RP_call (v := none) (h2 := (q_kM r32 c n)) rfl rfl ((dzt_M304_89_74 r31 c n (3 * a1) 0 3 r32 er32).le (Nat.le_of_ble_eq_true rfl)) ?_
      show q_RP _ _ _ (204, [(3, .int r23), (2, .int a1), (0, .ref 64), (1, .int a1)], [], (q_kM r32 c n)) _ _
      refine q_RP_seg (g2 := (217, [(3, .int r23), (2, .int a1), (0, .ref 64), (1, .int a1)], [.int 3, .int 0, .ref 75, .int (3 * a1), .ref 90], (q_kM r32 c n))) 9 (fun _ _ => rfl) ?_
      refine q_RP_bd fun r33 er33 => ?_
      refine q_RP_call (v := none) (h2 := (q_kM r33 c n)) rfl rfl ((dzt_M304_90_75 r32 c n (3 * a1) 0 3 r33 er33).le (Nat.le_of_ble_eq_true rfl)) ?_
      show q_RP _ _ _ (220, [(3, .int r23), (2, .int a1), (0, .ref 64), (1, .int a1)], [], (q_kM r33 c n)) _ _
      refine q_RP_seg (g2 := (233, [(3, .int r23), (2, .int a1), (0, .ref 64), (1, .int a1)], [.int 3, .int 0, .ref 76, .int (3 * a1), .ref 91], (q_kM r33 c n))) 9 (fun _ _ => rfl) ?_
      refine q_RP_bd fun r34 er34 => ?_
      refine q_RP_call (v := none) (h2 := (q_kM r34 c n)) rfl rfl ((dzt_M304_91_76 r33 c n (3 * a1) 0 3 r34 er34).le (Nat.le_of_ble_eq_true rfl)) ?_
      show q_RP _ _ _ (236, [(3, .int r23), (2, .int a1), (0, .ref 64), (1, .int a1)], [], (q_kM r34 c n)) _ _
      refine q_RP_seg (g2 := (249, [(3, .int r23), (2, .int a1), (0, .ref 64), (1, .int a1)], [.int 3, .int 0, .ref 77, .int (3 * a1), .ref 92], (q_kM r34 c n))) 9 (fun _ _ => rfl) ?_
      refine q_RP_bd fun r35 er35 => ?_
      refine q_RP_call (v := none) (h2 := (q_kM r35 c n)) rfl rfl ((dzt_M304_92_77 r34 c n (3 * a1) 0 3 r35 er35).le (Nat.le_of_ble_eq_true rfl)) ?_
      show q_RP _ _ _ (252, [(3, .int r23), (2, .int a1), (0, .ref 64), (1, .int a1)], [], (q_kM r35 c n)) _ _
      refine q_RP_seg (g2 := (267, [(3, .int r23), (2, .int a1), (0, .ref 64), (1, .int a1)], [.int 24, .int 0, .ref 78, .int (24 * a1), .ref 93], (q_kM r35 c n))) 9 (fun _ _ => rfl) ?_
      refine q_RP_bd fun r36 er36 => ?_
      refine q_RP_call (v := none) (h2 := (q_kM r36 c n)) rfl rfl ((dzt_M304_93_78 r35 c n (24 * a1) 0 24 r36 er36).le (Nat.le_of_ble_eq_true rfl)) ?_
      show q_RP _ _ _ (270, [(3, .int r23), (2, .int a1), (0, .ref 64), (1, .int a1)], [], (q_kM r36 c n)) _ _
      refine q_RP_seg (g2 := (285, [(3, .int r23), (2, .int a1), (0, .ref 64), (1, .int a1)], [.int 16, .int 0, .ref 71, .int (16 * a1), .ref 86], (q_kM r36 c n))) 9 (fun _ _ => rfl) ?_
      refine q_RP_bd fun r37 er37 => ?_
      refine q_RP_call (v := none) (h2 := (q_kM r37 c n)) rfl rfl ((dzt_M305_86_71 r36 c n (16 * a1) 0 16 r37 er37).le (Nat.le_of_ble_eq_true rfl)) ?_
      show q_RP _ _ _ (288, [(3, .int r23), (2, .int a1), (0, .ref 64), (1, .int a1)], [], (q_kM r37 c n)) _ _
      refine q_RP_seg (g2 := (303, [(3, .int r23), (2, .int a1), (0, .ref 64), (1, .int a1)], [.int 8, .int 0, .ref 79, .int (8 * a1), .ref 94], (q_kM r37 c n))) 9 (fun _ _ => rfl) ?_
      refine q_RP_bd fun r38 er38 => ?_
      refine q_RP_call (v := none) (h2 := (q_kM r38 c n)) rfl rfl ((dzt_M305_94_79 r37 c n (8 * a1) 0 8 r38 er38).le (Nat.le_of_ble_eq_true rfl)) ?_
      show q_RP _ _ _ (306, [(3, .int r23), (2, .int a1), (0, .ref 64), (1, .int a1)], [], (q_kM r38 c n)) _ _
      refine q_RP_seg (g2 := (314, [(3, .int r23), (2, .int a1), (0, .ref 64), (1, .int a1)], [.int (2 * a1), .ref 95, .ref 64], (q_kM r38 c n))) 6 (fun _ _ => rfl) ?_
      refine q_RP_as fun i8 => ?_
      refine q_RP_rsT (g2 := (315, [(3, .int r23), (2, .int a1), (0, .ref 64), (1, .int a1)], [.long ((r38.2.2 31) ((2 * a1).toNatClampNeg)), .ref 64], (q_kM r38 c n))) rfl rfl i8 ?_
      refine q_RP_st1 (g2 := (318, [(3, .int r23), (2, .int a1), (0, .ref 64), (1, .int a1)], [], (q_kM (q_sJ r38 0 15 ((r38.2.2 31) ((2 * a1).toNatClampNeg))) c n))) rfl q_pM0_15 ?_
      refine q_RP_seg (g2 := (328, [(3, .int r23), (2, .int a1), (0, .ref 64), (1, .int a1)], [.int ((2 * a1) + 1), .ref 95, .ref 64], (q_kM (q_sJ r38 0 15 ((r38.2.2 31) ((2 * a1).toNatClampNeg))) c n))) 8 (fun _ _ => rfl) ?_
      refine q_RP_as fun i9 => ?_
      refine q_RP_rsT (g2 := (329, [(3, .int r23), (2, .int a1), (0, .ref 64), (1, .int a1)], [.long ((r38.2.2 31) (((2 * a1) + 1).toNatClampNeg)), .ref 64], (q_kM (q_sJ r38 0 15 ((r38.2.2 31) ((2 * a1).toNatClampNeg))) c n))) rfl rfl i9 ?_
      refine q_RP_st1 (g2 := (332, [(3, .int r23), (2, .int a1), (0, .ref 64), (1, .int a1)], [], (q_kM (q_sJ (q_sJ r38 0 15 ((r38.2.2 31) ((2 * a1).toNatClampNeg))) 0 16 ((r38.2.2 31) (((2 * a1) + 1).toNatClampNeg))) c n))) rfl q_pM0_16 ?_
      refine q_RP_seg (g2 := (334, [(3, .int r23), (2, .int a1), (0, .ref 64), (1, .int a1)], [.int (-1), .ref 64], (q_kM (q_sJ (q_sJ r38 0 15 ((r38.2.2 31) ((2 * a1).toNatClampNeg))) 0 16 ((r38.2.2 31) (((2 * a1) + 1).toNatClampNeg))) c n))) 2 (fun _ _ => rfl) ?_
      refine q_RP_st1 (g2 := (337, [(3, .int r23), (2, .int a1), (0, .ref 64), (1, .int a1)], [], (q_kM (q_sI (q_sJ (q_sJ r38 0 15 ((r38.2.2 31) ((2 * a1).toNatClampNeg))) 0 16 ((r38.2.2 31) (((2 * a1) + 1).toNatClampNeg))) 0 34 (-1)) c n))) rfl q_pM0_34 ?_
      refine q_RP_seg (g2 := (338, [(3, .int r23), (2, .int a1), (0, .ref 64), (1, .int a1)], [.int r23], (q_kM (q_sI (q_sJ (q_sJ r38 0 15 ((r38.2.2 31) ((2 * a1).toNatClampNeg))) 0 16 ((r38.2.2 31) (((2 * a1) + 1).toNatClampNeg))) 0 34 (-1)) c n))) 1 (fun _ _ => rfl) ?_
      exact q_RP_ret rfl rfl rfl
def dz_M309_64 (s : q_S) (a1 : Int32) : Option (q_S × Int32) :=
  q_let (dz_M202 s a1 0 ((s.2.1 0 17) - 1)) fun r4 => cond r4 (q_let (dz_M200_64 s 0) fun r5 => cond r5.2 (some (r5.1, 0)) ((dz_M307_64 r5.1 a1).bind fun r6 => some (r5.1, r6))) (q_let (dz_M200_64 s 1) fun r7 => cond r7.2 (some (r7.1, 0)) ((dz_M307_64 r7.1 a1).bind fun r8 => some (r7.1, r8)))
set_option maxHeartbeats 4000000 in
theorem dzt_M309_64 (s : q_S) (c n : Nat) (a1 : Int32) (x : q_S × Int32) (h : dz_M309_64 s a1 = some x) : q_Ca q_TB0 2 308 [.ref 64, .int a1] (q_kM s c n) ((q_oIM c n) x) := by
  refine q_CaP_of (φ := (q_oIM c n)) (Nat.le_of_ble_eq_true rfl) ?_ h
  clear h
  unfold dz_M309_64
  refine q_RP_seg (g2 := (7, [(0, .ref 64), (1, .int a1)], [.int (s.2.1 0 17), .int 0, .int a1, .ref 64], (q_kM s c n))) 5 (fun _ _ => rfl) ?_
  refine q_RP_seg (g2 := (9, [(0, .ref 64), (1, .int a1)], [.int ((s.2.1 0 17) - 1), .int 0, .int a1, .ref 64], (q_kM s c n))) 2 (fun _ _ => rfl) ?_
  refine q_RP_call (v := (some (.int (q_b (dz_M202 s a1 0 ((s.2.1 0 17) - 1)))))) (h2 := (q_kM s c n)) rfl rfl ((dzt_M202 s c n a1 0 ((s.2.1 0 17) - 1)).le (Nat.le_of_ble_eq_true rfl)) ?_
  generalize dz_M202 s a1 0 ((s.2.1 0 17) - 1) = r4
  refine q_RP_let ?_
  show q_RP _ _ _ (12, [(0, .ref 64), (1, .int a1)], [.int (q_b r4), .ref 64], (q_kM s c n)) _ _
  cases h3 : r4 with
  | true =>
    refine q_RP_cT ?_
    show q_RP _ _ _ (12, [(0, .ref 64), (1, .int a1)], [.int 1, .ref 64], (q_kM s c n)) _ _
    refine q_RP_seg (g2 := (20, [(0, .ref 64), (1, .int a1)], [.int 0, .ref 64], (q_kM s c n))) 3 (fun _ _ => rfl) ?_
    refine q_RP_call (v := (some (.int (q_b (dz_M200_64 s 0).2)))) (h2 := (q_kM (dz_M200_64 s 0).1 c n)) rfl rfl ((dzt_M200_64 s c n 0).le (Nat.le_of_ble_eq_true rfl)) ?_
    generalize dz_M200_64 s 0 = r5
    refine q_RP_let ?_
    show q_RP _ _ _ (23, [(0, .ref 64), (1, .int a1)], [.int (q_b r5.2)], (q_kM r5.1 c n)) _ _
    cases h4 : r5.2 with
    | true =>
      refine q_RP_cT ?_
      show q_RP _ _ _ (23, [(0, .ref 64), (1, .int a1)], [.int 1], (q_kM r5.1 c n)) _ _
      refine q_RP_seg (g2 := (35, [(0, .ref 64), (1, .int a1)], [.int 0], (q_kM r5.1 c n))) 3 (fun _ _ => rfl) ?_
      exact q_RP_ret rfl rfl rfl
    | false =>
      refine q_RP_cF ?_
      show q_RP _ _ _ (23, [(0, .ref 64), (1, .int a1)], [.int 0], (q_kM r5.1 c n)) _ _
      refine q_RP_seg (g2 := (32, [(0, .ref 64), (1, .int a1)], [.int a1, .ref 64], (q_kM r5.1 c n))) 3 (fun _ _ => rfl) ?_
      refine q_RP_bd fun r6 er6 => ?_
      refine q_RP_call (v := (some (.int r6))) (h2 := (q_kM r5.1 c n)) rfl rfl ((dzt_M307_64 r5.1 c n a1 r6 er6).le (Nat.le_of_ble_eq_true rfl)) ?_
      show q_RP _ _ _ (35, [(0, .ref 64), (1, .int a1)], [.int r6], (q_kM r5.1 c n)) _ _
      exact q_RP_ret rfl rfl rfl
  | false =>
    refine q_RP_cF ?_
    show q_RP _ _ _ (12, [(0, .ref 64), (1, .int a1)], [.int 0, .ref 64], (q_kM s c n)) _ _
    refine q_RP_seg (g2 := (20, [(0, .ref 64), (1, .int a1)], [.int 1, .ref 64], (q_kM s c n))) 2 (fun _ _ => rfl) ?_
    refine q_RP_call (v := (some (.int (q_b (dz_M200_64 s 1).2)))) (h2 := (q_kM (dz_M200_64 s 1).1 c n)) rfl rfl ((dzt_M200_64 s c n 1).le (Nat.le_of_ble_eq_true rfl)) ?_
    generalize dz_M200_64 s 1 = r7
    refine q_RP_let ?_
    show q_RP _ _ _ (23, [(0, .ref 64), (1, .int a1)], [.int (q_b r7.2)], (q_kM r7.1 c n)) _ _
    cases h5 : r7.2 with
    | true =>
      refine q_RP_cT ?_
      show q_RP _ _ _ (23, [(0, .ref 64), (1, .int a1)], [.int 1], (q_kM r7.1 c n)) _ _
      refine q_RP_seg (g2 := (35, [(0, .ref 64), (1, .int a1)], [.int 0], (q_kM r7.1 c n))) 3 (fun _ _ => rfl) ?_
      exact q_RP_ret rfl rfl rfl
    | false =>
      refine q_RP_cF ?_
      show q_RP _ _ _ (23, [(0, .ref 64), (1, .int a1)], [.int 0], (q_kM r7.1 c n)) _ _
      refine q_RP_seg (g2 := (32, [(0, .ref 64), (1, .int a1)], [.int a1, .ref 64], (q_kM r7.1 c n))) 3 (fun _ _ => rfl) ?_
      refine q_RP_bd fun r8 er8 => ?_
      refine q_RP_call (v := (some (.int r8))) (h2 := (q_kM r7.1 c n)) rfl rfl ((dzt_M307_64 r7.1 c n a1 r8 er8).le (Nat.le_of_ble_eq_true rfl)) ?_
      show q_RP _ _ _ (35, [(0, .ref 64), (1, .int a1)], [.int r8], (q_kM r7.1 c n)) _ _
      exact q_RP_ret rfl rfl rfl
def dz_M310_64 (s : q_S) : q_S × Int32 :=
  q_let (if (0 : Int32) < (s.2.1 0 34) then (s.2.1 0 34) else (0 : Int32)) fun x1 => q_let (dz_M201_64 (q_sI s 0 34 0) x1) fun r2 => (r2.1, r2.2)
set_option maxHeartbeats 4000000 in
theorem dzt_M310_64 (s : q_S) (c n : Nat) : q_Ca q_TB0 2 309 [.ref 64] (q_kM s c n) ((q_oIM c n) (dz_M310_64 s)) := by
  refine q_CaT_of (φ := (q_oIM c n)) (Nat.le_of_ble_eq_true rfl) ?_
  unfold dz_M310_64
  refine q_RT_seg (g2 := (5, [(0, .ref 64)], [.int (s.2.1 0 34), .int 0], (q_kM s c n))) 3 (fun _ _ => rfl) ?_
  refine q_RT_seg (g2 := (8, [(0, .ref 64)], [.int (if (0 : Int32) < (s.2.1 0 34) then (s.2.1 0 34) else (0 : Int32))], (q_kM s c n))) 1 (fun _ _ => rfl) ?_
  generalize (if (0 : Int32) < (s.2.1 0 34) then (s.2.1 0 34) else (0 : Int32)) = x1
  refine q_RT_let ?_
  show q_RT _ _ _ (8, [(0, .ref 64)], [.int x1], (q_kM s c n)) _ _
  refine q_RT_seg (g2 := (16, [(1, .int x1), (0, .ref 64)], [.int x1, .ref 64], (q_kM (q_sI s 0 34 0) c n))) 6 (fun _ _ => rfl) ?_
  refine q_RT_call (v := (some (.int (dz_M201_64 (q_sI s 0 34 0) x1).2))) (h2 := (q_kM (dz_M201_64 (q_sI s 0 34 0) x1).1 c n)) rfl rfl ((dzt_M201_64 (q_sI s 0 34 0) c n x1).le (Nat.le_of_ble_eq_true rfl)) ?_
  generalize dz_M201_64 (q_sI s 0 34 0) x1 = r2
  refine q_RT_let ?_
  show q_RT _ _ _ (19, [(1, .int x1), (0, .ref 64)], [.int r2.2], (q_kM r2.1 c n)) _ _
  exact q_RT_ret rfl rfl rfl
def dz_M311_64 (s : q_S) : q_S × Int32 :=
  cond (decide (s.2.1 0 34 < 0)) (q_let (dz_M200_64 s 1) fun r1 => cond r1.2 ((r1.1, 0)) ((r1.1, (r1.1.2.1 0 34)))) (q_let (dz_M200_64 s 0) fun r2 => cond r2.2 ((r2.1, 0)) ((r2.1, (r2.1.2.1 0 34))))
set_option maxHeartbeats 4000000 in
theorem dzt_M311_64 (s : q_S) (c n : Nat) : q_Ca q_TB0 2 310 [.ref 64] (q_kM s c n) ((q_oIM c n) (dz_M311_64 s)) := by
  refine q_CaT_of (φ := (q_oIM c n)) (Nat.le_of_ble_eq_true rfl) ?_
  unfold dz_M311_64
  refine q_RT_seg (g2 := (5, [(0, .ref 64)], [.int (s.2.1 0 34), .ref 64], (q_kM s c n))) 3 (fun _ _ => rfl) ?_
  cases h1 : decide (s.2.1 0 34 < 0) with
  | true =>
    refine q_RT_cT ?_
    refine q_RT_rsF (g2 := (8, [(0, .ref 64)], [.ref 64], (q_kM s c n))) rfl rfl (q_d_geT h1) ?_
    refine q_RT_seg (g2 := (13, [(0, .ref 64)], [.int 1, .ref 64], (q_kM s c n))) 2 (fun _ _ => rfl) ?_
    refine q_RT_call (v := (some (.int (q_b (dz_M200_64 s 1).2)))) (h2 := (q_kM (dz_M200_64 s 1).1 c n)) rfl rfl ((dzt_M200_64 s c n 1).le (Nat.le_of_ble_eq_true rfl)) ?_
    generalize dz_M200_64 s 1 = r1
    refine q_RT_let ?_
    show q_RT _ _ _ (16, [(0, .ref 64)], [.int (q_b r1.2)], (q_kM r1.1 c n)) _ _
    cases h2 : r1.2 with
    | true =>
      refine q_RT_cT ?_
      show q_RT _ _ _ (16, [(0, .ref 64)], [.int 1], (q_kM r1.1 c n)) _ _
      refine q_RT_seg (g2 := (27, [(0, .ref 64)], [.int 0], (q_kM r1.1 c n))) 3 (fun _ _ => rfl) ?_
      exact q_RT_ret rfl rfl rfl
    | false =>
      refine q_RT_cF ?_
      show q_RT _ _ _ (16, [(0, .ref 64)], [.int 0], (q_kM r1.1 c n)) _ _
      refine q_RT_seg (g2 := (27, [(0, .ref 64)], [.int (r1.1.2.1 0 34)], (q_kM r1.1 c n))) 3 (fun _ _ => rfl) ?_
      exact q_RT_ret rfl rfl rfl
  | false =>
    refine q_RT_cF ?_
    refine q_RT_rsT (g2 := (12, [(0, .ref 64)], [.ref 64], (q_kM s c n))) rfl rfl (q_d_geF h1) ?_
    refine q_RT_seg (g2 := (13, [(0, .ref 64)], [.int 0, .ref 64], (q_kM s c n))) 1 (fun _ _ => rfl) ?_
    refine q_RT_call (v := (some (.int (q_b (dz_M200_64 s 0).2)))) (h2 := (q_kM (dz_M200_64 s 0).1 c n)) rfl rfl ((dzt_M200_64 s c n 0).le (Nat.le_of_ble_eq_true rfl)) ?_
    generalize dz_M200_64 s 0 = r2
    refine q_RT_let ?_
    show q_RT _ _ _ (16, [(0, .ref 64)], [.int (q_b r2.2)], (q_kM r2.1 c n)) _ _
    cases h3 : r2.2 with
    | true =>
      refine q_RT_cT ?_
      show q_RT _ _ _ (16, [(0, .ref 64)], [.int 1], (q_kM r2.1 c n)) _ _
      refine q_RT_seg (g2 := (27, [(0, .ref 64)], [.int 0], (q_kM r2.1 c n))) 3 (fun _ _ => rfl) ?_
      exact q_RT_ret rfl rfl rfl
    | false =>
      refine q_RT_cF ?_
      show q_RT _ _ _ (16, [(0, .ref 64)], [.int 0], (q_kM r2.1 c n)) _ _
      refine q_RT_seg (g2 := (27, [(0, .ref 64)], [.int (r2.1.2.1 0 34)], (q_kM r2.1 c n))) 3 (fun _ _ => rfl) ?_
      exact q_RT_ret rfl rfl rfl
def dz_M312_64 (s : q_S) : q_S × Bool :=
  cond (decide (s.2.1 0 34 < 0)) (q_let (dz_M200_64 s 1) fun r1 => cond r1.2 ((r1.1, false)) ((r1.1, true))) (q_let (dz_M200_64 s 0) fun r2 => cond r2.2 ((r2.1, false)) ((r2.1, true)))
set_option maxHeartbeats 4000000 in
theorem dzt_M312_64 (s : q_S) (c n : Nat) : q_Ca q_TB0 2 311 [.ref 64] (q_kM s c n) ((q_oJM c n) (dz_M312_64 s)) := by
  refine q_CaT_of (φ := (q_oJM c n)) (Nat.le_of_ble_eq_true rfl) ?_
  unfold dz_M312_64
  refine q_RT_seg (g2 := (5, [(0, .ref 64)], [.int (s.2.1 0 34), .ref 64], (q_kM s c n))) 3 (fun _ _ => rfl) ?_
  cases h1 : decide (s.2.1 0 34 < 0) with
  | true =>
    refine q_RT_cT ?_
    refine q_RT_rsF (g2 := (8, [(0, .ref 64)], [.ref 64], (q_kM s c n))) rfl rfl (q_d_geT h1) ?_
    refine q_RT_seg (g2 := (13, [(0, .ref 64)], [.int 1, .ref 64], (q_kM s c n))) 2 (fun _ _ => rfl) ?_
    refine q_RT_call (v := (some (.int (q_b (dz_M200_64 s 1).2)))) (h2 := (q_kM (dz_M200_64 s 1).1 c n)) rfl rfl ((dzt_M200_64 s c n 1).le (Nat.le_of_ble_eq_true rfl)) ?_
    generalize dz_M200_64 s 1 = r1
    refine q_RT_let ?_
    show q_RT _ _ _ (16, [(0, .ref 64)], [.int (q_b r1.2)], (q_kM r1.1 c n)) _ _
    cases h2 : r1.2 with
    | true =>
      refine q_RT_cT ?_
      show q_RT _ _ _ (16, [(0, .ref 64)], [.int 1], (q_kM r1.1 c n)) _ _
      refine q_RT_seg (g2 := (24, [(0, .ref 64)], [.int 0], (q_kM r1.1 c n))) 2 (fun _ _ => rfl) ?_
      exact q_RT_ret rfl rfl rfl
    | false =>
      refine q_RT_cF ?_
      show q_RT _ _ _ (16, [(0, .ref 64)], [.int 0], (q_kM r1.1 c n)) _ _
      refine q_RT_seg (g2 := (24, [(0, .ref 64)], [.int 1], (q_kM r1.1 c n))) 3 (fun _ _ => rfl) ?_
      exact q_RT_ret rfl rfl rfl
  | false =>
    refine q_RT_cF ?_
    refine q_RT_rsT (g2 := (12, [(0, .ref 64)], [.ref 64], (q_kM s c n))) rfl rfl (q_d_geF h1) ?_
    refine q_RT_seg (g2 := (13, [(0, .ref 64)], [.int 0, .ref 64], (q_kM s c n))) 1 (fun _ _ => rfl) ?_
    refine q_RT_call (v := (some (.int (q_b (dz_M200_64 s 0).2)))) (h2 := (q_kM (dz_M200_64 s 0).1 c n)) rfl rfl ((dzt_M200_64 s c n 0).le (Nat.le_of_ble_eq_true rfl)) ?_
    generalize dz_M200_64 s 0 = r2
    refine q_RT_let ?_
    show q_RT _ _ _ (16, [(0, .ref 64)], [.int (q_b r2.2)], (q_kM r2.1 c n)) _ _
    cases h3 : r2.2 with
    | true =>
      refine q_RT_cT ?_
      show q_RT _ _ _ (16, [(0, .ref 64)], [.int 1], (q_kM r2.1 c n)) _ _
      refine q_RT_seg (g2 := (24, [(0, .ref 64)], [.int 0], (q_kM r2.1 c n))) 2 (fun _ _ => rfl) ?_
      exact q_RT_ret rfl rfl rfl
    | false =>
      refine q_RT_cF ?_
      show q_RT _ _ _ (16, [(0, .ref 64)], [.int 0], (q_kM r2.1 c n)) _ _
      refine q_RT_seg (g2 := (24, [(0, .ref 64)], [.int 1], (q_kM r2.1 c n))) 3 (fun _ _ => rfl) ?_
      exact q_RT_ret rfl rfl rfl
def dz_M313_64_9 (m : Nat) : q_S → Int32 → Int32 → Option (q_S × Int32) := Nat.rec (motive := fun _ => q_S → Int32 → Int32 → Option (q_S × Int32)) (fun _ _ _ => none) (fun _ k9 s v1 v2 =>
  cond (decide (v2 < 1024)) (cond (q_in v2 1024) (k9 s ((31 * v1) + ((s.1 5) (v2.toNatClampNeg))) (v2 + 1)) none) (some (s, v1))) m
theorem dzs_M313_64_9 (m : Nat) (s : q_S) (v1 : Int32) (v2 : Int32) : dz_M313_64_9 (m + 1) s v1 v2 = (fun k9 : q_S → Int32 → Int32 → Option (q_S × Int32) =>
  cond (decide (v2 < 1024)) (cond (q_in v2 1024) (k9 s ((31 * v1) + ((s.1 5) (v2.toNatClampNeg))) (v2 + 1)) none) (some (s, v1))) (dz_M313_64_9 m) := rfl
set_option maxHeartbeats 4000000 in
theorem dzt_M313_64_9 (c n : Nat) : ∀ (m : Nat) (s : q_S) (v1 : Int32) (v2 : Int32), q_RP q_TB0 0 312 (9, [(0, .ref 64), (1, .int v1), (2, .int v2)], [], (q_kM s c n)) (q_oIM c n) (dz_M313_64_9 m s v1 v2) := by
  intro m
  induction m with
  | zero => intro s v1 v2; exact q_RP_no
  | succ m ih =>
    intro s v1 v2
    have hk9 := ih
    clear ih
    rw [dzs_M313_64_9]
    generalize dz_M313_64_9 m = k9 at hk9 ⊢
    dsimp only
    refine q_RP_seg (g2 := (13, [(0, .ref 64), (1, .int v1), (2, .int v2)], [.int 1024, .int v2], (q_kM s c n))) 2 (fun _ _ => rfl) ?_
    cases h1 : decide (v2 < 1024) with
    | true =>
      refine q_RP_cT ?_
      refine q_RP_rsF (g2 := (16, [(0, .ref 64), (1, .int v1), (2, .int v2)], [], (q_kM s c n))) rfl rfl (q_d_geT h1) ?_
      refine q_RP_seg (g2 := (25, [(0, .ref 64), (1, .int v1), (2, .int v2)], [.int v2, .ref 69, .int (31 * v1)], (q_kM s c n))) 6 (fun _ _ => rfl) ?_
      refine q_RP_as fun i2 => ?_
      refine q_RP_rsT (g2 := (26, [(0, .ref 64), (1, .int v1), (2, .int v2)], [.int ((s.1 5) (v2.toNatClampNeg)), .int (31 * v1)], (q_kM s c n))) rfl rfl i2 ?_
      refine q_RP_seg (g2 := (9, [(2, .int (v2 + 1)), (1, .int ((31 * v1) + ((s.1 5) (v2.toNatClampNeg)))), (0, .ref 64)], [], (q_kM s c n))) 4 (fun _ _ => rfl) ?_
      exact q_RP_xt (q_xt_mk (q_mn1 2 rfl (q_mn1 1 rfl (q_mn1 0 rfl q_mn0))) rfl) (hk9 s ((31 * v1) + ((s.1 5) (v2.toNatClampNeg))) (v2 + 1))
    | false =>
      refine q_RP_cF ?_
      refine q_RP_rsT (g2 := (34, [(0, .ref 64), (1, .int v1), (2, .int v2)], [], (q_kM s c n))) rfl rfl (q_d_geF h1) ?_
      refine q_RP_seg (g2 := (35, [(0, .ref 64), (1, .int v1), (2, .int v2)], [.int v1], (q_kM s c n))) 1 (fun _ _ => rfl) ?_
      exact q_RP_ret rfl rfl rfl
def dz_M313_64 (s : q_S) : Option (q_S × Int32) :=
  dz_M313_64_9 5000 (q_sI s 0 39 0) 0 0
set_option maxHeartbeats 4000000 in
theorem dzt_M313_64 (s : q_S) (c n : Nat) (x : q_S × Int32) (h : dz_M313_64 s = some x) : q_Ca q_TB0 1 312 [.ref 64] (q_kM s c n) ((q_oIM c n) x) := by
  refine q_CaP_of (φ := (q_oIM c n)) (Nat.le_of_ble_eq_true rfl) ?_ h
  clear h
  unfold dz_M313_64
  refine q_RP_seg (g2 := (9, [(2, .int 0), (1, .int 0), (0, .ref 64)], [], (q_kM (q_sI s 0 39 0) c n))) 7 (fun _ _ => rfl) ?_
  exact q_RP_xt (q_xt_mk (q_mn1 2 rfl (q_mn1 1 rfl (q_mn1 0 rfl q_mn0))) rfl) (dzt_M313_64_9 c n 5000 (q_sI s 0 39 0) 0 0)
def dz_M314_64 (s : q_S) : q_S × Int64 :=
  ((q_sI s 0 39 0), (s.2.2 0 16))
set_option maxHeartbeats 4000000 in
theorem dzt_M314_64 (s : q_S) (c n : Nat) : q_Ca q_TB0 1 313 [.ref 64] (q_kM s c n) ((q_oKM c n) (dz_M314_64 s)) := by
  refine q_CaT_of (φ := (q_oKM c n)) (Nat.le_of_ble_eq_true rfl) ?_
  unfold dz_M314_64
  refine q_RT_seg (g2 := (9, [(0, .ref 64)], [.long (s.2.2 0 16)], (q_kM (q_sI s 0 39 0) c n))) 5 (fun _ _ => rfl) ?_
  exact q_RT_ret rfl rfl rfl
def dz_M315_64_9 (m : Nat) : q_S → Int32 → Int32 → Option (q_S × UInt32) := Nat.rec (motive := fun _ => q_S → Int32 → Int32 → Option (q_S × UInt32)) (fun _ _ _ => none) (fun _ k9 s v1 v2 =>
  cond (decide (v2 < 1024)) (cond (q_in v2 1024) (cond (decide ((s.1 5) (v2.toNatClampNeg) = (s.1 4) 3)) (k9 s (v1 + 0) (v2 + 1)) (k9 s (v1 + 1) (v2 + 1))) none) (cond (q_nnf (FP.fdiv (FP.i2f v1) 1149239296)) (some (s, (FP.fdiv (FP.i2f v1) 1149239296))) none)) m
theorem dzs_M315_64_9 (m : Nat) (s : q_S) (v1 : Int32) (v2 : Int32) : dz_M315_64_9 (m + 1) s v1 v2 = (fun k9 : q_S → Int32 → Int32 → Option (q_S × UInt32) =>
  cond (decide (v2 < 1024)) (cond (q_in v2 1024) (cond (decide ((s.1 5) (v2.toNatClampNeg) = (s.1 4) 3)) (k9 s (v1 + 0) (v2 + 1)) (k9 s (v1 + 1) (v2 + 1))) none) (cond (q_nnf (FP.fdiv (FP.i2f v1) 1149239296)) (some (s, (FP.fdiv (FP.i2f v1) 1149239296))) none)) (dz_M315_64_9 m) := rfl
set_option maxHeartbeats 4000000 in
theorem dzt_M315_64_9 (c n : Nat) : ∀ (m : Nat) (s : q_S) (v1 : Int32) (v2 : Int32), q_RP q_TB0 0 314 (9, [(0, .ref 64), (1, .int v1), (2, .int v2)], [], (q_kM s c n)) (q_oFM c n) (dz_M315_64_9 m s v1 v2) := by
  intro m
  induction m with
  | zero => intro s v1 v2; exact q_RP_no
  | succ m ih =>
    intro s v1 v2
    have hk9 := ih
    clear ih
    rw [dzs_M315_64_9]
    generalize dz_M315_64_9 m = k9 at hk9 ⊢
    dsimp only
    refine q_RP_seg (g2 := (13, [(0, .ref 64), (1, .int v1), (2, .int v2)], [.int 1024, .int v2], (q_kM s c n))) 2 (fun _ _ => rfl) ?_
    cases h1 : decide (v2 < 1024) with
    | true =>
      refine q_RP_cT ?_
      refine q_RP_rsF (g2 := (16, [(0, .ref 64), (1, .int v1), (2, .int v2)], [], (q_kM s c n))) rfl rfl (q_d_geT h1) ?_
      refine q_RP_seg (g2 := (22, [(0, .ref 64), (1, .int v1), (2, .int v2)], [.int v2, .ref 69, .int v1], (q_kM s c n))) 4 (fun _ _ => rfl) ?_
      refine q_RP_as fun i2 => ?_
      refine q_RP_rsT (g2 := (23, [(0, .ref 64), (1, .int v1), (2, .int v2)], [.int ((s.1 5) (v2.toNatClampNeg)), .int v1], (q_kM s c n))) rfl rfl i2 ?_
      refine q_RP_seg (g2 := (29, [(0, .ref 64), (1, .int v1), (2, .int v2)], [.int ((s.1 4) 3), .int ((s.1 5) (v2.toNatClampNeg)), .int v1], (q_kM s c n))) 4 (fun _ _ => rfl) ?_
      cases h3 : decide ((s.1 5) (v2.toNatClampNeg) = (s.1 4) 3) with
      | true =>
        refine q_RP_cT ?_
        refine q_RP_rsF (g2 := (32, [(0, .ref 64), (1, .int v1), (2, .int v2)], [.int v1], (q_kM s c n))) rfl rfl (q_d_neT h3) ?_
        refine q_RP_seg (g2 := (9, [(2, .int (v2 + 1)), (1, .int (v1 + 0)), (0, .ref 64)], [], (q_kM s c n))) 6 (fun _ _ => rfl) ?_
        exact q_RP_xt (q_xt_mk (q_mn1 2 rfl (q_mn1 1 rfl (q_mn1 0 rfl q_mn0))) rfl) (hk9 s (v1 + 0) (v2 + 1))
      | false =>
        refine q_RP_cF ?_
        refine q_RP_rsT (g2 := (36, [(0, .ref 64), (1, .int v1), (2, .int v2)], [.int v1], (q_kM s c n))) rfl rfl (q_d_neF h3) ?_
        refine q_RP_seg (g2 := (9, [(2, .int (v2 + 1)), (1, .int (v1 + 1)), (0, .ref 64)], [], (q_kM s c n))) 5 (fun _ _ => rfl) ?_
        exact q_RP_xt (q_xt_mk (q_mn1 2 rfl (q_mn1 1 rfl (q_mn1 0 rfl q_mn0))) rfl) (hk9 s (v1 + 1) (v2 + 1))
    | false =>
      refine q_RP_cF ?_
      refine q_RP_rsT (g2 := (45, [(0, .ref 64), (1, .int v1), (2, .int v2)], [], (q_kM s c n))) rfl rfl (q_d_geF h1) ?_
      refine q_RP_seg (g2 := (50, [(0, .ref 64), (1, .int v1), (2, .int v2)], [.float 1149239296, .float (FP.i2f v1)], (q_kM s c n))) 3 (fun _ _ => rfl) ?_
      refine q_RP_as fun i4 => ?_
      refine q_RP_st1 (g2 := (51, [(0, .ref 64), (1, .int v1), (2, .int v2)], [.float (FP.fdiv (FP.i2f v1) 1149239296)], (q_kM s c n))) rfl (q_fdv i4) ?_
      exact q_RP_ret rfl rfl rfl
def dz_M315_64 (s : q_S) : Option (q_S × UInt32) :=
  dz_M315_64_9 5000 (q_sI s 0 39 0) 0 0
set_option maxHeartbeats 4000000 in
theorem dzt_M315_64 (s : q_S) (c n : Nat) (x : q_S × UInt32) (h : dz_M315_64 s = some x) : q_Ca q_TB0 1 314 [.ref 64] (q_kM s c n) ((q_oFM c n) x) := by
  refine q_CaP_of (φ := (q_oFM c n)) (Nat.le_of_ble_eq_true rfl) ?_ h
  clear h
  unfold dz_M315_64
  refine q_RP_seg (g2 := (9, [(2, .int 0), (1, .int 0), (0, .ref 64)], [], (q_kM (q_sI s 0 39 0) c n))) 7 (fun _ _ => rfl) ?_
  exact q_RP_xt (q_xt_mk (q_mn1 2 rfl (q_mn1 1 rfl (q_mn1 0 rfl q_mn0))) rfl) (dzt_M315_64_9 c n 5000 (q_sI s 0 39 0) 0 0)
def dz_M316_64_9 (m : Nat) : q_S → Int32 → Int32 → Option (q_S × UInt64) := Nat.rec (motive := fun _ => q_S → Int32 → Int32 → Option (q_S × UInt64)) (fun _ _ _ => none) (fun _ k9 s v1 v2 =>
  cond (decide (v2 < 40)) (cond (q_in v2 40) (k9 s (v1 + ((s.1 6) (v2.toNatClampNeg))) (v2 + 1)) none) (cond (q_nnd (FP.ddiv (FP.i2d v1) 4630826316843712512)) (some (s, (FP.ddiv (FP.i2d v1) 4630826316843712512))) none)) m
theorem dzs_M316_64_9 (m : Nat) (s : q_S) (v1 : Int32) (v2 : Int32) : dz_M316_64_9 (m + 1) s v1 v2 = (fun k9 : q_S → Int32 → Int32 → Option (q_S × UInt64) =>
  cond (decide (v2 < 40)) (cond (q_in v2 40) (k9 s (v1 + ((s.1 6) (v2.toNatClampNeg))) (v2 + 1)) none) (cond (q_nnd (FP.ddiv (FP.i2d v1) 4630826316843712512)) (some (s, (FP.ddiv (FP.i2d v1) 4630826316843712512))) none)) (dz_M316_64_9 m) := rfl
set_option maxHeartbeats 4000000 in
theorem dzt_M316_64_9 (c n : Nat) : ∀ (m : Nat) (s : q_S) (v1 : Int32) (v2 : Int32), q_RP q_TB0 0 315 (9, [(0, .ref 64), (1, .int v1), (2, .int v2)], [], (q_kM s c n)) (q_oDM c n) (dz_M316_64_9 m s v1 v2) := by
  intro m
  induction m with
  | zero => intro s v1 v2; exact q_RP_no
  | succ m ih =>
    intro s v1 v2
    have hk9 := ih
    clear ih
    rw [dzs_M316_64_9]
    generalize dz_M316_64_9 m = k9 at hk9 ⊢
    dsimp only
    refine q_RP_seg (g2 := (12, [(0, .ref 64), (1, .int v1), (2, .int v2)], [.int 40, .int v2], (q_kM s c n))) 2 (fun _ _ => rfl) ?_
    cases h1 : decide (v2 < 40) with
    | true =>
      refine q_RP_cT ?_
      refine q_RP_rsF (g2 := (15, [(0, .ref 64), (1, .int v1), (2, .int v2)], [], (q_kM s c n))) rfl rfl (q_d_geT h1) ?_
      refine q_RP_seg (g2 := (21, [(0, .ref 64), (1, .int v1), (2, .int v2)], [.int v2, .ref 70, .int v1], (q_kM s c n))) 4 (fun _ _ => rfl) ?_
      refine q_RP_as fun i2 => ?_
      refine q_RP_rsT (g2 := (22, [(0, .ref 64), (1, .int v1), (2, .int v2)], [.int ((s.1 6) (v2.toNatClampNeg)), .int v1], (q_kM s c n))) rfl rfl i2 ?_
      refine q_RP_seg (g2 := (9, [(2, .int (v2 + 1)), (1, .int (v1 + ((s.1 6) (v2.toNatClampNeg)))), (0, .ref 64)], [], (q_kM s c n))) 4 (fun _ _ => rfl) ?_
      exact q_RP_xt (q_xt_mk (q_mn1 2 rfl (q_mn1 1 rfl (q_mn1 0 rfl q_mn0))) rfl) (hk9 s (v1 + ((s.1 6) (v2.toNatClampNeg))) (v2 + 1))
    | false =>
      refine q_RP_cF ?_
      refine q_RP_rsT (g2 := (30, [(0, .ref 64), (1, .int v1), (2, .int v2)], [], (q_kM s c n))) rfl rfl (q_d_geF h1) ?_
      refine q_RP_seg (g2 := (35, [(0, .ref 64), (1, .int v1), (2, .int v2)], [.double 4630826316843712512, .double (FP.i2d v1)], (q_kM s c n))) 3 (fun _ _ => rfl) ?_
      refine q_RP_as fun i3 => ?_
      refine q_RP_st1 (g2 := (36, [(0, .ref 64), (1, .int v1), (2, .int v2)], [.double (FP.ddiv (FP.i2d v1) 4630826316843712512)], (q_kM s c n))) rfl (q_ddv i3) ?_
      exact q_RP_ret rfl rfl rfl
def dz_M316_64 (s : q_S) : Option (q_S × UInt64) :=
  dz_M316_64_9 5000 (q_sI s 0 39 0) 0 0
set_option maxHeartbeats 4000000 in
theorem dzt_M316_64 (s : q_S) (c n : Nat) (x : q_S × UInt64) (h : dz_M316_64 s = some x) : q_Ca q_TB0 1 315 [.ref 64] (q_kM s c n) ((q_oDM c n) x) := by
  refine q_CaP_of (φ := (q_oDM c n)) (Nat.le_of_ble_eq_true rfl) ?_ h
  clear h
  unfold dz_M316_64
  refine q_RP_seg (g2 := (9, [(2, .int 0), (1, .int 0), (0, .ref 64)], [], (q_kM (q_sI s 0 39 0) c n))) 7 (fun _ _ => rfl) ?_
  exact q_RP_xt (q_xt_mk (q_mn1 2 rfl (q_mn1 1 rfl (q_mn1 0 rfl q_mn0))) rfl) (dzt_M316_64_9 c n 5000 (q_sI s 0 39 0) 0 0)
end
section
-- 48.a
/-! ===== an embedding for calls that return the object ===== -/
theorem q_embR {TB : Nat → Option (Nat × Nat × (Nat → Int32))} {d k : Nat} {as : List Value} {shX shN : List q_Sh} {n n2 b1 b2 : Nat} {S s' : q_S} {c m c' m' : Nat} {a9 : Nat} (hck : q_eck shX shN n n2 b1 b2 = true) (ha : as.all (q_okb shN.length) = true) (hz9 : a9 < 64 + shN.length)
    (e : q_Ca TB d k as (q_evs (q_vw n b1 b2 S) 0 shN, c, m) (.inl (some (.ref a9)), (q_evs s' 0 shN, c', m'))) : q_Ca TB d k (as.map (q_v (q_eb n b1 b2))) (q_evs S 0 shX, c, m) (.inl (some (.ref (q_eb n b1 b2 a9))), (q_evs (q_pt n n2 b1 b2 S s') 0 shX, c', m')) := by
  unfold q_eck at hck
  rw [Bool.and_eq_true, Bool.and_eq_true, Bool.and_eq_true, Bool.or_eq_true] at hck
  obtain ⟨hl, hd, hall, hk⟩ := hck
  have hl : shN.length = n + n2 := of_decide_eq_true hl
  have hd : b1 + n ≤ b2 ∨ b2 + n2 ≤ b1 := by
    rcases hd with h | h
    · exact Or.inl (of_decide_eq_true h)
    · exact Or.inr (of_decide_eq_true h)
  have hsh : ∀ j, j < n + n2 → shX[q_eN n b1 b2 j]? = (shN[j]?).map (q_shf (q_eb n b1 b2)) := fun j hj => of_decide_eq_true (List.all_eq_true.mp hall j (List.mem_range.mpr hj))
  have h1 : ∀ a, a < 64 → q_eb n b1 b2 a = a := fun a h => q_eb1 h
  have h2 : ∀ a, 64 ≤ a → 64 ≤ q_eb n b1 b2 a := fun a h => by
    obtain ⟨j, rfl⟩ : ∃ j, a = 64 + j := ⟨a - 64, by omega⟩
    rw [q_eb2]; omega
  have hok : q_okh (q_evs (q_vw n b1 b2 S) 0 shN) := fun c hc => by
    rw [q_evs_len]
    exact q_evs_ok hk _ c hc
  have hE : q_Em (q_eb n b1 b2) 0 0 (q_evs (q_vw n b1 b2 S) 0 shN, c, m) (q_evs S 0 shX, c, m) := by
    refine ⟨h1, fun i _ => h2 _ (Nat.le_add_right _ _), fun i j hi hj hij => ?_, fun i c0 hc => ?_, rfl, rfl⟩
    · have hi : i < (q_evs (q_vw n b1 b2 S) 0 shN).length := hi
      have hj : j < (q_evs (q_vw n b1 b2 S) 0 shN).length := hj
      rw [q_evs_len, hl] at hi hj
      rw [q_eb2, q_eb2] at hij
      exact q_eN_inj hd hi hj (by omega)
    · have hc : (q_evs (q_vw n b1 b2 S) 0 shN)[i]? = some c0 := hc
      have hi : i < n + n2 := by
        have := (List.getElem?_eq_some_iff.mp hc).1
        rw [q_evs_len, hl] at this; exact this
      rw [q_evs_at0] at hc
      rw [q_eb2, Nat.add_sub_cancel_left]
      show (q_evs S 0 shX)[q_eN n b1 b2 i]? = _
      rw [q_evs_at0, hsh i hi]
      cases e9 : shN[i]? with
      | none => rw [e9] at hc; cases hc
      | some c1 =>
        rw [e9] at hc
        cases hc
        exact congrArg some (q_ev1_mv h1 h2 _ _ _ c1).symm
  have ha9 : ∀ v ∈ as, q_ok (q_evs (q_vw n b1 b2 S) 0 shN).length v := by
    rw [q_evs_len]
    exact q_okb_ok ha
  obtain ⟨-, β2, H2, e1, e2, e3⟩ := q_CaF e ha9 hok hE
  have e5 : q_Ca TB d k (as.map (q_v (q_eb n b1 b2))) (q_evs S 0 shX, c, m) (.inl (some (.ref (q_eb n b1 b2 a9))), H2) := by
    have e6 : q_Ca TB d k (as.map (q_v (q_eb n b1 b2))) (q_evs S 0 shX, c, m) (.inl (some (.ref (β2 a9))), H2) := e1
    have e7 : β2 a9 = q_eb n b1 b2 a9 := e3.1 a9 (by show a9 < 64 + (q_evs (q_vw n b1 b2 S) 0 shN).length; rw [q_evs_len]; exact hz9)
    rw [e7] at e6
    exact e6
  clear e1
  obtain ⟨l2, c2, m2⟩ := H2
  have hc2 : c2 = c' := e2.2.2.2.2.1
  have hm2 : m2 = m' := e2.2.2.2.2.2
  subst hc2 hm2
  have hln : l2.length + (q_evs (q_vw n b1 b2 S) 0 shN).length = (q_evs S 0 shX).length + (q_evs s' 0 shN).length := e3.2.2.1
  rw [q_evs_len, q_evs_len, q_evs_len] at hln
  have hag : ∀ i, i < n + n2 → β2 (64 + i) = 64 + q_eN n b1 b2 i := fun i hi => by
    rw [← q_eb2]
    refine e3.1 (64 + i) ?_
    show 64 + i < 64 + (q_evs (q_vw n b1 b2 S) 0 shN).length
    rw [q_evs_len, hl]; omega
  have key : l2 = q_evs (q_pt n n2 b1 b2 S s') 0 shX := by
    apply List.ext_getElem?
    intro j
    rw [q_evs_at0]
    by_cases hj : ∃ i, i < n + n2 ∧ q_eN n b1 b2 i = j
    · obtain ⟨i, hi, rfl⟩ := hj
      rw [hsh i hi]
      have hi9 : i < shN.length := by omega
      have e9 : shN[i]? = some shN[i] := List.getElem?_eq_getElem hi9
      have q1 : (q_evs s' 0 shN)[i]? = some (q_ev1 (s'.1 i) (s'.2.1 i) (s'.2.2 i) shN[i]) := by rw [q_evs_at0, e9]; rfl
      have q2 : l2[β2 (64 + i) - 64]? = some (q_mc β2 (q_ev1 (s'.1 i) (s'.2.1 i) (s'.2.2 i) shN[i])) := e2.2.2.2.1 i _ q1
      rw [hag i hi, Nat.add_sub_cancel_left] at q2
      rw [q2, e9]
      have q3 : q_okc shN.length (q_ev1 (s'.1 i) (s'.2.1 i) (s'.2.2 i) shN[i]) := q_ev1_ok _ _ _ _ (List.all_eq_true.mp hk _ (List.getElem_mem hi9))
      have q4 : q_ag (q_eb n b1 b2) β2 shN.length := by
        have := e3.1
        have : q_ag (q_eb n b1 b2) β2 (q_evs (q_vw n b1 b2 S) 0 shN).length := this
        rw [q_evs_len] at this; exact this
      rw [q_mc_ag q4 q3, q_ev1_mv h1 h2]
      show some (q_ev1 (s'.1 i) (s'.2.1 i) (s'.2.2 i) (q_shf (q_eb n b1 b2) shN[i])) = some (q_ev1 (q_ps n n2 b1 b2 (q_eN n b1 b2 i) s'.1 (S.1 (q_eN n b1 b2 i))) (q_ps n n2 b1 b2 (q_eN n b1 b2 i) s'.2.1 (S.2.1 (q_eN n b1 b2 i))) (q_ps n n2 b1 b2 (q_eN n b1 b2 i) s'.2.2 (S.2.2 (q_eN n b1 b2 i))) (q_shf (q_eb n b1 b2) shN[i]))
      rw [q_ps_in hd hi, q_ps_in hd hi, q_ps_in hd hi]
    · have hn : ∀ i, i < n + n2 → ¬ q_eN n b1 b2 i = j := fun i hi h => hj ⟨i, hi, h⟩
      show l2[j]? = (shX[j]?).map (q_ev1 (q_ps n n2 b1 b2 j s'.1 (S.1 j)) (q_ps n n2 b1 b2 j s'.2.1 (S.2.1 j)) (q_ps n n2 b1 b2 j s'.2.2 (S.2.2 j)))
      rw [q_ps_out hn, q_ps_out hn, q_ps_out hn, ← q_evs_at0]
      rcases Nat.lt_or_ge j shX.length with q | q
      · refine e3.2.2.2.2 j ?_ (fun i hi h9 => ?_)
        · show j < (q_evs S 0 shX).length
          rw [q_evs_len]; exact q
        · have hi : i < (q_evs (q_vw n b1 b2 S) 0 shN).length := hi
          rw [q_evs_len, hl] at hi
          rw [q_eb2] at h9
          exact hn i hi (by omega)
      · rw [List.getElem?_eq_none (by omega), List.getElem?_eq_none (by rw [q_evs_len]; exact q)]
  subst key
  exact e5
def q_oRB (c n : Nat) (s : q_S) : q_Out := (.inl (some (.ref 64)), q_kB s c n)
theorem q_emBXr {TB : Nat → Option (Nat × Nat × (Nat → Int32))} {d k : Nat} {as : List Value} {S s9 : q_S} {c n c9 n9 : Nat} (ha : as.all (q_okb 2) = true) (e : q_Ca TB d k as (q_kB (q_vw 2 71 0 S) c n) (.inl (some (.ref 64)), q_kB s9 c9 n9)) : q_Ca TB d k (as.map (q_v (q_eb 2 71 0))) (q_kX S c n) (.inl (some (.ref 135)), q_kX (q_pt 2 0 71 0 S s9) c9 n9) := by
  rw [q_kB_sh, q_kB_sh] at e
  rw [q_kX_sh, q_kX_sh]
  exact q_embR (a9 := 64) q_eck_BX ha (Nat.le_of_ble_eq_true rfl) e
end
