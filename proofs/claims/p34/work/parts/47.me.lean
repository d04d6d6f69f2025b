def dz_M279_64_90 (s : q_S) (v1 : Int32) (v2 : Int32) (v3 : Int32) : Option (q_S × Int32) :=
  q_let (dz_M246 s v2) fun r1510 => cond (decide (2 < r1510)) (q_let (dz_M213 s (v1 + 2)) fun r1511 => (dz_M215_64 s r1511 (v3 / 256)).bind fun r1512 => q_let (dz_M205_64 r1512) fun r1513 => q_let (dz_M246 r1513 v2) fun r1514 => q_let (dz_M213 r1513 (v1 + r1514)) fun r1515 => some (r1513, r1515)) (q_let (dz_M205_64 s) fun r1516 => q_let (dz_M246 r1516 v2) fun r1517 => q_let (dz_M213 r1516 (v1 + r1517)) fun r1518 => some (r1516, r1518))
set_option maxHeartbeats 4000000 in
theorem dzt_M279_64_90 (c n : Nat) (s : q_S) (v1 : Int32) (v2 : Int32) (v3 : Int32) : q_RP q_TB0 4 278 (90, [(0, .ref 64), (1, .int v1), (2, .int v2), (3, .int v3)], [], (q_kM s c n)) (q_oIM c n) (dz_M279_64_90 s v1 v2 v3) := by
  unfold dz_M279_64_90
  refine q_RP_seg (g2 := (91, [(0, .ref 64), (1, .int v1), (2, .int v2), (3, .int v3)], [.int v2], (q_kM s c n))) 1 (fun _ _ => rfl) ?_
  refine q_RP_call (v := (some (.int (dz_M246 s v2)))) (h2 := (q_kM s c n)) rfl rfl ((dzt_M246 s c n v2).le (Nat.le_of_ble_eq_true rfl)) ?_
  generalize dz_M246 s v2 = r1510
  refine q_RP_let ?_
  show q_RP _ _ _ (94, [(0, .ref 64), (1, .int v1), (2, .int v2), (3, .int v3)], [.int r1510], (q_kM s c n)) _ _
  refine q_RP_seg (g2 := (95, [(0, .ref 64), (1, .int v1), (2, .int v2), (3, .int v3)], [.int 2, .int r1510], (q_kM s c n))) 1 (fun _ _ => rfl) ?_
  cases h1560 : decide (2 < r1510) with
  | true =>
    refine q_RP_cT ?_
    refine q_RP_rsF (g2 := (98, [(0, .ref 64), (1, .int v1), (2, .int v2), (3, .int v3)], [], (q_kM s c n))) rfl rfl (q_d_geT h1560) ?_
    refine q_RP_seg (g2 := (102, [(0, .ref 64), (1, .int v1), (2, .int v2), (3, .int v3)], [.int (v1 + 2), .ref 64], (q_kM s c n))) 4 (fun _ _ => rfl) ?_
    refine q_RP_call (v := (some (.int (dz_M213 s (v1 + 2))))) (h2 := (q_kM s c n)) rfl rfl ((dzt_M213 s c n (v1 + 2)).le (Nat.le_of_ble_eq_true rfl)) ?_
    generalize dz_M213 s (v1 + 2) = r1511
    refine q_RP_let ?_
    show q_RP _ _ _ (105, [(0, .ref 64), (1, .int v1), (2, .int v2), (3, .int v3)], [.int r1511, .ref 64], (q_kM s c n)) _ _
    refine q_RP_seg (g2 := (110, [(0, .ref 64), (1, .int v1), (2, .int v2), (3, .int v3)], [.int (v3 / 256), .int r1511, .ref 64], (q_kM s c n))) 3 (fun _ _ => rfl) ?_
    refine q_RP_bd fun r1512 er1512 => ?_
    refine q_RP_call (v := none) (h2 := (q_kM r1512 c n)) rfl rfl ((dzt_M215_64 s c n r1511 (v3 / 256) r1512 er1512).le (Nat.le_of_ble_eq_true rfl)) ?_
    show q_RP _ _ _ (113, [(0, .ref 64), (1, .int v1), (2, .int v2), (3, .int v3)], [], (q_kM r1512 c n)) _ _
    refine q_RP_seg (g2 := (114, [(0, .ref 64), (1, .int v1), (2, .int v2), (3, .int v3)], [.ref 64], (q_kM r1512 c n))) 1 (fun _ _ => rfl) ?_
    refine q_RP_call (v := none) (h2 := (q_kM (dz_M205_64 r1512) c n)) rfl rfl ((dzt_M205_64 r1512 c n).le (Nat.le_of_ble_eq_true rfl)) ?_
    generalize dz_M205_64 r1512 = r1513
    refine q_RP_let ?_
    show q_RP _ _ _ (117, [(0, .ref 64), (1, .int v1), (2, .int v2), (3, .int v3)], [], (q_kM r1513 c n)) _ _
    refine q_RP_seg (g2 := (119, [(0, .ref 64), (1, .int v1), (2, .int v2), (3, .int v3)], [.int v2, .int v1], (q_kM r1513 c n))) 2 (fun _ _ => rfl) ?_
    refine q_RP_call (v := (some (.int (dz_M246 r1513 v2)))) (h2 := (q_kM r1513 c n)) rfl rfl ((dzt_M246 r1513 c n v2).le (Nat.le_of_ble_eq_true rfl)) ?_
    generalize dz_M246 r1513 v2 = r1514
    refine q_RP_let ?_
    show q_RP _ _ _ (122, [(0, .ref 64), (1, .int v1), (2, .int v2), (3, .int v3)], [.int r1514, .int v1], (q_kM r1513 c n)) _ _
    refine q_RP_seg (g2 := (123, [(0, .ref 64), (1, .int v1), (2, .int v2), (3, .int v3)], [.int (v1 + r1514)], (q_kM r1513 c n))) 1 (fun _ _ => rfl) ?_
    refine q_RP_call (v := (some (.int (dz_M213 r1513 (v1 + r1514))))) (h2 := (q_kM r1513 c n)) rfl rfl ((dzt_M213 r1513 c n (v1 + r1514)).le (Nat.le_of_ble_eq_true rfl)) ?_
    generalize dz_M213 r1513 (v1 + r1514) = r1515
    refine q_RP_let ?_
    show q_RP _ _ _ (126, [(0, .ref 64), (1, .int v1), (2, .int v2), (3, .int v3)], [.int r1515], (q_kM r1513 c n)) _ _
    exact q_RP_ret rfl rfl rfl
  | false =>
    refine q_RP_cF ?_
    refine q_RP_rsT (g2 := (113, [(0, .ref 64), (1, .int v1), (2, .int v2), (3, .int v3)], [], (q_kM s c n))) rfl rfl (q_d_geF h1560) ?_
    refine q_RP_seg (g2 := (114, [(0, .ref 64), (1, .int v1), (2, .int v2), (3, .int v3)], [.ref 64], (q_kM s c n))) 1 (fun _ _ => rfl) ?_
    refine q_RP_call (v := none) (h2 := (q_kM (dz_M205_64 s) c n)) rfl rfl ((dzt_M205_64 s c n).le (Nat.le_of_ble_eq_true rfl)) ?_
    generalize dz_M205_64 s = r1516
    refine q_RP_let ?_
    show q_RP _ _ _ (117, [(0, .ref 64), (1, .int v1), (2, .int v2), (3, .int v3)], [], (q_kM r1516 c n)) _ _
    refine q_RP_seg (g2 := (119, [(0, .ref 64), (1, .int v1), (2, .int v2), (3, .int v3)], [.int v2, .int v1], (q_kM r1516 c n))) 2 (fun _ _ => rfl) ?_
    refine q_RP_call (v := (some (.int (dz_M246 r1516 v2)))) (h2 := (q_kM r1516 c n)) rfl rfl ((dzt_M246 r1516 c n v2).le (Nat.le_of_ble_eq_true rfl)) ?_
    generalize dz_M246 r1516 v2 = r1517
    refine q_RP_let ?_
    show q_RP _ _ _ (122, [(0, .ref 64), (1, .int v1), (2, .int v2), (3, .int v3)], [.int r1517, .int v1], (q_kM r1516 c n)) _ _
    refine q_RP_seg (g2 := (123, [(0, .ref 64), (1, .int v1), (2, .int v2), (3, .int v3)], [.int (v1 + r1517)], (q_kM r1516 c n))) 1 (fun _ _ => rfl) ?_
    refine q_RP_call (v := (some (.int (dz_M213 r1516 (v1 + r1517))))) (h2 := (q_kM r1516 c n)) rfl rfl ((dzt_M213 r1516 c n (v1 + r1517)).le (Nat.le_of_ble_eq_true rfl)) ?_
    generalize dz_M213 r1516 (v1 + r1517) = r1518
    refine q_RP_let ?_
    show q_RP _ _ _ (126, [(0, .ref 64), (1, .int v1), (2, .int v2), (3, .int v3)], [.int r1518], (q_kM r1516 c n)) _ _
    exact q_RP_ret rfl rfl rfl
def dz_M279_64 (s : q_S) (a1 : Int32) (a2 : Int32) (a3 : Int32) : Option (q_S × Int32) :=
  q_let (dz_M204 s a1) fun r1504 => cond r1504 (q_let (dz_M200_64 s 1) fun r1505 => cond r1505.2 (some (r1505.1, 0)) ((dz_M215_64 r1505.1 a1 a2).bind fun r1506 => q_let (dz_M246 r1506 a2) fun r1507 => cond (decide (1 < r1507)) (q_let (dz_M213 r1506 (a1 + 1)) fun r1508 => (dz_M215_64 r1506 r1508 (a3 - a3 / 256 * 256)).bind fun r1509 => dz_M279_64_90 r1509 a1 a2 a3) (dz_M279_64_90 r1506 a1 a2 a3))) (q_let (dz_M203 s a2) fun r1519 => cond r1519 (q_let (dz_M200_64 s 2) fun r1520 => cond r1520.2 (some (r1520.1, 0)) ((dz_M215_64 r1520.1 a1 a2).bind fun r1521 => q_let (dz_M246 r1521 a2) fun r1522 => cond (decide (1 < r1522)) (q_let (dz_M213 r1521 (a1 + 1)) fun r1523 => (dz_M215_64 r1521 r1523 (a3 - a3 / 256 * 256)).bind fun r1524 => dz_M279_64_90 r1524 a1 a2 a3) (dz_M279_64_90 r1521 a1 a2 a3))) (q_let (dz_M246 s (a2 &&& 255)) fun r1525 => cond (decide (r1525 = 2)) (q_let (dz_M202 s a3 0 255) fun r1526 => cond r1526 (q_let (dz_M200_64 s 0) fun r1527 => cond r1527.2 (some (r1527.1, 0)) ((dz_M215_64 r1527.1 a1 a2).bind fun r1528 => q_let (dz_M246 r1528 a2) fun r1529 => cond (decide (1 < r1529)) (q_let (dz_M213 r1528 (a1 + 1)) fun r1530 => (dz_M215_64 r1528 r1530 (a3 - a3 / 256 * 256)).bind fun r1531 => dz_M279_64_90 r1531 a1 a2 a3) (dz_M279_64_90 r1528 a1 a2 a3))) (q_let (dz_M200_64 s 2) fun r1532 => cond r1532.2 (some (r1532.1, 0)) ((dz_M215_64 r1532.1 a1 a2).bind fun r1533 => q_let (dz_M246 r1533 a2) fun r1534 => cond (decide (1 < r1534)) (q_let (dz_M213 r1533 (a1 + 1)) fun r1535 => (dz_M215_64 r1533 r1535 (a3 - a3 / 256 * 256)).bind fun r1536 => dz_M279_64_90 r1536 a1 a2 a3) (dz_M279_64_90 r1533 a1 a2 a3)))) (q_let (dz_M202 s a3 0 4095) fun r1537 => cond r1537 (q_let (dz_M200_64 s 0) fun r1538 => cond r1538.2 (some (r1538.1, 0)) ((dz_M215_64 r1538.1 a1 a2).bind fun r1539 => q_let (dz_M246 r1539 a2) fun r1540 => cond (decide (1 < r1540)) (q_let (dz_M213 r1539 (a1 + 1)) fun r1541 => (dz_M215_64 r1539 r1541 (a3 - a3 / 256 * 256)).bind fun r1542 => dz_M279_64_90 r1542 a1 a2 a3) (dz_M279_64_90 r1539 a1 a2 a3))) (q_let (dz_M200_64 s 2) fun r1543 => cond r1543.2 (some (r1543.1, 0)) ((dz_M215_64 r1543.1 a1 a2).bind fun r1544 => q_let (dz_M246 r1544 a2) fun r1545 => cond (decide (1 < r1545)) (q_let (dz_M213 r1544 (a1 + 1)) fun r1546 => (dz_M215_64 r1544 r1546 (a3 - a3 / 256 * 256)).bind fun r1547 => dz_M279_64_90 r1547 a1 a2 a3) (dz_M279_64_90 r1544 a1 a2 a3))))))
set_option maxHeartbeats 4000000 in
theorem dzt_M279_64 (s : q_S) (c n : Nat) (a1 : Int32) (a2 : Int32) (a3 : Int32) (x : q_S × Int32) (h : dz_M279_64 s a1 a2 a3 = some x) : q_Ca q_TB0 5 278 [.ref 64, .int a1, .int a2, .int a3] (q_kM s c n) ((q_oIM c n) x) := by
  refine q_CaP_of (φ := (q_oIM c n)) (Nat.le_of_ble_eq_true rfl) ?_ h
  clear h
  unfold dz_M279_64
  refine q_RP_seg (g2 := (2, [(0, .ref 64), (1, .int a1), (2, .int a2), (3, .int a3)], [.int a1, .ref 64], (q_kM s c n))) 2 (fun _ _ => rfl) ?_
  refine q_RP_call (v := (some (.int (q_b (dz_M204 s a1))))) (h2 := (q_kM s c n)) rfl rfl ((dzt_M204 s c n a1).le (Nat.le_of_ble_eq_true rfl)) ?_
  generalize dz_M204 s a1 = r1504
  refine q_RP_let ?_
  show q_RP _ _ _ (5, [(0, .ref 64), (1, .int a1), (2, .int a2), (3, .int a3)], [.int (q_b r1504), .ref 64], (q_kM s c n)) _ _
  cases h1557 : r1504 with
  | true =>
    refine q_RP_cT ?_
    show q_RP _ _ _ (5, [(0, .ref 64), (1, .int a1), (2, .int a2), (3, .int a3)], [.int 1, .ref 64], (q_kM s c n)) _ _
    refine q_RP_seg (g2 := (53, [(0, .ref 64), (1, .int a1), (2, .int a2), (3, .int a3)], [.int 1, .ref 64], (q_kM s c n))) 3 (fun _ _ => rfl) ?_
    refine q_RP_call (v := (some (.int (q_b (dz_M200_64 s 1).2)))) (h2 := (q_kM (dz_M200_64 s 1).1 c n)) rfl rfl ((dzt_M200_64 s c n 1).le (Nat.le_of_ble_eq_true rfl)) ?_
    generalize dz_M200_64 s 1 = r1505
    refine q_RP_let ?_
    show q_RP _ _ _ (56, [(0, .ref 64), (1, .int a1), (2, .int a2), (3, .int a3)], [.int (q_b r1505.2)], (q_kM r1505.1 c n)) _ _
    cases h1558 : r1505.2 with
    | true =>
      refine q_RP_cT ?_
      show q_RP _ _ _ (56, [(0, .ref 64), (1, .int a1), (2, .int a2), (3, .int a3)], [.int 1], (q_kM r1505.1 c n)) _ _
      refine q_RP_seg (g2 := (60, [(0, .ref 64), (1, .int a1), (2, .int a2), (3, .int a3)], [.int 0], (q_kM r1505.1 c n))) 2 (fun _ _ => rfl) ?_
      exact q_RP_ret rfl rfl rfl
    | false =>
      refine q_RP_cF ?_
      show q_RP _ _ _ (56, [(0, .ref 64), (1, .int a1), (2, .int a2), (3, .int a3)], [.int 0], (q_kM r1505.1 c n)) _ _
      refine q_RP_seg (g2 := (64, [(0, .ref 64), (1, .int a1), (2, .int a2), (3, .int a3)], [.int a2, .int a1, .ref 64], (q_kM r1505.1 c n))) 4 (fun _ _ => rfl) ?_
      refine q_RP_bd fun r1506 er1506 => ?_
      refine q_RP_call (v := none) (h2 := (q_kM r1506 c n)) rfl rfl ((dzt_M215_64 r1505.1 c n a1 a2 r1506 er1506).le (Nat.le_of_ble_eq_true rfl)) ?_
      show q_RP _ _ _ (67, [(0, .ref 64), (1, .int a1), (2, .int a2), (3, .int a3)], [], (q_kM r1506 c n)) _ _
      refine q_RP_seg (g2 := (68, [(0, .ref 64), (1, .int a1), (2, .int a2), (3, .int a3)], [.int a2], (q_kM r1506 c n))) 1 (fun _ _ => rfl) ?_
      refine q_RP_call (v := (some (.int (dz_M246 r1506 a2)))) (h2 := (q_kM r1506 c n)) rfl rfl ((dzt_M246 r1506 c n a2).le (Nat.le_of_ble_eq_true rfl)) ?_
      generalize dz_M246 r1506 a2 = r1507
      refine q_RP_let ?_
      show q_RP _ _ _ (71, [(0, .ref 64), (1, .int a1), (2, .int a2), (3, .int a3)], [.int r1507], (q_kM r1506 c n)) _ _
      refine q_RP_seg (g2 := (72, [(0, .ref 64), (1, .int a1), (2, .int a2), (3, .int a3)], [.int 1, .int r1507], (q_kM r1506 c n))) 1 (fun _ _ => rfl) ?_
      cases h1559 : decide (1 < r1507) with
      | true =>
        refine q_RP_cT ?_
        refine q_RP_rsF (g2 := (75, [(0, .ref 64), (1, .int a1), (2, .int a2), (3, .int a3)], [], (q_kM r1506 c n))) rfl rfl (q_d_geT h1559) ?_
        refine q_RP_seg (g2 := (79, [(0, .ref 64), (1, .int a1), (2, .int a2), (3, .int a3)], [.int (a1 + 1), .ref 64], (q_kM r1506 c n))) 4 (fun _ _ => rfl) ?_
        refine q_RP_call (v := (some (.int (dz_M213 r1506 (a1 + 1))))) (h2 := (q_kM r1506 c n)) rfl rfl ((dzt_M213 r1506 c n (a1 + 1)).le (Nat.le_of_ble_eq_true rfl)) ?_
        generalize dz_M213 r1506 (a1 + 1) = r1508
        refine q_RP_let ?_
        show q_RP _ _ _ (82, [(0, .ref 64), (1, .int a1), (2, .int a2), (3, .int a3)], [.int r1508, .ref 64], (q_kM r1506 c n)) _ _
        refine q_RP_seg (g2 := (87, [(0, .ref 64), (1, .int a1), (2, .int a2), (3, .int a3)], [.int (a3 - a3 / 256 * 256), .int r1508, .ref 64], (q_kM r1506 c n))) 3 (fun _ _ => rfl) ?_
        refine q_RP_bd fun r1509 er1509 => ?_
        refine q_RP_call (v := none) (h2 := (q_kM r1509 c n)) rfl rfl ((dzt_M215_64 r1506 c n r1508 (a3 - a3 / 256 * 256) r1509 er1509).le (Nat.le_of_ble_eq_true rfl)) ?_
        show q_RP _ _ _ (90, [(0, .ref 64), (1, .int a1), (2, .int a2), (3, .int a3)], [], (q_kM r1509 c n)) _ _
        exact (dzt_M279_64_90 c n r1509 a1 a2 a3)
      | false =>
        refine q_RP_cF ?_
        refine q_RP_rsT (g2 := (90, [(0, .ref 64), (1, .int a1), (2, .int a2), (3, .int a3)], [], (q_kM r1506 c n))) rfl rfl (q_d_geF h1559) ?_
        exact (dzt_M279_64_90 c n r1506 a1 a2 a3)
  | false =>
    refine q_RP_cF ?_
    show q_RP _ _ _ (5, [(0, .ref 64), (1, .int a1), (2, .int a2), (3, .int a3)], [.int 0, .ref 64], (q_kM s c n)) _ _
    refine q_RP_seg (g2 := (13, [(0, .ref 64), (1, .int a1), (2, .int a2), (3, .int a3)], [.int a2, .ref 64], (q_kM s c n))) 2 (fun _ _ => rfl) ?_
    refine q_RP_call (v := (some (.int (q_b (dz_M203 s a2))))) (h2 := (q_kM s c n)) rfl rfl ((dzt_M203 s c n a2).le (Nat.le_of_ble_eq_true rfl)) ?_
    generalize dz_M203 s a2 = r1519
    refine q_RP_let ?_
    show q_RP _ _ _ (16, [(0, .ref 64), (1, .int a1), (2, .int a2), (3, .int a3)], [.int (q_b r1519), .ref 64], (q_kM s c n)) _ _
    cases h1561 : r1519 with
    | true =>
      refine q_RP_cT ?_
      show q_RP _ _ _ (16, [(0, .ref 64), (1, .int a1), (2, .int a2), (3, .int a3)], [.int 1, .ref 64], (q_kM s c n)) _ _
      refine q_RP_seg (g2 := (53, [(0, .ref 64), (1, .int a1), (2, .int a2), (3, .int a3)], [.int 2, .ref 64], (q_kM s c n))) 3 (fun _ _ => rfl) ?_
      refine q_RP_call (v := (some (.int (q_b (dz_M200_64 s 2).2)))) (h2 := (q_kM (dz_M200_64 s 2).1 c n)) rfl rfl ((dzt_M200_64 s c n 2).le (Nat.le_of_ble_eq_true rfl)) ?_
      generalize dz_M200_64 s 2 = r1520
      refine q_RP_let ?_
      show q_RP _ _ _ (56, [(0, .ref 64), (1, .int a1), (2, .int a2), (3, .int a3)], [.int (q_b r1520.2)], (q_kM r1520.1 c n)) _ _
      cases h1562 : r1520.2 with
      | true =>
        refine q_RP_cT ?_
        show q_RP _ _ _ (56, [(0, .ref 64), (1, .int a1), (2, .int a2), (3, .int a3)], [.int 1], (q_kM r1520.1 c n)) _ _
        refine q_RP_seg (g2 := (60, [(0, .ref 64), (1, .int a1), (2, .int a2), (3, .int a3)], [.int 0], (q_kM r1520.1 c n))) 2 (fun _ _ => rfl) ?_
        exact q_RP_ret rfl rfl rfl
      | false =>
        refine q_RP_cF ?_
        show q_RP _ _ _ (56, [(0, .ref 64), (1, .int a1), (2, .int a2), (3, .int a3)], [.int 0], (q_kM r1520.1 c n)) _ _
        refine q_RP_seg (g2 := (64, [(0, .ref 64), (1, .int a1), (2, .int a2), (3, .int a3)], [.int a2, .int a1, .ref 64], (q_kM r1520.1 c n))) 4 (fun _ _ => rfl) ?_
        refine q_RP_bd fun r1521 er1521 => ?_
        refine q_RP_call (v := none) (h2 := (q_kM r1521 c n)) rfl rfl ((dzt_M215_64 r1520.1 c n a1 a2 r1521 er1521).le (Nat.le_of_ble_eq_true rfl)) ?_
        show q_RP _ _ _ (67, [(0, .ref 64), (1, .int a1), (2, .int a2), (3, .int a3)], [], (q_kM r1521 c n)) _ _
        refine q_RP_seg (g2 := (68, [(0, .ref 64), (1, .int a1), (2, .int a2), (3, .int a3)], [.int a2], (q_kM r1521 c n))) 1 (fun _ _ => rfl) ?_
        refine q_RP_call (v := (some (.int (dz_M246 r1521 a2)))) (h2 := (q_kM r1521 c n)) rfl rfl ((dzt_M246 r1521 c n a2).le (Nat.le_of_ble_eq_true rfl)) ?_
        generalize dz_M246 r1521 a2 = r1522
        refine q_RP_let ?_
        show q_RP _ _ _ (71, [(0, .ref 64), (1, .int a1), (2, .int a2), (3, .int a3)], [.int r1522], (q_kM r1521 c n)) _ _
        refine q_RP_seg (g2 := (72, [(0, .ref 64), (1, .int a1), (2, .int a2), (3, .int a3)], [.int 1, .int r1522], (q_kM r1521 c n))) 1 (fun _ _ => rfl) ?_
        cases h1563 : decide (1 < r1522) with
        | true =>
          refine q_RP_cT ?_
          refine q_RP_rsF (g2 := (75, [(0, .ref 64), (1, .int a1), (2, .int a2), (3, .int a3)], [], (q_kM r1521 c n))) rfl rfl (q_d_geT h1563) ?_
          refine q_RP_seg (g2 := (79, [(0, .ref 64), (1, .int a1), (2, .int a2), (3, .int a3)], [.int (a1 + 1), .ref 64], (q_kM r1521 c n))) 4 (fun _ _ => rfl) ?_
          refine q_RP_call (v := (some (.int (dz_M213 r1521 (a1 + 1))))) (h2 := (q_kM r1521 c n)) rfl rfl ((dzt_M213 r1521 c n (a1 + 1)).le (Nat.le_of_ble_eq_true rfl)) ?_
          generalize dz_M213 r1521 (a1 + 1) = r1523
          refine q_RP_let ?_
          show q_RP _ _ _ (82, [(0, .ref 64), (1, .int a1), (2, .int a2), (3, .int a3)], [.int r1523, .ref 64], (q_kM r1521 c n)) _ _
          refine q_RP_seg (g2 := (87, [(0, .ref 64), (1, .int a1), (2, .int a2), (3, .int a3)], [.int (a3 - a3 / 256 * 256), .int r1523, .ref 64], (q_kM r1521 c n))) 3 (fun _ _ => rfl) ?_
          refine q_RP_bd fun r1524 er1524 => ?_
          refine q_RP_call (v := none) (h2 := (q_kM r1524 c n)) rfl rfl ((dzt_M215_64 r1521 c n r1523 (a3 - a3 / 256 * 256) r1524 er1524).le (Nat.le_of_ble_eq_true rfl)) ?_
          show q_RP _ _ _ (90, [(0, .ref 64), (1, .int a1), (2, .int a2), (3, .int a3)], [], (q_kM r1524 c n)) _ _
          exact (dzt_M279_64_90 c n r1524 a1 a2 a3)
        | false =>
          refine q_RP_cF ?_
          refine q_RP_rsT (g2 := (90, [(0, .ref 64), (1, .int a1), (2, .int a2), (3, .int a3)], [], (q_kM r1521 c n))) rfl rfl (q_d_geF h1563) ?_
          exact (dzt_M279_64_90 c n r1521 a1 a2 a3)
    | false =>
      refine q_RP_cF ?_
      show q_RP _ _ _ (16, [(0, .ref 64), (1, .int a1), (2, .int a2), (3, .int a3)], [.int 0, .ref 64], (q_kM s c n)) _ _
      refine q_RP_seg (g2 := (26, [(0, .ref 64), (1, .int a1), (2, .int a2), (3, .int a3)], [.int (a2 &&& 255), .int 0, .int a3, .ref 64], (q_kM s c n))) 6 (fun _ _ => rfl) ?_
      refine q_RP_call (v := (some (.int (dz_M246 s (a2 &&& 255))))) (h2 := (q_kM s c n)) rfl rfl ((dzt_M246 s c n (a2 &&& 255)).le (Nat.le_of_ble_eq_true rfl)) ?_
      generalize dz_M246 s (a2 &&& 255) = r1525
      refine q_RP_let ?_
      show q_RP _ _ _ (29, [(0, .ref 64), (1, .int a1), (2, .int a2), (3, .int a3)], [.int r1525, .int 0, .int a3, .ref 64], (q_kM s c n)) _ _
      refine q_RP_seg (g2 := (30, [(0, .ref 64), (1, .int a1), (2, .int a2), (3, .int a3)], [.int 2, .int r1525, .int 0, .int a3, .ref 64], (q_kM s c n))) 1 (fun _ _ => rfl) ?_
      cases h1564 : decide (r1525 = 2) with
      | true =>
        refine q_RP_cT ?_
        refine q_RP_rsF (g2 := (33, [(0, .ref 64), (1, .int a1), (2, .int a2), (3, .int a3)], [.int 0, .int a3, .ref 64], (q_kM s c n))) rfl rfl (q_d_neT h1564) ?_
        refine q_RP_seg (g2 := (42, [(0, .ref 64), (1, .int a1), (2, .int a2), (3, .int a3)], [.int 255, .int 0, .int a3, .ref 64], (q_kM s c n))) 2 (fun _ _ => rfl) ?_
        refine q_RP_call (v := (some (.int (q_b (dz_M202 s a3 0 255))))) (h2 := (q_kM s c n)) rfl rfl ((dzt_M202 s c n a3 0 255).le (Nat.le_of_ble_eq_true rfl)) ?_
        generalize dz_M202 s a3 0 255 = r1526
        refine q_RP_let ?_
        show q_RP _ _ _ (45, [(0, .ref 64), (1, .int a1), (2, .int a2), (3, .int a3)], [.int (q_b r1526), .ref 64], (q_kM s c n)) _ _
        cases h1565 : r1526 with
        | true =>
          refine q_RP_cT ?_
          show q_RP _ _ _ (45, [(0, .ref 64), (1, .int a1), (2, .int a2), (3, .int a3)], [.int 1, .ref 64], (q_kM s c n)) _ _
          refine q_RP_seg (g2 := (53, [(0, .ref 64), (1, .int a1), (2, .int a2), (3, .int a3)], [.int 0, .ref 64], (q_kM s c n))) 2 (fun _ _ => rfl) ?_
          refine q_RP_call (v := (some (.int (q_b (dz_M200_64 s 0).2)))) (h2 := (q_kM (dz_M200_64 s 0).1 c n)) rfl rfl ((dzt_M200_64 s c n 0).le (Nat.le_of_ble_eq_true rfl)) ?_
          generalize dz_M200_64 s 0 = r1527
          refine q_RP_let ?_
          show q_RP _ _ _ (56, [(0, .ref 64), (1, .int a1), (2, .int a2), (3, .int a3)], [.int (q_b r1527.2)], (q_kM r1527.1 c n)) _ _
          cases h1566 : r1527.2 with
          | true =>
            refine q_RP_cT ?_
            show q_RP _ _ _ (56, [(0, .ref 64), (1, .int a1), (2, .int a2), (3, .int a3)], [.int 1], (q_kM r1527.1 c n)) _ _
            refine q_RP_seg (g2 := (60, [(0, .ref 64), (1, .int a1), (2, .int a2), (3, .int a3)], [.int 0], (q_kM r1527.1 c n))) 2 (fun _ _ => rfl) ?_
            exact q_RP_ret rfl rfl rfl
          | false =>
            refine q_RP_cF ?_
            show q_RP _ _ _ (56, [(0, .ref 64), (1, .int a1), (2, .int a2), (3, .int a3)], [.int 0], (q_kM r1527.1 c n)) _ _
            refine q_RP_seg (g2 := (64, [(0, .ref 64), (1, .int a1), (2, .int a2), (3, .int a3)], [.int a2, .int a1, .ref 64], (q_kM r1527.1 c n))) 4 (fun _ _ => rfl) ?_
            refine q_RP_bd fun r1528 er1528 => ?_
            refine q_RP_call (v := none) (h2 := (q_kM r1528 c n)) rfl rfl ((dzt_M215_64 r1527.1 c n a1 a2 r1528 er1528).le (Nat.le_of_ble_eq_true rfl)) ?_
            show q_RP _ _ _ (67, [(0, .ref 64), (1, .int a1), (2, .int a2), (3, .int a3)], [], (q_kM r1528 c n)) _ _
            refine q_RP_seg (g2 := (68, [(0, .ref 64), (1, .int a1), (2, .int a2), (3, .int a3)], [.int a2], (q_kM r1528 c n))) 1 (fun _ _ => rfl) ?_
            refine q_RP_call (v := (some (.int (dz_M246 r1528 a2)))) (h2 := (q_kM r1528 c n)) rfl rfl ((dzt_M246 r1528 c n a2).le (Nat.le_of_ble_eq_true rfl)) ?_
            generalize dz_M246 r1528 a2 = r1529
            refine q_RP_let ?_
            show q_RP _ _ _ (71, [(0, .ref 64), (1, .int a1), (2, .int a2), (3, .int a3)], [.int r1529], (q_kM r1528 c n)) _ _
            refine q_RP_seg (g2 := (72, [(0, .ref 64), (1, .int a1), (2, .int a2), (3, .int a3)], [.int 1, .int r1529], (q_kM r1528 c n))) 1 (fun _ _ => rfl) ?_
            cases h1567 : decide (1 < r1529) with
            | true =>
              refine q_RP_cT ?_
              refine q_RP_rsF (g2 := (75, [(0, .ref 64), (1, .int a1), (2, .int a2), (3, .int a3)], [], (q_kM r1528 c n))) rfl rfl (q_d_geT h1567) ?_
              refine q_RP_seg (g2 := (79, [(0, .ref 64), (1, .int a1), (2, .int a2), (3, .int a3)], [.int (a1 + 1), .ref 64], (q_kM r1528 c n))) 4 (fun _ _ => rfl) ?_
              refine q_RP_call (v := (some (.int (dz_M213 r1528 (a1 + 1))))) (h2 := (q_kM r1528 c n)) rfl rfl ((dzt_M213 r1528 c n (a1 + 1)).le (Nat.le_of_ble_eq_true rfl)) ?_
              generalize dz_M213 r1528 (a1 + 1) = r1530
              refine q_RP_let ?_
              show q_RP _ _ _ (82, [(0, .ref 64), (1, .int a1), (2, .int a2), (3, .int a3)], [.int r1530, .ref 64], (q_kM r1528 c n)) _ _
              refine q_RP_seg (g2 := (87, [(0, .ref 64), (1, .int a1), (2, .int a2), (3, .int a3)], [.int (a3 - a3 / 256 * 256), .int r1530, .ref 64], (q_kM r1528 c n))) 3 (fun _ _ => rfl) ?_
              refine q_RP_bd fun r1531 er1531 => ?_
              refine q_RP_call (v := none) (h2 := (q_kM r1531 c n)) rfl rfl ((dzt_M215_64 r1528 c n r1530 (a3 - a3 / 256 * 256) r1531 er1531).le (Nat.le_of_ble_eq_true rfl)) ?_
              show q_RP _ _ _ (90, [(0, .ref 64), (1, .int a1), (2, .int a2), (3, .int a3)], [], (q_kM r1531 c n)) _ _
              exact (dzt_M279_64_90 c n r1531 a1 a2 a3)
            | false =>
              refine q_RP_cF ?_
              refine q_RP_rsT (g2 := (90, [(0, .ref 64), (1, .int a1), (2, .int a2), (3, .int a3)], [], (q_kM r1528 c n))) rfl rfl (q_d_geF h1567) ?_
              exact (dzt_M279_64_90 c n r1528 a1 a2 a3)
        | false =>
          refine q_RP_cF ?_
          show q_RP _ _ _ (45, [(0, .ref 64), (1, .int a1), (2, .int a2), (3, .int a3)], [.int 0, .ref 64], (q_kM s c n)) _ _
          refine q_RP_seg (g2 := (53, [(0, .ref 64), (1, .int a1), (2, .int a2), (3, .int a3)], [.int 2, .ref 64], (q_kM s c n))) 3 (fun _ _ => rfl) ?_
          refine q_RP_call (v := (some (.int (q_b (dz_M200_64 s 2).2)))) (h2 := (q_kM (dz_M200_64 s 2).1 c n)) rfl rfl ((dzt_M200_64 s c n 2).le (Nat.le_of_ble_eq_true rfl)) ?_
          generalize dz_M200_64 s 2 = r1532
          refine q_RP_let ?_
          show q_RP _ _ _ (56, [(0, .ref 64), (1, .int a1), (2, .int a2), (3, .int a3)], [.int (q_b r1532.2)], (q_kM r1532.1 c n)) _ _
          cases h1568 : r1532.2 with
          | true =>
            refine q_RP_cT ?_
            show q_RP _ _ _ (56, [(0, .ref 64), (1, .int a1), (2, .int a2), (3, .int a3)], [.int 1], (q_kM r1532.1 c n)) _ _
            refine q_RP_seg (g2 := (60, [(0, .ref 64), (1, .int a1), (2, .int a2), (3, .int a3)], [.int 0], (q_kM r1532.1 c n))) 2 (fun _ _ => rfl) ?_
            exact q_RP_ret rfl rfl rfl
          | false =>
            refine q_RP_cF ?_
            show q_RP _ _ _ (56, [(0, .ref 64), (1, .int a1), (2, .int a2), (3, .int a3)], [.int 0], (q_kM r1532.1 c n)) _ _
            refine q_RP_seg (g2 := (64, [(0, .ref 64), (1, .int a1), (2, .int a2), (3, .int a3)], [.int a2, .int a1, .ref 64], (q_kM r1532.1 c n))) 4 (fun _ _ => rfl) ?_
            refine q_RP_bd fun r1533 er1533 => ?_
            refine q_RP_call (v := none) (h2 := (q_kM r1533 c n)) rfl rfl ((dzt_M215_64 r1532.1 c n a1 a2 r1533 er1533).le (Nat.le_of_ble_eq_true rfl)) ?_
            show q_RP _ _ _ (67, [(0, .ref 64), (1, .int a1), (2, .int a2), (3, .int a3)], [], (q_kM r1533 c n)) _ _
            refine q_RP_seg (g2 := (68, [(0, .ref 64), (1, .int a1), (2, .int a2), (3, .int a3)], [.int a2], (q_kM r1533 c n))) 1 (fun _ _ => rfl) ?_
            refine q_RP_call (v := (some (.int (dz_M246 r1533 a2)))) (h2 := (q_kM r1533 c n)) rfl rfl ((dzt_M246 r1533 c n a2).le (Nat.le_of_ble_eq_true rfl)) ?_
            generalize dz_M246 r1533 a2 = r1534
            refine q_RP_let ?_
            show q_RP _ _ _ (71, [(0, .ref 64), (1, .int a1), (2, .int a2), (3, .int a3)], [.int r1534], (q_kM r1533 c n)) _ _
            refine q_RP_seg (g2 := (72, [(0, .ref 64), (1, .int a1), (2, .int a2), (3, .int a3)], [.int 1, .int r1534], (q_kM r1533 c n))) 1 (fun _ _ => rfl) ?_
            cases h1569 : decide (1 < r1534) with
            | true =>
              refine q_RP_cT ?_
              refine q_RP_rsF (g2 := (75, [(0, .ref 64), (1, .int a1), (2, .int a2), (3, .int a3)], [], (q_kM r1533 c n))) rfl rfl (q_d_geT h1569) ?_
              refine q_RP_seg (g2 := (79, [(0, .ref 64), (1, .int a1), (2, .int a2), (3, .int a3)], [.int (a1 + 1), .ref 64], (q_kM r1533 c n))) 4 (fun _ _ => rfl) ?_
              refine q_RP_call (v := (some (.int (dz_M213 r1533 (a1 + 1))))) (h2 := (q_kM r1533 c n)) rfl rfl ((dzt_M213 r1533 c n (a1 + 1)).le (Nat.le_of_ble_eq_true rfl)) ?_
              generalize dz_M213 r1533 (a1 + 1) = r1535
              refine q_RP_let ?_
              show q_RP _ _ _ (82, [(0, .ref 64), (1, .int a1), (2, .int a2), (3, .int a3)], [.int r1535, .ref 64], (q_kM r1533 c n)) _ _
              refine q_RP_seg (g2 := (87, [(0, .ref 64), (1, .int a1), (2, .int a2), (3, .int a3)], [.int (a3 - a3 / 256 * 256), .int r1535, .ref 64], (q_kM r1533 c n))) 3 (fun _ _ => rfl) ?_
              refine q_RP_bd fun r1536 er1536 => ?_
              refine q_RP_call (v := none) (h2 := (q_kM r1536 c n)) rfl rfl ((dzt_M215_64 r1533 c n r1535 (a3 - a3 / 256 * 256) r1536 er1536).le (Nat.le_of_ble_eq_true rfl)) ?_
              show q_RP _ _ _ (90, [(0, .ref 64), (1, .int a1), (2, .int a2), (3, .int a3)], [], (q_kM r1536 c n)) _ _
              exact (dzt_M279_64_90 c n r1536 a1 a2 a3)
            | false =>
              refine q_RP_cF ?_
              refine q_RP_rsT (g2 := (90, [(0, .ref 64), (1, .int a1), (2, .int a2), (3, .int a3)], [], (q_kM r1533 c n))) rfl rfl (q_d_geF h1569) ?_
              exact (dzt_M279_64_90 c n r1533 a1 a2 a3)
      | false =>
        refine q_RP_cF ?_
        refine q_RP_rsT (g2 := (39, [(0, .ref 64), (1, .int a1), (2, .int a2), (3, .int a3)], [.int 0, .int a3, .ref 64], (q_kM s c n))) rfl rfl (q_d_neF h1564) ?_
        refine q_RP_seg (g2 := (42, [(0, .ref 64), (1, .int a1), (2, .int a2), (3, .int a3)], [.int 4095, .int 0, .int a3, .ref 64], (q_kM s c n))) 1 (fun _ _ => rfl) ?_
        refine q_RP_call (v := (some (.int (q_b (dz_M202 s a3 0 4095))))) (h2 := (q_kM s c n)) rfl rfl ((dzt_M202 s c n a3 0 4095).le (Nat.le_of_ble_eq_true rfl)) ?_
        generalize dz_M202 s a3 0 4095 = r1537
        refine q_RP_let ?_
        show q_RP _ _ _ (45, [(0, .ref 64), (1, .int a1), (2, .int a2), (3, .int a3)], [.int (q_b r1537), .ref 64], (q_kM s c n)) _ _
        cases h1570 : r1537 with
        | true =>
          refine q_RP_cT ?_
          show q_RP _ _ _ (45, [(0, .ref 64), (1, .int a1), (2, .int a2), (3, .int a3)], [.int 1, .ref 64], (q_kM s c n)) _ _
          refine q_RP_seg (g2 := (53, [(0, .ref 64), (1, .int a1), (2, .int a2), (3, .int a3)], [.int 0, .ref 64], (q_kM s c n))) 2 (fun _ _ => rfl) ?_
          refine q_RP_call (v := (some (.int (q_b (dz_M200_64 s 0).2)))) (h2 := (q_kM (dz_M200_64 s 0).1 c n)) rfl rfl ((dzt_M200_64 s c n 0).le (Nat.le_of_ble_eq_true rfl)) ?_
          generalize dz_M200_64 s 0 = r1538
          refine q_RP_let ?_
          show q_RP _ _ _ (56, [(0, .ref 64), (1, .int a1), (2, .int a2), (3, .int a3)], [.int (q_b r1538.2)], (q_kM r1538.1 c n)) _ _
          cases h1571 : r1538.2 with
          | true =>
            refine q_RP_cT ?_
            show q_RP _ _ _ (56, [(0, .ref 64), (1, .int a1), (2, .int a2), (3, .int a3)], [.int 1], (q_kM r1538.1 c n)) _ _
            refine q_RP_seg (g2 := (60, [(0, .ref 64), (1, .int a1), (2, .int a2), (3, .int a3)], [.int 0], (q_kM r1538.1 c n))) 2 (fun _ _ => rfl) ?_
            exact q_RP_ret rfl rfl rfl
          | false =>
            refine q_RP_cF ?_
            show q_RP _ _ _ (56, [(0, .ref 64), (1, .int a1), (2, .int a2), (3, .int a3)], [.int 0], (q_kM r1538.1 c n)) _ _
            refine q_RP_seg (g2 := (64, [(0, .ref 64), (1, .int a1), (2, .int a2), (3, .int a3)], [.int a2, .int a1, .ref 64], (q_kM r1538.1 c n))) 4 (fun _ _ => rfl) ?_
            refine q_RP_bd fun r1539 er1539 => ?_
            refine q_RP_call (v := none) (h2 := (q_kM r1539 c n)) rfl rfl ((dzt_M215_64 r1538.1 c n a1 a2 r1539 er1539).le (Nat.le_of_ble_eq_true rfl)) ?_
            show q_RP _ _ _ (67, [(0, .ref 64), (1, .int a1), (2, .int a2), (3, .int a3)], [], (q_kM r1539 c n)) _ _
            refine q_RP_seg (g2 := (68, [(0, .ref 64), (1, .int a1), (2, .int a2), (3, .int a3)], [.int a2], (q_kM r1539 c n))) 1 (fun _ _ => rfl) ?_
            refine q_RP_call (v := (some (.int (dz_M246 r1539 a2)))) (h2 := (q_kM r1539 c n)) rfl rfl ((dzt_M246 r1539 c n a2).le (Nat.le_of_ble_eq_true rfl)) ?_
            generalize dz_M246 r1539 a2 = r1540
            refine q_RP_let ?_
            show q_RP _ _ _ (71, [(0, .ref 64), (1, .int a1), (2, .int a2), (3, .int a3)], [.int r1540], (q_kM r1539 c n)) _ _
            refine q_RP_seg (g2 := (72, [(0, .ref 64), (1, .int a1), (2, .int a2), (3, .int a3)], [.int 1, .int r1540], (q_kM r1539 c n))) 1 (fun _ _ => rfl) ?_
            cases h1572 : decide (1 < r1540) with
            | true =>
              refine q_RP_cT ?_
              refine q_RP_rsF (g2 := (75, [(0, .ref 64), (1, .int a1), (2, .int a2), (3, .int a3)], [], (q_kM r1539 c n))) rfl rfl (q_d_geT h1572) ?_
              refine q_RP_seg (g2 := (79, [(0, .ref 64), (1, .int a1), (2, .int a2), (3, .int a3)], [.int (a1 + 1), .ref 64], (q_kM r1539 c n))) 4 (fun _ _ => rfl) ?_
              refine q_RP_call (v := (some (.int (dz_M213 r1539 (a1 + 1))))) (h2 := (q_kM r1539 c n)) rfl rfl ((dzt_M213 r1539 c n (a1 + 1)).le (Nat.le_of_ble_eq_true rfl)) ?_
              generalize dz_M213 r1539 (a1 + 1) = r1541
              refine q_RP_let ?_
              show q_RP _ _ _ (82, [(0, .ref 64), (1, .int a1), (2, .int a2), (3, .int a3)], [.int r1541, .ref 64], (q_kM r1539 c n)) _ _
              refine q_RP_seg (g2 := (87, [(0, .ref 64), (1, .int a1), (2, .int a2), (3, .int a3)], [.int (a3 - a3 / 256 * 256), .int r1541, .ref 64], (q_kM r1539 c n))) 3 (fun _ _ => rfl) ?_
              refine q_RP_bd fun r1542 er1542 => ?_
              refine q_RP_call (v := none) (h2 := (q_kM r1542 c n)) rfl rfl ((dzt_M215_64 r1539 c n r1541 (a3 - a3 / 256 * 256) r1542 er1542).le (Nat.le_of_ble_eq_true rfl)) ?_
              show q_RP _ _ _ (90, [(0, .ref 64), (1, .int a1), (2, .int a2), (3, .int a3)], [], (q_kM r1542 c n)) _ _
              exact (dzt_M279_64_90 c n r1542 a1 a2 a3)
            | false =>
              refine q_RP_cF ?_
              refine q_RP_rsT (g2 := (90, [(0, .ref 64), (1, .int a1), (2, .int a2), (3, .int a3)], [], (q_kM r1539 c n))) rfl rfl (q_d_geF h1572) ?_
              exact (dzt_M279_64_90 c n r1539 a1 a2 a3)
        | false =>
          refine q_RP_cF ?_
          show q_RP _ _ _ (45, [(0, .ref 64), (1, .int a1), (2, .int a2), (3, .int a3)], [.int 0, .ref 64], (q_kM s c n)) _ _
          refine q_RP_seg (g2 := (53, [(0, .ref 64), (1, .int a1), (2, .int a2), (3, .int a3)], [.int 2, .ref 64], (q_kM s c n))) 3 (fun _ _ => rfl) ?_
          refine q_RP_call (v := (some (.int (q_b (dz_M200_64 s 2).2)))) (h2 := (q_kM (dz_M200_64 s 2).1 c n)) rfl rfl ((dzt_M200_64 s c n 2).le (Nat.le_of_ble_eq_true rfl)) ?_
          generalize dz_M200_64 s 2 = r1543
          refine q_RP_let ?_
          show q_RP _ _ _ (56, [(0, .ref 64), (1, .int a1), (2, .int a2), (3, .int a3)], [.int (q_b r1543.2)], (q_kM r1543.1 c n)) _ _
          cases h1573 : r1543.2 with
          | true =>
            refine q_RP_cT ?_
            show q_RP _ _ _ (56, [(0, .ref 64), (1, .int a1), (2, .int a2), (3, .int a3)], [.int 1], (q_kM r1543.1 c n)) _ _
            refine q_RP_seg (g2 := (60, [(0, .ref 64), (1, .int a1), (2, .int a2), (3, .int a3)], [.int 0], (q_kM r1543.1 c n))) 2 (fun _ _ => rfl) ?_
            exact q_RP_ret rfl rfl rfl
          | false =>
            refine q_RP_cF ?_
            show q_RP _ _ _ (56, [(0, .ref 64), (1, .int a1), (2, .int a2), (3, .int a3)], [.int 0], (q_kM r1543.1 c n)) _ _
            refine q_RP_seg (g2 := (64, [(0, .ref 64), (1, .int a1), (2, .int a2), (3, .int a3)], [.int a2, .int a1, .ref 64], (q_kM r1543.1 c n))) 4 (fun _ _ => rfl) ?_
            refine q_RP_bd fun r1544 er1544 => ?_
            refine q_RP_call (v := none) (h2 := (q_kM r1544 c n)) rfl rfl ((dzt_M215_64 r1543.1 c n a1 a2 r1544 er1544).le (Nat.le_of_ble_eq_true rfl)) ?_
            show q_RP _ _ _ (67, [(0, .ref 64), (1, .int a1), (2, .int a2), (3, .int a3)], [], (q_kM r1544 c n)) _ _
            refine q_RP_seg (g2 := (68, [(0, .ref 64), (1, .int a1), (2, .int a2), (3, .int a3)], [.int a2], (q_kM r1544 c n))) 1 (fun _ _ => rfl) ?_
            refine q_RP_call (v := (some (.int (dz_M246 r1544 a2)))) (h2 := (q_kM r1544 c n)) rfl rfl ((dzt_M246 r1544 c n a2).le (Nat.le_of_ble_eq_true rfl)) ?_
            generalize dz_M246 r1544 a2 = r1545
            refine q_RP_let ?_
            show q_RP _ _ _ (71, [(0, .ref 64), (1, .int a1), (2, .int a2), (3, .int a3)], [.int r1545], (q_kM r1544 c n)) _ _
            refine q_RP_seg (g2 := (72, [(0, .ref 64), (1, .int a1), (2, .int a2), (3, .int a3)], [.int 1, .int r1545], (q_kM r1544 c n))) 1 (fun _ _ => rfl) ?_
            cases h1574 : decide (1 < r1545) with
            | true =>
              refine q_RP_cT ?_
              refine q_RP_rsF (g2 := (75, [(0, .ref 64), (1, .int a1), (2, .int a2), (3, .int a3)], [], (q_kM r1544 c n))) rfl rfl (q_d_geT h1574) ?_
              refine q_RP_seg (g2 := (79, [(0, .ref 64), (1, .int a1), (2, .int a2), (3, .int a3)], [.int (a1 + 1), .ref 64], (q_kM r1544 c n))) 4 (fun _ _ => rfl) ?_
              refine q_RP_call (v := (some (.int (dz_M213 r1544 (a1 + 1))))) (h2 := (q_kM r1544 c n)) rfl rfl ((dzt_M213 r1544 c n (a1 + 1)).le (Nat.le_of_ble_eq_true rfl)) ?_
              generalize dz_M213 r1544 (a1 + 1) = r1546
              refine q_RP_let ?_
              show q_RP _ _ _ (82, [(0, .ref 64), (1, .int a1), (2, .int a2), (3, .int a3)], [.int r1546, .ref 64], (q_kM r1544 c n)) _ _
              refine q_RP_seg (g2 := (87, [(0, .ref 64), (1, .int a1), (2, .int a2), (3, .int a3)], [.int (a3 - a3 / 256 * 256), .int r1546, .ref 64], (q_kM r1544 c n))) 3 (fun _ _ => rfl) ?_
              refine q_RP_bd fun r1547 er1547 => ?_
              refine q_RP_call (v := none) (h2 := (q_kM r1547 c n)) rfl rfl ((dzt_M215_64 r1544 c n r1546 (a3 - a3 / 256 * 256) r1547 er1547).le (Nat.le_of_ble_eq_true rfl)) ?_
              show q_RP _ _ _ (90, [(0, .ref 64), (1, .int a1), (2, .int a2), (3, .int a3)], [], (q_kM r1547 c n)) _ _
              exact (dzt_M279_64_90 c n r1547 a1 a2 a3)
            | false =>
              refine q_RP_cF ?_
              refine q_RP_rsT (g2 := (90, [(0, .ref 64), (1, .int a1), (2, .int a2), (3, .int a3)], [], (q_kM r1544 c n))) rfl rfl (q_d_geF h1574) ?_
              exact (dzt_M279_64_90 c n r1544 a1 a2 a3)
def dz_M280_64 (s : q_S) (a1 : Int32) : Option (q_S) :=
  cond (q_in (s.2.1 0 35) 40) (some (q_sI (q_sA s 32 (upd (s.1 32) ((s.2.1 0 35).toNatClampNeg) (vp_nar .char a1))) 0 35 ((s.2.1 0 35) + 1))) none
set_option maxHeartbeats 4000000 in
theorem dzt_M280_64 (s : q_S) (c n : Nat) (a1 : Int32) (x : q_S) (h : dz_M280_64 s a1 = some x) : q_Ca q_TB0 1 279 [.ref 64, .int a1] (q_kM s c n) ((q_oSM c n) x) := by
  refine q_CaP_of (φ := (q_oSM c n)) (Nat.le_of_ble_eq_true rfl) ?_ h
  clear h
  unfold dz_M280_64
  refine q_RP_seg (g2 := (8, [(0, .ref 64), (1, .int a1)], [.int (s.2.1 0 35), .ref 96], (q_kM s c n))) 4 (fun _ _ => rfl) ?_
  refine q_RP_seg (g2 := (9, [(0, .ref 64), (1, .int a1)], [.int a1, .int (s.2.1 0 35), .ref 96], (q_kM s c n))) 1 (fun _ _ => rfl) ?_
  refine q_RP_as fun i1575 => ?_
  refine q_RP_rsT (g2 := (10, [(0, .ref 64), (1, .int a1)], [], (q_kM (q_sA s 32 (upd (s.1 32) ((s.2.1 0 35).toNatClampNeg) (vp_nar .char a1))) c n))) rfl q_wM32 i1575 ?_
  refine q_RP_seg (g2 := (15, [(0, .ref 64), (1, .int a1)], [.int (s.2.1 0 35), .ref 64], (q_kM (q_sA s 32 (upd (s.1 32) ((s.2.1 0 35).toNatClampNeg) (vp_nar .char a1))) c n))) 3 (fun _ _ => rfl) ?_
  refine q_RP_seg (g2 := (20, [(0, .ref 64), (1, .int a1)], [], (q_kM (q_sI (q_sA s 32 (upd (s.1 32) ((s.2.1 0 35).toNatClampNeg) (vp_nar .char a1))) 0 35 ((s.2.1 0 35) + 1)) c n))) 3 (fun _ _ => rfl) ?_
  exact q_RP_ret rfl rfl rfl
def dzr_M281_64 (m : Nat) : q_S → Int32 → Option (q_S) := Nat.rec (motive := fun _ => q_S → Int32 → Option (q_S)) (fun _ _ => none) (fun _ krec s a1 =>
  cond (decide (a1 < 10)) ((dz_M280_64 s ((((48 : Int32) + (a1 - a1 / 10 * 10)).toUInt32 % 65536).toInt32)).bind fun r1548 => some r1548) ((krec s (a1 / 10)).bind fun r1549 => (dz_M280_64 r1549 ((((48 : Int32) + (a1 - a1 / 10 * 10)).toUInt32 % 65536).toInt32)).bind fun r1550 => some r1550)) m
theorem dzs_M281_64 (m : Nat) (s : q_S) (a1 : Int32) : dzr_M281_64 (m + 1) s a1 = (fun krec : q_S → Int32 → Option (q_S) =>
  cond (decide (a1 < 10)) ((dz_M280_64 s ((((48 : Int32) + (a1 - a1 / 10 * 10)).toUInt32 % 65536).toInt32)).bind fun r1548 => some r1548) ((krec s (a1 / 10)).bind fun r1549 => (dz_M280_64 r1549 ((((48 : Int32) + (a1 - a1 / 10 * 10)).toUInt32 % 65536).toInt32)).bind fun r1550 => some r1550)) (dzr_M281_64 m) := rfl
set_option maxHeartbeats 4000000 in
theorem dzq_M281_64 (c n : Nat) : ∀ (m : Nat) (s : q_S) (a1 : Int32) (x : q_S), dzr_M281_64 m s a1 = some x → q_Ca q_TB0 (m + 2) 280 [.ref 64, .int a1] (q_kM s c n) ((q_oSM c n) x) := by
  intro m
  induction m with
  | zero => intro s a1 x h; cases h
  | succ m ih =>
    intro s a1 x h
    rw [dzs_M281_64] at h
    have hrec := ih
    clear ih
    generalize dzr_M281_64 m = krec at hrec h
    rw [show m + 1 + 2 = (m + 2) + 1 by omega]
    refine q_CaP_of (φ := (q_oSM c n)) (Nat.le_of_ble_eq_true rfl) ?_ h
    clear h
    dsimp only
    refine q_RP_seg (g2 := (3, [(0, .ref 64), (1, .int a1)], [.int 10, .int a1], (q_kM s c n))) 2 (fun _ _ => rfl) ?_
    cases h1576 : decide (a1 < 10) with
    | true =>
      refine q_RP_cT ?_
      refine q_RP_rsT (g2 := (14, [(0, .ref 64), (1, .int a1)], [], (q_kM s c n))) rfl rfl h1576 ?_
      refine q_RP_seg (g2 := (23, [(0, .ref 64), (1, .int a1)], [.int ((((48 : Int32) + (a1 - a1 / 10 * 10)).toUInt32 % 65536).toInt32), .ref 64], (q_kM s c n))) 7 (fun _ _ => rfl) ?_
      refine q_RP_bd fun r1548 er1548 => ?_
      refine q_RP_call (v := none) (h2 := (q_kM r1548 c n)) rfl rfl ((dzt_M280_64 s c n ((((48 : Int32) + (a1 - a1 / 10 * 10)).toUInt32 % 65536).toInt32) r1548 er1548).le (by omega)) ?_
      show q_RP _ _ _ (26, [(0, .ref 64), (1, .int a1)], [], (q_kM r1548 c n)) _ _
      exact q_RP_ret rfl rfl rfl
    | false =>
      refine q_RP_cF ?_
      refine q_RP_rsF (g2 := (6, [(0, .ref 64), (1, .int a1)], [], (q_kM s c n))) rfl rfl h1576 ?_
      refine q_RP_seg (g2 := (11, [(0, .ref 64), (1, .int a1)], [.int (a1 / 10), .ref 64], (q_kM s c n))) 4 (fun _ _ => rfl) ?_
      refine q_RP_bd fun r1549 er1549 => ?_
      refine q_RP_call (v := none) (h2 := (q_kM r1549 c n)) rfl rfl (hrec s (a1 / 10) r1549 er1549) ?_
      show q_RP _ _ _ (14, [(0, .ref 64), (1, .int a1)], [], (q_kM r1549 c n)) _ _
      refine q_RP_seg (g2 := (23, [(0, .ref 64), (1, .int a1)], [.int ((((48 : Int32) + (a1 - a1 / 10 * 10)).toUInt32 % 65536).toInt32), .ref 64], (q_kM r1549 c n))) 7 (fun _ _ => rfl) ?_
      refine q_RP_bd fun r1550 er1550 => ?_
      refine q_RP_call (v := none) (h2 := (q_kM r1550 c n)) rfl rfl ((dzt_M280_64 r1549 c n ((((48 : Int32) + (a1 - a1 / 10 * 10)).toUInt32 % 65536).toInt32) r1550 er1550).le (by omega)) ?_
      show q_RP _ _ _ (26, [(0, .ref 64), (1, .int a1)], [], (q_kM r1550 c n)) _ _
      exact q_RP_ret rfl rfl rfl
def dz_M281_64 (s : q_S) (a1 : Int32) : Option (q_S) := dzr_M281_64 14 s a1
theorem dzt_M281_64 (s : q_S) (c n : Nat) (a1 : Int32) (x : q_S) (h : dz_M281_64 s a1 = some x) : q_Ca q_TB0 16 280 [.ref 64, .int a1] (q_kM s c n) ((q_oSM c n) x) := dzq_M281_64 c n 14 s a1 x h
def dz_M282_64_7 (m : Nat) : q_S → Int32 → Int32 → Int32 → Option (q_S) := Nat.rec (motive := fun _ => q_S → Int32 → Int32 → Int32 → Option (q_S)) (fun _ _ _ _ => none) (fun _ k7 s v1 v2 v3 =>
  cond (decide (v3 < 3)) (cond (decide (v2 < 0)) (cond (q_in ((3 * (v1 - 128)) + v3) 120) ((dz_M280_64 s ((fun j => q_o5.getD j 0) (((3 * (v1 - 128)) + v3).toNatClampNeg))).bind fun r1552 => k7 r1552 v1 v2 (v3 + 1)) none) (cond (q_in ((3 * v2) + v3) 63) ((dz_M280_64 s ((fun j => q_o4.getD j 0) (((3 * v2) + v3).toNatClampNeg))).bind fun r1553 => k7 r1553 v1 v2 (v3 + 1)) none)) (some s)) m
theorem dzs_M282_64_7 (m : Nat) (s : q_S) (v1 : Int32) (v2 : Int32) (v3 : Int32) : dz_M282_64_7 (m + 1) s v1 v2 v3 = (fun k7 : q_S → Int32 → Int32 → Int32 → Option (q_S) =>
  cond (decide (v3 < 3)) (cond (decide (v2 < 0)) (cond (q_in ((3 * (v1 - 128)) + v3) 120) ((dz_M280_64 s ((fun j => q_o5.getD j 0) (((3 * (v1 - 128)) + v3).toNatClampNeg))).bind fun r1552 => k7 r1552 v1 v2 (v3 + 1)) none) (cond (q_in ((3 * v2) + v3) 63) ((dz_M280_64 s ((fun j => q_o4.getD j 0) (((3 * v2) + v3).toNatClampNeg))).bind fun r1553 => k7 r1553 v1 v2 (v3 + 1)) none)) (some s)) (dz_M282_64_7 m) := rfl
set_option maxHeartbeats 4000000 in
theorem dzt_M282_64_7 (c n : Nat) : ∀ (m : Nat) (s : q_S) (v1 : Int32) (v2 : Int32) (v3 : Int32), q_RP q_TB0 2 281 (7, [(0, .ref 64), (1, .int v1), (2, .int v2), (3, .int v3)], [], (q_kM s c n)) (q_oSM c n) (dz_M282_64_7 m s v1 v2 v3) := by
  intro m
  induction m with
  | zero => intro s v1 v2 v3; exact q_RP_no
  | succ m ih =>
    intro s v1 v2 v3
    have hk7 := ih
    clear ih
    rw [dzs_M282_64_7]
    generalize dz_M282_64_7 m = k7 at hk7 ⊢
    dsimp only
    refine q_RP_seg (g2 := (9, [(0, .ref 64), (1, .int v1), (2, .int v2), (3, .int v3)], [.int 3, .int v3], (q_kM s c n))) 2 (fun _ _ => rfl) ?_
    cases h1577 : decide (v3 < 3) with
    | true =>
      refine q_RP_cT ?_
      refine q_RP_rsF (g2 := (12, [(0, .ref 64), (1, .int v1), (2, .int v2), (3, .int v3)], [], (q_kM s c n))) rfl rfl (q_d_geT h1577) ?_
      refine q_RP_seg (g2 := (14, [(0, .ref 64), (1, .int v1), (2, .int v2), (3, .int v3)], [.int v2, .ref 64], (q_kM s c n))) 2 (fun _ _ => rfl) ?_
      cases h1578 : decide (v2 < 0) with
      | true =>
        refine q_RP_cT ?_
        refine q_RP_rsT (g2 := (29, [(0, .ref 64), (1, .int v1), (2, .int v2), (3, .int v3)], [.ref 64], (q_kM s c n))) rfl rfl h1578 ?_
        refine q_RP_seg (g2 := (41, [(0, .ref 64), (1, .int v1), (2, .int v2), (3, .int v3)], [.int ((3 * (v1 - 128)) + v3), .ref 5, .ref 64], (q_kM s c n))) 8 (fun _ _ => rfl) ?_
        refine q_RP_as fun i1579 => ?_
        refine q_RP_rsT (g2 := (42, [(0, .ref 64), (1, .int v1), (2, .int v2), (3, .int v3)], [.int ((fun j => q_o5.getD j 0) (((3 * (v1 - 128)) + v3).toNatClampNeg)), .ref 64], (q_kM s c n))) rfl rfl i1579 ?_
        refine q_RP_bd fun r1552 er1552 => ?_
        refine q_RP_call (v := none) (h2 := (q_kM r1552 c n)) rfl rfl ((dzt_M280_64 s c n ((fun j => q_o5.getD j 0) (((3 * (v1 - 128)) + v3).toNatClampNeg)) r1552 er1552).le (Nat.le_of_ble_eq_true rfl)) ?_
        show q_RP _ _ _ (45, [(0, .ref 64), (1, .int v1), (2, .int v2), (3, .int v3)], [], (q_kM r1552 c n)) _ _
        refine q_RP_seg (g2 := (7, [(3, .int (v3 + 1)), (0, .ref 64), (1, .int v1), (2, .int v2)], [], (q_kM r1552 c n))) 2 (fun _ _ => rfl) ?_
        exact q_RP_xt (q_xt_mk (q_mn1 1 rfl (q_mn1 2 rfl (q_mn1 3 rfl (q_mn1 0 rfl q_mn0)))) rfl) (hk7 r1552 v1 v2 (v3 + 1))
      | false =>
        refine q_RP_cF ?_
        refine q_RP_rsF (g2 := (17, [(0, .ref 64), (1, .int v1), (2, .int v2), (3, .int v3)], [.ref 64], (q_kM s c n))) rfl rfl h1578 ?_
        refine q_RP_seg (g2 := (25, [(0, .ref 64), (1, .int v1), (2, .int v2), (3, .int v3)], [.int ((3 * v2) + v3), .ref 4, .ref 64], (q_kM s c n))) 6 (fun _ _ => rfl) ?_
        refine q_RP_as fun i1580 => ?_
        refine q_RP_rsT (g2 := (26, [(0, .ref 64), (1, .int v1), (2, .int v2), (3, .int v3)], [.int ((fun j => q_o4.getD j 0) (((3 * v2) + v3).toNatClampNeg)), .ref 64], (q_kM s c n))) rfl rfl i1580 ?_
        refine q_RP_seg (g2 := (42, [(0, .ref 64), (1, .int v1), (2, .int v2), (3, .int v3)], [.int ((fun j => q_o4.getD j 0) (((3 * v2) + v3).toNatClampNeg)), .ref 64], (q_kM s c n))) 1 (fun _ _ => rfl) ?_
        refine q_RP_bd fun r1553 er1553 => ?_
        refine q_RP_call (v := none) (h2 := (q_kM r1553 c n)) rfl rfl ((dzt_M280_64 s c n ((fun j => q_o4.getD j 0) (((3 * v2) + v3).toNatClampNeg)) r1553 er1553).le (Nat.le_of_ble_eq_true rfl)) ?_
        show q_RP _ _ _ (45, [(0, .ref 64), (1, .int v1), (2, .int v2), (3, .int v3)], [], (q_kM r1553 c n)) _ _
        refine q_RP_seg (g2 := (7, [(3, .int (v3 + 1)), (0, .ref 64), (1, .int v1), (2, .int v2)], [], (q_kM r1553 c n))) 2 (fun _ _ => rfl) ?_
        exact q_RP_xt (q_xt_mk (q_mn1 1 rfl (q_mn1 2 rfl (q_mn1 3 rfl (q_mn1 0 rfl q_mn0)))) rfl) (hk7 r1553 v1 v2 (v3 + 1))
    | false =>
      refine q_RP_cF ?_
      refine q_RP_rsT (g2 := (51, [(0, .ref 64), (1, .int v1), (2, .int v2), (3, .int v3)], [], (q_kM s c n))) rfl rfl (q_d_geF h1577) ?_
      exact q_RP_ret rfl rfl rfl
def dz_M282_64 (s : q_S) (a1 : Int32) : Option (q_S) :=
  q_let (dz_M244 s a1) fun r1551 => dz_M282_64_7 5000 s a1 r1551 0
set_option maxHeartbeats 4000000 in
theorem dzt_M282_64 (s : q_S) (c n : Nat) (a1 : Int32) (x : q_S) (h : dz_M282_64 s a1 = some x) : q_Ca q_TB0 3 281 [.ref 64, .int a1] (q_kM s c n) ((q_oSM c n) x) := by
  refine q_CaP_of (φ := (q_oSM c n)) (Nat.le_of_ble_eq_true rfl) ?_ h
  clear h
  unfold dz_M282_64
  refine q_RP_seg (g2 := (1, [(0, .ref 64), (1, .int a1)], [.int a1], (q_kM s c n))) 1 (fun _ _ => rfl) ?_
  refine q_RP_call (v := (some (.int (dz_M244 s a1)))) (h2 := (q_kM s c n)) rfl rfl ((dzt_M244 s c n a1).le (Nat.le_of_ble_eq_true rfl)) ?_
  generalize dz_M244 s a1 = r1551
  refine q_RP_let ?_
  show q_RP _ _ _ (4, [(0, .ref 64), (1, .int a1)], [.int r1551], (q_kM s c n)) _ _
  refine q_RP_seg (g2 := (7, [(3, .int 0), (2, .int r1551), (0, .ref 64), (1, .int a1)], [], (q_kM s c n))) 3 (fun _ _ => rfl) ?_
  exact q_RP_xt (q_xt_mk (q_mn1 2 rfl (q_mn1 3 rfl (q_mn1 1 rfl (q_mn1 0 rfl q_mn0)))) rfl) (dzt_M282_64_7 c n 5000 s a1 r1551 0)
def dz_M283_64_107 (s : q_S) (v1 : Int32) : Option (q_S) :=
  cond (decide (v1 = 5)) ((dz_M280_64 s 121).bind fun r1564 => cond (decide (v1 = 7)) ((dz_M280_64 r1564 41).bind fun r1565 => some r1565) (some r1564)) (cond (decide (v1 = 6)) ((dz_M280_64 s 121).bind fun r1566 => cond (decide (v1 = 7)) ((dz_M280_64 r1566 41).bind fun r1567 => some r1567) (some r1566)) (cond (decide (v1 = 7)) ((dz_M280_64 s 41).bind fun r1568 => some r1568) (some s)))
set_option maxHeartbeats 4000000 in
theorem dzt_M283_64_107 (c n : Nat) (s : q_S) (v1 : Int32) : q_RP q_TB0 16 282 (107, [(0, .ref 64), (1, .int v1)], [], (q_kM s c n)) (q_oSM c n) (dz_M283_64_107 s v1) := by
  unfold dz_M283_64_107
  refine q_RP_seg (g2 := (109, [(0, .ref 64), (1, .int v1)], [.int 5, .int v1], (q_kM s c n))) 2 (fun _ _ => rfl) ?_
  cases h1587 : decide (v1 = 5) with
  | true =>
    refine q_RP_cT ?_
    refine q_RP_rsT (g2 := (118, [(0, .ref 64), (1, .int v1)], [], (q_kM s c n))) rfl rfl h1587 ?_
    refine q_RP_seg (g2 := (121, [(0, .ref 64), (1, .int v1)], [.int 121, .ref 64], (q_kM s c n))) 2 (fun _ _ => rfl) ?_
    refine q_RP_bd fun r1564 er1564 => ?_
    refine q_RP_call (v := none) (h2 := (q_kM r1564 c n)) rfl rfl ((dzt_M280_64 s c n 121 r1564 er1564).le (Nat.le_of_ble_eq_true rfl)) ?_
    show q_RP _ _ _ (124, [(0, .ref 64), (1, .int v1)], [], (q_kM r1564 c n)) _ _
    refine q_RP_seg (g2 := (127, [(0, .ref 64), (1, .int v1)], [.int 7, .int v1], (q_kM r1564 c n))) 2 (fun _ _ => rfl) ?_
    cases h1588 : decide (v1 = 7) with
    | true =>
      refine q_RP_cT ?_
      refine q_RP_rsF (g2 := (130, [(0, .ref 64), (1, .int v1)], [], (q_kM r1564 c n))) rfl rfl (q_d_neT h1588) ?_
      refine q_RP_seg (g2 := (133, [(0, .ref 64), (1, .int v1)], [.int 41, .ref 64], (q_kM r1564 c n))) 2 (fun _ _ => rfl) ?_
      refine q_RP_bd fun r1565 er1565 => ?_
      refine q_RP_call (v := none) (h2 := (q_kM r1565 c n)) rfl rfl ((dzt_M280_64 r1564 c n 41 r1565 er1565).le (Nat.le_of_ble_eq_true rfl)) ?_
      show q_RP _ _ _ (136, [(0, .ref 64), (1, .int v1)], [], (q_kM r1565 c n)) _ _
      exact q_RP_ret rfl rfl rfl
    | false =>
      refine q_RP_cF ?_
      refine q_RP_rsT (g2 := (136, [(0, .ref 64), (1, .int v1)], [], (q_kM r1564 c n))) rfl rfl (q_d_neF h1588) ?_
      exact q_RP_ret rfl rfl rfl
  | false =>
    refine q_RP_cF ?_
    refine q_RP_rsF (g2 := (112, [(0, .ref 64), (1, .int v1)], [], (q_kM s c n))) rfl rfl h1587 ?_
    refine q_RP_seg (g2 := (115, [(0, .ref 64), (1, .int v1)], [.int 6, .int v1], (q_kM s c n))) 2 (fun _ _ => rfl) ?_
    cases h1589 : decide (v1 = 6) with
    | true =>
      refine q_RP_cT ?_
      refine q_RP_rsF (g2 := (118, [(0, .ref 64), (1, .int v1)], [], (q_kM s c n))) rfl rfl (q_d_neT h1589) ?_
      refine q_RP_seg (g2 := (121, [(0, .ref 64), (1, .int v1)], [.int 121, .ref 64], (q_kM s c n))) 2 (fun _ _ => rfl) ?_
      refine q_RP_bd fun r1566 er1566 => ?_
      refine q_RP_call (v := none) (h2 := (q_kM r1566 c n)) rfl rfl ((dzt_M280_64 s c n 121 r1566 er1566).le (Nat.le_of_ble_eq_true rfl)) ?_
      show q_RP _ _ _ (124, [(0, .ref 64), (1, .int v1)], [], (q_kM r1566 c n)) _ _
      refine q_RP_seg (g2 := (127, [(0, .ref 64), (1, .int v1)], [.int 7, .int v1], (q_kM r1566 c n))) 2 (fun _ _ => rfl) ?_
      cases h1590 : decide (v1 = 7) with
      | true =>
        refine q_RP_cT ?_
        refine q_RP_rsF (g2 := (130, [(0, .ref 64), (1, .int v1)], [], (q_kM r1566 c n))) rfl rfl (q_d_neT h1590) ?_
        refine q_RP_seg (g2 := (133, [(0, .ref 64), (1, .int v1)], [.int 41, .ref 64], (q_kM r1566 c n))) 2 (fun _ _ => rfl) ?_
        refine q_RP_bd fun r1567 er1567 => ?_
        refine q_RP_call (v := none) (h2 := (q_kM r1567 c n)) rfl rfl ((dzt_M280_64 r1566 c n 41 r1567 er1567).le (Nat.le_of_ble_eq_true rfl)) ?_
        show q_RP _ _ _ (136, [(0, .ref 64), (1, .int v1)], [], (q_kM r1567 c n)) _ _
        exact q_RP_ret rfl rfl rfl
      | false =>
        refine q_RP_cF ?_
        refine q_RP_rsT (g2 := (136, [(0, .ref 64), (1, .int v1)], [], (q_kM r1566 c n))) rfl rfl (q_d_neF h1590) ?_
        exact q_RP_ret rfl rfl rfl
    | false =>
      refine q_RP_cF ?_
      refine q_RP_rsT (g2 := (124, [(0, .ref 64), (1, .int v1)], [], (q_kM s c n))) rfl rfl (q_d_neF h1589) ?_
      refine q_RP_seg (g2 := (127, [(0, .ref 64), (1, .int v1)], [.int 7, .int v1], (q_kM s c n))) 2 (fun _ _ => rfl) ?_
      cases h1591 : decide (v1 = 7) with
      | true =>
        refine q_RP_cT ?_
        refine q_RP_rsF (g2 := (130, [(0, .ref 64), (1, .int v1)], [], (q_kM s c n))) rfl rfl (q_d_neT h1591) ?_
        refine q_RP_seg (g2 := (133, [(0, .ref 64), (1, .int v1)], [.int 41, .ref 64], (q_kM s c n))) 2 (fun _ _ => rfl) ?_
        refine q_RP_bd fun r1568 er1568 => ?_
        refine q_RP_call (v := none) (h2 := (q_kM r1568 c n)) rfl rfl ((dzt_M280_64 s c n 41 r1568 er1568).le (Nat.le_of_ble_eq_true rfl)) ?_
        show q_RP _ _ _ (136, [(0, .ref 64), (1, .int v1)], [], (q_kM r1568 c n)) _ _
        exact q_RP_ret rfl rfl rfl
      | false =>
        refine q_RP_cF ?_
        refine q_RP_rsT (g2 := (136, [(0, .ref 64), (1, .int v1)], [], (q_kM s c n))) rfl rfl (q_d_neF h1591) ?_
        exact q_RP_ret rfl rfl rfl
def dz_M283_64_101 (s : q_S) (v1 : Int32) : Option (q_S) :=
  (dz_M280_64 s 120).bind fun r1563 => dz_M283_64_107 r1563 v1
set_option maxHeartbeats 4000000 in
theorem dzt_M283_64_101 (c n : Nat) (s : q_S) (v1 : Int32) : q_RP q_TB0 16 282 (101, [(0, .ref 64), (1, .int v1)], [], (q_kM s c n)) (q_oSM c n) (dz_M283_64_101 s v1) := by
  unfold dz_M283_64_101
  refine q_RP_seg (g2 := (104, [(0, .ref 64), (1, .int v1)], [.int 120, .ref 64], (q_kM s c n))) 2 (fun _ _ => rfl) ?_
  refine q_RP_bd fun r1563 er1563 => ?_
  refine q_RP_call (v := none) (h2 := (q_kM r1563 c n)) rfl rfl ((dzt_M280_64 s c n 120 r1563 er1563).le (Nat.le_of_ble_eq_true rfl)) ?_
  show q_RP _ _ _ (107, [(0, .ref 64), (1, .int v1)], [], (q_kM r1563 c n)) _ _
  exact (dzt_M283_64_107 c n r1563 v1)
def dz_M283_64_85 (s : q_S) (v1 : Int32) : Option (q_S) :=
  cond (decide (v1 = 2)) (dz_M283_64_101 s v1) (cond (decide (v1 = 4)) (dz_M283_64_101 s v1) (cond (decide (v1 = 7)) (dz_M283_64_101 s v1) (dz_M283_64_107 s v1)))
set_option maxHeartbeats 4000000 in
theorem dzt_M283_64_85 (c n : Nat) (s : q_S) (v1 : Int32) : q_RP q_TB0 16 282 (85, [(0, .ref 64), (1, .int v1)], [], (q_kM s c n)) (q_oSM c n) (dz_M283_64_85 s v1) := by
  unfold dz_M283_64_85
  refine q_RP_seg (g2 := (87, [(0, .ref 64), (1, .int v1)], [.int 2, .int v1], (q_kM s c n))) 2 (fun _ _ => rfl) ?_
  cases h1586 : decide (v1 = 2) with
  | true =>
    refine q_RP_cT ?_
    refine q_RP_rsT (g2 := (101, [(0, .ref 64), (1, .int v1)], [], (q_kM s c n))) rfl rfl h1586 ?_
    exact (dzt_M283_64_101 c n s v1)
  | false =>
    refine q_RP_cF ?_
    refine q_RP_rsF (g2 := (90, [(0, .ref 64), (1, .int v1)], [], (q_kM s c n))) rfl rfl h1586 ?_
    refine q_RP_seg (g2 := (92, [(0, .ref 64), (1, .int v1)], [.int 4, .int v1], (q_kM s c n))) 2 (fun _ _ => rfl) ?_
    cases h1592 : decide (v1 = 4) with
    | true =>
      refine q_RP_cT ?_
      refine q_RP_rsT (g2 := (101, [(0, .ref 64), (1, .int v1)], [], (q_kM s c n))) rfl rfl h1592 ?_
      exact (dzt_M283_64_101 c n s v1)
    | false =>
      refine q_RP_cF ?_
      refine q_RP_rsF (g2 := (95, [(0, .ref 64), (1, .int v1)], [], (q_kM s c n))) rfl rfl h1592 ?_
      refine q_RP_seg (g2 := (98, [(0, .ref 64), (1, .int v1)], [.int 7, .int v1], (q_kM s c n))) 2 (fun _ _ => rfl) ?_
      cases h1593 : decide (v1 = 7) with
      | true =>
        refine q_RP_cT ?_
        refine q_RP_rsF (g2 := (101, [(0, .ref 64), (1, .int v1)], [], (q_kM s c n))) rfl rfl (q_d_neT h1593) ?_
        exact (dzt_M283_64_101 c n s v1)
      | false =>
        refine q_RP_cF ?_
        refine q_RP_rsT (g2 := (107, [(0, .ref 64), (1, .int v1)], [], (q_kM s c n))) rfl rfl (q_d_neF h1593) ?_
        exact (dzt_M283_64_107 c n s v1)
def dz_M283_64_79 (s : q_S) (v1 : Int32) : Option (q_S) :=
  (dz_M280_64 s 44).bind fun r1562 => dz_M283_64_85 r1562 v1
set_option maxHeartbeats 4000000 in
theorem dzt_M283_64_79 (c n : Nat) (s : q_S) (v1 : Int32) : q_RP q_TB0 16 282 (79, [(0, .ref 64), (1, .int v1)], [], (q_kM s c n)) (q_oSM c n) (dz_M283_64_79 s v1) := by
  unfold dz_M283_64_79
  refine q_RP_seg (g2 := (82, [(0, .ref 64), (1, .int v1)], [.int 44, .ref 64], (q_kM s c n))) 2 (fun _ _ => rfl) ?_
  refine q_RP_bd fun r1562 er1562 => ?_
  refine q_RP_call (v := none) (h2 := (q_kM r1562 c n)) rfl rfl ((dzt_M280_64 s c n 44 r1562 er1562).le (Nat.le_of_ble_eq_true rfl)) ?_
  show q_RP _ _ _ (85, [(0, .ref 64), (1, .int v1)], [], (q_kM r1562 c n)) _ _
  exact (dzt_M283_64_85 c n r1562 v1)
def dz_M283_64_69 (s : q_S) (v1 : Int32) : Option (q_S) :=
  cond (decide (v1 = 2)) (dz_M283_64_79 s v1) (cond (decide (3 < v1)) (dz_M283_64_79 s v1) (dz_M283_64_85 s v1))
set_option maxHeartbeats 4000000 in
theorem dzt_M283_64_69 (c n : Nat) (s : q_S) (v1 : Int32) : q_RP q_TB0 16 282 (69, [(0, .ref 64), (1, .int v1)], [], (q_kM s c n)) (q_oSM c n) (dz_M283_64_69 s v1) := by
  unfold dz_M283_64_69
  refine q_RP_seg (g2 := (71, [(0, .ref 64), (1, .int v1)], [.int 2, .int v1], (q_kM s c n))) 2 (fun _ _ => rfl) ?_
  cases h1585 : decide (v1 = 2) with
  | true =>
    refine q_RP_cT ?_
    refine q_RP_rsT (g2 := (79, [(0, .ref 64), (1, .int v1)], [], (q_kM s c n))) rfl rfl h1585 ?_
    exact (dzt_M283_64_79 c n s v1)
  | false =>
    refine q_RP_cF ?_
    refine q_RP_rsF (g2 := (74, [(0, .ref 64), (1, .int v1)], [], (q_kM s c n))) rfl rfl h1585 ?_
    refine q_RP_seg (g2 := (76, [(0, .ref 64), (1, .int v1)], [.int 3, .int v1], (q_kM s c n))) 2 (fun _ _ => rfl) ?_
    cases h1594 : decide (3 < v1) with
    | true =>
      refine q_RP_cT ?_
      refine q_RP_rsF (g2 := (79, [(0, .ref 64), (1, .int v1)], [], (q_kM s c n))) rfl rfl (q_d_geT h1594) ?_
      exact (dzt_M283_64_79 c n s v1)
    | false =>
      refine q_RP_cF ?_
      refine q_RP_rsT (g2 := (85, [(0, .ref 64), (1, .int v1)], [], (q_kM s c n))) rfl rfl (q_d_geF h1594) ?_
      exact (dzt_M283_64_85 c n s v1)
def dz_M283_64_27 (s : q_S) (v1 : Int32) (v2 : Int32) : Option (q_S) :=
  q_let (dz_M202 s v1 3 5) fun r1558 => cond r1558 ((dz_M248_64 s (v2 + 1)).bind fun r1559 => (dz_M281_64 r1559.1 r1559.2).bind fun r1560 => cond (decide (v1 = 6)) ((dz_M280_64 r1560 41).bind fun r1561 => dz_M283_64_69 r1561 v1) (dz_M283_64_69 r1560 v1)) ((dz_M247_64 s (v2 + 1)).bind fun r1569 => (dz_M281_64 r1569.1 r1569.2).bind fun r1570 => cond (decide (v1 = 6)) ((dz_M280_64 r1570 41).bind fun r1571 => dz_M283_64_69 r1571 v1) (dz_M283_64_69 r1570 v1))
set_option maxHeartbeats 4000000 in
theorem dzt_M283_64_27 (c n : Nat) (s : q_S) (v1 : Int32) (v2 : Int32) : q_RP q_TB0 16 282 (27, [(0, .ref 64), (1, .int v1), (2, .int v2)], [], (q_kM s c n)) (q_oSM c n) (dz_M283_64_27 s v1 v2) := by
  unfold dz_M283_64_27
  refine q_RP_seg (g2 := (31, [(0, .ref 64), (1, .int v1), (2, .int v2)], [.int 5, .int 3, .int v1, .ref 64], (q_kM s c n))) 4 (fun _ _ => rfl) ?_
  refine q_RP_call (v := (some (.int (q_b (dz_M202 s v1 3 5))))) (h2 := (q_kM s c n)) rfl rfl ((dzt_M202 s c n v1 3 5).le (Nat.le_of_ble_eq_true rfl)) ?_
  generalize dz_M202 s v1 3 5 = r1558
  refine q_RP_let ?_
  show q_RP _ _ _ (34, [(0, .ref 64), (1, .int v1), (2, .int v2)], [.int (q_b r1558), .ref 64], (q_kM s c n)) _ _
  cases h1583 : r1558 with
  | true =>
    refine q_RP_cT ?_
    show q_RP _ _ _ (34, [(0, .ref 64), (1, .int v1), (2, .int v2)], [.int 1, .ref 64], (q_kM s c n)) _ _
    refine q_RP_seg (g2 := (41, [(0, .ref 64), (1, .int v1), (2, .int v2)], [.int (v2 + 1), .ref 64, .ref 64], (q_kM s c n))) 5 (fun _ _ => rfl) ?_
    refine q_RP_bd fun r1559 er1559 => ?_
    refine q_RP_call (v := (some (.int r1559.2))) (h2 := (q_kM r1559.1 c n)) rfl rfl ((dzt_M248_64 s c n (v2 + 1) r1559 er1559).le (Nat.le_of_ble_eq_true rfl)) ?_
    show q_RP _ _ _ (44, [(0, .ref 64), (1, .int v1), (2, .int v2)], [.int r1559.2, .ref 64], (q_kM r1559.1 c n)) _ _
    refine q_RP_seg (g2 := (54, [(0, .ref 64), (1, .int v1), (2, .int v2)], [.int r1559.2, .ref 64], (q_kM r1559.1 c n))) 1 (fun _ _ => rfl) ?_
    refine q_RP_bd fun r1560 er1560 => ?_
    refine q_RP_call (v := none) (h2 := (q_kM r1560 c n)) rfl rfl ((dzt_M281_64 r1559.1 c n r1559.2 r1560 er1560).le (Nat.le_of_ble_eq_true rfl)) ?_
    show q_RP _ _ _ (57, [(0, .ref 64), (1, .int v1), (2, .int v2)], [], (q_kM r1560 c n)) _ _
    refine q_RP_seg (g2 := (60, [(0, .ref 64), (1, .int v1), (2, .int v2)], [.int 6, .int v1], (q_kM r1560 c n))) 2 (fun _ _ => rfl) ?_
    cases h1584 : decide (v1 = 6) with
    | true =>
      refine q_RP_cT ?_
      refine q_RP_rsF (g2 := (63, [(0, .ref 64), (1, .int v1), (2, .int v2)], [], (q_kM r1560 c n))) rfl rfl (q_d_neT h1584) ?_
      refine q_RP_seg (g2 := (66, [(0, .ref 64), (1, .int v1), (2, .int v2)], [.int 41, .ref 64], (q_kM r1560 c n))) 2 (fun _ _ => rfl) ?_
      refine q_RP_bd fun r1561 er1561 => ?_
      refine q_RP_call (v := none) (h2 := (q_kM r1561 c n)) rfl rfl ((dzt_M280_64 r1560 c n 41 r1561 er1561).le (Nat.le_of_ble_eq_true rfl)) ?_
      show q_RP _ _ _ (69, [(0, .ref 64), (1, .int v1), (2, .int v2)], [], (q_kM r1561 c n)) _ _
      exact q_RP_xt (q_xt_mk (q_mn1 0 rfl (q_mn1 1 rfl q_mn0)) rfl) (dzt_M283_64_69 c n r1561 v1)
    | false =>
      refine q_RP_cF ?_
      refine q_RP_rsT (g2 := (69, [(0, .ref 64), (1, .int v1), (2, .int v2)], [], (q_kM r1560 c n))) rfl rfl (q_d_neF h1584) ?_
      exact q_RP_xt (q_xt_mk (q_mn1 0 rfl (q_mn1 1 rfl q_mn0)) rfl) (dzt_M283_64_69 c n r1560 v1)
  | false =>
    refine q_RP_cF ?_
    show q_RP _ _ _ (34, [(0, .ref 64), (1, .int v1), (2, .int v2)], [.int 0, .ref 64], (q_kM s c n)) _ _
    refine q_RP_seg (g2 := (51, [(0, .ref 64), (1, .int v1), (2, .int v2)], [.int (v2 + 1), .ref 64, .ref 64], (q_kM s c n))) 5 (fun _ _ => rfl) ?_
    refine q_RP_bd fun r1569 er1569 => ?_
    refine q_RP_call (v := (some (.int r1569.2))) (h2 := (q_kM r1569.1 c n)) rfl rfl ((dzt_M247_64 s c n (v2 + 1) r1569 er1569).le (Nat.le_of_ble_eq_true rfl)) ?_
    show q_RP _ _ _ (54, [(0, .ref 64), (1, .int v1), (2, .int v2)], [.int r1569.2, .ref 64], (q_kM r1569.1 c n)) _ _
    refine q_RP_bd fun r1570 er1570 => ?_
    refine q_RP_call (v := none) (h2 := (q_kM r1570 c n)) rfl rfl ((dzt_M281_64 r1569.1 c n r1569.2 r1570 er1570).le (Nat.le_of_ble_eq_true rfl)) ?_
    show q_RP _ _ _ (57, [(0, .ref 64), (1, .int v1), (2, .int v2)], [], (q_kM r1570 c n)) _ _
    refine q_RP_seg (g2 := (60, [(0, .ref 64), (1, .int v1), (2, .int v2)], [.int 6, .int v1], (q_kM r1570 c n))) 2 (fun _ _ => rfl) ?_
    cases h1595 : decide (v1 = 6) with
    | true =>
      refine q_RP_cT ?_
      refine q_RP_rsF (g2 := (63, [(0, .ref 64), (1, .int v1), (2, .int v2)], [], (q_kM r1570 c n))) rfl rfl (q_d_neT h1595) ?_
      refine q_RP_seg (g2 := (66, [(0, .ref 64), (1, .int v1), (2, .int v2)], [.int 41, .ref 64], (q_kM r1570 c n))) 2 (fun _ _ => rfl) ?_
      refine q_RP_bd fun r1571 er1571 => ?_
      refine q_RP_call (v := none) (h2 := (q_kM r1571 c n)) rfl rfl ((dzt_M280_64 r1570 c n 41 r1571 er1571).le (Nat.le_of_ble_eq_true rfl)) ?_
      show q_RP _ _ _ (69, [(0, .ref 64), (1, .int v1), (2, .int v2)], [], (q_kM r1571 c n)) _ _
      exact q_RP_xt (q_xt_mk (q_mn1 0 rfl (q_mn1 1 rfl q_mn0)) rfl) (dzt_M283_64_69 c n r1571 v1)
    | false =>
      refine q_RP_cF ?_
      refine q_RP_rsT (g2 := (69, [(0, .ref 64), (1, .int v1), (2, .int v2)], [], (q_kM r1570 c n))) rfl rfl (q_d_neF h1595) ?_
      exact q_RP_xt (q_xt_mk (q_mn1 0 rfl (q_mn1 1 rfl q_mn0)) rfl) (dzt_M283_64_69 c n r1570 v1)
def dz_M283_64_16 (s : q_S) (v1 : Int32) (v2 : Int32) : Option (q_S) :=
  cond (decide (5 < v1)) ((dz_M280_64 s 40).bind fun r1557 => dz_M283_64_27 r1557 v1 v2) (dz_M283_64_27 s v1 v2)
set_option maxHeartbeats 4000000 in
theorem dzt_M283_64_16 (c n : Nat) (s : q_S) (v1 : Int32) (v2 : Int32) : q_RP q_TB0 16 282 (16, [(0, .ref 64), (1, .int v1), (2, .int v2)], [], (q_kM s c n)) (q_oSM c n) (dz_M283_64_16 s v1 v2) := by
  unfold dz_M283_64_16
  refine q_RP_seg (g2 := (18, [(0, .ref 64), (1, .int v1), (2, .int v2)], [.int 5, .int v1], (q_kM s c n))) 2 (fun _ _ => rfl) ?_
  cases h1582 : decide (5 < v1) with
  | true =>
    refine q_RP_cT ?_
    refine q_RP_rsF (g2 := (21, [(0, .ref 64), (1, .int v1), (2, .int v2)], [], (q_kM s c n))) rfl rfl (q_d_geT h1582) ?_
    refine q_RP_seg (g2 := (24, [(0, .ref 64), (1, .int v1), (2, .int v2)], [.int 40, .ref 64], (q_kM s c n))) 2 (fun _ _ => rfl) ?_
    refine q_RP_bd fun r1557 er1557 => ?_
    refine q_RP_call (v := none) (h2 := (q_kM r1557 c n)) rfl rfl ((dzt_M280_64 s c n 40 r1557 er1557).le (Nat.le_of_ble_eq_true rfl)) ?_
    show q_RP _ _ _ (27, [(0, .ref 64), (1, .int v1), (2, .int v2)], [], (q_kM r1557 c n)) _ _
    exact (dzt_M283_64_27 c n r1557 v1 v2)
  | false =>
    refine q_RP_cF ?_
    refine q_RP_rsT (g2 := (27, [(0, .ref 64), (1, .int v1), (2, .int v2)], [], (q_kM s c n))) rfl rfl (q_d_geF h1582) ?_
    exact (dzt_M283_64_27 c n s v1 v2)
def dz_M283_64 (s : q_S) (a1 : Int32) (a2 : Int32) : Option (q_S) :=
  (dz_M280_64 s 32).bind fun r1555 => cond (decide (a1 = 0)) ((dz_M280_64 r1555 35).bind fun r1556 => dz_M283_64_16 r1556 a1 a2) (dz_M283_64_16 r1555 a1 a2)
set_option maxHeartbeats 4000000 in
theorem dzt_M283_64 (s : q_S) (c n : Nat) (a1 : Int32) (a2 : Int32) (x : q_S) (h : dz_M283_64 s a1 a2 = some x) : q_Ca q_TB0 17 282 [.ref 64, .int a1, .int a2] (q_kM s c n) ((q_oSM c n) x) := by
  refine q_CaP_of (φ := (q_oSM c n)) (Nat.le_of_ble_eq_true rfl) ?_ h
  clear h
  unfold dz_M283_64
  refine q_RP_seg (g2 := (3, [(0, .ref 64), (1, .int a1), (2, .int a2)], [.int 32, .ref 64], (q_kM s c n))) 2 (fun _ _ => rfl) ?_
  refine q_RP_bd fun r1555 er1555 => ?_
  refine q_RP_call (v := none) (h2 := (q_kM r1555 c n)) rfl rfl ((dzt_M280_64 s c n 32 r1555 er1555).le (Nat.le_of_ble_eq_true rfl)) ?_
  show q_RP _ _ _ (6, [(0, .ref 64), (1, .int a1), (2, .int a2)], [], (q_kM r1555 c n)) _ _
  refine q_RP_seg (g2 := (7, [(0, .ref 64), (1, .int a1), (2, .int a2)], [.int a1], (q_kM r1555 c n))) 1 (fun _ _ => rfl) ?_
  cases h1581 : decide (a1 = 0) with
  | true =>
    refine q_RP_cT ?_
    refine q_RP_rsF (g2 := (10, [(0, .ref 64), (1, .int a1), (2, .int a2)], [], (q_kM r1555 c n))) rfl rfl (q_d_neT h1581) ?_
    refine q_RP_seg (g2 := (13, [(0, .ref 64), (1, .int a1), (2, .int a2)], [.int 35, .ref 64], (q_kM r1555 c n))) 2 (fun _ _ => rfl) ?_
    refine q_RP_bd fun r1556 er1556 => ?_
    refine q_RP_call (v := none) (h2 := (q_kM r1556 c n)) rfl rfl ((dzt_M280_64 r1555 c n 35 r1556 er1556).le (Nat.le_of_ble_eq_true rfl)) ?_
    show q_RP _ _ _ (16, [(0, .ref 64), (1, .int a1), (2, .int a2)], [], (q_kM r1556 c n)) _ _
    exact (dzt_M283_64_16 c n r1556 a1 a2)
  | false =>
    refine q_RP_cF ?_
    refine q_RP_rsT (g2 := (16, [(0, .ref 64), (1, .int a1), (2, .int a2)], [], (q_kM r1555 c n))) rfl rfl (q_d_neF h1581) ?_
    exact (dzt_M283_64_16 c n r1555 a1 a2)
def dz_M284_64_28 (s : q_S) (v1 : Int32) (v2 : Int32) : Option (q_S) :=
  q_let (dz_M246 s v1) fun r1577 => cond (decide (r1577 = 2)) ((dz_M253_64 s v2).bind fun r1578 => (dz_M281_64 r1578.1 r1578.2).bind fun r1579 => cond (decide (v1 = 159)) ((dz_M280_64 r1579 41).bind fun r1580 => some r1580) (some r1579)) ((dz_M248_64 s (v2 + 1)).bind fun r1581 => (dz_M281_64 r1581.1 r1581.2).bind fun r1582 => cond (decide (v1 = 159)) ((dz_M280_64 r1582 41).bind fun r1583 => some r1583) (some r1582))
set_option maxHeartbeats 4000000 in
theorem dzt_M284_64_28 (c n : Nat) (s : q_S) (v1 : Int32) (v2 : Int32) : q_RP q_TB0 16 283 (28, [(0, .ref 64), (1, .int v1), (2, .int v2)], [], (q_kM s c n)) (q_oSM c n) (dz_M284_64_28 s v1 v2) := by
  unfold dz_M284_64_28
  refine q_RP_seg (g2 := (30, [(0, .ref 64), (1, .int v1), (2, .int v2)], [.int v1, .ref 64], (q_kM s c n))) 2 (fun _ _ => rfl) ?_
  refine q_RP_call (v := (some (.int (dz_M246 s v1)))) (h2 := (q_kM s c n)) rfl rfl ((dzt_M246 s c n v1).le (Nat.le_of_ble_eq_true rfl)) ?_
  generalize dz_M246 s v1 = r1577
  refine q_RP_let ?_
  show q_RP _ _ _ (33, [(0, .ref 64), (1, .int v1), (2, .int v2)], [.int r1577, .ref 64], (q_kM s c n)) _ _
  refine q_RP_seg (g2 := (34, [(0, .ref 64), (1, .int v1), (2, .int v2)], [.int 2, .int r1577, .ref 64], (q_kM s c n))) 1 (fun _ _ => rfl) ?_
  cases h1599 : decide (r1577 = 2) with
  | true =>
    refine q_RP_cT ?_
    refine q_RP_rsF (g2 := (37, [(0, .ref 64), (1, .int v1), (2, .int v2)], [.ref 64], (q_kM s c n))) rfl rfl (q_d_neT h1599) ?_
    refine q_RP_seg (g2 := (39, [(0, .ref 64), (1, .int v1), (2, .int v2)], [.int v2, .ref 64, .ref 64], (q_kM s c n))) 2 (fun _ _ => rfl) ?_
    refine q_RP_bd fun r1578 er1578 => ?_
    refine q_RP_call (v := (some (.int r1578.2))) (h2 := (q_kM r1578.1 c n)) rfl rfl ((dzt_M253_64 s c n v2 r1578 er1578).le (Nat.le_of_ble_eq_true rfl)) ?_
    show q_RP _ _ _ (42, [(0, .ref 64), (1, .int v1), (2, .int v2)], [.int r1578.2, .ref 64], (q_kM r1578.1 c n)) _ _
    refine q_RP_seg (g2 := (52, [(0, .ref 64), (1, .int v1), (2, .int v2)], [.int r1578.2, .ref 64], (q_kM r1578.1 c n))) 1 (fun _ _ => rfl) ?_
    refine q_RP_bd fun r1579 er1579 => ?_
    refine q_RP_call (v := none) (h2 := (q_kM r1579 c n)) rfl rfl ((dzt_M281_64 r1578.1 c n r1578.2 r1579 er1579).le (Nat.le_of_ble_eq_true rfl)) ?_
    show q_RP _ _ _ (55, [(0, .ref 64), (1, .int v1), (2, .int v2)], [], (q_kM r1579 c n)) _ _
    refine q_RP_seg (g2 := (59, [(0, .ref 64), (1, .int v1), (2, .int v2)], [.int 159, .int v1], (q_kM r1579 c n))) 2 (fun _ _ => rfl) ?_
    cases h1600 : decide (v1 = 159) with
    | true =>
      refine q_RP_cT ?_
      refine q_RP_rsF (g2 := (62, [(0, .ref 64), (1, .int v1), (2, .int v2)], [], (q_kM r1579 c n))) rfl rfl (q_d_neT h1600) ?_
      refine q_RP_seg (g2 := (65, [(0, .ref 64), (1, .int v1), (2, .int v2)], [.int 41, .ref 64], (q_kM r1579 c n))) 2 (fun _ _ => rfl) ?_
      refine q_RP_bd fun r1580 er1580 => ?_
      refine q_RP_call (v := none) (h2 := (q_kM r1580 c n)) rfl rfl ((dzt_M280_64 r1579 c n 41 r1580 er1580).le (Nat.le_of_ble_eq_true rfl)) ?_
      show q_RP _ _ _ (68, [(0, .ref 64), (1, .int v1), (2, .int v2)], [], (q_kM r1580 c n)) _ _
      exact q_RP_ret rfl rfl rfl
    | false =>
      refine q_RP_cF ?_
      refine q_RP_rsT (g2 := (68, [(0, .ref 64), (1, .int v1), (2, .int v2)], [], (q_kM r1579 c n))) rfl rfl (q_d_neF h1600) ?_
      exact q_RP_ret rfl rfl rfl
  | false =>
    refine q_RP_cF ?_
    refine q_RP_rsT (g2 := (45, [(0, .ref 64), (1, .int v1), (2, .int v2)], [.ref 64], (q_kM s c n))) rfl rfl (q_d_neF h1599) ?_
    refine q_RP_seg (g2 := (49, [(0, .ref 64), (1, .int v1), (2, .int v2)], [.int (v2 + 1), .ref 64, .ref 64], (q_kM s c n))) 4 (fun _ _ => rfl) ?_
    refine q_RP_bd fun r1581 er1581 => ?_
    refine q_RP_call (v := (some (.int r1581.2))) (h2 := (q_kM r1581.1 c n)) rfl rfl ((dzt_M248_64 s c n (v2 + 1) r1581 er1581).le (Nat.le_of_ble_eq_true rfl)) ?_
    show q_RP _ _ _ (52, [(0, .ref 64), (1, .int v1), (2, .int v2)], [.int r1581.2, .ref 64], (q_kM r1581.1 c n)) _ _
    refine q_RP_bd fun r1582 er1582 => ?_
    refine q_RP_call (v := none) (h2 := (q_kM r1582 c n)) rfl rfl ((dzt_M281_64 r1581.1 c n r1581.2 r1582 er1582).le (Nat.le_of_ble_eq_true rfl)) ?_
    show q_RP _ _ _ (55, [(0, .ref 64), (1, .int v1), (2, .int v2)], [], (q_kM r1582 c n)) _ _
    refine q_RP_seg (g2 := (59, [(0, .ref 64), (1, .int v1), (2, .int v2)], [.int 159, .int v1], (q_kM r1582 c n))) 2 (fun _ _ => rfl) ?_
    cases h1601 : decide (v1 = 159) with
    | true =>
      refine q_RP_cT ?_
      refine q_RP_rsF (g2 := (62, [(0, .ref 64), (1, .int v1), (2, .int v2)], [], (q_kM r1582 c n))) rfl rfl (q_d_neT h1601) ?_
      refine q_RP_seg (g2 := (65, [(0, .ref 64), (1, .int v1), (2, .int v2)], [.int 41, .ref 64], (q_kM r1582 c n))) 2 (fun _ _ => rfl) ?_
      refine q_RP_bd fun r1583 er1583 => ?_
      refine q_RP_call (v := none) (h2 := (q_kM r1583 c n)) rfl rfl ((dzt_M280_64 r1582 c n 41 r1583 er1583).le (Nat.le_of_ble_eq_true rfl)) ?_
      show q_RP _ _ _ (68, [(0, .ref 64), (1, .int v1), (2, .int v2)], [], (q_kM r1583 c n)) _ _
      exact q_RP_ret rfl rfl rfl
    | false =>
      refine q_RP_cF ?_
      refine q_RP_rsT (g2 := (68, [(0, .ref 64), (1, .int v1), (2, .int v2)], [], (q_kM r1582 c n))) rfl rfl (q_d_neF h1601) ?_
      exact q_RP_ret rfl rfl rfl
def dz_M284_64 (s : q_S) (a1 : Int32) (a2 : Int32) : Option (q_S) :=
  q_let (dz_M246 s a1) fun r1574 => cond (decide (r1574 = 1)) (some s) ((dz_M280_64 s 32).bind fun r1575 => cond (decide (a1 = 159)) ((dz_M280_64 r1575 40).bind fun r1576 => dz_M284_64_28 r1576 a1 a2) (dz_M284_64_28 r1575 a1 a2))
set_option maxHeartbeats 4000000 in
theorem dzt_M284_64 (s : q_S) (c n : Nat) (a1 : Int32) (a2 : Int32) (x : q_S) (h : dz_M284_64 s a1 a2 = some x) : q_Ca q_TB0 17 283 [.ref 64, .int a1, .int a2] (q_kM s c n) ((q_oSM c n) x) := by
  refine q_CaP_of (φ := (q_oSM c n)) (Nat.le_of_ble_eq_true rfl) ?_ h
  clear h
  unfold dz_M284_64
  refine q_RP_seg (g2 := (1, [(0, .ref 64), (1, .int a1), (2, .int a2)], [.int a1], (q_kM s c n))) 1 (fun _ _ => rfl) ?_
  refine q_RP_call (v := (some (.int (dz_M246 s a1)))) (h2 := (q_kM s c n)) rfl rfl ((dzt_M246 s c n a1).le (Nat.le_of_ble_eq_true rfl)) ?_
  generalize dz_M246 s a1 = r1574
  refine q_RP_let ?_
  show q_RP _ _ _ (4, [(0, .ref 64), (1, .int a1), (2, .int a2)], [.int r1574], (q_kM s c n)) _ _
  refine q_RP_seg (g2 := (5, [(0, .ref 64), (1, .int a1), (2, .int a2)], [.int 1, .int r1574], (q_kM s c n))) 1 (fun _ _ => rfl) ?_
  cases h1597 : decide (r1574 = 1) with
  | true =>
    refine q_RP_cT ?_
    refine q_RP_rsF (g2 := (8, [(0, .ref 64), (1, .int a1), (2, .int a2)], [], (q_kM s c n))) rfl rfl (q_d_neT h1597) ?_
    exact q_RP_ret rfl rfl rfl
  | false =>
    refine q_RP_cF ?_
    refine q_RP_rsT (g2 := (9, [(0, .ref 64), (1, .int a1), (2, .int a2)], [], (q_kM s c n))) rfl rfl (q_d_neF h1597) ?_
    refine q_RP_seg (g2 := (12, [(0, .ref 64), (1, .int a1), (2, .int a2)], [.int 32, .ref 64], (q_kM s c n))) 2 (fun _ _ => rfl) ?_
    refine q_RP_bd fun r1575 er1575 => ?_
    refine q_RP_call (v := none) (h2 := (q_kM r1575 c n)) rfl rfl ((dzt_M280_64 s c n 32 r1575 er1575).le (Nat.le_of_ble_eq_true rfl)) ?_
    show q_RP _ _ _ (15, [(0, .ref 64), (1, .int a1), (2, .int a2)], [], (q_kM r1575 c n)) _ _
    refine q_RP_seg (g2 := (19, [(0, .ref 64), (1, .int a1), (2, .int a2)], [.int 159, .int a1], (q_kM r1575 c n))) 2 (fun _ _ => rfl) ?_
    cases h1598 : decide (a1 = 159) with
    | true =>
      refine q_RP_cT ?_
      refine q_RP_rsF (g2 := (22, [(0, .ref 64), (1, .int a1), (2, .int a2)], [], (q_kM r1575 c n))) rfl rfl (q_d_neT h1598) ?_
      refine q_RP_seg (g2 := (25, [(0, .ref 64), (1, .int a1), (2, .int a2)], [.int 40, .ref 64], (q_kM r1575 c n))) 2 (fun _ _ => rfl) ?_
      refine q_RP_bd fun r1576 er1576 => ?_
      refine q_RP_call (v := none) (h2 := (q_kM r1576 c n)) rfl rfl ((dzt_M280_64 r1575 c n 40 r1576 er1576).le (Nat.le_of_ble_eq_true rfl)) ?_
      show q_RP _ _ _ (28, [(0, .ref 64), (1, .int a1), (2, .int a2)], [], (q_kM r1576 c n)) _ _
      exact (dzt_M284_64_28 c n r1576 a1 a2)
    | false =>
      refine q_RP_cF ?_
      refine q_RP_rsT (g2 := (28, [(0, .ref 64), (1, .int a1), (2, .int a2)], [], (q_kM r1575 c n))) rfl rfl (q_d_neF h1598) ?_
      exact (dzt_M284_64_28 c n r1575 a1 a2)
def dz_M285 (s : q_S) (a0 : Int32) : Bool :=
  q_let (dz_M244 s a0) fun r1584 => cond (decide (r1584 < 0)) (q_let (dz_M202 s a0 128 167) fun r1585 => cond r1585 (false) (true)) (false)
set_option maxHeartbeats 4000000 in
theorem dzt_M285 (s : q_S) (c n : Nat) (a0 : Int32) : q_Ca q_TB0 3 284 [.int a0] (q_kM s c n) ((q_oB (q_kM s c n)) (dz_M285 s a0)) := by
  refine q_CaT_of (φ := (q_oB (q_kM s c n))) (Nat.le_of_ble_eq_true rfl) ?_
  unfold dz_M285
  refine q_RT_seg (g2 := (1, [(0, .int a0)], [.int a0], (q_kM s c n))) 1 (fun _ _ => rfl) ?_
  refine q_RT_call (v := (some (.int (dz_M244 s a0)))) (h2 := (q_kM s c n)) rfl rfl ((dzt_M244 s c n a0).le (Nat.le_of_ble_eq_true rfl)) ?_
  generalize dz_M244 s a0 = r1584
  refine q_RT_let ?_
  show q_RT _ _ _ (4, [(0, .int a0)], [.int r1584], (q_kM s c n)) _ _
  cases h1602 : decide (r1584 < 0) with
  | true =>
    refine q_RT_cT ?_
    refine q_RT_rsF (g2 := (7, [(0, .int a0)], [], (q_kM s c n))) rfl rfl (q_d_geT h1602) ?_
    refine q_RT_seg (g2 := (14, [(0, .int a0)], [.int 167, .int 128, .int a0], (q_kM s c n))) 3 (fun _ _ => rfl) ?_
    refine q_RT_call (v := (some (.int (q_b (dz_M202 s a0 128 167))))) (h2 := (q_kM s c n)) rfl rfl ((dzt_M202 s c n a0 128 167).le (Nat.le_of_ble_eq_true rfl)) ?_
    generalize dz_M202 s a0 128 167 = r1585
    refine q_RT_let ?_
    show q_RT _ _ _ (17, [(0, .int a0)], [.int (q_b r1585)], (q_kM s c n)) _ _
    cases h1603 : r1585 with
    | true =>
      refine q_RT_cT ?_
      show q_RT _ _ _ (17, [(0, .int a0)], [.int 1], (q_kM s c n)) _ _
      refine q_RT_seg (g2 := (25, [(0, .int a0)], [.int 0], (q_kM s c n))) 2 (fun _ _ => rfl) ?_
      exact q_RT_ret rfl rfl rfl
    | false =>
      refine q_RT_cF ?_
      show q_RT _ _ _ (17, [(0, .int a0)], [.int 0], (q_kM s c n)) _ _
      refine q_RT_seg (g2 := (25, [(0, .int a0)], [.int 1], (q_kM s c n))) 3 (fun _ _ => rfl) ?_
      exact q_RT_ret rfl rfl rfl
  | false =>
    refine q_RT_cF ?_
    refine q_RT_rsT (g2 := (24, [(0, .int a0)], [], (q_kM s c n))) rfl rfl (q_d_geF h1602) ?_
    refine q_RT_seg (g2 := (25, [(0, .int a0)], [.int 0], (q_kM s c n))) 1 (fun _ _ => rfl) ?_
    exact q_RT_ret rfl rfl rfl
def dz_M286_64 (s : q_S) (a1 : Int32) : Option (q_S × Int32) :=
  q_let (dz_M204 s a1) fun r1589 => cond r1589 (q_let (dz_M200_64 s 1) fun r1590 => cond r1590.2 (some (r1590.1, 0)) ((dz_M247_64 r1590.1 a1).bind fun r1591 => (dz_M281_64 (q_sI r1591.1 0 35 0) a1).bind fun r1592 => (dz_M280_64 r1592 32).bind fun r1593 => q_let (dz_M285 r1593 r1591.2) fun r1594 => cond r1594 ((dz_M280_64 r1593 106).bind fun r1595 => (dz_M280_64 r1595 97).bind fun r1596 => (dz_M280_64 r1596 109).bind fun r1597 => some (r1597, (r1597.2.1 0 35))) ((dz_M282_64 r1593 r1591.2).bind fun r1598 => q_let (dz_M244 r1598 r1591.2) fun r1599 => cond (decide (r1599 < 0)) ((dz_M284_64 r1598 r1591.2 a1).bind fun r1600 => some (r1600, (r1600.2.1 0 35))) ((dz_M283_64 r1598 (r1591.2 - r1591.2 / 8 * 8) a1).bind fun r1601 => some (r1601, (r1601.2.1 0 35)))))) (q_let (dz_M200_64 s 0) fun r1602 => cond r1602.2 (some (r1602.1, 0)) ((dz_M247_64 r1602.1 a1).bind fun r1603 => (dz_M281_64 (q_sI r1603.1 0 35 0) a1).bind fun r1604 => (dz_M280_64 r1604 32).bind fun r1605 => q_let (dz_M285 r1605 r1603.2) fun r1606 => cond r1606 ((dz_M280_64 r1605 106).bind fun r1607 => (dz_M280_64 r1607 97).bind fun r1608 => (dz_M280_64 r1608 109).bind fun r1609 => some (r1609, (r1609.2.1 0 35))) ((dz_M282_64 r1605 r1603.2).bind fun r1610 => q_let (dz_M244 r1610 r1603.2) fun r1611 => cond (decide (r1611 < 0)) ((dz_M284_64 r1610 r1603.2 a1).bind fun r1612 => some (r1612, (r1612.2.1 0 35))) ((dz_M283_64 r1610 (r1603.2 - r1603.2 / 8 * 8) a1).bind fun r1613 => some (r1613, (r1613.2.1 0 35))))))
set_option maxHeartbeats 4000000 in
theorem dzt_M286_64 (s : q_S) (c n : Nat) (a1 : Int32) (x : q_S × Int32) (h : dz_M286_64 s a1 = some x) : q_Ca q_TB0 18 285 [.ref 64, .int a1] (q_kM s c n) ((q_oIM c n) x) := by
  refine q_CaP_of (φ := (q_oIM c n)) (Nat.le_of_ble_eq_true rfl) ?_ h
  clear h
  unfold dz_M286_64
  refine q_RP_seg (g2 := (2, [(0, .ref 64), (1, .int a1)], [.int a1, .ref 64], (q_kM s c n))) 2 (fun _ _ => rfl) ?_
  refine q_RP_call (v := (some (.int (q_b (dz_M204 s a1))))) (h2 := (q_kM s c n)) rfl rfl ((dzt_M204 s c n a1).le (Nat.le_of_ble_eq_true rfl)) ?_
  generalize dz_M204 s a1 = r1589
  refine q_RP_let ?_
  show q_RP _ _ _ (5, [(0, .ref 64), (1, .int a1)], [.int (q_b r1589), .ref 64], (q_kM s c n)) _ _
  cases h1606 : r1589 with
  | true =>
    refine q_RP_cT ?_
    show q_RP _ _ _ (5, [(0, .ref 64), (1, .int a1)], [.int 1, .ref 64], (q_kM s c n)) _ _
    refine q_RP_seg (g2 := (13, [(0, .ref 64), (1, .int a1)], [.int 1, .ref 64], (q_kM s c n))) 3 (fun _ _ => rfl) ?_
    refine q_RP_call (v := (some (.int (q_b (dz_M200_64 s 1).2)))) (h2 := (q_kM (dz_M200_64 s 1).1 c n)) rfl rfl ((dzt_M200_64 s c n 1).le (Nat.le_of_ble_eq_true rfl)) ?_
    generalize dz_M200_64 s 1 = r1590
    refine q_RP_let ?_
    show q_RP _ _ _ (16, [(0, .ref 64), (1, .int a1)], [.int (q_b r1590.2)], (q_kM r1590.1 c n)) _ _
    cases h1607 : r1590.2 with
    | true =>
      refine q_RP_cT ?_
      show q_RP _ _ _ (16, [(0, .ref 64), (1, .int a1)], [.int 1], (q_kM r1590.1 c n)) _ _
      refine q_RP_seg (g2 := (20, [(0, .ref 64), (1, .int a1)], [.int 0], (q_kM r1590.1 c n))) 2 (fun _ _ => rfl) ?_
      exact q_RP_ret rfl rfl rfl
    | false =>
      refine q_RP_cF ?_
      show q_RP _ _ _ (16, [(0, .ref 64), (1, .int a1)], [.int 0], (q_kM r1590.1 c n)) _ _
      refine q_RP_seg (g2 := (23, [(0, .ref 64), (1, .int a1)], [.int a1, .ref 64], (q_kM r1590.1 c n))) 3 (fun _ _ => rfl) ?_
      refine q_RP_bd fun r1591 er1591 => ?_
      refine q_RP_call (v := (some (.int r1591.2))) (h2 := (q_kM r1591.1 c n)) rfl rfl ((dzt_M247_64 r1590.1 c n a1 r1591 er1591).le (Nat.le_of_ble_eq_true rfl)) ?_
      show q_RP _ _ _ (26, [(0, .ref 64), (1, .int a1)], [.int r1591.2], (q_kM r1591.1 c n)) _ _
      refine q_RP_seg (g2 := (34, [(2, .int r1591.2), (0, .ref 64), (1, .int a1)], [.int a1, .ref 64], (q_kM (q_sI r1591.1 0 35 0) c n))) 6 (fun _ _ => rfl) ?_
      refine q_RP_bd fun r1592 er1592 => ?_
      refine q_RP_call (v := none) (h2 := (q_kM r1592 c n)) rfl rfl ((dzt_M281_64 (q_sI r1591.1 0 35 0) c n a1 r1592 er1592).le (Nat.le_of_ble_eq_true rfl)) ?_
      show q_RP _ _ _ (37, [(2, .int r1591.2), (0, .ref 64), (1, .int a1)], [], (q_kM r1592 c n)) _ _
      refine q_RP_seg (g2 := (40, [(2, .int r1591.2), (0, .ref 64), (1, .int a1)], [.int 32, .ref 64], (q_kM r1592 c n))) 2 (fun _ _ => rfl) ?_
      refine q_RP_bd fun r1593 er1593 => ?_
      refine q_RP_call (v := none) (h2 := (q_kM r1593 c n)) rfl rfl ((dzt_M280_64 r1592 c n 32 r1593 er1593).le (Nat.le_of_ble_eq_true rfl)) ?_
      show q_RP _ _ _ (43, [(2, .int r1591.2), (0, .ref 64), (1, .int a1)], [], (q_kM r1593 c n)) _ _
      refine q_RP_seg (g2 := (44, [(2, .int r1591.2), (0, .ref 64), (1, .int a1)], [.int r1591.2], (q_kM r1593 c n))) 1 (fun _ _ => rfl) ?_
      refine q_RP_call (v := (some (.int (q_b (dz_M285 r1593 r1591.2))))) (h2 := (q_kM r1593 c n)) rfl rfl ((dzt_M285 r1593 c n r1591.2).le (Nat.le_of_ble_eq_true rfl)) ?_
      generalize dz_M285 r1593 r1591.2 = r1594
      refine q_RP_let ?_
      show q_RP _ _ _ (47, [(2, .int r1591.2), (0, .ref 64), (1, .int a1)], [.int (q_b r1594)], (q_kM r1593 c n)) _ _
      cases h1608 : r1594 with
      | true =>
        refine q_RP_cT ?_
        show q_RP _ _ _ (47, [(2, .int r1591.2), (0, .ref 64), (1, .int a1)], [.int 1], (q_kM r1593 c n)) _ _
        refine q_RP_seg (g2 := (53, [(2, .int r1591.2), (0, .ref 64), (1, .int a1)], [.int 106, .ref 64], (q_kM r1593 c n))) 3 (fun _ _ => rfl) ?_
        refine q_RP_bd fun r1595 er1595 => ?_
        refine q_RP_call (v := none) (h2 := (q_kM r1595 c n)) rfl rfl ((dzt_M280_64 r1593 c n 106 r1595 er1595).le (Nat.le_of_ble_eq_true rfl)) ?_
        show q_RP _ _ _ (56, [(2, .int r1591.2), (0, .ref 64), (1, .int a1)], [], (q_kM r1595 c n)) _ _
        refine q_RP_seg (g2 := (59, [(2, .int r1591.2), (0, .ref 64), (1, .int a1)], [.int 97, .ref 64], (q_kM r1595 c n))) 2 (fun _ _ => rfl) ?_
        refine q_RP_bd fun r1596 er1596 => ?_
        refine q_RP_call (v := none) (h2 := (q_kM r1596 c n)) rfl rfl ((dzt_M280_64 r1595 c n 97 r1596 er1596).le (Nat.le_of_ble_eq_true rfl)) ?_
        show q_RP _ _ _ (62, [(2, .int r1591.2), (0, .ref 64), (1, .int a1)], [], (q_kM r1596 c n)) _ _
        refine q_RP_seg (g2 := (65, [(2, .int r1591.2), (0, .ref 64), (1, .int a1)], [.int 109, .ref 64], (q_kM r1596 c n))) 2 (fun _ _ => rfl) ?_
        refine q_RP_bd fun r1597 er1597 => ?_
        refine q_RP_call (v := none) (h2 := (q_kM r1597 c n)) rfl rfl ((dzt_M280_64 r1596 c n 109 r1597 er1597).le (Nat.le_of_ble_eq_true rfl)) ?_
        show q_RP _ _ _ (68, [(2, .int r1591.2), (0, .ref 64), (1, .int a1)], [], (q_kM r1597 c n)) _ _
        refine q_RP_seg (g2 := (72, [(2, .int r1591.2), (0, .ref 64), (1, .int a1)], [.int (r1597.2.1 0 35)], (q_kM r1597 c n))) 2 (fun _ _ => rfl) ?_
        exact q_RP_ret rfl rfl rfl
      | false =>
        refine q_RP_cF ?_
        show q_RP _ _ _ (47, [(2, .int r1591.2), (0, .ref 64), (1, .int a1)], [.int 0], (q_kM r1593 c n)) _ _
        refine q_RP_seg (g2 := (75, [(2, .int r1591.2), (0, .ref 64), (1, .int a1)], [.int r1591.2, .ref 64], (q_kM r1593 c n))) 3 (fun _ _ => rfl) ?_
        refine q_RP_bd fun r1598 er1598 => ?_
        refine q_RP_call (v := none) (h2 := (q_kM r1598 c n)) rfl rfl ((dzt_M282_64 r1593 c n r1591.2 r1598 er1598).le (Nat.le_of_ble_eq_true rfl)) ?_
        show q_RP _ _ _ (78, [(2, .int r1591.2), (0, .ref 64), (1, .int a1)], [], (q_kM r1598 c n)) _ _
        refine q_RP_seg (g2 := (79, [(2, .int r1591.2), (0, .ref 64), (1, .int a1)], [.int r1591.2], (q_kM r1598 c n))) 1 (fun _ _ => rfl) ?_
        refine q_RP_call (v := (some (.int (dz_M244 r1598 r1591.2)))) (h2 := (q_kM r1598 c n)) rfl rfl ((dzt_M244 r1598 c n r1591.2).le (Nat.le_of_ble_eq_true rfl)) ?_
        generalize dz_M244 r1598 r1591.2 = r1599
        refine q_RP_let ?_
        show q_RP _ _ _ (82, [(2, .int r1591.2), (0, .ref 64), (1, .int a1)], [.int r1599], (q_kM r1598 c n)) _ _
        cases h1609 : decide (r1599 < 0) with
        | true =>
          refine q_RP_cT ?_
          refine q_RP_rsT (g2 := (97, [(2, .int r1591.2), (0, .ref 64), (1, .int a1)], [], (q_kM r1598 c n))) rfl rfl h1609 ?_
          refine q_RP_seg (g2 := (100, [(2, .int r1591.2), (0, .ref 64), (1, .int a1)], [.int a1, .int r1591.2, .ref 64], (q_kM r1598 c n))) 3 (fun _ _ => rfl) ?_
          refine q_RP_bd fun r1600 er1600 => ?_
          refine q_RP_call (v := none) (h2 := (q_kM r1600 c n)) rfl rfl ((dzt_M284_64 r1598 c n r1591.2 a1 r1600 er1600).le (Nat.le_of_ble_eq_true rfl)) ?_
          show q_RP _ _ _ (103, [(2, .int r1591.2), (0, .ref 64), (1, .int a1)], [], (q_kM r1600 c n)) _ _
          refine q_RP_seg (g2 := (107, [(2, .int r1591.2), (0, .ref 64), (1, .int a1)], [.int (r1600.2.1 0 35)], (q_kM r1600 c n))) 2 (fun _ _ => rfl) ?_
          exact q_RP_ret rfl rfl rfl
        | false =>
          refine q_RP_cF ?_
          refine q_RP_rsF (g2 := (85, [(2, .int r1591.2), (0, .ref 64), (1, .int a1)], [], (q_kM r1598 c n))) rfl rfl h1609 ?_
          refine q_RP_seg (g2 := (91, [(2, .int r1591.2), (0, .ref 64), (1, .int a1)], [.int a1, .int (r1591.2 - r1591.2 / 8 * 8), .ref 64], (q_kM r1598 c n))) 5 (fun _ _ => rfl) ?_
          refine q_RP_bd fun r1601 er1601 => ?_
          refine q_RP_call (v := none) (h2 := (q_kM r1601 c n)) rfl rfl ((dzt_M283_64 r1598 c n (r1591.2 - r1591.2 / 8 * 8) a1 r1601 er1601).le (Nat.le_of_ble_eq_true rfl)) ?_
          show q_RP _ _ _ (94, [(2, .int r1591.2), (0, .ref 64), (1, .int a1)], [], (q_kM r1601 c n)) _ _
          refine q_RP_seg (g2 := (107, [(2, .int r1591.2), (0, .ref 64), (1, .int a1)], [.int (r1601.2.1 0 35)], (q_kM r1601 c n))) 3 (fun _ _ => rfl) ?_
          exact q_RP_ret rfl rfl rfl
  | false =>
    refine q_RP_cF ?_
    show q_RP _ _ _ (5, [(0, .ref 64), (1, .int a1)], [.int 0, .ref 64], (q_kM s c n)) _ _
    refine q_RP_seg (g2 := (13, [(0, .ref 64), (1, .int a1)], [.int 0, .ref 64], (q_kM s c n))) 2 (fun _ _ => rfl) ?_
    refine q_RP_call (v := (some (.int (q_b (dz_M200_64 s 0).2)))) (h2 := (q_kM (dz_M200_64 s 0).1 c n)) rfl rfl ((dzt_M200_64 s c n 0).le (Nat.le_of_ble_eq_true rfl)) ?_
    generalize dz_M200_64 s 0 = r1602
    refine q_RP_let ?_
    show q_RP _ _ _ (16, [(0, .ref 64), (1, .int a1)], [.int (q_b r1602.2)], (q_kM r1602.1 c n)) _ _
    cases h1610 : r1602.2 with
    | true =>
      refine q_RP_cT ?_
      show q_RP _ _ _ (16, [(0, .ref 64), (1, .int a1)], [.int 1], (q_kM r1602.1 c n)) _ _
      refine q_RP_seg (g2 := (20, [(0, .ref 64), (1, .int a1)], [.int 0], (q_kM r1602.1 c n))) 2 (fun _ _ => rfl) ?_
      exact q_RP_ret rfl rfl rfl
    | false =>
      refine q_RP_cF ?_
      show q_RP _ _ _ (16, [(0, .ref 64), (1, .int a1)], [.int 0], (q_kM r1602.1 c n)) _ _
      refine q_RP_seg (g2 := (23, [(0, .ref 64), (1, .int a1)], [.int a1, .ref 64], (q_kM r1602.1 c n))) 3 (fun _ _ => rfl) ?_
      refine q_RP_bd fun r1603 er1603 => ?_
      refine q_RP_call (v := (some (.int r1603.2))) (h2 := (q_kM r1603.1 c n)) rfl rfl ((dzt_M247_64 r1602.1 c n a1 r1603 er1603).le (Nat.le_of_ble_eq_true rfl)) ?_
      show q_RP _ _ _ (26, [(0, .ref 64), (1, .int a1)], [.int r1603.2], (q_kM r1603.1 c n)) _ _
      refine q_RP_seg (g2 := (34, [(2, .int r1603.2), (0, .ref 64), (1, .int a1)], [.int a1, .ref 64], (q_kM (q_sI r1603.1 0 35 0) c n))) 6 (fun _ _ => rfl) ?_
      refine q_RP_bd fun r1604 er1604 => ?_
      refine q_RP_call (v := none) (h2 := (q_kM r1604 c n)) rfl rfl ((dzt_M281_64 (q_sI r1603.1 0 35 0) c n a1 r1604 er1604).le (Nat.le_of_ble_eq_true rfl)) ?_
      show q_RP _ _ _ (37, [(2, .int r1603.2), (0, .ref 64), (1, .int a1)], [], (q_kM r1604 c n)) _ _
      refine q_RP_seg (g2 := (40, [(2, .int r1603.2), (0, .ref 64), (1, .int a1)], [.int 32, .ref 64], (q_kM r1604 c n))) 2 (fun _ _ => rfl) ?_
      refine q_RP_bd fun r1605 er1605 => ?_
      refine q_RP_call (v := none) (h2 := (q_kM r1605 c n)) rfl rfl ((dzt_M280_64 r1604 c n 32 r1605 er1605).le (Nat.le_of_ble_eq_true rfl)) ?_
      show q_RP _ _ _ (43, [(2, .int r1603.2), (0, .ref 64), (1, .int a1)], [], (q_kM r1605 c n)) _ _
      refine q_RP_seg (g2 := (44, [(2, .int r1603.2), (0, .ref 64), (1, .int a1)], [.int r1603.2], (q_kM r1605 c n))) 1 (fun _ _ => rfl) ?_
      refine q_RP_call (v := (some (.int (q_b (dz_M285 r1605 r1603.2))))) (h2 := (q_kM r1605 c n)) rfl rfl ((dzt_M285 r1605 c n r1603.2).le (Nat.le_of_ble_eq_true rfl)) ?_
      generalize dz_M285 r1605 r1603.2 = r1606
      refine q_RP_let ?_
      show q_RP _ _ _ (47, [(2, .int r1603.2), (0, .ref 64), (1, .int a1)], [.int (q_b r1606)], (q_kM r1605 c n)) _ _
      cases h1611 : r1606 with
      | true =>
        refine q_RP_cT ?_
        show q_RP _ _ _ (47, [(2, .int r1603.2), (0, .ref 64), (1, .int a1)], [.int 1], (q_kM r1605 c n)) _ _
        refine q_RP_seg (g2 := (53, [(2, .int r1603.2), (0, .ref 64), (1, .int a1)], [.int 106, .ref 64], (q_kM r1605 c n))) 3 (fun _ _ => rfl) ?_
        refine q_RP_bd fun r1607 er1607 => ?_
        refine q_RP_call (v := none) (h2 := (q_kM r1607 c n)) rfl rfl ((dzt_M280_64 r1605 c n 106 r1607 er1607).le (Nat.le_of_ble_eq_true rfl)) ?_
        show q_RP _ _ _ (56, [(2, .int r1603.2), (0, .ref 64), (1, .int a1)], [], (q_kM r1607 c n)) _ _
        refine q_RP_seg (g2 := (59, [(2, .int r1603.2), (0, .ref 64), (1, .int a1)], [.int 97, .ref 64], (q_kM r1607 c n))) 2 (fun _ _ => rfl) ?_
        refine q_RP_bd fun r1608 er1608 => ?_
        refine q_RP_call (v := none) (h2 := (q_kM r1608 c n)) rfl rfl ((dzt_M280_64 r1607 c n 97 r1608 er1608).le (Nat.le_of_ble_eq_true rfl)) ?_
        show q_RP _ _ _ (62, [(2, .int r1603.2), (0, .ref 64), (1, .int a1)], [], (q_kM r1608 c n)) _ _
        refine q_RP_seg (g2 := (65, [(2, .int r1603.2), (0, .ref 64), (1, .int a1)], [.int 109, .ref 64], (q_kM r1608 c n))) 2 (fun _ _ => rfl) ?_
        refine q_RP_bd fun r1609 er1609 => ?_
        refine q_RP_call (v := none) (h2 := (q_kM r1609 c n)) rfl rfl ((dzt_M280_64 r1608 c n 109 r1609 er1609).le (Nat.le_of_ble_eq_true rfl)) ?_
        show q_RP _ _ _ (68, [(2, .int r1603.2), (0, .ref 64), (1, .int a1)], [], (q_kM r1609 c n)) _ _
        refine q_RP_seg (g2 := (72, [(2, .int r1603.2), (0, .ref 64), (1, .int a1)], [.int (r1609.2.1 0 35)], (q_kM r1609 c n))) 2 (fun _ _ => rfl) ?_
        exact q_RP_ret rfl rfl rfl
      | false =>
        refine q_RP_cF ?_
        show q_RP _ _ _ (47, [(2, .int r1603.2), (0, .ref 64), (1, .int a1)], [.int 0], (q_kM r1605 c n)) _ _
        refine q_RP_seg (g2 := (75, [(2, .int r1603.2), (0, .ref 64), (1, .int a1)], [.int r1603.2, .ref 64], (q_kM r1605 c n))) 3 (fun _ _ => rfl) ?_
        refine q_RP_bd fun r1610 er1610 => ?_
        refine q_RP_call (v := none) (h2 := (q_kM r1610 c n)) rfl rfl ((dzt_M282_64 r1605 c n r1603.2 r1610 er1610).le (Nat.le_of_ble_eq_true rfl)) ?_
        show q_RP _ _ _ (78, [(2, .int r1603.2), (0, .ref 64), (1, .int a1)], [], (q_kM r1610 c n)) _ _
        refine q_RP_seg (g2 := (79, [(2, .int r1603.2), (0, .ref 64), (1, .int a1)], [.int r1603.2], (q_kM r1610 c n))) 1 (fun _ _ => rfl) ?_
        refine q_RP_call (v := (some (.int (dz_M244 r1610 r1603.2)))) (h2 := (q_kM r1610 c n)) rfl rfl ((dzt_M244 r1610 c n r1603.2).le (Nat.le_of_ble_eq_true rfl)) ?_
        generalize dz_M244 r1610 r1603.2 = r1611
        refine q_RP_let ?_
        show q_RP _ _ _ (82, [(2, .int r1603.2), (0, .ref 64), (1, .int a1)], [.int r1611], (q_kM r1610 c n)) _ _
        cases h1612 : decide (r1611 < 0) with
        | true =>
          refine q_RP_cT ?_
          refine q_RP_rsT (g2 := (97, [(2, .int r1603.2), (0, .ref 64), (1, .int a1)], [], (q_kM r1610 c n))) rfl rfl h1612 ?_
          refine q_RP_seg (g2 := (100, [(2, .int r1603.2), (0, .ref 64), (1, .int a1)], [.int a1, .int r1603.2, .ref 64], (q_kM r1610 c n))) 3 (fun _ _ => rfl) ?_
          refine q_RP_bd fun r1612 er1612 => ?_
          refine q_RP_call (v := none) (h2 := (q_kM r1612 c n)) rfl rfl ((dzt_M284_64 r1610 c n r1603.2 a1 r1612 er1612).le (Nat.le_of_ble_eq_true rfl)) ?_
          show q_RP _ _ _ (103, [(2, .int r1603.2), (0, .ref 64), (1, .int a1)], [], (q_kM r1612 c n)) _ _
          refine q_RP_seg (g2 := (107, [(2, .int r1603.2), (0, .ref 64), (1, .int a1)], [.int (r1612.2.1 0 35)], (q_kM r1612 c n))) 2 (fun _ _ => rfl) ?_
          exact q_RP_ret rfl rfl rfl
        | false =>
          refine q_RP_cF ?_
          refine q_RP_rsF (g2 := (85, [(2, .int r1603.2), (0, .ref 64), (1, .int a1)], [], (q_kM r1610 c n))) rfl rfl h1612 ?_
          refine q_RP_seg (g2 := (91, [(2, .int r1603.2), (0, .ref 64), (1, .int a1)], [.int a1, .int (r1603.2 - r1603.2 / 8 * 8), .ref 64], (q_kM r1610 c n))) 5 (fun _ _ => rfl) ?_
          refine q_RP_bd fun r1613 er1613 => ?_
          refine q_RP_call (v := none) (h2 := (q_kM r1613 c n)) rfl rfl ((dzt_M283_64 r1610 c n (r1603.2 - r1603.2 / 8 * 8) a1 r1613 er1613).le (Nat.le_of_ble_eq_true rfl)) ?_
          show q_RP _ _ _ (94, [(2, .int r1603.2), (0, .ref 64), (1, .int a1)], [], (q_kM r1613 c n)) _ _
          refine q_RP_seg (g2 := (107, [(2, .int r1603.2), (0, .ref 64), (1, .int a1)], [.int (r1613.2.1 0 35)], (q_kM r1613 c n))) 3 (fun _ _ => rfl) ?_
          exact q_RP_ret rfl rfl rfl
def dz_M287_64 (s : q_S) (a1 : Int32) : Option (q_S × Int32) :=
  q_let (dz_M202 s a1 0 ((s.2.1 0 35) - 1)) fun r1616 => cond r1616 (q_let (dz_M200_64 s 0) fun r1617 => cond r1617.2 (some (r1617.1, 32)) (cond (q_in a1 40) (cond (decide (vp_nar .char ((r1617.1.1 32) (a1.toNatClampNeg)) = (r1617.1.1 32) (a1.toNatClampNeg))) (some (r1617.1, ((r1617.1.1 32) (a1.toNatClampNeg)))) none) none)) (q_let (dz_M200_64 s 1) fun r1618 => cond r1618.2 (some (r1618.1, 32)) (cond (q_in a1 40) (cond (decide (vp_nar .char ((r1618.1.1 32) (a1.toNatClampNeg)) = (r1618.1.1 32) (a1.toNatClampNeg))) (some (r1618.1, ((r1618.1.1 32) (a1.toNatClampNeg)))) none) none))
set_option maxHeartbeats 4000000 in
theorem dzt_M287_64 (s : q_S) (c n : Nat) (a1 : Int32) (x : q_S × Int32) (h : dz_M287_64 s a1 = some x) : q_Ca q_TB0 2 286 [.ref 64, .int a1] (q_kM s c n) ((q_oIM c n) x) := by
  refine q_CaP_of (φ := (q_oIM c n)) (Nat.le_of_ble_eq_true rfl) ?_ h
  clear h
  unfold dz_M287_64
  refine q_RP_seg (g2 := (7, [(0, .ref 64), (1, .int a1)], [.int (s.2.1 0 35), .int 0, .int a1, .ref 64], (q_kM s c n))) 5 (fun _ _ => rfl) ?_
  refine q_RP_seg (g2 := (9, [(0, .ref 64), (1, .int a1)], [.int ((s.2.1 0 35) - 1), .int 0, .int a1, .ref 64], (q_kM s c n))) 2 (fun _ _ => rfl) ?_
  refine q_RP_call (v := (some (.int (q_b (dz_M202 s a1 0 ((s.2.1 0 35) - 1)))))) (h2 := (q_kM s c n)) rfl rfl ((dzt_M202 s c n a1 0 ((s.2.1 0 35) - 1)).le (Nat.le_of_ble_eq_true rfl)) ?_
  generalize dz_M202 s a1 0 ((s.2.1 0 35) - 1) = r1616
  refine q_RP_let ?_
  show q_RP _ _ _ (12, [(0, .ref 64), (1, .int a1)], [.int (q_b r1616), .ref 64], (q_kM s c n)) _ _
  cases h1615 : r1616 with
  | true =>
    refine q_RP_cT ?_
    show q_RP _ _ _ (12, [(0, .ref 64), (1, .int a1)], [.int 1, .ref 64], (q_kM s c n)) _ _
    refine q_RP_seg (g2 := (20, [(0, .ref 64), (1, .int a1)], [.int 0, .ref 64], (q_kM s c n))) 3 (fun _ _ => rfl) ?_
    refine q_RP_call (v := (some (.int (q_b (dz_M200_64 s 0).2)))) (h2 := (q_kM (dz_M200_64 s 0).1 c n)) rfl rfl ((dzt_M200_64 s c n 0).le (Nat.le_of_ble_eq_true rfl)) ?_
    generalize dz_M200_64 s 0 = r1617
    refine q_RP_let ?_
    show q_RP _ _ _ (23, [(0, .ref 64), (1, .int a1)], [.int (q_b r1617.2)], (q_kM r1617.1 c n)) _ _
    cases h1616 : r1617.2 with
    | true =>
      refine q_RP_cT ?_
      show q_RP _ _ _ (23, [(0, .ref 64), (1, .int a1)], [.int 1], (q_kM r1617.1 c n)) _ _
      refine q_RP_seg (g2 := (37, [(0, .ref 64), (1, .int a1)], [.int 32], (q_kM r1617.1 c n))) 3 (fun _ _ => rfl) ?_
      exact q_RP_ret rfl rfl rfl
    | false =>
      refine q_RP_cF ?_
      show q_RP _ _ _ (23, [(0, .ref 64), (1, .int a1)], [.int 0], (q_kM r1617.1 c n)) _ _
      refine q_RP_seg (g2 := (36, [(0, .ref 64), (1, .int a1)], [.int a1, .ref 96], (q_kM r1617.1 c n))) 4 (fun _ _ => rfl) ?_
      refine q_RP_as fun i1617 => ?_
      refine q_RP_rsT (g2 := (37, [(0, .ref 64), (1, .int a1)], [.int ((r1617.1.1 32) (a1.toNatClampNeg))], (q_kM r1617.1 c n))) rfl rfl i1617 ?_
      refine q_RP_as fun i1618 => ?_
      exact q_RP_ret rfl (if_pos (of_decide_eq_true i1618)) rfl
  | false =>
    refine q_RP_cF ?_
    show q_RP _ _ _ (12, [(0, .ref 64), (1, .int a1)], [.int 0, .ref 64], (q_kM s c n)) _ _
    refine q_RP_seg (g2 := (20, [(0, .ref 64), (1, .int a1)], [.int 1, .ref 64], (q_kM s c n))) 2 (fun _ _ => rfl) ?_
    refine q_RP_call (v := (some (.int (q_b (dz_M200_64 s 1).2)))) (h2 := (q_kM (dz_M200_64 s 1).1 c n)) rfl rfl ((dzt_M200_64 s c n 1).le (Nat.le_of_ble_eq_true rfl)) ?_
    generalize dz_M200_64 s 1 = r1618
    refine q_RP_let ?_
    show q_RP _ _ _ (23, [(0, .ref 64), (1, .int a1)], [.int (q_b r1618.2)], (q_kM r1618.1 c n)) _ _
    cases h1619 : r1618.2 with
    | true =>
      refine q_RP_cT ?_
      show q_RP _ _ _ (23, [(0, .ref 64), (1, .int a1)], [.int 1], (q_kM r1618.1 c n)) _ _
      refine q_RP_seg (g2 := (37, [(0, .ref 64), (1, .int a1)], [.int 32], (q_kM r1618.1 c n))) 3 (fun _ _ => rfl) ?_
      exact q_RP_ret rfl rfl rfl
    | false =>
      refine q_RP_cF ?_
      show q_RP _ _ _ (23, [(0, .ref 64), (1, .int a1)], [.int 0], (q_kM r1618.1 c n)) _ _
      refine q_RP_seg (g2 := (36, [(0, .ref 64), (1, .int a1)], [.int a1, .ref 96], (q_kM r1618.1 c n))) 4 (fun _ _ => rfl) ?_
      refine q_RP_as fun i1620 => ?_
      refine q_RP_rsT (g2 := (37, [(0, .ref 64), (1, .int a1)], [.int ((r1618.1.1 32) (a1.toNatClampNeg))], (q_kM r1618.1 c n))) rfl rfl i1620 ?_
      refine q_RP_as fun i1621 => ?_
      exact q_RP_ret rfl (if_pos (of_decide_eq_true i1621)) rfl
def dz_M288_64 (s : q_S) (a1 : Int32) : Option (q_S × Int32) :=
  q_let (dz_M202 s a1 0 4) fun r1621 => cond r1621 (q_let (dz_M200_64 s 0) fun r1622 => cond r1622.2 (some (r1622.1, 0)) (cond (q_in a1 24) (some (r1622.1, ((r1622.1.1 14) (a1.toNatClampNeg)))) none)) (q_let (dz_M200_64 s 1) fun r1623 => cond r1623.2 (some (r1623.1, 0)) (cond (q_in a1 24) (some (r1623.1, ((r1623.1.1 14) (a1.toNatClampNeg)))) none))
set_option maxHeartbeats 4000000 in
theorem dzt_M288_64 (s : q_S) (c n : Nat) (a1 : Int32) (x : q_S × Int32) (h : dz_M288_64 s a1 = some x) : q_Ca q_TB0 2 287 [.ref 64, .int a1] (q_kM s c n) ((q_oIM c n) x) := by
  refine q_CaP_of (φ := (q_oIM c n)) (Nat.le_of_ble_eq_true rfl) ?_ h
  clear h
  unfold dz_M288_64
  refine q_RP_seg (g2 := (4, [(0, .ref 64), (1, .int a1)], [.int 4, .int 0, .int a1, .ref 64], (q_kM s c n))) 4 (fun _ _ => rfl) ?_
  refine q_RP_call (v := (some (.int (q_b (dz_M202 s a1 0 4))))) (h2 := (q_kM s c n)) rfl rfl ((dzt_M202 s c n a1 0 4).le (Nat.le_of_ble_eq_true rfl)) ?_
  generalize dz_M202 s a1 0 4 = r1621
  refine q_RP_let ?_
  show q_RP _ _ _ (7, [(0, .ref 64), (1, .int a1)], [.int (q_b r1621), .ref 64], (q_kM s c n)) _ _
  cases h1624 : r1621 with
  | true =>
    refine q_RP_cT ?_
    show q_RP _ _ _ (7, [(0, .ref 64), (1, .int a1)], [.int 1, .ref 64], (q_kM s c n)) _ _
    refine q_RP_seg (g2 := (15, [(0, .ref 64), (1, .int a1)], [.int 0, .ref 64], (q_kM s c n))) 3 (fun _ _ => rfl) ?_
    refine q_RP_call (v := (some (.int (q_b (dz_M200_64 s 0).2)))) (h2 := (q_kM (dz_M200_64 s 0).1 c n)) rfl rfl ((dzt_M200_64 s c n 0).le (Nat.le_of_ble_eq_true rfl)) ?_
    generalize dz_M200_64 s 0 = r1622
    refine q_RP_let ?_
    show q_RP _ _ _ (18, [(0, .ref 64), (1, .int a1)], [.int (q_b r1622.2)], (q_kM r1622.1 c n)) _ _
    cases h1625 : r1622.2 with
    | true =>
      refine q_RP_cT ?_
      show q_RP _ _ _ (18, [(0, .ref 64), (1, .int a1)], [.int 1], (q_kM r1622.1 c n)) _ _
      refine q_RP_seg (g2 := (31, [(0, .ref 64), (1, .int a1)], [.int 0], (q_kM r1622.1 c n))) 3 (fun _ _ => rfl) ?_
      exact q_RP_ret rfl rfl rfl
    | false =>
      refine q_RP_cF ?_
      show q_RP _ _ _ (18, [(0, .ref 64), (1, .int a1)], [.int 0], (q_kM r1622.1 c n)) _ _
      refine q_RP_seg (g2 := (30, [(0, .ref 64), (1, .int a1)], [.int a1, .ref 78], (q_kM r1622.1 c n))) 4 (fun _ _ => rfl) ?_
      refine q_RP_as fun i1626 => ?_
      refine q_RP_rsT (g2 := (31, [(0, .ref 64), (1, .int a1)], [.int ((r1622.1.1 14) (a1.toNatClampNeg))], (q_kM r1622.1 c n))) rfl rfl i1626 ?_
      exact q_RP_ret rfl rfl rfl
  | false =>
    refine q_RP_cF ?_
    show q_RP _ _ _ (7, [(0, .ref 64), (1, .int a1)], [.int 0, .ref 64], (q_kM s c n)) _ _
    refine q_RP_seg (g2 := (15, [(0, .ref 64), (1, .int a1)], [.int 1, .ref 64], (q_kM s c n))) 2 (fun _ _ => rfl) ?_
    refine q_RP_call (v := (some (.int (q_b (dz_M200_64 s 1).2)))) (h2 := (q_kM (dz_M200_64 s 1).1 c n)) rfl rfl ((dzt_M200_64 s c n 1).le (Nat.le_of_ble_eq_true rfl)) ?_
    generalize dz_M200_64 s 1 = r1623
    refine q_RP_let ?_
    show q_RP _ _ _ (18, [(0, .ref 64), (1, .int a1)], [.int (q_b r1623.2)], (q_kM r1623.1 c n)) _ _
    cases h1627 : r1623.2 with
    | true =>
      refine q_RP_cT ?_
      show q_RP _ _ _ (18, [(0, .ref 64), (1, .int a1)], [.int 1], (q_kM r1623.1 c n)) _ _
      refine q_RP_seg (g2 := (31, [(0, .ref 64), (1, .int a1)], [.int 0], (q_kM r1623.1 c n))) 3 (fun _ _ => rfl) ?_
      exact q_RP_ret rfl rfl rfl
    | false =>
      refine q_RP_cF ?_
      show q_RP _ _ _ (18, [(0, .ref 64), (1, .int a1)], [.int 0], (q_kM r1623.1 c n)) _ _
      refine q_RP_seg (g2 := (30, [(0, .ref 64), (1, .int a1)], [.int a1, .ref 78], (q_kM r1623.1 c n))) 4 (fun _ _ => rfl) ?_
      refine q_RP_as fun i1628 => ?_
      refine q_RP_rsT (g2 := (31, [(0, .ref 64), (1, .int a1)], [.int ((r1623.1.1 14) (a1.toNatClampNeg))], (q_kM r1623.1 c n))) rfl rfl i1628 ?_
      exact q_RP_ret rfl rfl rfl
def dz_M289_64 (s : q_S) (a1 : Int32) (a2 : Int32) : Option (q_S × Int32) :=
  q_let (dz_M202 s a1 0 4) fun r1627 => cond r1627 (cond (decide (a1 = 4)) (q_let (dz_M202 s a2 0 4095) fun r1628 => cond r1628 (cond (decide (0 < (s.1 14) 17)) (q_let (dz_M200_64 s 3) fun r1629 => cond r1629.2 (some (r1629.1, 0)) (cond (q_in a1 24) (q_let (dz_M205_64 (q_sA r1629.1 14 (upd (r1629.1.1 14) (a1.toNatClampNeg) a2))) fun r1630 => some (r1630, ((r1629.1.1 14) (a1.toNatClampNeg)))) none)) (q_let (dz_M200_64 s 0) fun r1631 => cond r1631.2 (some (r1631.1, 0)) (cond (q_in a1 24) (q_let (dz_M205_64 (q_sA r1631.1 14 (upd (r1631.1.1 14) (a1.toNatClampNeg) a2))) fun r1632 => some (r1632, ((r1631.1.1 14) (a1.toNatClampNeg)))) none))) (q_let (dz_M200_64 s 2) fun r1633 => cond r1633.2 (some (r1633.1, 0)) (cond (q_in a1 24) (q_let (dz_M205_64 (q_sA r1633.1 14 (upd (r1633.1.1 14) (a1.toNatClampNeg) a2))) fun r1634 => some (r1634, ((r1633.1.1 14) (a1.toNatClampNeg)))) none))) (q_let (dz_M202 s a2 0 255) fun r1635 => cond r1635 (cond (decide (0 < (s.1 14) 17)) (q_let (dz_M200_64 s 3) fun r1636 => cond r1636.2 (some (r1636.1, 0)) (cond (q_in a1 24) (q_let (dz_M205_64 (q_sA r1636.1 14 (upd (r1636.1.1 14) (a1.toNatClampNeg) a2))) fun r1637 => some (r1637, ((r1636.1.1 14) (a1.toNatClampNeg)))) none)) (q_let (dz_M200_64 s 0) fun r1638 => cond r1638.2 (some (r1638.1, 0)) (cond (q_in a1 24) (q_let (dz_M205_64 (q_sA r1638.1 14 (upd (r1638.1.1 14) (a1.toNatClampNeg) a2))) fun r1639 => some (r1639, ((r1638.1.1 14) (a1.toNatClampNeg)))) none))) (q_let (dz_M200_64 s 2) fun r1640 => cond r1640.2 (some (r1640.1, 0)) (cond (q_in a1 24) (q_let (dz_M205_64 (q_sA r1640.1 14 (upd (r1640.1.1 14) (a1.toNatClampNeg) a2))) fun r1641 => some (r1641, ((r1640.1.1 14) (a1.toNatClampNeg)))) none)))) (q_let (dz_M200_64 s 1) fun r1642 => cond r1642.2 (some (r1642.1, 0)) (cond (q_in a1 24) (q_let (dz_M205_64 (q_sA r1642.1 14 (upd (r1642.1.1 14) (a1.toNatClampNeg) a2))) fun r1643 => some (r1643, ((r1642.1.1 14) (a1.toNatClampNeg)))) none))
set_option maxHeartbeats 4000000 in
theorem dzt_M289_64 (s : q_S) (c n : Nat) (a1 : Int32) (a2 : Int32) (x : q_S × Int32) (h : dz_M289_64 s a1 a2 = some x) : q_Ca q_TB0 2 288 [.ref 64, .int a1, .int a2] (q_kM s c n) ((q_oIM c n) x) := by
  refine q_CaP_of (φ := (q_oIM c n)) (Nat.le_of_ble_eq_true rfl) ?_ h
  clear h
  unfold dz_M289_64
  refine q_RP_seg (g2 := (4, [(0, .ref 64), (1, .int a1), (2, .int a2)], [.int 4, .int 0, .int a1, .ref 64], (q_kM s c n))) 4 (fun _ _ => rfl) ?_
  refine q_RP_call (v := (some (.int (q_b (dz_M202 s a1 0 4))))) (h2 := (q_kM s c n)) rfl rfl ((dzt_M202 s c n a1 0 4).le (Nat.le_of_ble_eq_true rfl)) ?_
  generalize dz_M202 s a1 0 4 = r1627
  refine q_RP_let ?_
  show q_RP _ _ _ (7, [(0, .ref 64), (1, .int a1), (2, .int a2)], [.int (q_b r1627), .ref 64], (q_kM s c n)) _ _
  cases h1634 : r1627 with
  | true =>
    refine q_RP_cT ?_
    show q_RP _ _ _ (7, [(0, .ref 64), (1, .int a1), (2, .int a2)], [.int 1, .ref 64], (q_kM s c n)) _ _
    refine q_RP_seg (g2 := (18, [(0, .ref 64), (1, .int a1), (2, .int a2)], [.int 4, .int a1, .int 0, .int a2, .ref 64], (q_kM s c n))) 5 (fun _ _ => rfl) ?_
    cases h1635 : decide (a1 = 4) with
    | true =>
      refine q_RP_cT ?_
      refine q_RP_rsF (g2 := (21, [(0, .ref 64), (1, .int a1), (2, .int a2)], [.int 0, .int a2, .ref 64], (q_kM s c n))) rfl rfl (q_d_neT h1635) ?_
      refine q_RP_seg (g2 := (30, [(0, .ref 64), (1, .int a1), (2, .int a2)], [.int 4095, .int 0, .int a2, .ref 64], (q_kM s c n))) 2 (fun _ _ => rfl) ?_
      refine q_RP_call (v := (some (.int (q_b (dz_M202 s a2 0 4095))))) (h2 := (q_kM s c n)) rfl rfl ((dzt_M202 s c n a2 0 4095).le (Nat.le_of_ble_eq_true rfl)) ?_
      generalize dz_M202 s a2 0 4095 = r1628
      refine q_RP_let ?_
      show q_RP _ _ _ (33, [(0, .ref 64), (1, .int a1), (2, .int a2)], [.int (q_b r1628), .ref 64], (q_kM s c n)) _ _
      cases h1636 : r1628 with
      | true =>
        refine q_RP_cT ?_
        show q_RP _ _ _ (33, [(0, .ref 64), (1, .int a1), (2, .int a2)], [.int 1, .ref 64], (q_kM s c n)) _ _
        refine q_RP_seg (g2 := (47, [(0, .ref 64), (1, .int a1), (2, .int a2)], [.int ((s.1 14) 17), .ref 64], (q_kM s c n))) 5 (fun _ _ => rfl) ?_
        cases h1637 : decide (0 < (s.1 14) 17) with
        | true =>
          refine q_RP_cT ?_
          refine q_RP_rsF (g2 := (50, [(0, .ref 64), (1, .int a1), (2, .int a2)], [.ref 64], (q_kM s c n))) rfl rfl (q_d_geT h1637) ?_
          refine q_RP_seg (g2 := (55, [(0, .ref 64), (1, .int a1), (2, .int a2)], [.int 3, .ref 64], (q_kM s c n))) 2 (fun _ _ => rfl) ?_
          refine q_RP_call (v := (some (.int (q_b (dz_M200_64 s 3).2)))) (h2 := (q_kM (dz_M200_64 s 3).1 c n)) rfl rfl ((dzt_M200_64 s c n 3).le (Nat.le_of_ble_eq_true rfl)) ?_
          generalize dz_M200_64 s 3 = r1629
          refine q_RP_let ?_
          show q_RP _ _ _ (58, [(0, .ref 64), (1, .int a1), (2, .int a2)], [.int (q_b r1629.2)], (q_kM r1629.1 c n)) _ _
          cases h1638 : r1629.2 with
          | true =>
            refine q_RP_cT ?_
            show q_RP _ _ _ (58, [(0, .ref 64), (1, .int a1), (2, .int a2)], [.int 1], (q_kM r1629.1 c n)) _ _
            refine q_RP_seg (g2 := (62, [(0, .ref 64), (1, .int a1), (2, .int a2)], [.int 0], (q_kM r1629.1 c n))) 2 (fun _ _ => rfl) ?_
            exact q_RP_ret rfl rfl rfl
          | false =>
            refine q_RP_cF ?_
            show q_RP _ _ _ (58, [(0, .ref 64), (1, .int a1), (2, .int a2)], [.int 0], (q_kM r1629.1 c n)) _ _
            refine q_RP_seg (g2 := (68, [(0, .ref 64), (1, .int a1), (2, .int a2)], [.int a1, .ref 78], (q_kM r1629.1 c n))) 4 (fun _ _ => rfl) ?_
            refine q_RP_as fun i1639 => ?_
            refine q_RP_rsT (g2 := (69, [(0, .ref 64), (1, .int a1), (2, .int a2)], [.int ((r1629.1.1 14) (a1.toNatClampNeg))], (q_kM r1629.1 c n))) rfl rfl i1639 ?_
            refine q_RP_seg (g2 := (76, [(3, .int ((r1629.1.1 14) (a1.toNatClampNeg))), (0, .ref 64), (1, .int a1), (2, .int a2)], [.int a2, .int a1, .ref 78], (q_kM r1629.1 c n))) 5 (fun _ _ => rfl) ?_
            refine q_RP_rsT (g2 := (77, [(3, .int ((r1629.1.1 14) (a1.toNatClampNeg))), (0, .ref 64), (1, .int a1), (2, .int a2)], [], (q_kM (q_sA r1629.1 14 (upd (r1629.1.1 14) (a1.toNatClampNeg) a2)) c n))) rfl q_wM14 i1639 ?_
            refine q_RP_seg (g2 := (78, [(3, .int ((r1629.1.1 14) (a1.toNatClampNeg))), (0, .ref 64), (1, .int a1), (2, .int a2)], [.ref 64], (q_kM (q_sA r1629.1 14 (upd (r1629.1.1 14) (a1.toNatClampNeg) a2)) c n))) 1 (fun _ _ => rfl) ?_
            refine q_RP_call (v := none) (h2 := (q_kM (dz_M205_64 (q_sA r1629.1 14 (upd (r1629.1.1 14) (a1.toNatClampNeg) a2))) c n)) rfl rfl ((dzt_M205_64 (q_sA r1629.1 14 (upd (r1629.1.1 14) (a1.toNatClampNeg) a2)) c n).le (Nat.le_of_ble_eq_true rfl)) ?_
            generalize dz_M205_64 (q_sA r1629.1 14 (upd (r1629.1.1 14) (a1.toNatClampNeg) a2)) = r1630
            refine q_RP_let ?_
            show q_RP _ _ _ (81, [(3, .int ((r1629.1.1 14) (a1.toNatClampNeg))), (0, .ref 64), (1, .int a1), (2, .int a2)], [], (q_kM r1630 c n)) _ _
            refine q_RP_seg (g2 := (82, [(3, .int ((r1629.1.1 14) (a1.toNatClampNeg))), (0, .ref 64), (1, .int a1), (2, .int a2)], [.int ((r1629.1.1 14) (a1.toNatClampNeg))], (q_kM r1630 c n))) 1 (fun _ _ => rfl) ?_
            exact q_RP_ret rfl rfl rfl
        | false =>
          refine q_RP_cF ?_
          refine q_RP_rsT (g2 := (54, [(0, .ref 64), (1, .int a1), (2, .int a2)], [.ref 64], (q_kM s c n))) rfl rfl (q_d_geF h1637) ?_
          refine q_RP_seg (g2 := (55, [(0, .ref 64), (1, .int a1), (2, .int a2)], [.int 0, .ref 64], (q_kM s c n))) 1 (fun _ _ => rfl) ?_
          refine q_RP_call (v := (some (.int (q_b (dz_M200_64 s 0).2)))) (h2 := (q_kM (dz_M200_64 s 0).1 c n)) rfl rfl ((dzt_M200_64 s c n 0).le (Nat.le_of_ble_eq_true rfl)) ?_
          generalize dz_M200_64 s 0 = r1631
          refine q_RP_let ?_
          show q_RP _ _ _ (58, [(0, .ref 64), (1, .int a1), (2, .int a2)], [.int (q_b r1631.2)], (q_kM r1631.1 c n)) _ _
          cases h1640 : r1631.2 with
          | true =>
            refine q_RP_cT ?_
            show q_RP _ _ _ (58, [(0, .ref 64), (1, .int a1), (2, .int a2)], [.int 1], (q_kM r1631.1 c n)) _ _
            refine q_RP_seg (g2 := (62, [(0, .ref 64), (1, .int a1), (2, .int a2)], [.int 0], (q_kM r1631.1 c n))) 2 (fun _ _ => rfl) ?_
            exact q_RP_ret rfl rfl rfl
          | false =>
            refine q_RP_cF ?_
            show q_RP _ _ _ (58, [(0, .ref 64), (1, .int a1), (2, .int a2)], [.int 0], (q_kM r1631.1 c n)) _ _
            refine q_RP_seg (g2 := (68, [(0, .ref 64), (1, .int a1), (2, .int a2)], [.int a1, .ref 78], (q_kM r1631.1 c n))) 4 (fun _ _ => rfl) ?_
            refine q_RP_as fun i1641 => ?_
            refine q_RP_rsT (g2 := (69, [(0, .ref 64), (1, .int a1), (2, .int a2)], [.int ((r1631.1.1 14) (a1.toNatClampNeg))], (q_kM r1631.1 c n))) rfl rfl i1641 ?_
            refine q_RP_seg (g2 := (76, [(3, .int ((r1631.1.1 14) (a1.toNatClampNeg))), (0, .ref 64), (1, .int a1), (2, .int a2)], [.int a2, .int a1, .ref 78], (q_kM r1631.1 c n))) 5 (fun _ _ => rfl) ?_
            refine q_RP_rsT (g2 := (77, [(3, .int ((r1631.1.1 14) (a1.toNatClampNeg))), (0, .ref 64), (1, .int a1), (2, .int a2)], [], (q_kM (q_sA r1631.1 14 (upd (r1631.1.1 14) (a1.toNatClampNeg) a2)) c n))) rfl q_wM14 i1641 ?_
            refine q_RP_seg (g2 := (78, [(3, .int ((r1631.1.1 14) (a1.toNatClampNeg))), (0, .ref 64), (1, .int a1), (2, .int a2)], [.ref 64], (q_kM (q_sA r1631.1 14 (upd (r1631.1.1 14) (a1.toNatClampNeg) a2)) c n))) 1 (fun _ _ => rfl) ?_
            refine q_RP_call (v := none) (h2 := (q_kM (dz_M205_64 (q_sA r1631.1 14 (upd (r1631.1.1 14) (a1.toNatClampNeg) a2))) c n)) rfl rfl ((dzt_M205_64 (q_sA r1631.1 14 (upd (r1631.1.1 14) (a1.toNatClampNeg) a2)) c n).le (Nat.le_of_ble_eq_true rfl)) ?_
            generalize dz_M205_64 (q_sA r1631.1 14 (upd (r1631.1.1 14) (a1.toNatClampNeg) a2)) = r1632
            refine q_RP_let ?_
            show q_RP _ _ _ (81, [(3, .int ((r1631.1.1 14) (a1.toNatClampNeg))), (0, .ref 64), (1, .int a1), (2, .int a2)], [], (q_kM r1632 c n)) _ _
            refine q_RP_seg (g2 := (82, [(3, .int ((r1631.1.1 14) (a1.toNatClampNeg))), (0, .ref 64), (1, .int a1), (2, .int a2)], [.int ((r1631.1.1 14) (a1.toNatClampNeg))], (q_kM r1632 c n))) 1 (fun _ _ => rfl) ?_
            exact q_RP_ret rfl rfl rfl
      | false =>
        refine q_RP_cF ?_
        show q_RP _ _ _ (33, [(0, .ref 64), (1, .int a1), (2, .int a2)], [.int 0, .ref 64], (q_kM s c n)) _ _
        refine q_RP_seg (g2 := (55, [(0, .ref 64), (1, .int a1), (2, .int a2)], [.int 2, .ref 64], (q_kM s c n))) 3 (fun _ _ => rfl) ?_
        refine q_RP_call (v := (some (.int (q_b (dz_M200_64 s 2).2)))) (h2 := (q_kM (dz_M200_64 s 2).1 c n)) rfl rfl ((dzt_M200_64 s c n 2).le (Nat.le_of_ble_eq_true rfl)) ?_
        generalize dz_M200_64 s 2 = r1633
        refine q_RP_let ?_
        show q_RP _ _ _ (58, [(0, .ref 64), (1, .int a1), (2, .int a2)], [.int (q_b r1633.2)], (q_kM r1633.1 c n)) _ _
        cases h1642 : r1633.2 with
        | true =>
          refine q_RP_cT ?_
          show q_RP _ _ _ (58, [(0, .ref 64), (1, .int a1), (2, .int a2)], [.int 1], (q_kM r1633.1 c n)) _ _
          refine q_RP_seg (g2 := (62, [(0, .ref 64), (1, .int a1), (2, .int a2)], [.int 0], (q_kM r1633.1 c n))) 2 (fun _ _ => rfl) ?_
          exact q_RP_ret rfl rfl rfl
        | false =>
          refine q_RP_cF ?_
          show q_RP _ _ _ (58, [(0, .ref 64), (1, .int a1), (2, .int a2)], [.int 0], (q_kM r1633.1 c n)) _ _
          refine q_RP_seg (g2 := (68, [(0, .ref 64), (1, .int a1), (2, .int a2)], [.int a1, .ref 78], (q_kM r1633.1 c n))) 4 (fun _ _ => rfl) ?_
          refine q_RP_as fun i1643 => ?_
          refine q_RP_rsT (g2 := (69, [(0, .ref 64), (1, .int a1), (2, .int a2)], [.int ((r1633.1.1 14) (a1.toNatClampNeg))], (q_kM r1633.1 c n))) rfl rfl i1643 ?_
          refine q_RP_seg (g2 := (76, [(3, .int ((r1633.1.1 14) (a1.toNatClampNeg))), (0, .ref 64), (1, .int a1), (2, .int a2)], [.int a2, .int a1, .ref 78], (q_kM r1633.1 c n))) 5 (fun _ _ => rfl) ?_
          refine q_RP_rsT (g2 := (77, [(3, .int ((r1633.1.1 14) (a1.toNatClampNeg))), (0, .ref 64), (1, .int a1), (2, .int a2)], [], (q_kM (q_sA r1633.1 14 (upd (r1633.1.1 14) (a1.toNatClampNeg) a2)) c n))) rfl q_wM14 i1643 ?_
          refine q_RP_seg (g2 := (78, [(3, .int ((r1633.1.1 14) (a1.toNatClampNeg))), (0, .ref 64), (1, .int a1), (2, .int a2)], [.ref 64], (q_kM (q_sA r1633.1 14 (upd (r1633.1.1 14) (a1.toNatClampNeg) a2)) c n))) 1 (fun _ _ => rfl) ?_
          refine q_RP_call (v := none) (h2 := (q_kM (dz_M205_64 (q_sA r1633.1 14 (upd (r1633.1.1 14) (a1.toNatClampNeg) a2))) c n)) rfl rfl ((dzt_M205_64 (q_sA r1633.1 14 (upd (r1633.1.1 14) (a1.toNatClampNeg) a2)) c n).le (Nat.le_of_ble_eq_true rfl)) ?_
          generalize dz_M205_64 (q_sA r1633.1 14 (upd (r1633.1.1 14) (a1.toNatClampNeg) a2)) = r1634
          refine q_RP_let ?_
          show q_RP _ _ _ (81, [(3, .int ((r1633.1.1 14) (a1.toNatClampNeg))), (0, .ref 64), (1, .int a1), (2, .int a2)], [], (q_kM r1634 c n)) _ _
          refine q_RP_seg (g2 := (82, [(3, .int ((r1633.1.1 14) (a1.toNatClampNeg))), (0, .ref 64), (1, .int a1), (2, .int a2)], [.int ((r1633.1.1 14) (a1.toNatClampNeg))], (q_kM r1634 c n))) 1 (fun _ _ => rfl) ?_
          exact q_RP_ret rfl rfl rfl
    | false =>
      refine q_RP_cF ?_
      refine q_RP_rsT (g2 := (27, [(0, .ref 64), (1, .int a1), (2, .int a2)], [.int 0, .int a2, .ref 64], (q_kM s c n))) rfl rfl (q_d_neF h1635) ?_
      refine q_RP_seg (g2 := (30, [(0, .ref 64), (1, .int a1), (2, .int a2)], [.int 255, .int 0, .int a2, .ref 64], (q_kM s c n))) 1 (fun _ _ => rfl) ?_
      refine q_RP_call (v := (some (.int (q_b (dz_M202 s a2 0 255))))) (h2 := (q_kM s c n)) rfl rfl ((dzt_M202 s c n a2 0 255).le (Nat.le_of_ble_eq_true rfl)) ?_
      generalize dz_M202 s a2 0 255 = r1635
      refine q_RP_let ?_
      show q_RP _ _ _ (33, [(0, .ref 64), (1, .int a1), (2, .int a2)], [.int (q_b r1635), .ref 64], (q_kM s c n)) _ _
      cases h1644 : r1635 with
      | true =>
        refine q_RP_cT ?_
        show q_RP _ _ _ (33, [(0, .ref 64), (1, .int a1), (2, .int a2)], [.int 1, .ref 64], (q_kM s c n)) _ _
        refine q_RP_seg (g2 := (47, [(0, .ref 64), (1, .int a1), (2, .int a2)], [.int ((s.1 14) 17), .ref 64], (q_kM s c n))) 5 (fun _ _ => rfl) ?_
        cases h1645 : decide (0 < (s.1 14) 17) with
        | true =>
          refine q_RP_cT ?_
          refine q_RP_rsF (g2 := (50, [(0, .ref 64), (1, .int a1), (2, .int a2)], [.ref 64], (q_kM s c n))) rfl rfl (q_d_geT h1645) ?_
          refine q_RP_seg (g2 := (55, [(0, .ref 64), (1, .int a1), (2, .int a2)], [.int 3, .ref 64], (q_kM s c n))) 2 (fun _ _ => rfl) ?_
          refine q_RP_call (v := (some (.int (q_b (dz_M200_64 s 3).2)))) (h2 := (q_kM (dz_M200_64 s 3).1 c n)) rfl rfl ((dzt_M200_64 s c n 3).le (Nat.le_of_ble_eq_true rfl)) ?_
          generalize dz_M200_64 s 3 = r1636
          refine q_RP_let ?_
          show q_RP _ _ _ (58, [(0, .ref 64), (1, .int a1), (2, .int a2)], [.int (q_b r1636.2)], (q_kM r1636.1 c n)) _ _
          cases h1646 : r1636.2 with
          | true =>
            refine q_RP_cT ?_
            show q_RP _ _ _ (58, [(0, .ref 64), (1, .int a1), (2, .int a2)], [.int 1], (q_kM r1636.1 c n)) _ _
            refine q_RP_seg (g2 := (62, [(0, .ref 64), (1, .int a1), (2, .int a2)], [.int 0], (q_kM r1636.1 c n))) 2 (fun _ _ => rfl) ?_
            exact q_RP_ret rfl rfl rfl
          | false =>
            refine q_RP_cF ?_
            show q_RP _ _ _ (58, [(0, .ref 64), (1, .int a1), (2, .int a2)], [.int 0], (q_kM r1636.1 c n)) _ _
            refine q_RP_seg (g2 := (68, [(0, .ref 64), (1, .int a1), (2, .int a2)], [.int a1, .ref 78], (q_kM r1636.1 c n))) 4 (fun _ _ => rfl) ?_
            refine q_RP_as fun i1647 => ?_
            refine q_RP_rsT (g2 := (69, [(0, .ref 64), (1, .int a1), (2, .int a2)], [.int ((r1636.1.1 14) (a1.toNatClampNeg))], (q_kM r1636.1 c n))) rfl rfl i1647 ?_
            refine q_RP_seg (g2 := (76, [(3, .int ((r1636.1.1 14) (a1.toNatClampNeg))), (0, .ref 64), (1, .int a1), (2, .int a2)], [.int a2, .int a1, .ref 78], (q_kM r1636.1 c n))) 5 (fun _ _ => rfl) ?_
            refine q_RP_rsT (g2 := (77, [(3, .int ((r1636.1.1 14) (a1.toNatClampNeg))), (0, .ref 64), (1, .int a1), (2, .int a2)], [], (q_kM (q_sA r1636.1 14 (upd (r1636.1.1 14) (a1.toNatClampNeg) a2)) c n))) rfl q_wM14 i1647 ?_
            refine q_RP_seg (g2 := (78, [(3, .int ((r1636.1.1 14) (a1.toNatClampNeg))), (0, .ref 64), (1, .int a1), (2, .int a2)], [.ref 64], (q_kM (q_sA r1636.1 14 (upd (r1636.1.1 14) (a1.toNatClampNeg) a2)) c n))) 1 (fun _ _ => rfl) ?_
            refine q_RP_call (v := none) (h2 := (q_kM (dz_M205_64 (q_sA r1636.1 14 (upd (r1636.1.1 14) (a1.toNatClampNeg) a2))) c n)) rfl rfl ((dzt_M205_64 (q_sA r1636.1 14 (upd (r1636.1.1 14) (a1.toNatClampNeg) a2)) c n).le (Nat.le_of_ble_eq_true rfl)) ?_
            generalize dz_M205_64 (q_sA r1636.1 14 (upd (r1636.1.1 14) (a1.toNatClampNeg) a2)) = r1637
            refine q_RP_let ?_
            show q_RP _ _ _ (81, [(3, .int ((r1636.1.1 14) (a1.toNatClampNeg))), (0, .ref 64), (1, .int a1), (2, .int a2)], [], (q_kM r1637 c n)) _ _
            refine q_RP_seg (g2 := (82, [(3, .int ((r1636.1.1 14) (a1.toNatClampNeg))), (0, .ref 64), (1, .int a1), (2, .int a2)], [.int ((r1636.1.1 14) (a1.toNatClampNeg))], (q_kM r1637 c n))) 1 (fun _ _ => rfl) ?_
            exact q_RP_ret rfl rfl rfl
        | false =>
          refine q_RP_cF ?_
          refine q_RP_rsT (g2 := (54, [(0, .ref 64), (1, .int a1), (2, .int a2)], [.ref 64], (q_kM s c n))) rfl rfl (q_d_geF h1645) ?_
          refine q_RP_seg (g2 := (55, [(0, .ref 64), (1, .int a1), (2, .int a2)], [.int 0, .ref 64], (q_kM s c n))) 1 (fun _ _ => rfl) ?_
          refine q_RP_call (v := (some (.int (q_b (dz_M200_64 s 0).2)))) (h2 := (q_kM (dz_M200_64 s 0).1 c n)) rfl rfl ((dzt_M200_64 s c n 0).le (Nat.le_of_ble_eq_true rfl)) ?_
          generalize dz_M200_64 s 0 = r1638
          refine q_RP_let ?_
          show q_RP _ _ _ (58, [(0, .ref 64), (1, .int a1), (2, .int a2)], [.int (q_b r1638.2)], (q_kM r1638.1 c n)) _ _
          cases h1648 : r1638.2 with
          | true =>
            refine q_RP_cT ?_
            show q_RP _ _ _ (58, [(0, .ref 64), (1, .int a1), (2, .int a2)], [.int 1], (q_kM r1638.1 c n)) _ _
            refine q_RP_seg (g2 := (62, [(0, .ref 64), (1, .int a1), (2, .int a2)], [.int 0], (q_kM r1638.1 c n))) 2 (fun _ _ => rfl) ?_
            exact q_RP_ret rfl rfl rfl
          | false =>
            refine q_RP_cF ?_
            show q_RP _ _ _ (58, [(0, .ref 64), (1, .int a1), (2, .int a2)], [.int 0], (q_kM r1638.1 c n)) _ _
            refine q_RP_seg (g2 := (68, [(0, .ref 64), (1, .int a1), (2, .int a2)], [.int a1, .ref 78], (q_kM r1638.1 c n))) 4 (fun _ _ => rfl) ?_
            refine q_RP_as fun i1649 => ?_
            refine q_RP_rsT (g2 := (69, [(0, .ref 64), (1, .int a1), (2, .int a2)], [.int ((r1638.1.1 14) (a1.toNatClampNeg))], (q_kM r1638.1 c n))) rfl rfl i1649 ?_
            refine q_RP_seg (g2 := (76, [(3, .int ((r1638.1.1 14) (a1.toNatClampNeg))), (0, .ref 64), (1, .int a1), (2, .int a2)], [.int a2, .int a1, .ref 78], (q_kM r1638.1 c n))) 5 (fun _ _ => rfl) ?_
            refine q_RP_rsT (g2 := (77, [(3, .int ((r1638.1.1 14) (a1.toNatClampNeg))), (0, .ref 64), (1, .int a1), (2, .int a2)], [], (q_kM (q_sA r1638.1 14 (upd (r1638.1.1 14) (a1.toNatClampNeg) a2)) c n))) rfl q_wM14 i1649 ?_
            refine q_RP_seg (g2 := (78, [(3, .int ((r1638.1.1 14) (a1.toNatClampNeg))), (0, .ref 64), (1, .int a1), (2, .int a2)], [.ref 64], (q_kM (q_sA r1638.1 14 (upd (r1638.1.1 14) (a1.toNatClampNeg) a2)) c n))) 1 (fun _ _ => rfl) ?_
            refine q_RP_call (v := none) (h2 := (q_kM (dz_M205_64 (q_sA r1638.1 14 (upd (r1638.1.1 14) (a1.toNatClampNeg) a2))) c n)) rfl rfl ((dzt_M205_64 (q_sA r1638.1 14 (upd (r1638.1.1 14) (a1.toNatClampNeg) a2)) c n).le (Nat.le_of_ble_eq_true rfl)) ?_
            generalize dz_M205_64 (q_sA r1638.1 14 (upd (r1638.1.1 14) (a1.toNatClampNeg) a2)) = r1639
            refine q_RP_let ?_
            show q_RP _ _ _ (81, [(3, .int ((r1638.1.1 14) (a1.toNatClampNeg))), (0, .ref 64), (1, .int a1), (2, .int a2)], [], (q_kM r1639 c n)) _ _
            refine q_RP_seg (g2 := (82, [(3, .int ((r1638.1.1 14) (a1.toNatClampNeg))), (0, .ref 64), (1, .int a1), (2, .int a2)], [.int ((r1638.1.1 14) (a1.toNatClampNeg))], (q_kM r1639 c n))) 1 (fun _ _ => rfl) ?_
            exact q_RP_ret rfl rfl rfl
      | false =>
        refine q_RP_cF ?_
        show q_RP _ _ _ (33, [(0, .ref 64), (1, .int a1), (2, .int a2)], [.int 0, .ref 64], (q_kM s c n)) _ _
        refine q_RP_seg (g2 := (55, [(0, .ref 64), (1, .int a1), (2, .int a2)], [.int 2, .ref 64], (q_kM s c n))) 3 (fun _ _ => rfl) ?_
        refine q_RP_call (v := (some (.int (q_b (dz_M200_64 s 2).2)))) (h2 := (q_kM (dz_M200_64 s 2).1 c n)) rfl rfl ((dzt_M200_64 s c n 2).le (Nat.le_of_ble_eq_true rfl)) ?_
        generalize dz_M200_64 s 2 = r1640
        refine q_RP_let ?_
        show q_RP _ _ _ (58, [(0, .ref 64), (1, .int a1), (2, .int a2)], [.int (q_b r1640.2)], (q_kM r1640.1 c n)) _ _
        cases h1650 : r1640.2 with
        | true =>
          refine q_RP_cT ?_
          show q_RP _ _ _ (58, [(0, .ref 64), (1, .int a1), (2, .int a2)], [.int 1], (q_kM r1640.1 c n)) _ _
          refine q_RP_seg (g2 := (62, [(0, .ref 64), (1, .int a1), (2, .int a2)], [.int 0], (q_kM r1640.1 c n))) 2 (fun _ _ => rfl) ?_
          exact q_RP_ret rfl rfl rfl
        | false =>
          refine q_RP_cF ?_
          show q_RP _ _ _ (58, [(0, .ref 64), (1, .int a1), (2, .int a2)], [.int 0], (q_kM r1640.1 c n)) _ _
          refine q_RP_seg (g2 := (68, [(0, .ref 64), (1, .int a1), (2, .int a2)], [.int a1, .ref 78], (q_kM r1640.1 c n))) 4 (fun _ _ => rfl) ?_
          refine q_RP_as fun i1651 => ?_
          refine q_RP_rsT (g2 := (69, [(0, .ref 64), (1, .int a1), (2, .int a2)], [.int ((r1640.1.1 14) (a1.toNatClampNeg))], (q_kM r1640.1 c n))) rfl rfl i1651 ?_
          refine q_RP_seg (g2 := (76, [(3, .int ((r1640.1.1 14) (a1.toNatClampNeg))), (0, .ref 64), (1, .int a1), (2, .int a2)], [.int a2, .int a1, .ref 78], (q_kM r1640.1 c n))) 5 (fun _ _ => rfl) ?_
          refine q_RP_rsT (g2 := (77, [(3, .int ((r1640.1.1 14) (a1.toNatClampNeg))), (0, .ref 64), (1, .int a1), (2, .int a2)], [], (q_kM (q_sA r1640.1 14 (upd (r1640.1.1 14) (a1.toNatClampNeg) a2)) c n))) rfl q_wM14 i1651 ?_
          refine q_RP_seg (g2 := (78, [(3, .int ((r1640.1.1 14) (a1.toNatClampNeg))), (0, .ref 64), (1, .int a1), (2, .int a2)], [.ref 64], (q_kM (q_sA r1640.1 14 (upd (r1640.1.1 14) (a1.toNatClampNeg) a2)) c n))) 1 (fun _ _ => rfl) ?_
          refine q_RP_call (v := none) (h2 := (q_kM (dz_M205_64 (q_sA r1640.1 14 (upd (r1640.1.1 14) (a1.toNatClampNeg) a2))) c n)) rfl rfl ((dzt_M205_64 (q_sA r1640.1 14 (upd (r1640.1.1 14) (a1.toNatClampNeg) a2)) c n).le (Nat.le_of_ble_eq_true rfl)) ?_
          generalize dz_M205_64 (q_sA r1640.1 14 (upd (r1640.1.1 14) (a1.toNatClampNeg) a2)) = r1641
          refine q_RP_let ?_
          show q_RP _ _ _ (81, [(3, .int ((r1640.1.1 14) (a1.toNatClampNeg))), (0, .ref 64), (1, .int a1), (2, .int a2)], [], (q_kM r1641 c n)) _ _
          refine q_RP_seg (g2 := (82, [(3, .int ((r1640.1.1 14) (a1.toNatClampNeg))), (0, .ref 64), (1, .int a1), (2, .int a2)], [.int ((r1640.1.1 14) (a1.toNatClampNeg))], (q_kM r1641 c n))) 1 (fun _ _ => rfl) ?_
          exact q_RP_ret rfl rfl rfl
  | false =>
    refine q_RP_cF ?_
    show q_RP _ _ _ (7, [(0, .ref 64), (1, .int a1), (2, .int a2)], [.int 0, .ref 64], (q_kM s c n)) _ _
    refine q_RP_seg (g2 := (55, [(0, .ref 64), (1, .int a1), (2, .int a2)], [.int 1, .ref 64], (q_kM s c n))) 3 (fun _ _ => rfl) ?_
    refine q_RP_call (v := (some (.int (q_b (dz_M200_64 s 1).2)))) (h2 := (q_kM (dz_M200_64 s 1).1 c n)) rfl rfl ((dzt_M200_64 s c n 1).le (Nat.le_of_ble_eq_true rfl)) ?_
    generalize dz_M200_64 s 1 = r1642
    refine q_RP_let ?_
    show q_RP _ _ _ (58, [(0, .ref 64), (1, .int a1), (2, .int a2)], [.int (q_b r1642.2)], (q_kM r1642.1 c n)) _ _
    cases h1652 : r1642.2 with
    | true =>
      refine q_RP_cT ?_
      show q_RP _ _ _ (58, [(0, .ref 64), (1, .int a1), (2, .int a2)], [.int 1], (q_kM r1642.1 c n)) _ _
      refine q_RP_seg (g2 := (62, [(0, .ref 64), (1, .int a1), (2, .int a2)], [.int 0], (q_kM r1642.1 c n))) 2 (fun _ _ => rfl) ?_
      exact q_RP_ret rfl rfl rfl
    | false =>
      refine q_RP_cF ?_
      show q_RP _ _ _ (58, [(0, .ref 64), (1, .int a1), (2, .int a2)], [.int 0], (q_kM r1642.1 c n)) _ _
      refine q_RP_seg (g2 := (68, [(0, .ref 64), (1, .int a1), (2, .int a2)], [.int a1, .ref 78], (q_kM r1642.1 c n))) 4 (fun _ _ => rfl) ?_
      refine q_RP_as fun i1653 => ?_
      refine q_RP_rsT (g2 := (69, [(0, .ref 64), (1, .int a1), (2, .int a2)], [.int ((r1642.1.1 14) (a1.toNatClampNeg))], (q_kM r1642.1 c n))) rfl rfl i1653 ?_
      refine q_RP_seg (g2 := (76, [(3, .int ((r1642.1.1 14) (a1.toNatClampNeg))), (0, .ref 64), (1, .int a1), (2, .int a2)], [.int a2, .int a1, .ref 78], (q_kM r1642.1 c n))) 5 (fun _ _ => rfl) ?_
      refine q_RP_rsT (g2 := (77, [(3, .int ((r1642.1.1 14) (a1.toNatClampNeg))), (0, .ref 64), (1, .int a1), (2, .int a2)], [], (q_kM (q_sA r1642.1 14 (upd (r1642.1.1 14) (a1.toNatClampNeg) a2)) c n))) rfl q_wM14 i1653 ?_
      refine q_RP_seg (g2 := (78, [(3, .int ((r1642.1.1 14) (a1.toNatClampNeg))), (0, .ref 64), (1, .int a1), (2, .int a2)], [.ref 64], (q_kM (q_sA r1642.1 14 (upd (r1642.1.1 14) (a1.toNatClampNeg) a2)) c n))) 1 (fun _ _ => rfl) ?_
      refine q_RP_call (v := none) (h2 := (q_kM (dz_M205_64 (q_sA r1642.1 14 (upd (r1642.1.1 14) (a1.toNatClampNeg) a2))) c n)) rfl rfl ((dzt_M205_64 (q_sA r1642.1 14 (upd (r1642.1.1 14) (a1.toNatClampNeg) a2)) c n).le (Nat.le_of_ble_eq_true rfl)) ?_
      generalize dz_M205_64 (q_sA r1642.1 14 (upd (r1642.1.1 14) (a1.toNatClampNeg) a2)) = r1643
      refine q_RP_let ?_
      show q_RP _ _ _ (81, [(3, .int ((r1642.1.1 14) (a1.toNatClampNeg))), (0, .ref 64), (1, .int a1), (2, .int a2)], [], (q_kM r1643 c n)) _ _
      refine q_RP_seg (g2 := (82, [(3, .int ((r1642.1.1 14) (a1.toNatClampNeg))), (0, .ref 64), (1, .int a1), (2, .int a2)], [.int ((r1642.1.1 14) (a1.toNatClampNeg))], (q_kM r1643 c n))) 1 (fun _ _ => rfl) ?_
      exact q_RP_ret rfl rfl rfl
def dz_M290_64 (s : q_S) : Option (q_S × Int32) :=
  (dz_M258_64 s 16).bind fun r1645 => q_let (dz_M201_64 s r1645) fun r1646 => some (r1646.1, r1646.2)
set_option maxHeartbeats 4000000 in
theorem dzt_M290_64 (s : q_S) (c n : Nat) (x : q_S × Int32) (h : dz_M290_64 s = some x) : q_Ca q_TB0 3 289 [.ref 64] (q_kM s c n) ((q_oIM c n) x) := by
  refine q_CaP_of (φ := (q_oIM c n)) (Nat.le_of_ble_eq_true rfl) ?_ h
  clear h
  unfold dz_M290_64
  refine q_RP_seg (g2 := (4, [(0, .ref 64)], [.int 16, .ref 64, .ref 64], (q_kM s c n))) 3 (fun _ _ => rfl) ?_
  refine q_RP_bd fun r1645 er1645 => ?_
  refine q_RP_call (v := (some (.int r1645))) (h2 := (q_kM s c n)) rfl rfl ((dzt_M258_64 s c n 16 r1645 er1645).le (Nat.le_of_ble_eq_true rfl)) ?_
  show q_RP _ _ _ (7, [(0, .ref 64)], [.int r1645, .ref 64], (q_kM s c n)) _ _
  refine q_RP_call (v := (some (.int (dz_M201_64 s r1645).2))) (h2 := (q_kM (dz_M201_64 s r1645).1 c n)) rfl rfl ((dzt_M201_64 s c n r1645).le (Nat.le_of_ble_eq_true rfl)) ?_
  generalize dz_M201_64 s r1645 = r1646
  refine q_RP_let ?_
  show q_RP _ _ _ (10, [(0, .ref 64)], [.int r1646.2], (q_kM r1646.1 c n)) _ _
  exact q_RP_ret rfl rfl rfl
def dz_M291_64_66 (m : Nat) : q_S → Int32 → Option (q_S × Int32) := Nat.rec (motive := fun _ => q_S → Int32 → Option (q_S × Int32)) (fun _ _ => none) (fun _ k66 s v1 =>
  cond (decide (v1 < 8)) (cond (decide (v1 = 3)) (cond (q_in v1 8) (k66 (q_sA s 15 (upd (s.1 15) (v1.toNatClampNeg) (vp_nar .boolean 1))) (v1 + 1)) none) (cond (q_in v1 8) (k66 (q_sA s 15 (upd (s.1 15) (v1.toNatClampNeg) (vp_nar .boolean 0))) (v1 + 1)) none)) ((dz_M248_64 s 3836).bind fun r1648 => q_let (dz_M205_64 (q_sA r1648.1 14 (upd (r1648.1.1 14) 4 r1648.2))) fun r1649 => some (r1649, ((r1649.1 14) 4)))) m
theorem dzs_M291_64_66 (m : Nat) (s : q_S) (v1 : Int32) : dz_M291_64_66 (m + 1) s v1 = (fun k66 : q_S → Int32 → Option (q_S × Int32) =>
  cond (decide (v1 < 8)) (cond (decide (v1 = 3)) (cond (q_in v1 8) (k66 (q_sA s 15 (upd (s.1 15) (v1.toNatClampNeg) (vp_nar .boolean 1))) (v1 + 1)) none) (cond (q_in v1 8) (k66 (q_sA s 15 (upd (s.1 15) (v1.toNatClampNeg) (vp_nar .boolean 0))) (v1 + 1)) none)) ((dz_M248_64 s 3836).bind fun r1648 => q_let (dz_M205_64 (q_sA r1648.1 14 (upd (r1648.1.1 14) 4 r1648.2))) fun r1649 => some (r1649, ((r1649.1 14) 4)))) (dz_M291_64_66 m) := rfl
set_option maxHeartbeats 4000000 in
theorem dzt_M291_64_66 (c n : Nat) : ∀ (m : Nat) (s : q_S) (v1 : Int32), q_RP q_TB0 6 290 (66, [(0, .ref 64), (1, .int v1)], [], (q_kM s c n)) (q_oIM c n) (dz_M291_64_66 m s v1) := by
  intro m
  induction m with
  | zero => intro s v1; exact q_RP_no
  | succ m ih =>
    intro s v1
    have hk66 := ih
    clear ih
    rw [dzs_M291_64_66]
    generalize dz_M291_64_66 m = k66 at hk66 ⊢
    dsimp only
    refine q_RP_seg (g2 := (69, [(0, .ref 64), (1, .int v1)], [.int 8, .int v1], (q_kM s c n))) 2 (fun _ _ => rfl) ?_
    cases h1658 : decide (v1 < 8) with
    | true =>
      refine q_RP_cT ?_
      refine q_RP_rsF (g2 := (72, [(0, .ref 64), (1, .int v1)], [], (q_kM s c n))) rfl rfl (q_d_geT h1658) ?_
      refine q_RP_seg (g2 := (79, [(0, .ref 64), (1, .int v1)], [.int 3, .int v1, .int v1, .ref 79], (q_kM s c n))) 5 (fun _ _ => rfl) ?_
      cases h1659 : decide (v1 = 3) with
      | true =>
        refine q_RP_cT ?_
        refine q_RP_rsF (g2 := (82, [(0, .ref 64), (1, .int v1)], [.int v1, .ref 79], (q_kM s c n))) rfl rfl (q_d_neT h1659) ?_
        refine q_RP_seg (g2 := (87, [(0, .ref 64), (1, .int v1)], [.int 1, .int v1, .ref 79], (q_kM s c n))) 2 (fun _ _ => rfl) ?_
        refine q_RP_as fun i1660 => ?_
        refine q_RP_rsT (g2 := (88, [(0, .ref 64), (1, .int v1)], [], (q_kM (q_sA s 15 (upd (s.1 15) (v1.toNatClampNeg) (vp_nar .boolean 1))) c n))) rfl q_wM15 i1660 ?_
        refine q_RP_seg (g2 := (66, [(1, .int (v1 + 1)), (0, .ref 64)], [], (q_kM (q_sA s 15 (upd (s.1 15) (v1.toNatClampNeg) (vp_nar .boolean 1))) c n))) 2 (fun _ _ => rfl) ?_
        exact q_RP_xt (q_xt_mk (q_mn1 1 rfl (q_mn1 0 rfl q_mn0)) rfl) (hk66 (q_sA s 15 (upd (s.1 15) (v1.toNatClampNeg) (vp_nar .boolean 1))) (v1 + 1))
      | false =>
        refine q_RP_cF ?_
        refine q_RP_rsT (g2 := (86, [(0, .ref 64), (1, .int v1)], [.int v1, .ref 79], (q_kM s c n))) rfl rfl (q_d_neF h1659) ?_
        refine q_RP_seg (g2 := (87, [(0, .ref 64), (1, .int v1)], [.int 0, .int v1, .ref 79], (q_kM s c n))) 1 (fun _ _ => rfl) ?_
        refine q_RP_as fun i1661 => ?_
        refine q_RP_rsT (g2 := (88, [(0, .ref 64), (1, .int v1)], [], (q_kM (q_sA s 15 (upd (s.1 15) (v1.toNatClampNeg) (vp_nar .boolean 0))) c n))) rfl q_wM15 i1661 ?_
        refine q_RP_seg (g2 := (66, [(1, .int (v1 + 1)), (0, .ref 64)], [], (q_kM (q_sA s 15 (upd (s.1 15) (v1.toNatClampNeg) (vp_nar .boolean 0))) c n))) 2 (fun _ _ => rfl) ?_
        exact q_RP_xt (q_xt_mk (q_mn1 1 rfl (q_mn1 0 rfl q_mn0)) rfl) (hk66 (q_sA s 15 (upd (s.1 15) (v1.toNatClampNeg) (vp_nar .boolean 0))) (v1 + 1))
    | false =>
      refine q_RP_cF ?_
      refine q_RP_rsT (g2 := (94, [(0, .ref 64), (1, .int v1)], [], (q_kM s c n))) rfl rfl (q_d_geF h1658) ?_
      refine q_RP_seg (g2 := (103, [(0, .ref 64), (1, .int v1)], [.int 3836, .ref 64, .int 4, .ref 78], (q_kM s c n))) 5 (fun _ _ => rfl) ?_
      refine q_RP_bd fun r1648 er1648 => ?_
      refine q_RP_call (v := (some (.int r1648.2))) (h2 := (q_kM r1648.1 c n)) rfl rfl ((dzt_M248_64 s c n 3836 r1648 er1648).le (Nat.le_of_ble_eq_true rfl)) ?_
      show q_RP _ _ _ (106, [(0, .ref 64), (1, .int v1)], [.int r1648.2, .int 4, .ref 78], (q_kM r1648.1 c n)) _ _
      refine q_RP_seg (g2 := (108, [(0, .ref 64), (1, .int v1)], [.ref 64], (q_kM (q_sA r1648.1 14 (upd (r1648.1.1 14) 4 r1648.2)) c n))) 2 (fun _ _ => rfl) ?_
      refine q_RP_call (v := none) (h2 := (q_kM (dz_M205_64 (q_sA r1648.1 14 (upd (r1648.1.1 14) 4 r1648.2))) c n)) rfl rfl ((dzt_M205_64 (q_sA r1648.1 14 (upd (r1648.1.1 14) 4 r1648.2)) c n).le (Nat.le_of_ble_eq_true rfl)) ?_
      generalize dz_M205_64 (q_sA r1648.1 14 (upd (r1648.1.1 14) 4 r1648.2)) = r1649
      refine q_RP_let ?_
      show q_RP _ _ _ (111, [(0, .ref 64), (1, .int v1)], [], (q_kM r1649 c n)) _ _
      refine q_RP_seg (g2 := (117, [(0, .ref 64), (1, .int v1)], [.int ((r1649.1 14) 4)], (q_kM r1649 c n))) 4 (fun _ _ => rfl) ?_
      exact q_RP_ret rfl rfl rfl
def dz_M291_64_28 (m : Nat) : q_S → Int32 → Option (q_S × Int32) := Nat.rec (motive := fun _ => q_S → Int32 → Option (q_S × Int32)) (fun _ _ => none) (fun _ k28 s v1 =>
  cond (decide (v1 < 12)) (cond (q_in v1 24) (k28 (q_sA s 14 (upd (s.1 14) (v1.toNatClampNeg) 0)) (v1 + 1)) none) (q_let ((q_sA s 14 (upd (s.1 14) 3 255))) fun r1647 => dz_M291_64_66 5000 (q_sA r1647 14 (upd (r1647.1 14) 17 0)) 0)) m
theorem dzs_M291_64_28 (m : Nat) (s : q_S) (v1 : Int32) : dz_M291_64_28 (m + 1) s v1 = (fun k28 : q_S → Int32 → Option (q_S × Int32) =>
  cond (decide (v1 < 12)) (cond (q_in v1 24) (k28 (q_sA s 14 (upd (s.1 14) (v1.toNatClampNeg) 0)) (v1 + 1)) none) (q_let ((q_sA s 14 (upd (s.1 14) 3 255))) fun r1647 => dz_M291_64_66 5000 (q_sA r1647 14 (upd (r1647.1 14) 17 0)) 0)) (dz_M291_64_28 m) := rfl
set_option maxHeartbeats 4000000 in
theorem dzt_M291_64_28 (c n : Nat) : ∀ (m : Nat) (s : q_S) (v1 : Int32), q_RP q_TB0 6 290 (28, [(0, .ref 64), (1, .int v1)], [], (q_kM s c n)) (q_oIM c n) (dz_M291_64_28 m s v1) := by
  intro m
  induction m with
  | zero => intro s v1; exact q_RP_no
  | succ m ih =>
    intro s v1
    have hk28 := ih
    clear ih
    rw [dzs_M291_64_28]
    generalize dz_M291_64_28 m = k28 at hk28 ⊢
    dsimp only
    refine q_RP_seg (g2 := (31, [(0, .ref 64), (1, .int v1)], [.int 12, .int v1], (q_kM s c n))) 2 (fun _ _ => rfl) ?_
    cases h1656 : decide (v1 < 12) with
    | true =>
      refine q_RP_cT ?_
      refine q_RP_rsF (g2 := (34, [(0, .ref 64), (1, .int v1)], [], (q_kM s c n))) rfl rfl (q_d_geT h1656) ?_
      refine q_RP_seg (g2 := (40, [(0, .ref 64), (1, .int v1)], [.int 0, .int v1, .ref 78], (q_kM s c n))) 4 (fun _ _ => rfl) ?_
      refine q_RP_as fun i1657 => ?_
      refine q_RP_rsT (g2 := (41, [(0, .ref 64), (1, .int v1)], [], (q_kM (q_sA s 14 (upd (s.1 14) (v1.toNatClampNeg) 0)) c n))) rfl q_wM14 i1657 ?_
      refine q_RP_seg (g2 := (28, [(1, .int (v1 + 1)), (0, .ref 64)], [], (q_kM (q_sA s 14 (upd (s.1 14) (v1.toNatClampNeg) 0)) c n))) 2 (fun _ _ => rfl) ?_
      exact q_RP_xt (q_xt_mk (q_mn1 1 rfl (q_mn1 0 rfl q_mn0)) rfl) (hk28 (q_sA s 14 (upd (s.1 14) (v1.toNatClampNeg) 0)) (v1 + 1))
    | false =>
      refine q_RP_cF ?_
      refine q_RP_rsT (g2 := (47, [(0, .ref 64), (1, .int v1)], [], (q_kM s c n))) rfl rfl (q_d_geF h1656) ?_
      refine q_RP_seg (g2 := (63, [(0, .ref 64), (1, .int v1)], [.int 0, .int 17, .ref 78], (q_kM (q_sA s 14 (upd (s.1 14) 3 255)) c n))) 9 (fun _ _ => rfl) ?_
      generalize (q_sA s 14 (upd (s.1 14) 3 255)) = r1647
      refine q_RP_let ?_
      show q_RP _ _ _ (63, [(0, .ref 64), (1, .int v1)], [.int 0, .int 17, .ref 78], (q_kM r1647 c n)) _ _
      refine q_RP_seg (g2 := (66, [(1, .int 0), (0, .ref 64)], [], (q_kM (q_sA r1647 14 (upd (r1647.1 14) 17 0)) c n))) 3 (fun _ _ => rfl) ?_
      exact q_RP_xt (q_xt_mk (q_mn1 1 rfl (q_mn1 0 rfl q_mn0)) rfl) (dzt_M291_64_66 c n 5000 (q_sA r1647 14 (upd (r1647.1 14) 17 0)) 0)
def dz_M291_64_7 (m : Nat) : q_S → Int32 → Option (q_S × Int32) := Nat.rec (motive := fun _ => q_S → Int32 → Option (q_S × Int32)) (fun _ _ => none) (fun _ k7 s v1 =>
  cond (decide (v1 < 48)) (cond (q_in v1 48) (k7 (q_sA s 4 (upd (s.1 4) (v1.toNatClampNeg) 0)) (v1 + 1)) none) (dz_M291_64_28 5000 s 0)) m
theorem dzs_M291_64_7 (m : Nat) (s : q_S) (v1 : Int32) : dz_M291_64_7 (m + 1) s v1 = (fun k7 : q_S → Int32 → Option (q_S × Int32) =>
  cond (decide (v1 < 48)) (cond (q_in v1 48) (k7 (q_sA s 4 (upd (s.1 4) (v1.toNatClampNeg) 0)) (v1 + 1)) none) (dz_M291_64_28 5000 s 0)) (dz_M291_64_7 m) := rfl
set_option maxHeartbeats 4000000 in
theorem dzt_M291_64_7 (c n : Nat) : ∀ (m : Nat) (s : q_S) (v1 : Int32), q_RP q_TB0 6 290 (7, [(0, .ref 64), (1, .int v1)], [], (q_kM s c n)) (q_oIM c n) (dz_M291_64_7 m s v1) := by
  intro m
  induction m with
  | zero => intro s v1; exact q_RP_no
  | succ m ih =>
    intro s v1
    have hk7 := ih
    clear ih
    rw [dzs_M291_64_7]
    generalize dz_M291_64_7 m = k7 at hk7 ⊢
    dsimp only
    refine q_RP_seg (g2 := (10, [(0, .ref 64), (1, .int v1)], [.int 48, .int v1], (q_kM s c n))) 2 (fun _ _ => rfl) ?_
    cases h1654 : decide (v1 < 48) with
    | true =>
      refine q_RP_cT ?_
      refine q_RP_rsF (g2 := (13, [(0, .ref 64), (1, .int v1)], [], (q_kM s c n))) rfl rfl (q_d_geT h1654) ?_
      refine q_RP_seg (g2 := (19, [(0, .ref 64), (1, .int v1)], [.int 0, .int v1, .ref 68], (q_kM s c n))) 4 (fun _ _ => rfl) ?_
      refine q_RP_as fun i1655 => ?_
      refine q_RP_rsT (g2 := (20, [(0, .ref 64), (1, .int v1)], [], (q_kM (q_sA s 4 (upd (s.1 4) (v1.toNatClampNeg) 0)) c n))) rfl q_wM4 i1655 ?_
      refine q_RP_seg (g2 := (7, [(1, .int (v1 + 1)), (0, .ref 64)], [], (q_kM (q_sA s 4 (upd (s.1 4) (v1.toNatClampNeg) 0)) c n))) 2 (fun _ _ => rfl) ?_
      exact q_RP_xt (q_xt_mk (q_mn1 1 rfl (q_mn1 0 rfl q_mn0)) rfl) (hk7 (q_sA s 4 (upd (s.1 4) (v1.toNatClampNeg) 0)) (v1 + 1))
    | false =>
      refine q_RP_cF ?_
      refine q_RP_rsT (g2 := (26, [(0, .ref 64), (1, .int v1)], [], (q_kM s c n))) rfl rfl (q_d_geF h1654) ?_
      refine q_RP_seg (g2 := (28, [(1, .int 0), (0, .ref 64)], [], (q_kM s c n))) 2 (fun _ _ => rfl) ?_
      exact q_RP_xt (q_xt_mk (q_mn1 1 rfl (q_mn1 0 rfl q_mn0)) rfl) (dzt_M291_64_28 c n 5000 s 0)
def dz_M291_64 (s : q_S) : Option (q_S × Int32) :=
  dz_M291_64_7 5000 (q_sI s 0 39 0) 0
set_option maxHeartbeats 4000000 in
theorem dzt_M291_64 (s : q_S) (c n : Nat) (x : q_S × Int32) (h : dz_M291_64 s = some x) : q_Ca q_TB0 7 290 [.ref 64] (q_kM s c n) ((q_oIM c n) x) := by
  refine q_CaP_of (φ := (q_oIM c n)) (Nat.le_of_ble_eq_true rfl) ?_ h
  clear h
  unfold dz_M291_64
  refine q_RP_seg (g2 := (7, [(1, .int 0), (0, .ref 64)], [], (q_kM (q_sI s 0 39 0) c n))) 5 (fun _ _ => rfl) ?_
  exact q_RP_xt (q_xt_mk (q_mn1 1 rfl (q_mn1 0 rfl q_mn0)) rfl) (dzt_M291_64_7 c n 5000 (q_sI s 0 39 0) 0)
def dz_M292_64 (s : q_S) : q_S × Int32 :=
  q_let (dz_M205_64 (q_sA (q_sA (q_sI s 0 39 0) 15 (upd (s.1 15) 6 (vp_nar .boolean 1))) 4 (upd (s.1 4) 0 (((s.1 4) 0) ||| 14)))) fun r1650 => (r1650, ((s.1 4) 0))
set_option maxHeartbeats 4000000 in
theorem dzt_M292_64 (s : q_S) (c n : Nat) : q_Ca q_TB0 2 291 [.ref 64] (q_kM s c n) ((q_oIM c n) (dz_M292_64 s)) := by
  refine q_CaT_of (φ := (q_oIM c n)) (Nat.le_of_ble_eq_true rfl) ?_
  unfold dz_M292_64
  refine q_RT_seg (g2 := (11, [(0, .ref 64)], [.int ((s.1 4) 0)], (q_kM (q_sI s 0 39 0) c n))) 7 (fun _ _ => rfl) ?_
  refine q_RT_seg (g2 := (27, [(1, .int ((s.1 4) 0)), (0, .ref 64)], [.int ((s.1 4) 0), .int 0, .ref 68], (q_kM (q_sA (q_sI s 0 39 0) 15 (upd (s.1 15) 6 (vp_nar .boolean 1))) c n))) 11 (fun _ _ => rfl) ?_
  refine q_RT_seg (g2 := (32, [(1, .int ((s.1 4) 0)), (0, .ref 64)], [.ref 64], (q_kM (q_sA (q_sA (q_sI s 0 39 0) 15 (upd (s.1 15) 6 (vp_nar .boolean 1))) 4 (upd (s.1 4) 0 (((s.1 4) 0) ||| 14))) c n))) 4 (fun _ _ => rfl) ?_
  refine q_RT_call (v := none) (h2 := (q_kM (dz_M205_64 (q_sA (q_sA (q_sI s 0 39 0) 15 (upd (s.1 15) 6 (vp_nar .boolean 1))) 4 (upd (s.1 4) 0 (((s.1 4) 0) ||| 14)))) c n)) rfl rfl ((dzt_M205_64 (q_sA (q_sA (q_sI s 0 39 0) 15 (upd (s.1 15) 6 (vp_nar .boolean 1))) 4 (upd (s.1 4) 0 (((s.1 4) 0) ||| 14))) c n).le (Nat.le_of_ble_eq_true rfl)) ?_
  generalize dz_M205_64 (q_sA (q_sA (q_sI s 0 39 0) 15 (upd (s.1 15) 6 (vp_nar .boolean 1))) 4 (upd (s.1 4) 0 (((s.1 4) 0) ||| 14))) = r1650
  refine q_RT_let ?_
  show q_RT _ _ _ (35, [(1, .int ((s.1 4) 0)), (0, .ref 64)], [], (q_kM r1650 c n)) _ _
  refine q_RT_seg (g2 := (36, [(1, .int ((s.1 4) 0)), (0, .ref 64)], [.int ((s.1 4) 0)], (q_kM r1650 c n))) 1 (fun _ _ => rfl) ?_
  exact q_RT_ret rfl rfl rfl
def dz_M293_64 (s : q_S) (a1 : Int32) (a2 : Int32) : Option (q_S × Int32) :=
  q_let (dz_M202 s a1 0 31) fun r1654 => cond r1654 (q_let (dz_M202 s a2 0 31) fun r1655 => cond r1655 (q_let (dz_M200_64 s 0) fun r1656 => cond r1656.2 (some (r1656.1, 0)) (cond (q_in ((32 * a2) + a1) 1024) (some (r1656.1, ((r1656.1.1 5) (((32 * a2) + a1).toNatClampNeg)))) none)) (q_let (dz_M200_64 s 1) fun r1657 => cond r1657.2 (some (r1657.1, 0)) (cond (q_in ((32 * a2) + a1) 1024) (some (r1657.1, ((r1657.1.1 5) (((32 * a2) + a1).toNatClampNeg)))) none))) (q_let (dz_M200_64 s 1) fun r1658 => cond r1658.2 (some (r1658.1, 0)) (cond (q_in ((32 * a2) + a1) 1024) (some (r1658.1, ((r1658.1.1 5) (((32 * a2) + a1).toNatClampNeg)))) none))
set_option maxHeartbeats 4000000 in
theorem dzt_M293_64 (s : q_S) (c n : Nat) (a1 : Int32) (a2 : Int32) (x : q_S × Int32) (h : dz_M293_64 s a1 a2 = some x) : q_Ca q_TB0 2 292 [.ref 64, .int a1, .int a2] (q_kM s c n) ((q_oIM c n) x) := by
  refine q_CaP_of (φ := (q_oIM c n)) (Nat.le_of_ble_eq_true rfl) ?_ h
  clear h
  unfold dz_M293_64
  refine q_RP_seg (g2 := (5, [(0, .ref 64), (1, .int a1), (2, .int a2)], [.int 31, .int 0, .int a1, .ref 64], (q_kM s c n))) 4 (fun _ _ => rfl) ?_
  refine q_RP_call (v := (some (.int (q_b (dz_M202 s a1 0 31))))) (h2 := (q_kM s c n)) rfl rfl ((dzt_M202 s c n a1 0 31).le (Nat.le_of_ble_eq_true rfl)) ?_
  generalize dz_M202 s a1 0 31 = r1654
  refine q_RP_let ?_
  show q_RP _ _ _ (8, [(0, .ref 64), (1, .int a1), (2, .int a2)], [.int (q_b r1654), .ref 64], (q_kM s c n)) _ _
  cases h1665 : r1654 with
  | true =>
    refine q_RP_cT ?_
    show q_RP _ _ _ (8, [(0, .ref 64), (1, .int a1), (2, .int a2)], [.int 1, .ref 64], (q_kM s c n)) _ _
    refine q_RP_seg (g2 := (15, [(0, .ref 64), (1, .int a1), (2, .int a2)], [.int 31, .int 0, .int a2, .ref 64], (q_kM s c n))) 4 (fun _ _ => rfl) ?_
    refine q_RP_call (v := (some (.int (q_b (dz_M202 s a2 0 31))))) (h2 := (q_kM s c n)) rfl rfl ((dzt_M202 s c n a2 0 31).le (Nat.le_of_ble_eq_true rfl)) ?_
    generalize dz_M202 s a2 0 31 = r1655
    refine q_RP_let ?_
    show q_RP _ _ _ (18, [(0, .ref 64), (1, .int a1), (2, .int a2)], [.int (q_b r1655), .ref 64], (q_kM s c n)) _ _
    cases h1666 : r1655 with
    | true =>
      refine q_RP_cT ?_
      show q_RP _ _ _ (18, [(0, .ref 64), (1, .int a1), (2, .int a2)], [.int 1, .ref 64], (q_kM s c n)) _ _
      refine q_RP_seg (g2 := (26, [(0, .ref 64), (1, .int a1), (2, .int a2)], [.int 0, .ref 64], (q_kM s c n))) 3 (fun _ _ => rfl) ?_
      refine q_RP_call (v := (some (.int (q_b (dz_M200_64 s 0).2)))) (h2 := (q_kM (dz_M200_64 s 0).1 c n)) rfl rfl ((dzt_M200_64 s c n 0).le (Nat.le_of_ble_eq_true rfl)) ?_
      generalize dz_M200_64 s 0 = r1656
      refine q_RP_let ?_
      show q_RP _ _ _ (29, [(0, .ref 64), (1, .int a1), (2, .int a2)], [.int (q_b r1656.2)], (q_kM r1656.1 c n)) _ _
      cases h1667 : r1656.2 with
      | true =>
        refine q_RP_cT ?_
        show q_RP _ _ _ (29, [(0, .ref 64), (1, .int a1), (2, .int a2)], [.int 1], (q_kM r1656.1 c n)) _ _
        refine q_RP_seg (g2 := (47, [(0, .ref 64), (1, .int a1), (2, .int a2)], [.int 0], (q_kM r1656.1 c n))) 3 (fun _ _ => rfl) ?_
        exact q_RP_ret rfl rfl rfl
      | false =>
        refine q_RP_cF ?_
        show q_RP _ _ _ (29, [(0, .ref 64), (1, .int a1), (2, .int a2)], [.int 0], (q_kM r1656.1 c n)) _ _
        refine q_RP_seg (g2 := (46, [(0, .ref 64), (1, .int a1), (2, .int a2)], [.int ((32 * a2) + a1), .ref 69], (q_kM r1656.1 c n))) 8 (fun _ _ => rfl) ?_
        refine q_RP_as fun i1668 => ?_
        refine q_RP_rsT (g2 := (47, [(0, .ref 64), (1, .int a1), (2, .int a2)], [.int ((r1656.1.1 5) (((32 * a2) + a1).toNatClampNeg))], (q_kM r1656.1 c n))) rfl rfl i1668 ?_
        exact q_RP_ret rfl rfl rfl
    | false =>
      refine q_RP_cF ?_
      show q_RP _ _ _ (18, [(0, .ref 64), (1, .int a1), (2, .int a2)], [.int 0, .ref 64], (q_kM s c n)) _ _
      refine q_RP_seg (g2 := (26, [(0, .ref 64), (1, .int a1), (2, .int a2)], [.int 1, .ref 64], (q_kM s c n))) 2 (fun _ _ => rfl) ?_
      refine q_RP_call (v := (some (.int (q_b (dz_M200_64 s 1).2)))) (h2 := (q_kM (dz_M200_64 s 1).1 c n)) rfl rfl ((dzt_M200_64 s c n 1).le (Nat.le_of_ble_eq_true rfl)) ?_
      generalize dz_M200_64 s 1 = r1657
      refine q_RP_let ?_
      show q_RP _ _ _ (29, [(0, .ref 64), (1, .int a1), (2, .int a2)], [.int (q_b r1657.2)], (q_kM r1657.1 c n)) _ _
      cases h1669 : r1657.2 with
      | true =>
        refine q_RP_cT ?_
        show q_RP _ _ _ (29, [(0, .ref 64), (1, .int a1), (2, .int a2)], [.int 1], (q_kM r1657.1 c n)) _ _
        refine q_RP_seg (g2 := (47, [(0, .ref 64), (1, .int a1), (2, .int a2)], [.int 0], (q_kM r1657.1 c n))) 3 (fun _ _ => rfl) ?_
        exact q_RP_ret rfl rfl rfl
      | false =>
        refine q_RP_cF ?_
        show q_RP _ _ _ (29, [(0, .ref 64), (1, .int a1), (2, .int a2)], [.int 0], (q_kM r1657.1 c n)) _ _
        refine q_RP_seg (g2 := (46, [(0, .ref 64), (1, .int a1), (2, .int a2)], [.int ((32 * a2) + a1), .ref 69], (q_kM r1657.1 c n))) 8 (fun _ _ => rfl) ?_
        refine q_RP_as fun i1670 => ?_
        refine q_RP_rsT (g2 := (47, [(0, .ref 64), (1, .int a1), (2, .int a2)], [.int ((r1657.1.1 5) (((32 * a2) + a1).toNatClampNeg))], (q_kM r1657.1 c n))) rfl rfl i1670 ?_
        exact q_RP_ret rfl rfl rfl
  | false =>
    refine q_RP_cF ?_
    show q_RP _ _ _ (8, [(0, .ref 64), (1, .int a1), (2, .int a2)], [.int 0, .ref 64], (q_kM s c n)) _ _
    refine q_RP_seg (g2 := (26, [(0, .ref 64), (1, .int a1), (2, .int a2)], [.int 1, .ref 64], (q_kM s c n))) 2 (fun _ _ => rfl) ?_
    refine q_RP_call (v := (some (.int (q_b (dz_M200_64 s 1).2)))) (h2 := (q_kM (dz_M200_64 s 1).1 c n)) rfl rfl ((dzt_M200_64 s c n 1).le (Nat.le_of_ble_eq_true rfl)) ?_
    generalize dz_M200_64 s 1 = r1658
    refine q_RP_let ?_
    show q_RP _ _ _ (29, [(0, .ref 64), (1, .int a1), (2, .int a2)], [.int (q_b r1658.2)], (q_kM r1658.1 c n)) _ _
    cases h1671 : r1658.2 with
    | true =>
      refine q_RP_cT ?_
      show q_RP _ _ _ (29, [(0, .ref 64), (1, .int a1), (2, .int a2)], [.int 1], (q_kM r1658.1 c n)) _ _
      refine q_RP_seg (g2 := (47, [(0, .ref 64), (1, .int a1), (2, .int a2)], [.int 0], (q_kM r1658.1 c n))) 3 (fun _ _ => rfl) ?_
      exact q_RP_ret rfl rfl rfl
    | false =>
      refine q_RP_cF ?_
      show q_RP _ _ _ (29, [(0, .ref 64), (1, .int a1), (2, .int a2)], [.int 0], (q_kM r1658.1 c n)) _ _
      refine q_RP_seg (g2 := (46, [(0, .ref 64), (1, .int a1), (2, .int a2)], [.int ((32 * a2) + a1), .ref 69], (q_kM r1658.1 c n))) 8 (fun _ _ => rfl) ?_
      refine q_RP_as fun i1672 => ?_
      refine q_RP_rsT (g2 := (47, [(0, .ref 64), (1, .int a1), (2, .int a2)], [.int ((r1658.1.1 5) (((32 * a2) + a1).toNatClampNeg))], (q_kM r1658.1 c n))) rfl rfl i1672 ?_
      exact q_RP_ret rfl rfl rfl
def dz_M294_64 (s : q_S) (a1 : Int32) (a2 : Int32) : Option (q_S × Int32) :=
  (dz_M293_64 s a1 a2).bind fun r1660 => some (r1660.1, r1660.2)
set_option maxHeartbeats 4000000 in
theorem dzt_M294_64 (s : q_S) (c n : Nat) (a1 : Int32) (a2 : Int32) (x : q_S × Int32) (h : dz_M294_64 s a1 a2 = some x) : q_Ca q_TB0 3 293 [.ref 64, .int a1, .int a2] (q_kM s c n) ((q_oIM c n) x) := by
  refine q_CaP_of (φ := (q_oIM c n)) (Nat.le_of_ble_eq_true rfl) ?_ h
  clear h
  unfold dz_M294_64
  refine q_RP_seg (g2 := (3, [(0, .ref 64), (1, .int a1), (2, .int a2)], [.int a2, .int a1, .ref 64], (q_kM s c n))) 3 (fun _ _ => rfl) ?_
  refine q_RP_bd fun r1660 er1660 => ?_
  refine q_RP_call (v := (some (.int r1660.2))) (h2 := (q_kM r1660.1 c n)) rfl rfl ((dzt_M293_64 s c n a1 a2 r1660 er1660).le (Nat.le_of_ble_eq_true rfl)) ?_
  show q_RP _ _ _ (6, [(0, .ref 64), (1, .int a1), (2, .int a2)], [.int r1660.2], (q_kM r1660.1 c n)) _ _
  exact q_RP_ret rfl rfl rfl
def dz_M295_64 (s : q_S) (a1 : Int32) (a2 : Int32) : Option (q_S × Int32) :=
  (dz_M293_64 s a1 a2).bind fun r1662 => some (r1662.1, r1662.2)
set_option maxHeartbeats 4000000 in
theorem dzt_M295_64 (s : q_S) (c n : Nat) (a1 : Int32) (a2 : Int32) (x : q_S × Int32) (h : dz_M295_64 s a1 a2 = some x) : q_Ca q_TB0 3 294 [.ref 64, .int a1, .int a2] (q_kM s c n) ((q_oIM c n) x) := by
  refine q_CaP_of (φ := (q_oIM c n)) (Nat.le_of_ble_eq_true rfl) ?_ h
  clear h
  unfold dz_M295_64
  refine q_RP_seg (g2 := (3, [(0, .ref 64), (1, .int a1), (2, .int a2)], [.int a2, .int a1, .ref 64], (q_kM s c n))) 3 (fun _ _ => rfl) ?_
  refine q_RP_bd fun r1662 er1662 => ?_
  refine q_RP_call (v := (some (.int r1662.2))) (h2 := (q_kM r1662.1 c n)) rfl rfl ((dzt_M293_64 s c n a1 a2 r1662 er1662).le (Nat.le_of_ble_eq_true rfl)) ?_
  show q_RP _ _ _ (6, [(0, .ref 64), (1, .int a1), (2, .int a2)], [.int r1662.2], (q_kM r1662.1 c n)) _ _
  exact q_RP_ret rfl rfl rfl
def dz_M296_64 (s : q_S) (a1 : Int32) : Option (q_S × Int32) :=
  q_let (dz_M202 s a1 0 39) fun r1665 => cond r1665 (q_let (dz_M200_64 s 0) fun r1666 => cond r1666.2 (some (r1666.1, 0)) (cond (q_in a1 40) (some (r1666.1, ((r1666.1.1 6) (a1.toNatClampNeg)))) none)) (q_let (dz_M200_64 s 1) fun r1667 => cond r1667.2 (some (r1667.1, 0)) (cond (q_in a1 40) (some (r1667.1, ((r1667.1.1 6) (a1.toNatClampNeg)))) none))
set_option maxHeartbeats 4000000 in
theorem dzt_M296_64 (s : q_S) (c n : Nat) (a1 : Int32) (x : q_S × Int32) (h : dz_M296_64 s a1 = some x) : q_Ca q_TB0 2 295 [.ref 64, .int a1] (q_kM s c n) ((q_oIM c n) x) := by
  refine q_CaP_of (φ := (q_oIM c n)) (Nat.le_of_ble_eq_true rfl) ?_ h
  clear h
  unfold dz_M296_64
  refine q_RP_seg (g2 := (5, [(0, .ref 64), (1, .int a1)], [.int 39, .int 0, .int a1, .ref 64], (q_kM s c n))) 4 (fun _ _ => rfl) ?_
  refine q_RP_call (v := (some (.int (q_b (dz_M202 s a1 0 39))))) (h2 := (q_kM s c n)) rfl rfl ((dzt_M202 s c n a1 0 39).le (Nat.le_of_ble_eq_true rfl)) ?_
  generalize dz_M202 s a1 0 39 = r1665
  refine q_RP_let ?_
  show q_RP _ _ _ (8, [(0, .ref 64), (1, .int a1)], [.int (q_b r1665), .ref 64], (q_kM s c n)) _ _
  cases h1675 : r1665 with
  | true =>
    refine q_RP_cT ?_
    show q_RP _ _ _ (8, [(0, .ref 64), (1, .int a1)], [.int 1, .ref 64], (q_kM s c n)) _ _
    refine q_RP_seg (g2 := (16, [(0, .ref 64), (1, .int a1)], [.int 0, .ref 64], (q_kM s c n))) 3 (fun _ _ => rfl) ?_
    refine q_RP_call (v := (some (.int (q_b (dz_M200_64 s 0).2)))) (h2 := (q_kM (dz_M200_64 s 0).1 c n)) rfl rfl ((dzt_M200_64 s c n 0).le (Nat.le_of_ble_eq_true rfl)) ?_
    generalize dz_M200_64 s 0 = r1666
    refine q_RP_let ?_
    show q_RP _ _ _ (19, [(0, .ref 64), (1, .int a1)], [.int (q_b r1666.2)], (q_kM r1666.1 c n)) _ _
    cases h1676 : r1666.2 with
    | true =>
      refine q_RP_cT ?_
      show q_RP _ _ _ (19, [(0, .ref 64), (1, .int a1)], [.int 1], (q_kM r1666.1 c n)) _ _
      refine q_RP_seg (g2 := (32, [(0, .ref 64), (1, .int a1)], [.int 0], (q_kM r1666.1 c n))) 3 (fun _ _ => rfl) ?_
      exact q_RP_ret rfl rfl rfl
    | false =>
      refine q_RP_cF ?_
      show q_RP _ _ _ (19, [(0, .ref 64), (1, .int a1)], [.int 0], (q_kM r1666.1 c n)) _ _
      refine q_RP_seg (g2 := (31, [(0, .ref 64), (1, .int a1)], [.int a1, .ref 70], (q_kM r1666.1 c n))) 4 (fun _ _ => rfl) ?_
      refine q_RP_as fun i1677 => ?_
      refine q_RP_rsT (g2 := (32, [(0, .ref 64), (1, .int a1)], [.int ((r1666.1.1 6) (a1.toNatClampNeg))], (q_kM r1666.1 c n))) rfl rfl i1677 ?_
      exact q_RP_ret rfl rfl rfl
  | false =>
    refine q_RP_cF ?_
    show q_RP _ _ _ (8, [(0, .ref 64), (1, .int a1)], [.int 0, .ref 64], (q_kM s c n)) _ _
    refine q_RP_seg (g2 := (16, [(0, .ref 64), (1, .int a1)], [.int 1, .ref 64], (q_kM s c n))) 2 (fun _ _ => rfl) ?_
    refine q_RP_call (v := (some (.int (q_b (dz_M200_64 s 1).2)))) (h2 := (q_kM (dz_M200_64 s 1).1 c n)) rfl rfl ((dzt_M200_64 s c n 1).le (Nat.le_of_ble_eq_true rfl)) ?_
    generalize dz_M200_64 s 1 = r1667
    refine q_RP_let ?_
    show q_RP _ _ _ (19, [(0, .ref 64), (1, .int a1)], [.int (q_b r1667.2)], (q_kM r1667.1 c n)) _ _
    cases h1678 : r1667.2 with
    | true =>
      refine q_RP_cT ?_
      show q_RP _ _ _ (19, [(0, .ref 64), (1, .int a1)], [.int 1], (q_kM r1667.1 c n)) _ _
      refine q_RP_seg (g2 := (32, [(0, .ref 64), (1, .int a1)], [.int 0], (q_kM r1667.1 c n))) 3 (fun _ _ => rfl) ?_
      exact q_RP_ret rfl rfl rfl
    | false =>
      refine q_RP_cF ?_
      show q_RP _ _ _ (19, [(0, .ref 64), (1, .int a1)], [.int 0], (q_kM r1667.1 c n)) _ _
      refine q_RP_seg (g2 := (31, [(0, .ref 64), (1, .int a1)], [.int a1, .ref 70], (q_kM r1667.1 c n))) 4 (fun _ _ => rfl) ?_
      refine q_RP_as fun i1679 => ?_
      refine q_RP_rsT (g2 := (32, [(0, .ref 64), (1, .int a1)], [.int ((r1667.1.1 6) (a1.toNatClampNeg))], (q_kM r1667.1 c n))) rfl rfl i1679 ?_
      exact q_RP_ret rfl rfl rfl
def dz_M297_64 (s : q_S) (a1 : Int32) : Option (q_S × Int32) :=
  q_let (dz_M202 s a1 0 2) fun r1670 => cond r1670 (q_let (dz_M200_64 s 0) fun r1671 => cond r1671.2 (some (r1671.1, 0)) (cond (q_in a1 3) (some (r1671.1, ((r1671.1.1 11) (a1.toNatClampNeg)))) none)) (q_let (dz_M200_64 s 1) fun r1672 => cond r1672.2 (some (r1672.1, 0)) (cond (q_in a1 3) (some (r1672.1, ((r1672.1.1 11) (a1.toNatClampNeg)))) none))
set_option maxHeartbeats 4000000 in
theorem dzt_M297_64 (s : q_S) (c n : Nat) (a1 : Int32) (x : q_S × Int32) (h : dz_M297_64 s a1 = some x) : q_Ca q_TB0 2 296 [.ref 64, .int a1] (q_kM s c n) ((q_oIM c n) x) := by
  refine q_CaP_of (φ := (q_oIM c n)) (Nat.le_of_ble_eq_true rfl) ?_ h
  clear h
  unfold dz_M297_64
  refine q_RP_seg (g2 := (4, [(0, .ref 64), (1, .int a1)], [.int 2, .int 0, .int a1, .ref 64], (q_kM s c n))) 4 (fun _ _ => rfl) ?_
  refine q_RP_call (v := (some (.int (q_b (dz_M202 s a1 0 2))))) (h2 := (q_kM s c n)) rfl rfl ((dzt_M202 s c n a1 0 2).le (Nat.le_of_ble_eq_true rfl)) ?_
  generalize dz_M202 s a1 0 2 = r1670
  refine q_RP_let ?_
  show q_RP _ _ _ (7, [(0, .ref 64), (1, .int a1)], [.int (q_b r1670), .ref 64], (q_kM s c n)) _ _
  cases h1682 : r1670 with
  | true =>
    refine q_RP_cT ?_
    show q_RP _ _ _ (7, [(0, .ref 64), (1, .int a1)], [.int 1, .ref 64], (q_kM s c n)) _ _
    refine q_RP_seg (g2 := (15, [(0, .ref 64), (1, .int a1)], [.int 0, .ref 64], (q_kM s c n))) 3 (fun _ _ => rfl) ?_
    refine q_RP_call (v := (some (.int (q_b (dz_M200_64 s 0).2)))) (h2 := (q_kM (dz_M200_64 s 0).1 c n)) rfl rfl ((dzt_M200_64 s c n 0).le (Nat.le_of_ble_eq_true rfl)) ?_
    generalize dz_M200_64 s 0 = r1671
    refine q_RP_let ?_
    show q_RP _ _ _ (18, [(0, .ref 64), (1, .int a1)], [.int (q_b r1671.2)], (q_kM r1671.1 c n)) _ _
    cases h1683 : r1671.2 with
    | true =>
      refine q_RP_cT ?_
      show q_RP _ _ _ (18, [(0, .ref 64), (1, .int a1)], [.int 1], (q_kM r1671.1 c n)) _ _
      refine q_RP_seg (g2 := (31, [(0, .ref 64), (1, .int a1)], [.int 0], (q_kM r1671.1 c n))) 3 (fun _ _ => rfl) ?_
      exact q_RP_ret rfl rfl rfl
    | false =>
      refine q_RP_cF ?_
      show q_RP _ _ _ (18, [(0, .ref 64), (1, .int a1)], [.int 0], (q_kM r1671.1 c n)) _ _
      refine q_RP_seg (g2 := (30, [(0, .ref 64), (1, .int a1)], [.int a1, .ref 75], (q_kM r1671.1 c n))) 4 (fun _ _ => rfl) ?_
      refine q_RP_as fun i1684 => ?_
      refine q_RP_rsT (g2 := (31, [(0, .ref 64), (1, .int a1)], [.int ((r1671.1.1 11) (a1.toNatClampNeg))], (q_kM r1671.1 c n))) rfl rfl i1684 ?_
      exact q_RP_ret rfl rfl rfl
  | false =>
    refine q_RP_cF ?_
    show q_RP _ _ _ (7, [(0, .ref 64), (1, .int a1)], [.int 0, .ref 64], (q_kM s c n)) _ _
    refine q_RP_seg (g2 := (15, [(0, .ref 64), (1, .int a1)], [.int 1, .ref 64], (q_kM s c n))) 2 (fun _ _ => rfl) ?_
    refine q_RP_call (v := (some (.int (q_b (dz_M200_64 s 1).2)))) (h2 := (q_kM (dz_M200_64 s 1).1 c n)) rfl rfl ((dzt_M200_64 s c n 1).le (Nat.le_of_ble_eq_true rfl)) ?_
    generalize dz_M200_64 s 1 = r1672
    refine q_RP_let ?_
    show q_RP _ _ _ (18, [(0, .ref 64), (1, .int a1)], [.int (q_b r1672.2)], (q_kM r1672.1 c n)) _ _
    cases h1685 : r1672.2 with
    | true =>
      refine q_RP_cT ?_
      show q_RP _ _ _ (18, [(0, .ref 64), (1, .int a1)], [.int 1], (q_kM r1672.1 c n)) _ _
      refine q_RP_seg (g2 := (31, [(0, .ref 64), (1, .int a1)], [.int 0], (q_kM r1672.1 c n))) 3 (fun _ _ => rfl) ?_
      exact q_RP_ret rfl rfl rfl
    | false =>
      refine q_RP_cF ?_
      show q_RP _ _ _ (18, [(0, .ref 64), (1, .int a1)], [.int 0], (q_kM r1672.1 c n)) _ _
      refine q_RP_seg (g2 := (30, [(0, .ref 64), (1, .int a1)], [.int a1, .ref 75], (q_kM r1672.1 c n))) 4 (fun _ _ => rfl) ?_
      refine q_RP_as fun i1686 => ?_
      refine q_RP_rsT (g2 := (31, [(0, .ref 64), (1, .int a1)], [.int ((r1672.1.1 11) (a1.toNatClampNeg))], (q_kM r1672.1 c n))) rfl rfl i1686 ?_
      exact q_RP_ret rfl rfl rfl
def dz_M298_64 (s : q_S) (a1 : Int32) (a2 : Int32) (a3 : Int32) : Option (q_S × Bool) :=
  q_let (dz_M202 s a1 0 3) fun r1676 => cond r1676 (q_let (dz_M202 s a2 0 3) fun r1677 => cond r1677 (q_let (dz_M200_64 s 0) fun r1678 => cond r1678.2 (some (r1678.1, false)) (cond (q_in ((4 * a1) + a2) 16) (q_let (dz_M205_64 (q_sA r1678.1 7 (upd (r1678.1.1 7) (((4 * a1) + a2).toNatClampNeg) (vp_nar .boolean a3)))) fun r1679 => cond (q_z1 ((r1678.1.1 7) (((4 * a1) + a2).toNatClampNeg))) (some (r1679, (decide ((r1678.1.1 7) (((4 * a1) + a2).toNatClampNeg) = 1)))) none) none)) (q_let (dz_M200_64 s 1) fun r1680 => cond r1680.2 (some (r1680.1, false)) (cond (q_in ((4 * a1) + a2) 16) (q_let (dz_M205_64 (q_sA r1680.1 7 (upd (r1680.1.1 7) (((4 * a1) + a2).toNatClampNeg) (vp_nar .boolean a3)))) fun r1681 => cond (q_z1 ((r1680.1.1 7) (((4 * a1) + a2).toNatClampNeg))) (some (r1681, (decide ((r1680.1.1 7) (((4 * a1) + a2).toNatClampNeg) = 1)))) none) none))) (q_let (dz_M200_64 s 1) fun r1682 => cond r1682.2 (some (r1682.1, false)) (cond (q_in ((4 * a1) + a2) 16) (q_let (dz_M205_64 (q_sA r1682.1 7 (upd (r1682.1.1 7) (((4 * a1) + a2).toNatClampNeg) (vp_nar .boolean a3)))) fun r1683 => cond (q_z1 ((r1682.1.1 7) (((4 * a1) + a2).toNatClampNeg))) (some (r1683, (decide ((r1682.1.1 7) (((4 * a1) + a2).toNatClampNeg) = 1)))) none) none))
set_option maxHeartbeats 4000000 in
theorem dzt_M298_64 (s : q_S) (c n : Nat) (a1 : Int32) (a2 : Int32) (a3 : Int32) (x : q_S × Bool) (h : dz_M298_64 s a1 a2 a3 = some x) : q_Ca q_TB0 2 297 [.ref 64, .int a1, .int a2, .int a3] (q_kM s c n) ((q_oJM c n) x) := by
  refine q_CaP_of (φ := (q_oJM c n)) (Nat.le_of_ble_eq_true rfl) ?_ h
  clear h
  unfold dz_M298_64
  refine q_RP_seg (g2 := (4, [(0, .ref 64), (1, .int a1), (2, .int a2), (3, .int a3)], [.int 3, .int 0, .int a1, .ref 64], (q_kM s c n))) 4 (fun _ _ => rfl) ?_
  refine q_RP_call (v := (some (.int (q_b (dz_M202 s a1 0 3))))) (h2 := (q_kM s c n)) rfl rfl ((dzt_M202 s c n a1 0 3).le (Nat.le_of_ble_eq_true rfl)) ?_
  generalize dz_M202 s a1 0 3 = r1676
  refine q_RP_let ?_
  show q_RP _ _ _ (7, [(0, .ref 64), (1, .int a1), (2, .int a2), (3, .int a3)], [.int (q_b r1676), .ref 64], (q_kM s c n)) _ _
  cases h1690 : r1676 with
  | true =>
    refine q_RP_cT ?_
    show q_RP _ _ _ (7, [(0, .ref 64), (1, .int a1), (2, .int a2), (3, .int a3)], [.int 1, .ref 64], (q_kM s c n)) _ _
    refine q_RP_seg (g2 := (13, [(0, .ref 64), (1, .int a1), (2, .int a2), (3, .int a3)], [.int 3, .int 0, .int a2, .ref 64], (q_kM s c n))) 4 (fun _ _ => rfl) ?_
    refine q_RP_call (v := (some (.int (q_b (dz_M202 s a2 0 3))))) (h2 := (q_kM s c n)) rfl rfl ((dzt_M202 s c n a2 0 3).le (Nat.le_of_ble_eq_true rfl)) ?_
    generalize dz_M202 s a2 0 3 = r1677
    refine q_RP_let ?_
    show q_RP _ _ _ (16, [(0, .ref 64), (1, .int a1), (2, .int a2), (3, .int a3)], [.int (q_b r1677), .ref 64], (q_kM s c n)) _ _
    cases h1691 : r1677 with
    | true =>
      refine q_RP_cT ?_
      show q_RP _ _ _ (16, [(0, .ref 64), (1, .int a1), (2, .int a2), (3, .int a3)], [.int 1, .ref 64], (q_kM s c n)) _ _
      refine q_RP_seg (g2 := (24, [(0, .ref 64), (1, .int a1), (2, .int a2), (3, .int a3)], [.int 0, .ref 64], (q_kM s c n))) 3 (fun _ _ => rfl) ?_
      refine q_RP_call (v := (some (.int (q_b (dz_M200_64 s 0).2)))) (h2 := (q_kM (dz_M200_64 s 0).1 c n)) rfl rfl ((dzt_M200_64 s c n 0).le (Nat.le_of_ble_eq_true rfl)) ?_
      generalize dz_M200_64 s 0 = r1678
      refine q_RP_let ?_
      show q_RP _ _ _ (27, [(0, .ref 64), (1, .int a1), (2, .int a2), (3, .int a3)], [.int (q_b r1678.2)], (q_kM r1678.1 c n)) _ _
      cases h1692 : r1678.2 with
      | true =>
        refine q_RP_cT ?_
        show q_RP _ _ _ (27, [(0, .ref 64), (1, .int a1), (2, .int a2), (3, .int a3)], [.int 1], (q_kM r1678.1 c n)) _ _
        refine q_RP_seg (g2 := (31, [(0, .ref 64), (1, .int a1), (2, .int a2), (3, .int a3)], [.int 0], (q_kM r1678.1 c n))) 2 (fun _ _ => rfl) ?_
        exact q_RP_ret rfl rfl rfl
      | false =>
        refine q_RP_cF ?_
        show q_RP _ _ _ (27, [(0, .ref 64), (1, .int a1), (2, .int a2), (3, .int a3)], [.int 0], (q_kM r1678.1 c n)) _ _
        refine q_RP_seg (g2 := (41, [(0, .ref 64), (1, .int a1), (2, .int a2), (3, .int a3)], [.int ((4 * a1) + a2), .ref 71], (q_kM r1678.1 c n))) 8 (fun _ _ => rfl) ?_
        refine q_RP_as fun i1693 => ?_
        refine q_RP_rsT (g2 := (42, [(0, .ref 64), (1, .int a1), (2, .int a2), (3, .int a3)], [.int ((r1678.1.1 7) (((4 * a1) + a2).toNatClampNeg))], (q_kM r1678.1 c n))) rfl rfl i1693 ?_
        refine q_RP_seg (g2 := (54, [(4, .int ((r1678.1.1 7) (((4 * a1) + a2).toNatClampNeg))), (0, .ref 64), (1, .int a1), (2, .int a2), (3, .int a3)], [.int a3, .int ((4 * a1) + a2), .ref 71], (q_kM r1678.1 c n))) 9 (fun _ _ => rfl) ?_
        refine q_RP_rsT (g2 := (55, [(4, .int ((r1678.1.1 7) (((4 * a1) + a2).toNatClampNeg))), (0, .ref 64), (1, .int a1), (2, .int a2), (3, .int a3)], [], (q_kM (q_sA r1678.1 7 (upd (r1678.1.1 7) (((4 * a1) + a2).toNatClampNeg) (vp_nar .boolean a3))) c n))) rfl q_wM7 i1693 ?_
        refine q_RP_seg (g2 := (56, [(4, .int ((r1678.1.1 7) (((4 * a1) + a2).toNatClampNeg))), (0, .ref 64), (1, .int a1), (2, .int a2), (3, .int a3)], [.ref 64], (q_kM (q_sA r1678.1 7 (upd (r1678.1.1 7) (((4 * a1) + a2).toNatClampNeg) (vp_nar .boolean a3))) c n))) 1 (fun _ _ => rfl) ?_
        refine q_RP_call (v := none) (h2 := (q_kM (dz_M205_64 (q_sA r1678.1 7 (upd (r1678.1.1 7) (((4 * a1) + a2).toNatClampNeg) (vp_nar .boolean a3)))) c n)) rfl rfl ((dzt_M205_64 (q_sA r1678.1 7 (upd (r1678.1.1 7) (((4 * a1) + a2).toNatClampNeg) (vp_nar .boolean a3))) c n).le (Nat.le_of_ble_eq_true rfl)) ?_
        generalize dz_M205_64 (q_sA r1678.1 7 (upd (r1678.1.1 7) (((4 * a1) + a2).toNatClampNeg) (vp_nar .boolean a3))) = r1679
        refine q_RP_let ?_
        show q_RP _ _ _ (59, [(4, .int ((r1678.1.1 7) (((4 * a1) + a2).toNatClampNeg))), (0, .ref 64), (1, .int a1), (2, .int a2), (3, .int a3)], [], (q_kM r1679 c n)) _ _
        refine q_RP_seg (g2 := (61, [(4, .int ((r1678.1.1 7) (((4 * a1) + a2).toNatClampNeg))), (0, .ref 64), (1, .int a1), (2, .int a2), (3, .int a3)], [.int ((r1678.1.1 7) (((4 * a1) + a2).toNatClampNeg))], (q_kM r1679 c n))) 1 (fun _ _ => rfl) ?_
        refine q_RP_as fun i1694 => ?_
        exact q_RP_ret rfl (q_rz01 i1694) (by show (Sum.inl (some (Value.int (q_b (decide ((r1678.1.1 7) (((4 * a1) + a2).toNatClampNeg) = 1))))), _) = _; rw [q_b01 i1694]; try rfl)
    | false =>
      refine q_RP_cF ?_
      show q_RP _ _ _ (16, [(0, .ref 64), (1, .int a1), (2, .int a2), (3, .int a3)], [.int 0, .ref 64], (q_kM s c n)) _ _
      refine q_RP_seg (g2 := (24, [(0, .ref 64), (1, .int a1), (2, .int a2), (3, .int a3)], [.int 1, .ref 64], (q_kM s c n))) 2 (fun _ _ => rfl) ?_
      refine q_RP_call (v := (some (.int (q_b (dz_M200_64 s 1).2)))) (h2 := (q_kM (dz_M200_64 s 1).1 c n)) rfl rfl ((dzt_M200_64 s c n 1).le (Nat.le_of_ble_eq_true rfl)) ?_
      generalize dz_M200_64 s 1 = r1680
      refine q_RP_let ?_
      show q_RP _ _ _ (27, [(0, .ref 64), (1, .int a1), (2, .int a2), (3, .int a3)], [.int (q_b r1680.2)], (q_kM r1680.1 c n)) _ _
      cases h1695 : r1680.2 with
      | true =>
        refine q_RP_cT ?_
        show q_RP _ _ _ (27, [(0, .ref 64), (1, .int a1), (2, .int a2), (3, .int a3)], [.int 1], (q_kM r1680.1 c n)) _ _
        refine q_RP_seg (g2 := (31, [(0, .ref 64), (1, .int a1), (2, .int a2), (3, .int a3)], [.int 0], (q_kM r1680.1 c n))) 2 (fun _ _ => rfl) ?_
        exact q_RP_ret rfl rfl rfl
      | false =>
        refine q_RP_cF ?_
        show q_RP _ _ _ (27, [(0, .ref 64), (1, .int a1), (2, .int a2), (3, .int a3)], [.int 0], (q_kM r1680.1 c n)) _ _
        refine q_RP_seg (g2 := (41, [(0, .ref 64), (1, .int a1), (2, .int a2), (3, .int a3)], [.int ((4 * a1) + a2), .ref 71], (q_kM r1680.1 c n))) 8 (fun _ _ => rfl) ?_
        refine q_RP_as fun i1696 => ?_
        refine q_RP_rsT (g2 := (42, [(0, .ref 64), (1, .int a1), (2, .int a2), (3, .int a3)], [.int ((r1680.1.1 7) (((4 * a1) + a2).toNatClampNeg))], (q_kM r1680.1 c n))) rfl rfl i1696 ?_
        refine q_RP_seg (g2 := (54, [(4, .int ((r1680.1.1 7) (((4 * a1) + a2).toNatClampNeg))), (0, .ref 64), (1, .int a1), (2, .int a2), (3, .int a3)], [.int a3, .int ((4 * a1) + a2), .ref 71], (q_kM r1680.1 c n))) 9 (fun _ _ => rfl) ?_
        refine q_RP_rsT (g2 := (55, [(4, .int ((r1680.1.1 7) (((4 * a1) + a2).toNatClampNeg))), (0, .ref 64), (1, .int a1), (2, .int a2), (3, .int a3)], [], (q_kM (q_sA r1680.1 7 (upd (r1680.1.1 7) (((4 * a1) + a2).toNatClampNeg) (vp_nar .boolean a3))) c n))) rfl q_wM7 i1696 ?_
        refine q_RP_seg (g2 := (56, [(4, .int ((r1680.1.1 7) (((4 * a1) + a2).toNatClampNeg))), (0, .ref 64), (1, .int a1), (2, .int a2), (3, .int a3)], [.ref 64], (q_kM (q_sA r1680.1 7 (upd (r1680.1.1 7) (((4 * a1) + a2).toNatClampNeg) (vp_nar .boolean a3))) c n))) 1 (fun _ _ => rfl) ?_
        refine q_RP_call (v := none) (h2 := (q_kM (dz_M205_64 (q_sA r1680.1 7 (upd (r1680.1.1 7) (((4 * a1) + a2).toNatClampNeg) (vp_nar .boolean a3)))) c n)) rfl rfl ((dzt_M205_64 (q_sA r1680.1 7 (upd (r1680.1.1 7) (((4 * a1) + a2).toNatClampNeg) (vp_nar .boolean a3))) c n).le (Nat.le_of_ble_eq_true rfl)) ?_
        generalize dz_M205_64 (q_sA r1680.1 7 (upd (r1680.1.1 7) (((4 * a1) + a2).toNatClampNeg) (vp_nar .boolean a3))) = r1681
        refine q_RP_let ?_
        show q_RP _ _ _ (59, [(4, .int ((r1680.1.1 7) (((4 * a1) + a2).toNatClampNeg))), (0, .ref 64), (1, .int a1), (2, .int a2), (3, .int a3)], [], (q_kM r1681 c n)) _ _
        refine q_RP_seg (g2 := (61, [(4, .int ((r1680.1.1 7) (((4 * a1) + a2).toNatClampNeg))), (0, .ref 64), (1, .int a1), (2, .int a2), (3, .int a3)], [.int ((r1680.1.1 7) (((4 * a1) + a2).toNatClampNeg))], (q_kM r1681 c n))) 1 (fun _ _ => rfl) ?_
        refine q_RP_as fun i1697 => ?_
        exact q_RP_ret rfl (q_rz01 i1697) (by show (Sum.inl (some (Value.int (q_b (decide ((r1680.1.1 7) (((4 * a1) + a2).toNatClampNeg) = 1))))), _) = _; rw [q_b01 i1697]; try rfl)
  | false =>
    refine q_RP_cF ?_
    show q_RP _ _ _ (7, [(0, .ref 64), (1, .int a1), (2, .int a2), (3, .int a3)], [.int 0, .ref 64], (q_kM s c n)) _ _
    refine q_RP_seg (g2 := (24, [(0, .ref 64), (1, .int a1), (2, .int a2), (3, .int a3)], [.int 1, .ref 64], (q_kM s c n))) 2 (fun _ _ => rfl) ?_
    refine q_RP_call (v := (some (.int (q_b (dz_M200_64 s 1).2)))) (h2 := (q_kM (dz_M200_64 s 1).1 c n)) rfl rfl ((dzt_M200_64 s c n 1).le (Nat.le_of_ble_eq_true rfl)) ?_
    generalize dz_M200_64 s 1 = r1682
    refine q_RP_let ?_
    show q_RP _ _ _ (27, [(0, .ref 64), (1, .int a1), (2, .int a2), (3, .int a3)], [.int (q_b r1682.2)], (q_kM r1682.1 c n)) _ _
    cases h1698 : r1682.2 with
    | true =>
      refine q_RP_cT ?_
      show q_RP _ _ _ (27, [(0, .ref 64), (1, .int a1), (2, .int a2), (3, .int a3)], [.int 1], (q_kM r1682.1 c n)) _ _
      refine q_RP_seg (g2 := (31, [(0, .ref 64), (1, .int a1), (2, .int a2), (3, .int a3)], [.int 0], (q_kM r1682.1 c n))) 2 (fun _ _ => rfl) ?_
      exact q_RP_ret rfl rfl rfl
    | false =>
      refine q_RP_cF ?_
      show q_RP _ _ _ (27, [(0, .ref 64), (1, .int a1), (2, .int a2), (3, .int a3)], [.int 0], (q_kM r1682.1 c n)) _ _
      refine q_RP_seg (g2 := (41, [(0, .ref 64), (1, .int a1), (2, .int a2), (3, .int a3)], [.int ((4 * a1) + a2), .ref 71], (q_kM r1682.1 c n))) 8 (fun _ _ => rfl) ?_
      refine q_RP_as fun i1699 => ?_
      refine q_RP_rsT (g2 := (42, [(0, .ref 64), (1, .int a1), (2, .int a2), (3, .int a3)], [.int ((r1682.1.1 7) (((4 * a1) + a2).toNatClampNeg))], (q_kM r1682.1 c n))) rfl rfl i1699 ?_
      refine q_RP_seg (g2 := (54, [(4, .int ((r1682.1.1 7) (((4 * a1) + a2).toNatClampNeg))), (0, .ref 64), (1, .int a1), (2, .int a2), (3, .int a3)], [.int a3, .int ((4 * a1) + a2), .ref 71], (q_kM r1682.1 c n))) 9 (fun _ _ => rfl) ?_
      refine q_RP_rsT (g2 := (55, [(4, .int ((r1682.1.1 7) (((4 * a1) + a2).toNatClampNeg))), (0, .ref 64), (1, .int a1), (2, .int a2), (3, .int a3)], [], (q_kM (q_sA r1682.1 7 (upd (r1682.1.1 7) (((4 * a1) + a2).toNatClampNeg) (vp_nar .boolean a3))) c n))) rfl q_wM7 i1699 ?_
      refine q_RP_seg (g2 := (56, [(4, .int ((r1682.1.1 7) (((4 * a1) + a2).toNatClampNeg))), (0, .ref 64), (1, .int a1), (2, .int a2), (3, .int a3)], [.ref 64], (q_kM (q_sA r1682.1 7 (upd (r1682.1.1 7) (((4 * a1) + a2).toNatClampNeg) (vp_nar .boolean a3))) c n))) 1 (fun _ _ => rfl) ?_
      refine q_RP_call (v := none) (h2 := (q_kM (dz_M205_64 (q_sA r1682.1 7 (upd (r1682.1.1 7) (((4 * a1) + a2).toNatClampNeg) (vp_nar .boolean a3)))) c n)) rfl rfl ((dzt_M205_64 (q_sA r1682.1 7 (upd (r1682.1.1 7) (((4 * a1) + a2).toNatClampNeg) (vp_nar .boolean a3))) c n).le (Nat.le_of_ble_eq_true rfl)) ?_
      generalize dz_M205_64 (q_sA r1682.1 7 (upd (r1682.1.1 7) (((4 * a1) + a2).toNatClampNeg) (vp_nar .boolean a3))) = r1683
      refine q_RP_let ?_
      show q_RP _ _ _ (59, [(4, .int ((r1682.1.1 7) (((4 * a1) + a2).toNatClampNeg))), (0, .ref 64), (1, .int a1), (2, .int a2), (3, .int a3)], [], (q_kM r1683 c n)) _ _
      refine q_RP_seg (g2 := (61, [(4, .int ((r1682.1.1 7) (((4 * a1) + a2).toNatClampNeg))), (0, .ref 64), (1, .int a1), (2, .int a2), (3, .int a3)], [.int ((r1682.1.1 7) (((4 * a1) + a2).toNatClampNeg))], (q_kM r1683 c n))) 1 (fun _ _ => rfl) ?_
      refine q_RP_as fun i1700 => ?_
      exact q_RP_ret rfl (q_rz01 i1700) (by show (Sum.inl (some (Value.int (q_b (decide ((r1682.1.1 7) (((4 * a1) + a2).toNatClampNeg) = 1))))), _) = _; rw [q_b01 i1700]; try rfl)
def dz_M299_64 (s : q_S) (a1 : Int32) : Option (q_S × Int32) :=
  q_let (dz_M202 s a1 0 15) fun r1687 => cond r1687 (q_let (dz_M200_64 s 0) fun r1688 => cond r1688.2 (some (r1688.1, 0)) ((dz_M208_64 r1688.1 a1).bind fun r1689 => some (r1689.1, r1689.2))) (q_let (dz_M200_64 s 1) fun r1690 => cond r1690.2 (some (r1690.1, 0)) ((dz_M208_64 r1690.1 a1).bind fun r1691 => some (r1691.1, r1691.2)))
set_option maxHeartbeats 4000000 in
theorem dzt_M299_64 (s : q_S) (c n : Nat) (a1 : Int32) (x : q_S × Int32) (h : dz_M299_64 s a1 = some x) : q_Ca q_TB0 3 298 [.ref 64, .int a1] (q_kM s c n) ((q_oIM c n) x) := by
  refine q_CaP_of (φ := (q_oIM c n)) (Nat.le_of_ble_eq_true rfl) ?_ h
  clear h
  unfold dz_M299_64
  refine q_RP_seg (g2 := (5, [(0, .ref 64), (1, .int a1)], [.int 15, .int 0, .int a1, .ref 64], (q_kM s c n))) 4 (fun _ _ => rfl) ?_
  refine q_RP_call (v := (some (.int (q_b (dz_M202 s a1 0 15))))) (h2 := (q_kM s c n)) rfl rfl ((dzt_M202 s c n a1 0 15).le (Nat.le_of_ble_eq_true rfl)) ?_
  generalize dz_M202 s a1 0 15 = r1687
  refine q_RP_let ?_
  show q_RP _ _ _ (8, [(0, .ref 64), (1, .int a1)], [.int (q_b r1687), .ref 64], (q_kM s c n)) _ _
  cases h1703 : r1687 with
  | true =>
    refine q_RP_cT ?_
    show q_RP _ _ _ (8, [(0, .ref 64), (1, .int a1)], [.int 1, .ref 64], (q_kM s c n)) _ _
    refine q_RP_seg (g2 := (16, [(0, .ref 64), (1, .int a1)], [.int 0, .ref 64], (q_kM s c n))) 3 (fun _ _ => rfl) ?_
    refine q_RP_call (v := (some (.int (q_b (dz_M200_64 s 0).2)))) (h2 := (q_kM (dz_M200_64 s 0).1 c n)) rfl rfl ((dzt_M200_64 s c n 0).le (Nat.le_of_ble_eq_true rfl)) ?_
    generalize dz_M200_64 s 0 = r1688
    refine q_RP_let ?_
    show q_RP _ _ _ (19, [(0, .ref 64), (1, .int a1)], [.int (q_b r1688.2)], (q_kM r1688.1 c n)) _ _
    cases h1704 : r1688.2 with
    | true =>
      refine q_RP_cT ?_
      show q_RP _ _ _ (19, [(0, .ref 64), (1, .int a1)], [.int 1], (q_kM r1688.1 c n)) _ _
      refine q_RP_seg (g2 := (31, [(0, .ref 64), (1, .int a1)], [.int 0], (q_kM r1688.1 c n))) 3 (fun _ _ => rfl) ?_
      exact q_RP_ret rfl rfl rfl
    | false =>
      refine q_RP_cF ?_
      show q_RP _ _ _ (19, [(0, .ref 64), (1, .int a1)], [.int 0], (q_kM r1688.1 c n)) _ _
      refine q_RP_seg (g2 := (28, [(0, .ref 64), (1, .int a1)], [.int a1, .ref 64], (q_kM r1688.1 c n))) 3 (fun _ _ => rfl) ?_
      refine q_RP_bd fun r1689 er1689 => ?_
      refine q_RP_call (v := (some (.int r1689.2))) (h2 := (q_kM r1689.1 c n)) rfl rfl ((dzt_M208_64 r1688.1 c n a1 r1689 er1689).le (Nat.le_of_ble_eq_true rfl)) ?_
      show q_RP _ _ _ (31, [(0, .ref 64), (1, .int a1)], [.int r1689.2], (q_kM r1689.1 c n)) _ _
      exact q_RP_ret rfl rfl rfl
  | false =>
    refine q_RP_cF ?_
    show q_RP _ _ _ (8, [(0, .ref 64), (1, .int a1)], [.int 0, .ref 64], (q_kM s c n)) _ _
    refine q_RP_seg (g2 := (16, [(0, .ref 64), (1, .int a1)], [.int 1, .ref 64], (q_kM s c n))) 2 (fun _ _ => rfl) ?_
    refine q_RP_call (v := (some (.int (q_b (dz_M200_64 s 1).2)))) (h2 := (q_kM (dz_M200_64 s 1).1 c n)) rfl rfl ((dzt_M200_64 s c n 1).le (Nat.le_of_ble_eq_true rfl)) ?_
    generalize dz_M200_64 s 1 = r1690
    refine q_RP_let ?_
    show q_RP _ _ _ (19, [(0, .ref 64), (1, .int a1)], [.int (q_b r1690.2)], (q_kM r1690.1 c n)) _ _
    cases h1705 : r1690.2 with
    | true =>
      refine q_RP_cT ?_
      show q_RP _ _ _ (19, [(0, .ref 64), (1, .int a1)], [.int 1], (q_kM r1690.1 c n)) _ _
      refine q_RP_seg (g2 := (31, [(0, .ref 64), (1, .int a1)], [.int 0], (q_kM r1690.1 c n))) 3 (fun _ _ => rfl) ?_
      exact q_RP_ret rfl rfl rfl
    | false =>
      refine q_RP_cF ?_
      show q_RP _ _ _ (19, [(0, .ref 64), (1, .int a1)], [.int 0], (q_kM r1690.1 c n)) _ _
      refine q_RP_seg (g2 := (28, [(0, .ref 64), (1, .int a1)], [.int a1, .ref 64], (q_kM r1690.1 c n))) 3 (fun _ _ => rfl) ?_
      refine q_RP_bd fun r1691 er1691 => ?_
      refine q_RP_call (v := (some (.int r1691.2))) (h2 := (q_kM r1691.1 c n)) rfl rfl ((dzt_M208_64 r1690.1 c n a1 r1691 er1691).le (Nat.le_of_ble_eq_true rfl)) ?_
      show q_RP _ _ _ (31, [(0, .ref 64), (1, .int a1)], [.int r1691.2], (q_kM r1691.1 c n)) _ _
      exact q_RP_ret rfl rfl rfl
def dz_M300_64 (s : q_S) (a1 : Int32) : q_S × Int32 :=
  q_let (dz_M202 s a1 0 15) fun r1692 => cond r1692 (q_let (dz_M200_64 s 0) fun r1693 => cond r1693.2 ((r1693.1, 0)) (q_let (dz_M205_64 (q_sA r1693.1 14 (upd (r1693.1.1 14) 12 a1))) fun r1694 => (r1694, ((r1693.1.1 14) 12)))) (q_let (dz_M200_64 s 1) fun r1695 => cond r1695.2 ((r1695.1, 0)) (q_let (dz_M205_64 (q_sA r1695.1 14 (upd (r1695.1.1 14) 12 a1))) fun r1696 => (r1696, ((r1695.1.1 14) 12))))
set_option maxHeartbeats 4000000 in
theorem dzt_M300_64 (s : q_S) (c n : Nat) (a1 : Int32) : q_Ca q_TB0 2 299 [.ref 64, .int a1] (q_kM s c n) ((q_oIM c n) (dz_M300_64 s a1)) := by
  refine q_CaT_of (φ := (q_oIM c n)) (Nat.le_of_ble_eq_true rfl) ?_
  unfold dz_M300_64
  refine q_RT_seg (g2 := (5, [(0, .ref 64), (1, .int a1)], [.int 15, .int 0, .int a1, .ref 64], (q_kM s c n))) 4 (fun _ _ => rfl) ?_
  refine q_RT_call (v := (some (.int (q_b (dz_M202 s a1 0 15))))) (h2 := (q_kM s c n)) rfl rfl ((dzt_M202 s c n a1 0 15).le (Nat.le_of_ble_eq_true rfl)) ?_
  generalize dz_M202 s a1 0 15 = r1692
  refine q_RT_let ?_
  show q_RT _ _ _ (8, [(0, .ref 64), (1, .int a1)], [.int (q_b r1692), .ref 64], (q_kM s c n)) _ _
  cases h1706 : r1692 with
  | true =>
    refine q_RT_cT ?_
    show q_RT _ _ _ (8, [(0, .ref 64), (1, .int a1)], [.int 1, .ref 64], (q_kM s c n)) _ _
    refine q_RT_seg (g2 := (16, [(0, .ref 64), (1, .int a1)], [.int 0, .ref 64], (q_kM s c n))) 3 (fun _ _ => rfl) ?_
    refine q_RT_call (v := (some (.int (q_b (dz_M200_64 s 0).2)))) (h2 := (q_kM (dz_M200_64 s 0).1 c n)) rfl rfl ((dzt_M200_64 s c n 0).le (Nat.le_of_ble_eq_true rfl)) ?_
    generalize dz_M200_64 s 0 = r1693
    refine q_RT_let ?_
    show q_RT _ _ _ (19, [(0, .ref 64), (1, .int a1)], [.int (q_b r1693.2)], (q_kM r1693.1 c n)) _ _
    cases h1707 : r1693.2 with
    | true =>
      refine q_RT_cT ?_
      show q_RT _ _ _ (19, [(0, .ref 64), (1, .int a1)], [.int 1], (q_kM r1693.1 c n)) _ _
      refine q_RT_seg (g2 := (23, [(0, .ref 64), (1, .int a1)], [.int 0], (q_kM r1693.1 c n))) 2 (fun _ _ => rfl) ?_
      exact q_RT_ret rfl rfl rfl
    | false =>
      refine q_RT_cF ?_
      show q_RT _ _ _ (19, [(0, .ref 64), (1, .int a1)], [.int 0], (q_kM r1693.1 c n)) _ _
      refine q_RT_seg (g2 := (31, [(0, .ref 64), (1, .int a1)], [.int ((r1693.1.1 14) 12)], (q_kM r1693.1 c n))) 5 (fun _ _ => rfl) ?_
      refine q_RT_seg (g2 := (41, [(2, .int ((r1693.1.1 14) 12)), (0, .ref 64), (1, .int a1)], [.ref 64], (q_kM (q_sA r1693.1 14 (upd (r1693.1.1 14) 12 a1)) c n))) 7 (fun _ _ => rfl) ?_
      refine q_RT_call (v := none) (h2 := (q_kM (dz_M205_64 (q_sA r1693.1 14 (upd (r1693.1.1 14) 12 a1))) c n)) rfl rfl ((dzt_M205_64 (q_sA r1693.1 14 (upd (r1693.1.1 14) 12 a1)) c n).le (Nat.le_of_ble_eq_true rfl)) ?_
      generalize dz_M205_64 (q_sA r1693.1 14 (upd (r1693.1.1 14) 12 a1)) = r1694
      refine q_RT_let ?_
      show q_RT _ _ _ (44, [(2, .int ((r1693.1.1 14) 12)), (0, .ref 64), (1, .int a1)], [], (q_kM r1694 c n)) _ _
      refine q_RT_seg (g2 := (45, [(2, .int ((r1693.1.1 14) 12)), (0, .ref 64), (1, .int a1)], [.int ((r1693.1.1 14) 12)], (q_kM r1694 c n))) 1 (fun _ _ => rfl) ?_
      exact q_RT_ret rfl rfl rfl
  | false =>
    refine q_RT_cF ?_
    show q_RT _ _ _ (8, [(0, .ref 64), (1, .int a1)], [.int 0, .ref 64], (q_kM s c n)) _ _
    refine q_RT_seg (g2 := (16, [(0, .ref 64), (1, .int a1)], [.int 1, .ref 64], (q_kM s c n))) 2 (fun _ _ => rfl) ?_
    refine q_RT_call (v := (some (.int (q_b (dz_M200_64 s 1).2)))) (h2 := (q_kM (dz_M200_64 s 1).1 c n)) rfl rfl ((dzt_M200_64 s c n 1).le (Nat.le_of_ble_eq_true rfl)) ?_
    generalize dz_M200_64 s 1 = r1695
    refine q_RT_let ?_
    show q_RT _ _ _ (19, [(0, .ref 64), (1, .int a1)], [.int (q_b r1695.2)], (q_kM r1695.1 c n)) _ _
    cases h1708 : r1695.2 with
    | true =>
      refine q_RT_cT ?_
      show q_RT _ _ _ (19, [(0, .ref 64), (1, .int a1)], [.int 1], (q_kM r1695.1 c n)) _ _
      refine q_RT_seg (g2 := (23, [(0, .ref 64), (1, .int a1)], [.int 0], (q_kM r1695.1 c n))) 2 (fun _ _ => rfl) ?_
      exact q_RT_ret rfl rfl rfl
    | false =>
      refine q_RT_cF ?_
      show q_RT _ _ _ (19, [(0, .ref 64), (1, .int a1)], [.int 0], (q_kM r1695.1 c n)) _ _
      refine q_RT_seg (g2 := (31, [(0, .ref 64), (1, .int a1)], [.int ((r1695.1.1 14) 12)], (q_kM r1695.1 c n))) 5 (fun _ _ => rfl) ?_
      refine q_RT_seg (g2 := (41, [(2, .int ((r1695.1.1 14) 12)), (0, .ref 64), (1, .int a1)], [.ref 64], (q_kM (q_sA r1695.1 14 (upd (r1695.1.1 14) 12 a1)) c n))) 7 (fun _ _ => rfl) ?_
      refine q_RT_call (v := none) (h2 := (q_kM (dz_M205_64 (q_sA r1695.1 14 (upd (r1695.1.1 14) 12 a1))) c n)) rfl rfl ((dzt_M205_64 (q_sA r1695.1 14 (upd (r1695.1.1 14) 12 a1)) c n).le (Nat.le_of_ble_eq_true rfl)) ?_
      generalize dz_M205_64 (q_sA r1695.1 14 (upd (r1695.1.1 14) 12 a1)) = r1696
      refine q_RT_let ?_
      show q_RT _ _ _ (44, [(2, .int ((r1695.1.1 14) 12)), (0, .ref 64), (1, .int a1)], [], (q_kM r1696 c n)) _ _
      refine q_RT_seg (g2 := (45, [(2, .int ((r1695.1.1 14) 12)), (0, .ref 64), (1, .int a1)], [.int ((r1695.1.1 14) 12)], (q_kM r1696 c n))) 1 (fun _ _ => rfl) ?_
      exact q_RT_ret rfl rfl rfl
def dz_M301_64_56 (s : q_S) (v1 : Int32) : Option (q_S × Int32) :=
  cond (q_in ((s.1 14) 13) 40) (q_let (dz_M205_64 (q_sA (q_sA s 8 (upd (s.1 8) (((s.1 14) 13).toNatClampNeg) v1)) 14 (upd (s.1 14) 13 (((s.1 14) 13) + 1)))) fun r1703 => some (r1703, ((r1703.1 14) 13))) none
set_option maxHeartbeats 4000000 in
theorem dzt_M301_64_56 (c n : Nat) (s : q_S) (v1 : Int32) : q_RP q_TB0 1 300 (56, [(0, .ref 64), (1, .int v1)], [], (q_kM s c n)) (q_oIM c n) (dz_M301_64_56 s v1) := by
  unfold dz_M301_64_56
  refine q_RP_seg (g2 := (67, [(0, .ref 64), (1, .int v1)], [.int ((s.1 14) 13), .ref 72], (q_kM s c n))) 6 (fun _ _ => rfl) ?_
  refine q_RP_seg (g2 := (68, [(0, .ref 64), (1, .int v1)], [.int v1, .int ((s.1 14) 13), .ref 72], (q_kM s c n))) 1 (fun _ _ => rfl) ?_
  refine q_RP_as fun i1717 => ?_
  refine q_RP_rsT (g2 := (69, [(0, .ref 64), (1, .int v1)], [], (q_kM (q_sA s 8 (upd (s.1 8) (((s.1 14) 13).toNatClampNeg) v1)) c n))) rfl q_wM8 i1717 ?_
  refine q_RP_seg (g2 := (77, [(0, .ref 64), (1, .int v1)], [.int ((s.1 14) 13), .int 13, .ref 78], (q_kM (q_sA s 8 (upd (s.1 8) (((s.1 14) 13).toNatClampNeg) v1)) c n))) 5 (fun _ _ => rfl) ?_
  refine q_RP_seg (g2 := (81, [(0, .ref 64), (1, .int v1)], [.ref 64], (q_kM (q_sA (q_sA s 8 (upd (s.1 8) (((s.1 14) 13).toNatClampNeg) v1)) 14 (upd (s.1 14) 13 (((s.1 14) 13) + 1))) c n))) 4 (fun _ _ => rfl) ?_
  refine q_RP_call (v := none) (h2 := (q_kM (dz_M205_64 (q_sA (q_sA s 8 (upd (s.1 8) (((s.1 14) 13).toNatClampNeg) v1)) 14 (upd (s.1 14) 13 (((s.1 14) 13) + 1)))) c n)) rfl rfl ((dzt_M205_64 (q_sA (q_sA s 8 (upd (s.1 8) (((s.1 14) 13).toNatClampNeg) v1)) 14 (upd (s.1 14) 13 (((s.1 14) 13) + 1))) c n).le (Nat.le_of_ble_eq_true rfl)) ?_
  generalize dz_M205_64 (q_sA (q_sA s 8 (upd (s.1 8) (((s.1 14) 13).toNatClampNeg) v1)) 14 (upd (s.1 14) 13 (((s.1 14) 13) + 1))) = r1703
  refine q_RP_let ?_
  show q_RP _ _ _ (84, [(0, .ref 64), (1, .int v1)], [], (q_kM r1703 c n)) _ _
  refine q_RP_seg (g2 := (91, [(0, .ref 64), (1, .int v1)], [.int ((r1703.1 14) 13)], (q_kM r1703 c n))) 4 (fun _ _ => rfl) ?_
  exact q_RP_ret rfl rfl rfl
def dz_M301_64 (s : q_S) (a1 : Int32) : Option (q_S × Int32) :=
  q_let (dz_M202 s a1 1 999) fun r1700 => cond r1700 (cond (decide ((s.1 14) 13 = 40)) (q_let (dz_M200_64 s 2) fun r1701 => cond r1701.2 (some (r1701.1, 0)) (q_let (dz_M209_64 r1701.1) fun r1702 => cond r1702 (dz_M301_64_56 r1701.1 a1) (dz_M301_64_56 (q_sA r1701.1 14 (upd (r1701.1.1 14) 15 a1)) a1))) (q_let (dz_M200_64 s 0) fun r1704 => cond r1704.2 (some (r1704.1, 0)) (q_let (dz_M209_64 r1704.1) fun r1705 => cond r1705 (dz_M301_64_56 r1704.1 a1) (dz_M301_64_56 (q_sA r1704.1 14 (upd (r1704.1.1 14) 15 a1)) a1)))) (q_let (dz_M200_64 s 1) fun r1706 => cond r1706.2 (some (r1706.1, 0)) (q_let (dz_M209_64 r1706.1) fun r1707 => cond r1707 (dz_M301_64_56 r1706.1 a1) (dz_M301_64_56 (q_sA r1706.1 14 (upd (r1706.1.1 14) 15 a1)) a1)))
set_option maxHeartbeats 4000000 in
theorem dzt_M301_64 (s : q_S) (c n : Nat) (a1 : Int32) (x : q_S × Int32) (h : dz_M301_64 s a1 = some x) : q_Ca q_TB0 2 300 [.ref 64, .int a1] (q_kM s c n) ((q_oIM c n) x) := by
  refine q_CaP_of (φ := (q_oIM c n)) (Nat.le_of_ble_eq_true rfl) ?_ h
  clear h
  unfold dz_M301_64
  refine q_RP_seg (g2 := (6, [(0, .ref 64), (1, .int a1)], [.int 999, .int 1, .int a1, .ref 64], (q_kM s c n))) 4 (fun _ _ => rfl) ?_
  refine q_RP_call (v := (some (.int (q_b (dz_M202 s a1 1 999))))) (h2 := (q_kM s c n)) rfl rfl ((dzt_M202 s c n a1 1 999).le (Nat.le_of_ble_eq_true rfl)) ?_
  generalize dz_M202 s a1 1 999 = r1700
  refine q_RP_let ?_
  show q_RP _ _ _ (9, [(0, .ref 64), (1, .int a1)], [.int (q_b r1700), .ref 64], (q_kM s c n)) _ _
  cases h1713 : r1700 with
  | true =>
    refine q_RP_cT ?_
    show q_RP _ _ _ (9, [(0, .ref 64), (1, .int a1)], [.int 1, .ref 64], (q_kM s c n)) _ _
    refine q_RP_seg (g2 := (23, [(0, .ref 64), (1, .int a1)], [.int ((s.1 14) 13), .ref 64], (q_kM s c n))) 5 (fun _ _ => rfl) ?_
    refine q_RP_seg (g2 := (25, [(0, .ref 64), (1, .int a1)], [.int 40, .int ((s.1 14) 13), .ref 64], (q_kM s c n))) 1 (fun _ _ => rfl) ?_
    cases h1714 : decide ((s.1 14) 13 = 40) with
    | true =>
      refine q_RP_cT ?_
      refine q_RP_rsF (g2 := (28, [(0, .ref 64), (1, .int a1)], [.ref 64], (q_kM s c n))) rfl rfl (q_d_neT h1714) ?_
      refine q_RP_seg (g2 := (33, [(0, .ref 64), (1, .int a1)], [.int 2, .ref 64], (q_kM s c n))) 2 (fun _ _ => rfl) ?_
      refine q_RP_call (v := (some (.int (q_b (dz_M200_64 s 2).2)))) (h2 := (q_kM (dz_M200_64 s 2).1 c n)) rfl rfl ((dzt_M200_64 s c n 2).le (Nat.le_of_ble_eq_true rfl)) ?_
      generalize dz_M200_64 s 2 = r1701
      refine q_RP_let ?_
      show q_RP _ _ _ (36, [(0, .ref 64), (1, .int a1)], [.int (q_b r1701.2)], (q_kM r1701.1 c n)) _ _
      cases h1715 : r1701.2 with
      | true =>
        refine q_RP_cT ?_
        show q_RP _ _ _ (36, [(0, .ref 64), (1, .int a1)], [.int 1], (q_kM r1701.1 c n)) _ _
        refine q_RP_seg (g2 := (40, [(0, .ref 64), (1, .int a1)], [.int 0], (q_kM r1701.1 c n))) 2 (fun _ _ => rfl) ?_
        exact q_RP_ret rfl rfl rfl
      | false =>
        refine q_RP_cF ?_
        show q_RP _ _ _ (36, [(0, .ref 64), (1, .int a1)], [.int 0], (q_kM r1701.1 c n)) _ _
        refine q_RP_seg (g2 := (42, [(0, .ref 64), (1, .int a1)], [.ref 64], (q_kM r1701.1 c n))) 2 (fun _ _ => rfl) ?_
        refine q_RP_call (v := (some (.int (q_b (dz_M209_64 r1701.1))))) (h2 := (q_kM r1701.1 c n)) rfl rfl ((dzt_M209_64 r1701.1 c n).le (Nat.le_of_ble_eq_true rfl)) ?_
        generalize dz_M209_64 r1701.1 = r1702
        refine q_RP_let ?_
        show q_RP _ _ _ (45, [(0, .ref 64), (1, .int a1)], [.int (q_b r1702)], (q_kM r1701.1 c n)) _ _
        cases h1716 : r1702 with
        | true =>
          refine q_RP_cT ?_
          show q_RP _ _ _ (45, [(0, .ref 64), (1, .int a1)], [.int 1], (q_kM r1701.1 c n)) _ _
          refine q_RP_seg (g2 := (56, [(0, .ref 64), (1, .int a1)], [], (q_kM r1701.1 c n))) 1 (fun _ _ => rfl) ?_
          exact (dzt_M301_64_56 c n r1701.1 a1)
        | false =>
          refine q_RP_cF ?_
          show q_RP _ _ _ (45, [(0, .ref 64), (1, .int a1)], [.int 0], (q_kM r1701.1 c n)) _ _
          refine q_RP_seg (g2 := (56, [(0, .ref 64), (1, .int a1)], [], (q_kM (q_sA r1701.1 14 (upd (r1701.1.1 14) 15 a1)) c n))) 6 (fun _ _ => rfl) ?_
          exact (dzt_M301_64_56 c n (q_sA r1701.1 14 (upd (r1701.1.1 14) 15 a1)) a1)
    | false =>
      refine q_RP_cF ?_
      refine q_RP_rsT (g2 := (32, [(0, .ref 64), (1, .int a1)], [.ref 64], (q_kM s c n))) rfl rfl (q_d_neF h1714) ?_
      refine q_RP_seg (g2 := (33, [(0, .ref 64), (1, .int a1)], [.int 0, .ref 64], (q_kM s c n))) 1 (fun _ _ => rfl) ?_
      refine q_RP_call (v := (some (.int (q_b (dz_M200_64 s 0).2)))) (h2 := (q_kM (dz_M200_64 s 0).1 c n)) rfl rfl ((dzt_M200_64 s c n 0).le (Nat.le_of_ble_eq_true rfl)) ?_
      generalize dz_M200_64 s 0 = r1704
      refine q_RP_let ?_
      show q_RP _ _ _ (36, [(0, .ref 64), (1, .int a1)], [.int (q_b r1704.2)], (q_kM r1704.1 c n)) _ _
      cases h1718 : r1704.2 with
      | true =>
        refine q_RP_cT ?_
        show q_RP _ _ _ (36, [(0, .ref 64), (1, .int a1)], [.int 1], (q_kM r1704.1 c n)) _ _
        refine q_RP_seg (g2 := (40, [(0, .ref 64), (1, .int a1)], [.int 0], (q_kM r1704.1 c n))) 2 (fun _ _ => rfl) ?_
        exact q_RP_ret rfl rfl rfl
      | false =>
        refine q_RP_cF ?_
        show q_RP _ _ _ (36, [(0, .ref 64), (1, .int a1)], [.int 0], (q_kM r1704.1 c n)) _ _
        refine q_RP_seg (g2 := (42, [(0, .ref 64), (1, .int a1)], [.ref 64], (q_kM r1704.1 c n))) 2 (fun _ _ => rfl) ?_
        refine q_RP_call (v := (some (.int (q_b (dz_M209_64 r1704.1))))) (h2 := (q_kM r1704.1 c n)) rfl rfl ((dzt_M209_64 r1704.1 c n).le (Nat.le_of_ble_eq_true rfl)) ?_
        generalize dz_M209_64 r1704.1 = r1705
        refine q_RP_let ?_
        show q_RP _ _ _ (45, [(0, .ref 64), (1, .int a1)], [.int (q_b r1705)], (q_kM r1704.1 c n)) _ _
        cases h1719 : r1705 with
        | true =>
          refine q_RP_cT ?_
          show q_RP _ _ _ (45, [(0, .ref 64), (1, .int a1)], [.int 1], (q_kM r1704.1 c n)) _ _
          refine q_RP_seg (g2 := (56, [(0, .ref 64), (1, .int a1)], [], (q_kM r1704.1 c n))) 1 (fun _ _ => rfl) ?_
          exact (dzt_M301_64_56 c n r1704.1 a1)
        | false =>
          refine q_RP_cF ?_
          show q_RP _ _ _ (45, [(0, .ref 64), (1, .int a1)], [.int 0], (q_kM r1704.1 c n)) _ _
          refine q_RP_seg (g2 := (56, [(0, .ref 64), (1, .int a1)], [], (q_kM (q_sA r1704.1 14 (upd (r1704.1.1 14) 15 a1)) c n))) 6 (fun _ _ => rfl) ?_
          exact (dzt_M301_64_56 c n (q_sA r1704.1 14 (upd (r1704.1.1 14) 15 a1)) a1)
  | false =>
    refine q_RP_cF ?_
    show q_RP _ _ _ (9, [(0, .ref 64), (1, .int a1)], [.int 0, .ref 64], (q_kM s c n)) _ _
    refine q_RP_seg (g2 := (33, [(0, .ref 64), (1, .int a1)], [.int 1, .ref 64], (q_kM s c n))) 3 (fun _ _ => rfl) ?_
    refine q_RP_call (v := (some (.int (q_b (dz_M200_64 s 1).2)))) (h2 := (q_kM (dz_M200_64 s 1).1 c n)) rfl rfl ((dzt_M200_64 s c n 1).le (Nat.le_of_ble_eq_true rfl)) ?_
    generalize dz_M200_64 s 1 = r1706
    refine q_RP_let ?_
    show q_RP _ _ _ (36, [(0, .ref 64), (1, .int a1)], [.int (q_b r1706.2)], (q_kM r1706.1 c n)) _ _
    cases h1720 : r1706.2 with
    | true =>
      refine q_RP_cT ?_
      show q_RP _ _ _ (36, [(0, .ref 64), (1, .int a1)], [.int 1], (q_kM r1706.1 c n)) _ _
      refine q_RP_seg (g2 := (40, [(0, .ref 64), (1, .int a1)], [.int 0], (q_kM r1706.1 c n))) 2 (fun _ _ => rfl) ?_
      exact q_RP_ret rfl rfl rfl
    | false =>
      refine q_RP_cF ?_
      show q_RP _ _ _ (36, [(0, .ref 64), (1, .int a1)], [.int 0], (q_kM r1706.1 c n)) _ _
      refine q_RP_seg (g2 := (42, [(0, .ref 64), (1, .int a1)], [.ref 64], (q_kM r1706.1 c n))) 2 (fun _ _ => rfl) ?_
      refine q_RP_call (v := (some (.int (q_b (dz_M209_64 r1706.1))))) (h2 := (q_kM r1706.1 c n)) rfl rfl ((dzt_M209_64 r1706.1 c n).le (Nat.le_of_ble_eq_true rfl)) ?_
      generalize dz_M209_64 r1706.1 = r1707
      refine q_RP_let ?_
      show q_RP _ _ _ (45, [(0, .ref 64), (1, .int a1)], [.int (q_b r1707)], (q_kM r1706.1 c n)) _ _
      cases h1721 : r1707 with
      | true =>
        refine q_RP_cT ?_
        show q_RP _ _ _ (45, [(0, .ref 64), (1, .int a1)], [.int 1], (q_kM r1706.1 c n)) _ _
        refine q_RP_seg (g2 := (56, [(0, .ref 64), (1, .int a1)], [], (q_kM r1706.1 c n))) 1 (fun _ _ => rfl) ?_
        exact (dzt_M301_64_56 c n r1706.1 a1)
      | false =>
        refine q_RP_cF ?_
        show q_RP _ _ _ (45, [(0, .ref 64), (1, .int a1)], [.int 0], (q_kM r1706.1 c n)) _ _
        refine q_RP_seg (g2 := (56, [(0, .ref 64), (1, .int a1)], [], (q_kM (q_sA r1706.1 14 (upd (r1706.1.1 14) 15 a1)) c n))) 6 (fun _ _ => rfl) ?_
        exact (dzt_M301_64_56 c n (q_sA r1706.1 14 (upd (r1706.1.1 14) 15 a1)) a1)
def dz_M302_64 (s : q_S) : q_S × Int32 :=
  q_let (dz_M209_64 (q_sA (q_sI s 0 39 0) 14 (upd (s.1 14) 14 0))) fun r1708 => cond r1708 (q_let ((q_sA (q_sI s 0 39 0) 14 (upd (s.1 14) 14 0))) fun r1709 => q_let (dz_M205_64 (q_sA r1709 14 (upd (r1709.1 14) 15 ((s.1 8) 0)))) fun r1710 => (r1710, ((s.1 14) 14))) (q_let ((q_sA (q_sI s 0 39 0) 14 (upd (s.1 14) 14 0))) fun r1711 => q_let (dz_M205_64 (q_sA r1711 14 (upd (r1711.1 14) 15 0))) fun r1712 => (r1712, ((s.1 14) 14)))
set_option maxHeartbeats 4000000 in
theorem dzt_M302_64 (s : q_S) (c n : Nat) : q_Ca q_TB0 2 301 [.ref 64] (q_kM s c n) ((q_oIM c n) (dz_M302_64 s)) := by
  refine q_CaT_of (φ := (q_oIM c n)) (Nat.le_of_ble_eq_true rfl) ?_
  unfold dz_M302_64
  refine q_RT_seg (g2 := (12, [(0, .ref 64)], [.int ((s.1 14) 14)], (q_kM (q_sI s 0 39 0) c n))) 7 (fun _ _ => rfl) ?_
  refine q_RT_seg (g2 := (28, [(1, .int ((s.1 14) 14)), (0, .ref 64)], [.ref 64, .int 15, .ref 78], (q_kM (q_sA (q_sI s 0 39 0) 14 (upd (s.1 14) 14 0)) c n))) 10 (fun _ _ => rfl) ?_
  refine q_RT_call (v := (some (.int (q_b (dz_M209_64 (q_sA (q_sI s 0 39 0) 14 (upd (s.1 14) 14 0))))))) (h2 := (q_kM (q_sA (q_sI s 0 39 0) 14 (upd (s.1 14) 14 0)) c n)) rfl rfl ((dzt_M209_64 (q_sA (q_sI s 0 39 0) 14 (upd (s.1 14) 14 0)) c n).le (Nat.le_of_ble_eq_true rfl)) ?_
  generalize dz_M209_64 (q_sA (q_sI s 0 39 0) 14 (upd (s.1 14) 14 0)) = r1708
  refine q_RT_let ?_
  show q_RT _ _ _ (31, [(1, .int ((s.1 14) 14)), (0, .ref 64)], [.int (q_b r1708), .int 15, .ref 78], (q_kM (q_sA (q_sI s 0 39 0) 14 (upd (s.1 14) 14 0)) c n)) _ _
  cases h1722 : r1708 with
  | true =>
    refine q_RT_cT ?_
    show q_RT _ _ _ (31, [(1, .int ((s.1 14) 14)), (0, .ref 64)], [.int 1, .int 15, .ref 78], (q_kM (q_sA (q_sI s 0 39 0) 14 (upd (s.1 14) 14 0)) c n)) _ _
    refine q_RT_seg (g2 := (40, [(1, .int ((s.1 14) 14)), (0, .ref 64)], [.int ((s.1 8) 0), .int 15, .ref 78], (q_kM (q_sA (q_sI s 0 39 0) 14 (upd (s.1 14) 14 0)) c n))) 5 (fun _ _ => rfl) ?_
    refine q_RT_seg (g2 := (44, [(1, .int ((s.1 14) 14)), (0, .ref 64)], [.int ((s.1 8) 0), .int 15, .ref 78], (q_kM (q_sA (q_sI s 0 39 0) 14 (upd (s.1 14) 14 0)) c n))) 1 (fun _ _ => rfl) ?_
    generalize (q_sA (q_sI s 0 39 0) 14 (upd (s.1 14) 14 0)) = r1709
    refine q_RT_let ?_
    show q_RT _ _ _ (44, [(1, .int ((s.1 14) 14)), (0, .ref 64)], [.int ((s.1 8) 0), .int 15, .ref 78], (q_kM r1709 c n)) _ _
    refine q_RT_seg (g2 := (46, [(1, .int ((s.1 14) 14)), (0, .ref 64)], [.ref 64], (q_kM (q_sA r1709 14 (upd (r1709.1 14) 15 ((s.1 8) 0))) c n))) 2 (fun _ _ => rfl) ?_
    refine q_RT_call (v := none) (h2 := (q_kM (dz_M205_64 (q_sA r1709 14 (upd (r1709.1 14) 15 ((s.1 8) 0)))) c n)) rfl rfl ((dzt_M205_64 (q_sA r1709 14 (upd (r1709.1 14) 15 ((s.1 8) 0))) c n).le (Nat.le_of_ble_eq_true rfl)) ?_
    generalize dz_M205_64 (q_sA r1709 14 (upd (r1709.1 14) 15 ((s.1 8) 0))) = r1710
    refine q_RT_let ?_
    show q_RT _ _ _ (49, [(1, .int ((s.1 14) 14)), (0, .ref 64)], [], (q_kM r1710 c n)) _ _
    refine q_RT_seg (g2 := (50, [(1, .int ((s.1 14) 14)), (0, .ref 64)], [.int ((s.1 14) 14)], (q_kM r1710 c n))) 1 (fun _ _ => rfl) ?_
    exact q_RT_ret rfl rfl rfl
  | false =>
    refine q_RT_cF ?_
    show q_RT _ _ _ (31, [(1, .int ((s.1 14) 14)), (0, .ref 64)], [.int 0, .int 15, .ref 78], (q_kM (q_sA (q_sI s 0 39 0) 14 (upd (s.1 14) 14 0)) c n)) _ _
    refine q_RT_seg (g2 := (44, [(1, .int ((s.1 14) 14)), (0, .ref 64)], [.int 0, .int 15, .ref 78], (q_kM (q_sA (q_sI s 0 39 0) 14 (upd (s.1 14) 14 0)) c n))) 2 (fun _ _ => rfl) ?_
    generalize (q_sA (q_sI s 0 39 0) 14 (upd (s.1 14) 14 0)) = r1711
    refine q_RT_let ?_
    show q_RT _ _ _ (44, [(1, .int ((s.1 14) 14)), (0, .ref 64)], [.int 0, .int 15, .ref 78], (q_kM r1711 c n)) _ _
    refine q_RT_seg (g2 := (46, [(1, .int ((s.1 14) 14)), (0, .ref 64)], [.ref 64], (q_kM (q_sA r1711 14 (upd (r1711.1 14) 15 0)) c n))) 2 (fun _ _ => rfl) ?_
    refine q_RT_call (v := none) (h2 := (q_kM (dz_M205_64 (q_sA r1711 14 (upd (r1711.1 14) 15 0))) c n)) rfl rfl ((dzt_M205_64 (q_sA r1711 14 (upd (r1711.1 14) 15 0)) c n).le (Nat.le_of_ble_eq_true rfl)) ?_
    generalize dz_M205_64 (q_sA r1711 14 (upd (r1711.1 14) 15 0)) = r1712
    refine q_RT_let ?_
    show q_RT _ _ _ (49, [(1, .int ((s.1 14) 14)), (0, .ref 64)], [], (q_kM r1712 c n)) _ _
    refine q_RT_seg (g2 := (50, [(1, .int ((s.1 14) 14)), (0, .ref 64)], [.int ((s.1 14) 14)], (q_kM r1712 c n))) 1 (fun _ _ => rfl) ?_
    exact q_RT_ret rfl rfl rfl
def dz_M303_64 (s : q_S) : q_S × Int32 :=
  q_let (dz_M201_64 s (((s.1 14) 13) - ((s.1 14) 14))) fun r1713 => (r1713.1, r1713.2)
set_option maxHeartbeats 4000000 in
theorem dzt_M303_64 (s : q_S) (c n : Nat) : q_Ca q_TB0 2 302 [.ref 64] (q_kM s c n) ((q_oIM c n) (dz_M303_64 s)) := by
  refine q_CaT_of (φ := (q_oIM c n)) (Nat.le_of_ble_eq_true rfl) ?_
  unfold dz_M303_64
  refine q_RT_seg (g2 := (8, [(0, .ref 64)], [.int ((s.1 14) 13), .ref 64], (q_kM s c n))) 5 (fun _ _ => rfl) ?_
  refine q_RT_seg (g2 := (15, [(0, .ref 64)], [.int ((s.1 14) 14), .int ((s.1 14) 13), .ref 64], (q_kM s c n))) 4 (fun _ _ => rfl) ?_
  refine q_RT_seg (g2 := (16, [(0, .ref 64)], [.int (((s.1 14) 13) - ((s.1 14) 14)), .ref 64], (q_kM s c n))) 1 (fun _ _ => rfl) ?_
  refine q_RT_call (v := (some (.int (dz_M201_64 s (((s.1 14) 13) - ((s.1 14) 14))).2))) (h2 := (q_kM (dz_M201_64 s (((s.1 14) 13) - ((s.1 14) 14))).1 c n)) rfl rfl ((dzt_M201_64 s c n (((s.1 14) 13) - ((s.1 14) 14))).le (Nat.le_of_ble_eq_true rfl)) ?_
  generalize dz_M201_64 s (((s.1 14) 13) - ((s.1 14) 14)) = r1713
  refine q_RT_let ?_
  show q_RT _ _ _ (19, [(0, .ref 64)], [.int r1713.2], (q_kM r1713.1 c n)) _ _
  exact q_RT_ret rfl rfl rfl
def dz_M304_65_80_3 (m : Nat) : q_S → Int32 → Int32 → Int32 → Int32 → Option (q_S) := Nat.rec (motive := fun _ => q_S → Int32 → Int32 → Int32 → Int32 → Option (q_S)) (fun _ _ _ _ _ => none) (fun _ k3 s v1 v3 v4 v5 =>
  cond (decide (v5 < v4)) (cond (q_in (v1 + v5) 4096) (cond (q_in (v3 + v5) 12288) (k3 (q_sA s 16 (upd (s.1 16) ((v3 + v5).toNatClampNeg) ((s.1 1) ((v1 + v5).toNatClampNeg)))) v1 v3 v4 (v5 + 1)) none) none) (some s)) m
theorem dzs_M304_65_80_3 (m : Nat) (s : q_S) (v1 : Int32) (v3 : Int32) (v4 : Int32) (v5 : Int32) : dz_M304_65_80_3 (m + 1) s v1 v3 v4 v5 = (fun k3 : q_S → Int32 → Int32 → Int32 → Int32 → Option (q_S) =>
  cond (decide (v5 < v4)) (cond (q_in (v1 + v5) 4096) (cond (q_in (v3 + v5) 12288) (k3 (q_sA s 16 (upd (s.1 16) ((v3 + v5).toNatClampNeg) ((s.1 1) ((v1 + v5).toNatClampNeg)))) v1 v3 v4 (v5 + 1)) none) none) (some s)) (dz_M304_65_80_3 m) := rfl
set_option maxHeartbeats 4000000 in
theorem dzt_M304_65_80_3 (c n : Nat) : ∀ (m : Nat) (s : q_S) (v1 : Int32) (v3 : Int32) (v4 : Int32) (v5 : Int32), q_RP q_TB0 0 303 (3, [(0, .ref 65), (1, .int v1), (2, .ref 80), (3, .int v3), (4, .int v4), (5, .int v5)], [], (q_kM s c n)) (q_oSM c n) (dz_M304_65_80_3 m s v1 v3 v4 v5) := by
  intro m
  induction m with
  | zero => intro s v1 v3 v4 v5; exact q_RP_no
  | succ m ih =>
    intro s v1 v3 v4 v5
    have hk3 := ih
    clear ih
    rw [dzs_M304_65_80_3]
    generalize dz_M304_65_80_3 m = k3 at hk3 ⊢
    dsimp only
    refine q_RP_seg (g2 := (7, [(0, .ref 65), (1, .int v1), (2, .ref 80), (3, .int v3), (4, .int v4), (5, .int v5)], [.int v4, .int v5], (q_kM s c n))) 2 (fun _ _ => rfl) ?_
    cases h1725 : decide (v5 < v4) with
    | true =>
      refine q_RP_cT ?_
      refine q_RP_rsF (g2 := (10, [(0, .ref 65), (1, .int v1), (2, .ref 80), (3, .int v3), (4, .int v4), (5, .int v5)], [], (q_kM s c n))) rfl rfl (q_d_geT h1725) ?_
      refine q_RP_seg (g2 := (20, [(0, .ref 65), (1, .int v1), (2, .ref 80), (3, .int v3), (4, .int v4), (5, .int v5)], [.int (v1 + v5), .ref 65, .int (v3 + v5), .ref 80], (q_kM s c n))) 8 (fun _ _ => rfl) ?_
      refine q_RP_as fun i1726 => ?_
      refine q_RP_rsT (g2 := (21, [(0, .ref 65), (1, .int v1), (2, .ref 80), (3, .int v3), (4, .int v4), (5, .int v5)], [.int ((s.1 1) ((v1 + v5).toNatClampNeg)), .int (v3 + v5), .ref 80], (q_kM s c n))) rfl rfl i1726 ?_
      refine q_RP_as fun i1727 => ?_
      refine q_RP_rsT (g2 := (22, [(0, .ref 65), (1, .int v1), (2, .ref 80), (3, .int v3), (4, .int v4), (5, .int v5)], [], (q_kM (q_sA s 16 (upd (s.1 16) ((v3 + v5).toNatClampNeg) ((s.1 1) ((v1 + v5).toNatClampNeg)))) c n))) rfl q_wM16 i1727 ?_
      refine q_RP_seg (g2 := (3, [(5, .int (v5 + 1)), (0, .ref 65), (1, .int v1), (2, .ref 80), (3, .int v3), (4, .int v4)], [], (q_kM (q_sA s 16 (upd (s.1 16) ((v3 + v5).toNatClampNeg) ((s.1 1) ((v1 + v5).toNatClampNeg)))) c n))) 2 (fun _ _ => rfl) ?_
      exact q_RP_xt (q_xt_mk (q_mn1 1 rfl (q_mn1 2 rfl (q_mn1 3 rfl (q_mn1 4 rfl (q_mn1 5 rfl (q_mn1 0 rfl q_mn0)))))) rfl) (hk3 (q_sA s 16 (upd (s.1 16) ((v3 + v5).toNatClampNeg) ((s.1 1) ((v1 + v5).toNatClampNeg)))) v1 v3 v4 (v5 + 1))
    | false =>
      refine q_RP_cF ?_
      refine q_RP_rsT (g2 := (28, [(0, .ref 65), (1, .int v1), (2, .ref 80), (3, .int v3), (4, .int v4), (5, .int v5)], [], (q_kM s c n))) rfl rfl (q_d_geF h1725) ?_
      exact q_RP_ret rfl rfl rfl
def dz_M304_65_80 (s : q_S) (a1 : Int32) (a3 : Int32) (a4 : Int32) : Option (q_S) :=
  dz_M304_65_80_3 5000 s a1 a3 a4 0
set_option maxHeartbeats 4000000 in
theorem dzt_M304_65_80 (s : q_S) (c n : Nat) (a1 : Int32) (a3 : Int32) (a4 : Int32) (x : q_S) (h : dz_M304_65_80 s a1 a3 a4 = some x) : q_Ca q_TB0 1 303 [.ref 65, .int a1, .ref 80, .int a3, .int a4] (q_kM s c n) ((q_oSM c n) x) := by
  refine q_CaP_of (φ := (q_oSM c n)) (Nat.le_of_ble_eq_true rfl) ?_ h
  clear h
  unfold dz_M304_65_80
  refine q_RP_seg (g2 := (3, [(5, .int 0), (0, .ref 65), (1, .int a1), (2, .ref 80), (3, .int a3), (4, .int a4)], [], (q_kM s c n))) 2 (fun _ _ => rfl) ?_
  exact q_RP_xt (q_xt_mk (q_mn1 1 rfl (q_mn1 2 rfl (q_mn1 3 rfl (q_mn1 4 rfl (q_mn1 5 rfl (q_mn1 0 rfl q_mn0)))))) rfl) (dzt_M304_65_80_3 c n 5000 s a1 a3 a4 0)
def dz_M304_66_81_3 (m : Nat) : q_S → Int32 → Int32 → Int32 → Int32 → Option (q_S) := Nat.rec (motive := fun _ => q_S → Int32 → Int32 → Int32 → Int32 → Option (q_S)) (fun _ _ _ _ _ => none) (fun _ k3 s v1 v3 v4 v5 =>
  cond (decide (v5 < v4)) (cond (q_in (v1 + v5) 512) (cond (q_in (v3 + v5) 1536) (k3 (q_sA s 17 (upd (s.1 17) ((v3 + v5).toNatClampNeg) ((s.1 2) ((v1 + v5).toNatClampNeg)))) v1 v3 v4 (v5 + 1)) none) none) (some s)) m
theorem dzs_M304_66_81_3 (m : Nat) (s : q_S) (v1 : Int32) (v3 : Int32) (v4 : Int32) (v5 : Int32) : dz_M304_66_81_3 (m + 1) s v1 v3 v4 v5 = (fun k3 : q_S → Int32 → Int32 → Int32 → Int32 → Option (q_S) =>
  cond (decide (v5 < v4)) (cond (q_in (v1 + v5) 512) (cond (q_in (v3 + v5) 1536) (k3 (q_sA s 17 (upd (s.1 17) ((v3 + v5).toNatClampNeg) ((s.1 2) ((v1 + v5).toNatClampNeg)))) v1 v3 v4 (v5 + 1)) none) none) (some s)) (dz_M304_66_81_3 m) := rfl
set_option maxHeartbeats 4000000 in
theorem dzt_M304_66_81_3 (c n : Nat) : ∀ (m : Nat) (s : q_S) (v1 : Int32) (v3 : Int32) (v4 : Int32) (v5 : Int32), q_RP q_TB0 0 303 (3, [(0, .ref 66), (1, .int v1), (2, .ref 81), (3, .int v3), (4, .int v4), (5, .int v5)], [], (q_kM s c n)) (q_oSM c n) (dz_M304_66_81_3 m s v1 v3 v4 v5) := by
  intro m
  induction m with
  | zero => intro s v1 v3 v4 v5; exact q_RP_no
  | succ m ih =>
    intro s v1 v3 v4 v5
    have hk3 := ih
    clear ih
    rw [dzs_M304_66_81_3]
    generalize dz_M304_66_81_3 m = k3 at hk3 ⊢
    dsimp only
    refine q_RP_seg (g2 := (7, [(0, .ref 66), (1, .int v1), (2, .ref 81), (3, .int v3), (4, .int v4), (5, .int v5)], [.int v4, .int v5], (q_kM s c n))) 2 (fun _ _ => rfl) ?_
    cases h1730 : decide (v5 < v4) with
    | true =>
      refine q_RP_cT ?_
      refine q_RP_rsF (g2 := (10, [(0, .ref 66), (1, .int v1), (2, .ref 81), (3, .int v3), (4, .int v4), (5, .int v5)], [], (q_kM s c n))) rfl rfl (q_d_geT h1730) ?_
      refine q_RP_seg (g2 := (20, [(0, .ref 66), (1, .int v1), (2, .ref 81), (3, .int v3), (4, .int v4), (5, .int v5)], [.int (v1 + v5), .ref 66, .int (v3 + v5), .ref 81], (q_kM s c n))) 8 (fun _ _ => rfl) ?_
      refine q_RP_as fun i1731 => ?_
      refine q_RP_rsT (g2 := (21, [(0, .ref 66), (1, .int v1), (2, .ref 81), (3, .int v3), (4, .int v4), (5, .int v5)], [.int ((s.1 2) ((v1 + v5).toNatClampNeg)), .int (v3 + v5), .ref 81], (q_kM s c n))) rfl rfl i1731 ?_
      refine q_RP_as fun i1732 => ?_
      refine q_RP_rsT (g2 := (22, [(0, .ref 66), (1, .int v1), (2, .ref 81), (3, .int v3), (4, .int v4), (5, .int v5)], [], (q_kM (q_sA s 17 (upd (s.1 17) ((v3 + v5).toNatClampNeg) ((s.1 2) ((v1 + v5).toNatClampNeg)))) c n))) rfl q_wM17 i1732 ?_
      refine q_RP_seg (g2 := (3, [(5, .int (v5 + 1)), (0, .ref 66), (1, .int v1), (2, .ref 81), (3, .int v3), (4, .int v4)], [], (q_kM (q_sA s 17 (upd (s.1 17) ((v3 + v5).toNatClampNeg) ((s.1 2) ((v1 + v5).toNatClampNeg)))) c n))) 2 (fun _ _ => rfl) ?_
      exact q_RP_xt (q_xt_mk (q_mn1 1 rfl (q_mn1 2 rfl (q_mn1 3 rfl (q_mn1 4 rfl (q_mn1 5 rfl (q_mn1 0 rfl q_mn0)))))) rfl) (hk3 (q_sA s 17 (upd (s.1 17) ((v3 + v5).toNatClampNeg) ((s.1 2) ((v1 + v5).toNatClampNeg)))) v1 v3 v4 (v5 + 1))
    | false =>
      refine q_RP_cF ?_
      refine q_RP_rsT (g2 := (28, [(0, .ref 66), (1, .int v1), (2, .ref 81), (3, .int v3), (4, .int v4), (5, .int v5)], [], (q_kM s c n))) rfl rfl (q_d_geF h1730) ?_
      exact q_RP_ret rfl rfl rfl
def dz_M304_66_81 (s : q_S) (a1 : Int32) (a3 : Int32) (a4 : Int32) : Option (q_S) :=
  dz_M304_66_81_3 5000 s a1 a3 a4 0
set_option maxHeartbeats 4000000 in
theorem dzt_M304_66_81 (s : q_S) (c n : Nat) (a1 : Int32) (a3 : Int32) (a4 : Int32) (x : q_S) (h : dz_M304_66_81 s a1 a3 a4 = some x) : q_Ca q_TB0 1 303 [.ref 66, .int a1, .ref 81, .int a3, .int a4] (q_kM s c n) ((q_oSM c n) x) := by
  refine q_CaP_of (φ := (q_oSM c n)) (Nat.le_of_ble_eq_true rfl) ?_ h
  clear h
  unfold dz_M304_66_81
  refine q_RP_seg (g2 := (3, [(5, .int 0), (0, .ref 66), (1, .int a1), (2, .ref 81), (3, .int a3), (4, .int a4)], [], (q_kM s c n))) 2 (fun _ _ => rfl) ?_
  exact q_RP_xt (q_xt_mk (q_mn1 1 rfl (q_mn1 2 rfl (q_mn1 3 rfl (q_mn1 4 rfl (q_mn1 5 rfl (q_mn1 0 rfl q_mn0)))))) rfl) (dzt_M304_66_81_3 c n 5000 s a1 a3 a4 0)
def dz_M304_67_82_3 (m : Nat) : q_S → Int32 → Int32 → Int32 → Int32 → Option (q_S) := Nat.rec (motive := fun _ => q_S → Int32 → Int32 → Int32 → Int32 → Option (q_S)) (fun _ _ _ _ _ => none) (fun _ k3 s v1 v3 v4 v5 =>
  cond (decide (v5 < v4)) (cond (q_in (v1 + v5) 2048) (cond (q_in (v3 + v5) 6144) (k3 (q_sA s 18 (upd (s.1 18) ((v3 + v5).toNatClampNeg) ((s.1 3) ((v1 + v5).toNatClampNeg)))) v1 v3 v4 (v5 + 1)) none) none) (some s)) m
theorem dzs_M304_67_82_3 (m : Nat) (s : q_S) (v1 : Int32) (v3 : Int32) (v4 : Int32) (v5 : Int32) : dz_M304_67_82_3 (m + 1) s v1 v3 v4 v5 = (fun k3 : q_S → Int32 → Int32 → Int32 → Int32 → Option (q_S) =>
  cond (decide (v5 < v4)) (cond (q_in (v1 + v5) 2048) (cond (q_in (v3 + v5) 6144) (k3 (q_sA s 18 (upd (s.1 18) ((v3 + v5).toNatClampNeg) ((s.1 3) ((v1 + v5).toNatClampNeg)))) v1 v3 v4 (v5 + 1)) none) none) (some s)) (dz_M304_67_82_3 m) := rfl
set_option maxHeartbeats 4000000 in
theorem dzt_M304_67_82_3 (c n : Nat) : ∀ (m : Nat) (s : q_S) (v1 : Int32) (v3 : Int32) (v4 : Int32) (v5 : Int32), q_RP q_TB0 0 303 (3, [(0, .ref 67), (1, .int v1), (2, .ref 82), (3, .int v3), (4, .int v4), (5, .int v5)], [], (q_kM s c n)) (q_oSM c n) (dz_M304_67_82_3 m s v1 v3 v4 v5) := by
  intro m
  induction m with
  | zero => intro s v1 v3 v4 v5; exact q_RP_no
  | succ m ih =>
    intro s v1 v3 v4 v5
    have hk3 := ih
    clear ih
    rw [dzs_M304_67_82_3]
    generalize dz_M304_67_82_3 m = k3 at hk3 ⊢
    dsimp only
    refine q_RP_seg (g2 := (7, [(0, .ref 67), (1, .int v1), (2, .ref 82), (3, .int v3), (4, .int v4), (5, .int v5)], [.int v4, .int v5], (q_kM s c n))) 2 (fun _ _ => rfl) ?_
    cases h1733 : decide (v5 < v4) with
    | true =>
      refine q_RP_cT ?_
      refine q_RP_rsF (g2 := (10, [(0, .ref 67), (1, .int v1), (2, .ref 82), (3, .int v3), (4, .int v4), (5, .int v5)], [], (q_kM s c n))) rfl rfl (q_d_geT h1733) ?_
      refine q_RP_seg (g2 := (20, [(0, .ref 67), (1, .int v1), (2, .ref 82), (3, .int v3), (4, .int v4), (5, .int v5)], [.int (v1 + v5), .ref 67, .int (v3 + v5), .ref 82], (q_kM s c n))) 8 (fun _ _ => rfl) ?_
      refine q_RP_as fun i1734 => ?_
      refine q_RP_rsT (g2 := (21, [(0, .ref 67), (1, .int v1), (2, .ref 82), (3, .int v3), (4, .int v4), (5, .int v5)], [.int ((s.1 3) ((v1 + v5).toNatClampNeg)), .int (v3 + v5), .ref 82], (q_kM s c n))) rfl rfl i1734 ?_
      refine q_RP_as fun i1735 => ?_
      refine q_RP_rsT (g2 := (22, [(0, .ref 67), (1, .int v1), (2, .ref 82), (3, .int v3), (4, .int v4), (5, .int v5)], [], (q_kM (q_sA s 18 (upd (s.1 18) ((v3 + v5).toNatClampNeg) ((s.1 3) ((v1 + v5).toNatClampNeg)))) c n))) rfl q_wM18 i1735 ?_
      refine q_RP_seg (g2 := (3, [(5, .int (v5 + 1)), (0, .ref 67), (1, .int v1), (2, .ref 82), (3, .int v3), (4, .int v4)], [], (q_kM (q_sA s 18 (upd (s.1 18) ((v3 + v5).toNatClampNeg) ((s.1 3) ((v1 + v5).toNatClampNeg)))) c n))) 2 (fun _ _ => rfl) ?_
      exact q_RP_xt (q_xt_mk (q_mn1 1 rfl (q_mn1 2 rfl (q_mn1 3 rfl (q_mn1 4 rfl (q_mn1 5 rfl (q_mn1 0 rfl q_mn0)))))) rfl) (hk3 (q_sA s 18 (upd (s.1 18) ((v3 + v5).toNatClampNeg) ((s.1 3) ((v1 + v5).toNatClampNeg)))) v1 v3 v4 (v5 + 1))
    | false =>
      refine q_RP_cF ?_
      refine q_RP_rsT (g2 := (28, [(0, .ref 67), (1, .int v1), (2, .ref 82), (3, .int v3), (4, .int v4), (5, .int v5)], [], (q_kM s c n))) rfl rfl (q_d_geF h1733) ?_
      exact q_RP_ret rfl rfl rfl
def dz_M304_67_82 (s : q_S) (a1 : Int32) (a3 : Int32) (a4 : Int32) : Option (q_S) :=
  dz_M304_67_82_3 5000 s a1 a3 a4 0
set_option maxHeartbeats 4000000 in
theorem dzt_M304_67_82 (s : q_S) (c n : Nat) (a1 : Int32) (a3 : Int32) (a4 : Int32) (x : q_S) (h : dz_M304_67_82 s a1 a3 a4 = some x) : q_Ca q_TB0 1 303 [.ref 67, .int a1, .ref 82, .int a3, .int a4] (q_kM s c n) ((q_oSM c n) x) := by
  refine q_CaP_of (φ := (q_oSM c n)) (Nat.le_of_ble_eq_true rfl) ?_ h
  clear h
  unfold dz_M304_67_82
  refine q_RP_seg (g2 := (3, [(5, .int 0), (0, .ref 67), (1, .int a1), (2, .ref 82), (3, .int a3), (4, .int a4)], [], (q_kM s c n))) 2 (fun _ _ => rfl) ?_
  exact q_RP_xt (q_xt_mk (q_mn1 1 rfl (q_mn1 2 rfl (q_mn1 3 rfl (q_mn1 4 rfl (q_mn1 5 rfl (q_mn1 0 rfl q_mn0)))))) rfl) (dzt_M304_67_82_3 c n 5000 s a1 a3 a4 0)
def dz_M304_68_83_3 (m : Nat) : q_S → Int32 → Int32 → Int32 → Int32 → Option (q_S) := Nat.rec (motive := fun _ => q_S → Int32 → Int32 → Int32 → Int32 → Option (q_S)) (fun _ _ _ _ _ => none) (fun _ k3 s v1 v3 v4 v5 =>
  cond (decide (v5 < v4)) (cond (q_in (v1 + v5) 48) (cond (q_in (v3 + v5) 144) (k3 (q_sA s 19 (upd (s.1 19) ((v3 + v5).toNatClampNeg) ((s.1 4) ((v1 + v5).toNatClampNeg)))) v1 v3 v4 (v5 + 1)) none) none) (some s)) m
theorem dzs_M304_68_83_3 (m : Nat) (s : q_S) (v1 : Int32) (v3 : Int32) (v4 : Int32) (v5 : Int32) : dz_M304_68_83_3 (m + 1) s v1 v3 v4 v5 = (fun k3 : q_S → Int32 → Int32 → Int32 → Int32 → Option (q_S) =>
  cond (decide (v5 < v4)) (cond (q_in (v1 + v5) 48) (cond (q_in (v3 + v5) 144) (k3 (q_sA s 19 (upd (s.1 19) ((v3 + v5).toNatClampNeg) ((s.1 4) ((v1 + v5).toNatClampNeg)))) v1 v3 v4 (v5 + 1)) none) none) (some s)) (dz_M304_68_83_3 m) := rfl
set_option maxHeartbeats 4000000 in
theorem dzt_M304_68_83_3 (c n : Nat) : ∀ (m : Nat) (s : q_S) (v1 : Int32) (v3 : Int32) (v4 : Int32) (v5 : Int32), q_RP q_TB0 0 303 (3, [(0, .ref 68), (1, .int v1), (2, .ref 83), (3, .int v3), (4, .int v4), (5, .int v5)], [], (q_kM s c n)) (q_oSM c n) (dz_M304_68_83_3 m s v1 v3 v4 v5) := by
  intro m
  induction m with
  | zero => intro s v1 v3 v4 v5; exact q_RP_no
  | succ m ih =>
    intro s v1 v3 v4 v5
    have hk3 := ih
    clear ih
    rw [dzs_M304_68_83_3]
    generalize dz_M304_68_83_3 m = k3 at hk3 ⊢
    dsimp only
    refine q_RP_seg (g2 := (7, [(0, .ref 68), (1, .int v1), (2, .ref 83), (3, .int v3), (4, .int v4), (5, .int v5)], [.int v4, .int v5], (q_kM s c n))) 2 (fun _ _ => rfl) ?_
    cases h1736 : decide (v5 < v4) with
    | true =>
      refine q_RP_cT ?_
      refine q_RP_rsF (g2 := (10, [(0, .ref 68), (1, .int v1), (2, .ref 83), (3, .int v3), (4, .int v4), (5, .int v5)], [], (q_kM s c n))) rfl rfl (q_d_geT h1736) ?_
      refine q_RP_seg (g2 := (20, [(0, .ref 68), (1, .int v1), (2, .ref 83), (3, .int v3), (4, .int v4), (5, .int v5)], [.int (v1 + v5), .ref 68, .int (v3 + v5), .ref 83], (q_kM s c n))) 8 (fun _ _ => rfl) ?_
      refine q_RP_as fun i1737 => ?_
      refine q_RP_rsT (g2 := (21, [(0, .ref 68), (1, .int v1), (2, .ref 83), (3, .int v3), (4, .int v4), (5, .int v5)], [.int ((s.1 4) ((v1 + v5).toNatClampNeg)), .int (v3 + v5), .ref 83], (q_kM s c n))) rfl rfl i1737 ?_
      refine q_RP_as fun i1738 => ?_
      refine q_RP_rsT (g2 := (22, [(0, .ref 68), (1, .int v1), (2, .ref 83), (3, .int v3), (4, .int v4), (5, .int v5)], [], (q_kM (q_sA s 19 (upd (s.1 19) ((v3 + v5).toNatClampNeg) ((s.1 4) ((v1 + v5).toNatClampNeg)))) c n))) rfl q_wM19 i1738 ?_
      refine q_RP_seg (g2 := (3, [(5, .int (v5 + 1)), (0, .ref 68), (1, .int v1), (2, .ref 83), (3, .int v3), (4, .int v4)], [], (q_kM (q_sA s 19 (upd (s.1 19) ((v3 + v5).toNatClampNeg) ((s.1 4) ((v1 + v5).toNatClampNeg)))) c n))) 2 (fun _ _ => rfl) ?_
      exact q_RP_xt (q_xt_mk (q_mn1 1 rfl (q_mn1 2 rfl (q_mn1 3 rfl (q_mn1 4 rfl (q_mn1 5 rfl (q_mn1 0 rfl q_mn0)))))) rfl) (hk3 (q_sA s 19 (upd (s.1 19) ((v3 + v5).toNatClampNeg) ((s.1 4) ((v1 + v5).toNatClampNeg)))) v1 v3 v4 (v5 + 1))
    | false =>
      refine q_RP_cF ?_
      refine q_RP_rsT (g2 := (28, [(0, .ref 68), (1, .int v1), (2, .ref 83), (3, .int v3), (4, .int v4), (5, .int v5)], [], (q_kM s c n))) rfl rfl (q_d_geF h1736) ?_
      exact q_RP_ret rfl rfl rfl
def dz_M304_68_83 (s : q_S) (a1 : Int32) (a3 : Int32) (a4 : Int32) : Option (q_S) :=
  dz_M304_68_83_3 5000 s a1 a3 a4 0
set_option maxHeartbeats 4000000 in
theorem dzt_M304_68_83 (s : q_S) (c n : Nat) (a1 : Int32) (a3 : Int32) (a4 : Int32) (x : q_S) (h : dz_M304_68_83 s a1 a3 a4 = some x) : q_Ca q_TB0 1 303 [.ref 68, .int a1, .ref 83, .int a3, .int a4] (q_kM s c n) ((q_oSM c n) x) := by
  refine q_CaP_of (φ := (q_oSM c n)) (Nat.le_of_ble_eq_true rfl) ?_ h
  clear h
  unfold dz_M304_68_83
  refine q_RP_seg (g2 := (3, [(5, .int 0), (0, .ref 68), (1, .int a1), (2, .ref 83), (3, .int a3), (4, .int a4)], [], (q_kM s c n))) 2 (fun _ _ => rfl) ?_
  exact q_RP_xt (q_xt_mk (q_mn1 1 rfl (q_mn1 2 rfl (q_mn1 3 rfl (q_mn1 4 rfl (q_mn1 5 rfl (q_mn1 0 rfl q_mn0)))))) rfl) (dzt_M304_68_83_3 c n 5000 s a1 a3 a4 0)
def dz_M304_69_84_3 (m : Nat) : q_S → Int32 → Int32 → Int32 → Int32 → Option (q_S) := Nat.rec (motive := fun _ => q_S → Int32 → Int32 → Int32 → Int32 → Option (q_S)) (fun _ _ _ _ _ => none) (fun _ k3 s v1 v3 v4 v5 =>
  cond (decide (v5 < v4)) (cond (q_in (v1 + v5) 1024) (cond (q_in (v3 + v5) 3072) (k3 (q_sA s 20 (upd (s.1 20) ((v3 + v5).toNatClampNeg) ((s.1 5) ((v1 + v5).toNatClampNeg)))) v1 v3 v4 (v5 + 1)) none) none) (some s)) m
theorem dzs_M304_69_84_3 (m : Nat) (s : q_S) (v1 : Int32) (v3 : Int32) (v4 : Int32) (v5 : Int32) : dz_M304_69_84_3 (m + 1) s v1 v3 v4 v5 = (fun k3 : q_S → Int32 → Int32 → Int32 → Int32 → Option (q_S) =>
  cond (decide (v5 < v4)) (cond (q_in (v1 + v5) 1024) (cond (q_in (v3 + v5) 3072) (k3 (q_sA s 20 (upd (s.1 20) ((v3 + v5).toNatClampNeg) ((s.1 5) ((v1 + v5).toNatClampNeg)))) v1 v3 v4 (v5 + 1)) none) none) (some s)) (dz_M304_69_84_3 m) := rfl
set_option maxHeartbeats 4000000 in
theorem dzt_M304_69_84_3 (c n : Nat) : ∀ (m : Nat) (s : q_S) (v1 : Int32) (v3 : Int32) (v4 : Int32) (v5 : Int32), q_RP q_TB0 0 303 (3, [(0, .ref 69), (1, .int v1), (2, .ref 84), (3, .int v3), (4, .int v4), (5, .int v5)], [], (q_kM s c n)) (q_oSM c n) (dz_M304_69_84_3 m s v1 v3 v4 v5) := by
  intro m
  induction m with
  | zero => intro s v1 v3 v4 v5; exact q_RP_no
  | succ m ih =>
    intro s v1 v3 v4 v5
    have hk3 := ih
    clear ih
    rw [dzs_M304_69_84_3]
    generalize dz_M304_69_84_3 m = k3 at hk3 ⊢
    dsimp only
    refine q_RP_seg (g2 := (7, [(0, .ref 69), (1, .int v1), (2, .ref 84), (3, .int v3), (4, .int v4), (5, .int v5)], [.int v4, .int v5], (q_kM s c n))) 2 (fun _ _ => rfl) ?_
    cases h1739 : decide (v5 < v4) with
    | true =>
      refine q_RP_cT ?_
      refine q_RP_rsF (g2 := (10, [(0, .ref 69), (1, .int v1), (2, .ref 84), (3, .int v3), (4, .int v4), (5, .int v5)], [], (q_kM s c n))) rfl rfl (q_d_geT h1739) ?_
      refine q_RP_seg (g2 := (20, [(0, .ref 69), (1, .int v1), (2, .ref 84), (3, .int v3), (4, .int v4), (5, .int v5)], [.int (v1 + v5), .ref 69, .int (v3 + v5), .ref 84], (q_kM s c n))) 8 (fun _ _ => rfl) ?_
      refine q_RP_as fun i1740 => ?_
      refine q_RP_rsT (g2 := (21, [(0, .ref 69), (1, .int v1), (2, .ref 84), (3, .int v3), (4, .int v4), (5, .int v5)], [.int ((s.1 5) ((v1 + v5).toNatClampNeg)), .int (v3 + v5), .ref 84], (q_kM s c n))) rfl rfl i1740 ?_
      refine q_RP_as fun i1741 => ?_
      refine q_RP_rsT (g2 := (22, [(0, .ref 69), (1, .int v1), (2, .ref 84), (3, .int v3), (4, .int v4), (5, .int v5)], [], (q_kM (q_sA s 20 (upd (s.1 20) ((v3 + v5).toNatClampNeg) ((s.1 5) ((v1 + v5).toNatClampNeg)))) c n))) rfl q_wM20 i1741 ?_
      refine q_RP_seg (g2 := (3, [(5, .int (v5 + 1)), (0, .ref 69), (1, .int v1), (2, .ref 84), (3, .int v3), (4, .int v4)], [], (q_kM (q_sA s 20 (upd (s.1 20) ((v3 + v5).toNatClampNeg) ((s.1 5) ((v1 + v5).toNatClampNeg)))) c n))) 2 (fun _ _ => rfl) ?_
      exact q_RP_xt (q_xt_mk (q_mn1 1 rfl (q_mn1 2 rfl (q_mn1 3 rfl (q_mn1 4 rfl (q_mn1 5 rfl (q_mn1 0 rfl q_mn0)))))) rfl) (hk3 (q_sA s 20 (upd (s.1 20) ((v3 + v5).toNatClampNeg) ((s.1 5) ((v1 + v5).toNatClampNeg)))) v1 v3 v4 (v5 + 1))
    | false =>
      refine q_RP_cF ?_
      refine q_RP_rsT (g2 := (28, [(0, .ref 69), (1, .int v1), (2, .ref 84), (3, .int v3), (4, .int v4), (5, .int v5)], [], (q_kM s c n))) rfl rfl (q_d_geF h1739) ?_
      exact q_RP_ret rfl rfl rfl
def dz_M304_69_84 (s : q_S) (a1 : Int32) (a3 : Int32) (a4 : Int32) : Option (q_S) :=
  dz_M304_69_84_3 5000 s a1 a3 a4 0
set_option maxHeartbeats 4000000 in
theorem dzt_M304_69_84 (s : q_S) (c n : Nat) (a1 : Int32) (a3 : Int32) (a4 : Int32) (x : q_S) (h : dz_M304_69_84 s a1 a3 a4 = some x) : q_Ca q_TB0 1 303 [.ref 69, .int a1, .ref 84, .int a3, .int a4] (q_kM s c n) ((q_oSM c n) x) := by
  refine q_CaP_of (φ := (q_oSM c n)) (Nat.le_of_ble_eq_true rfl) ?_ h
  clear h
  unfold dz_M304_69_84
  refine q_RP_seg (g2 := (3, [(5, .int 0), (0, .ref 69), (1, .int a1), (2, .ref 84), (3, .int a3), (4, .int a4)], [], (q_kM s c n))) 2 (fun _ _ => rfl) ?_
  exact q_RP_xt (q_xt_mk (q_mn1 1 rfl (q_mn1 2 rfl (q_mn1 3 rfl (q_mn1 4 rfl (q_mn1 5 rfl (q_mn1 0 rfl q_mn0)))))) rfl) (dzt_M304_69_84_3 c n 5000 s a1 a3 a4 0)
def dz_M304_70_85_3 (m : Nat) : q_S → Int32 → Int32 → Int32 → Int32 → Option (q_S) := Nat.rec (motive := fun _ => q_S → Int32 → Int32 → Int32 → Int32 → Option (q_S)) (fun _ _ _ _ _ => none) (fun _ k3 s v1 v3 v4 v5 =>
  cond (decide (v5 < v4)) (cond (q_in (v1 + v5) 40) (cond (q_in (v3 + v5) 120) (k3 (q_sA s 21 (upd (s.1 21) ((v3 + v5).toNatClampNeg) ((s.1 6) ((v1 + v5).toNatClampNeg)))) v1 v3 v4 (v5 + 1)) none) none) (some s)) m
theorem dzs_M304_70_85_3 (m : Nat) (s : q_S) (v1 : Int32) (v3 : Int32) (v4 : Int32) (v5 : Int32) : dz_M304_70_85_3 (m + 1) s v1 v3 v4 v5 = (fun k3 : q_S → Int32 → Int32 → Int32 → Int32 → Option (q_S) =>
  cond (decide (v5 < v4)) (cond (q_in (v1 + v5) 40) (cond (q_in (v3 + v5) 120) (k3 (q_sA s 21 (upd (s.1 21) ((v3 + v5).toNatClampNeg) ((s.1 6) ((v1 + v5).toNatClampNeg)))) v1 v3 v4 (v5 + 1)) none) none) (some s)) (dz_M304_70_85_3 m) := rfl
set_option maxHeartbeats 4000000 in
theorem dzt_M304_70_85_3 (c n : Nat) : ∀ (m : Nat) (s : q_S) (v1 : Int32) (v3 : Int32) (v4 : Int32) (v5 : Int32), q_RP q_TB0 0 303 (3, [(0, .ref 70), (1, .int v1), (2, .ref 85), (3, .int v3), (4, .int v4), (5, .int v5)], [], (q_kM s c n)) (q_oSM c n) (dz_M304_70_85_3 m s v1 v3 v4 v5) := by
  intro m
  induction m with
  | zero => intro s v1 v3 v4 v5; exact q_RP_no
  | succ m ih =>
    intro s v1 v3 v4 v5
    have hk3 := ih
    clear ih
    rw [dzs_M304_70_85_3]
    generalize dz_M304_70_85_3 m = k3 at hk3 ⊢
    dsimp only
    refine q_RP_seg (g2 := (7, [(0, .ref 70), (1, .int v1), (2, .ref 85), (3, .int v3), (4, .int v4), (5, .int v5)], [.int v4, .int v5], (q_kM s c n))) 2 (fun _ _ => rfl) ?_
    cases h1742 : decide (v5 < v4) with
    | true =>
      refine q_RP_cT ?_
      refine q_RP_rsF (g2 := (10, [(0, .ref 70), (1, .int v1), (2, .ref 85), (3, .int v3), (4, .int v4), (5, .int v5)], [], (q_kM s c n))) rfl rfl (q_d_geT h1742) ?_
      refine q_RP_seg (g2 := (20, [(0, .ref 70), (1, .int v1), (2, .ref 85), (3, .int v3), (4, .int v4), (5, .int v5)], [.int (v1 + v5), .ref 70, .int (v3 + v5), .ref 85], (q_kM s c n))) 8 (fun _ _ => rfl) ?_
      refine q_RP_as fun i1743 => ?_
      refine q_RP_rsT (g2 := (21, [(0, .ref 70), (1, .int v1), (2, .ref 85), (3, .int v3), (4, .int v4), (5, .int v5)], [.int ((s.1 6) ((v1 + v5).toNatClampNeg)), .int (v3 + v5), .ref 85], (q_kM s c n))) rfl rfl i1743 ?_
      refine q_RP_as fun i1744 => ?_
      refine q_RP_rsT (g2 := (22, [(0, .ref 70), (1, .int v1), (2, .ref 85), (3, .int v3), (4, .int v4), (5, .int v5)], [], (q_kM (q_sA s 21 (upd (s.1 21) ((v3 + v5).toNatClampNeg) ((s.1 6) ((v1 + v5).toNatClampNeg)))) c n))) rfl q_wM21 i1744 ?_
      refine q_RP_seg (g2 := (3, [(5, .int (v5 + 1)), (0, .ref 70), (1, .int v1), (2, .ref 85), (3, .int v3), (4, .int v4)], [], (q_kM (q_sA s 21 (upd (s.1 21) ((v3 + v5).toNatClampNeg) ((s.1 6) ((v1 + v5).toNatClampNeg)))) c n))) 2 (fun _ _ => rfl) ?_
      exact q_RP_xt (q_xt_mk (q_mn1 1 rfl (q_mn1 2 rfl (q_mn1 3 rfl (q_mn1 4 rfl (q_mn1 5 rfl (q_mn1 0 rfl q_mn0)))))) rfl) (hk3 (q_sA s 21 (upd (s.1 21) ((v3 + v5).toNatClampNeg) ((s.1 6) ((v1 + v5).toNatClampNeg)))) v1 v3 v4 (v5 + 1))
    | false =>
      refine q_RP_cF ?_
      refine q_RP_rsT (g2 := (28, [(0, .ref 70), (1, .int v1), (2, .ref 85), (3, .int v3), (4, .int v4), (5, .int v5)], [], (q_kM s c n))) rfl rfl (q_d_geF h1742) ?_
      exact q_RP_ret rfl rfl rfl
def dz_M304_70_85 (s : q_S) (a1 : Int32) (a3 : Int32) (a4 : Int32) : Option (q_S) :=
  dz_M304_70_85_3 5000 s a1 a3 a4 0
set_option maxHeartbeats 4000000 in
theorem dzt_M304_70_85 (s : q_S) (c n : Nat) (a1 : Int32) (a3 : Int32) (a4 : Int32) (x : q_S) (h : dz_M304_70_85 s a1 a3 a4 = some x) : q_Ca q_TB0 1 303 [.ref 70, .int a1, .ref 85, .int a3, .int a4] (q_kM s c n) ((q_oSM c n) x) := by
  refine q_CaP_of (φ := (q_oSM c n)) (Nat.le_of_ble_eq_true rfl) ?_ h
  clear h
  unfold dz_M304_70_85
  refine q_RP_seg (g2 := (3, [(5, .int 0), (0, .ref 70), (1, .int a1), (2, .ref 85), (3, .int a3), (4, .int a4)], [], (q_kM s c n))) 2 (fun _ _ => rfl) ?_
  exact q_RP_xt (q_xt_mk (q_mn1 1 rfl (q_mn1 2 rfl (q_mn1 3 rfl (q_mn1 4 rfl (q_mn1 5 rfl (q_mn1 0 rfl q_mn0)))))) rfl) (dzt_M304_70_85_3 c n 5000 s a1 a3 a4 0)
def dz_M304_72_87_3 (m : Nat) : q_S → Int32 → Int32 → Int32 → Int32 → Option (q_S) := Nat.rec (motive := fun _ => q_S → Int32 → Int32 → Int32 → Int32 → Option (q_S)) (fun _ _ _ _ _ => none) (fun _ k3 s v1 v3 v4 v5 =>
  cond (decide (v5 < v4)) (cond (q_in (v1 + v5) 40) (cond (q_in (v3 + v5) 120) (k3 (q_sA s 23 (upd (s.1 23) ((v3 + v5).toNatClampNeg) ((s.1 8) ((v1 + v5).toNatClampNeg)))) v1 v3 v4 (v5 + 1)) none) none) (some s)) m
theorem dzs_M304_72_87_3 (m : Nat) (s : q_S) (v1 : Int32) (v3 : Int32) (v4 : Int32) (v5 : Int32) : dz_M304_72_87_3 (m + 1) s v1 v3 v4 v5 = (fun k3 : q_S → Int32 → Int32 → Int32 → Int32 → Option (q_S) =>
  cond (decide (v5 < v4)) (cond (q_in (v1 + v5) 40) (cond (q_in (v3 + v5) 120) (k3 (q_sA s 23 (upd (s.1 23) ((v3 + v5).toNatClampNeg) ((s.1 8) ((v1 + v5).toNatClampNeg)))) v1 v3 v4 (v5 + 1)) none) none) (some s)) (dz_M304_72_87_3 m) := rfl
set_option maxHeartbeats 4000000 in
theorem dzt_M304_72_87_3 (c n : Nat) : ∀ (m : Nat) (s : q_S) (v1 : Int32) (v3 : Int32) (v4 : Int32) (v5 : Int32), q_RP q_TB0 0 303 (3, [(0, .ref 72), (1, .int v1), (2, .ref 87), (3, .int v3), (4, .int v4), (5, .int v5)], [], (q_kM s c n)) (q_oSM c n) (dz_M304_72_87_3 m s v1 v3 v4 v5) := by
  intro m
  induction m with
  | zero => intro s v1 v3 v4 v5; exact q_RP_no
  | succ m ih =>
    intro s v1 v3 v4 v5
    have hk3 := ih
    clear ih
    rw [dzs_M304_72_87_3]
    generalize dz_M304_72_87_3 m = k3 at hk3 ⊢
    dsimp only
    refine q_RP_seg (g2 := (7, [(0, .ref 72), (1, .int v1), (2, .ref 87), (3, .int v3), (4, .int v4), (5, .int v5)], [.int v4, .int v5], (q_kM s c n))) 2 (fun _ _ => rfl) ?_
    cases h1745 : decide (v5 < v4) with
    | true =>
      refine q_RP_cT ?_
      refine q_RP_rsF (g2 := (10, [(0, .ref 72), (1, .int v1), (2, .ref 87), (3, .int v3), (4, .int v4), (5, .int v5)], [], (q_kM s c n))) rfl rfl (q_d_geT h1745) ?_
      refine q_RP_seg (g2 := (20, [(0, .ref 72), (1, .int v1), (2, .ref 87), (3, .int v3), (4, .int v4), (5, .int v5)], [.int (v1 + v5), .ref 72, .int (v3 + v5), .ref 87], (q_kM s c n))) 8 (fun _ _ => rfl) ?_
      refine q_RP_as fun i1746 => ?_
      refine q_RP_rsT (g2 := (21, [(0, .ref 72), (1, .int v1), (2, .ref 87), (3, .int v3), (4, .int v4), (5, .int v5)], [.int ((s.1 8) ((v1 + v5).toNatClampNeg)), .int (v3 + v5), .ref 87], (q_kM s c n))) rfl rfl i1746 ?_
      refine q_RP_as fun i1747 => ?_
      refine q_RP_rsT (g2 := (22, [(0, .ref 72), (1, .int v1), (2, .ref 87), (3, .int v3), (4, .int v4), (5, .int v5)], [], (q_kM (q_sA s 23 (upd (s.1 23) ((v3 + v5).toNatClampNeg) ((s.1 8) ((v1 + v5).toNatClampNeg)))) c n))) rfl q_wM23 i1747 ?_
      refine q_RP_seg (g2 := (3, [(5, .int (v5 + 1)), (0, .ref 72), (1, .int v1), (2, .ref 87), (3, .int v3), (4, .int v4)], [], (q_kM (q_sA s 23 (upd (s.1 23) ((v3 + v5).toNatClampNeg) ((s.1 8) ((v1 + v5).toNatClampNeg)))) c n))) 2 (fun _ _ => rfl) ?_
      exact q_RP_xt (q_xt_mk (q_mn1 1 rfl (q_mn1 2 rfl (q_mn1 3 rfl (q_mn1 4 rfl (q_mn1 5 rfl (q_mn1 0 rfl q_mn0)))))) rfl) (hk3 (q_sA s 23 (upd (s.1 23) ((v3 + v5).toNatClampNeg) ((s.1 8) ((v1 + v5).toNatClampNeg)))) v1 v3 v4 (v5 + 1))
    | false =>
      refine q_RP_cF ?_
      refine q_RP_rsT (g2 := (28, [(0, .ref 72), (1, .int v1), (2, .ref 87), (3, .int v3), (4, .int v4), (5, .int v5)], [], (q_kM s c n))) rfl rfl (q_d_geF h1745) ?_
      exact q_RP_ret rfl rfl rfl
def dz_M304_72_87 (s : q_S) (a1 : Int32) (a3 : Int32) (a4 : Int32) : Option (q_S) :=
  dz_M304_72_87_3 5000 s a1 a3 a4 0
set_option maxHeartbeats 4000000 in
theorem dzt_M304_72_87 (s : q_S) (c n : Nat) (a1 : Int32) (a3 : Int32) (a4 : Int32) (x : q_S) (h : dz_M304_72_87 s a1 a3 a4 = some x) : q_Ca q_TB0 1 303 [.ref 72, .int a1, .ref 87, .int a3, .int a4] (q_kM s c n) ((q_oSM c n) x) := by
  refine q_CaP_of (φ := (q_oSM c n)) (Nat.le_of_ble_eq_true rfl) ?_ h
  clear h
  unfold dz_M304_72_87
  refine q_RP_seg (g2 := (3, [(5, .int 0), (0, .ref 72), (1, .int a1), (2, .ref 87), (3, .int a3), (4, .int a4)], [], (q_kM s c n))) 2 (fun _ _ => rfl) ?_
  exact q_RP_xt (q_xt_mk (q_mn1 1 rfl (q_mn1 2 rfl (q_mn1 3 rfl (q_mn1 4 rfl (q_mn1 5 rfl (q_mn1 0 rfl q_mn0)))))) rfl) (dzt_M304_72_87_3 c n 5000 s a1 a3 a4 0)
