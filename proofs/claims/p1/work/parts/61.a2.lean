set_option maxHeartbeats 4000000 in
theorem q_itX1 (pix smp tr a16 a17 a21 a22 : Nat → Int32) (t14 t19 p F left dn ins : Int32) (y : Int64) (pos col lin pq : Int32) (hC : (y - y / 24 * 24).toInt32 = col) (hP : (y - y / 960 * 960).toInt32 = pos) (hL : pos / 24 = lin) (hQ : lg_cmp (y / 960 - y / 960 / 2 * 2) 0 = pq) (c0 : 0 ≤ col.toInt) (c1 : col.toInt ≤ 23) (l0 : 0 ≤ lin.toInt) (l1 : lin.toInt ≤ 39) (hpic : q_picX lin col = 1) (p1 p2 : Int32) (a0 : 0 ≤ p.toInt) (a1 : p.toInt ≤ 3839) (b0 : 0 ≤ p1.toInt) (b1 : p1.toInt ≤ 3839) (hp1 : (p + 1) &&& 4095 = p1) (hp2 : (p + 2) &&& 4095 = p2) (k c u db : Int32) (hk : decide (k < u) = true) : ∃ pix2 smp2 t142 t192 a162 a172 a212 a222 tr2 F2, ∀ o, q_Ru q_TB0 8 82 (14, [(4, .int (k + 1)), (5, .int (c + 1)), (3, .int db), (0, .ref 65), (1, .int u), (2, .int 0)], [], (q_cX (q_rA pix2 smp2 tr2 a162 a172 a212 a222) (q_rI t142 t192 p F2 left dn ins) (q_rJ (y + 1)), 40, 26520)) o → q_Ru q_TB0 8 82 (14, [(4, .int k), (5, .int c), (3, .int db), (0, .ref 65), (1, .int u), (2, .int 0)], [], (q_cX (q_rA pix smp tr a16 a17 a21 a22) (q_rI t14 t19 p F left dn ins) (q_rJ y), 40, 26520)) o := by
  obtain ⟨z34a, z34b, z34c, z34d, p34⟩ := q_p_pass1 pix smp tr a16 a17 a21 a22 t14 t19 p F left dn ins y pos col lin pq hC hP hL hQ c0 c1 l0 l1 hpic 
  obtain ⟨z35a, z35b, z35c, z35d, z35e, z35f, p35⟩ := q_p_endC z34a z34b tr a16 a17 a21 a22 z34c z34d p F left dn ins y 
  refine ⟨z34a, z34b, z35e, z35f, z35a, z35b, z35c, z35d, tr, F, fun o h => ?_⟩
  refine q_Ru_seg (g2 := (17, [(4, .int k), (5, .int c), (3, .int db), (0, .ref 65), (1, .int u), (2, .int 0)], [.int u, .int k], (q_cX (q_rA pix smp tr a16 a17 a21 a22) (q_rI t14 t19 p F left dn ins) (q_rJ y), 40, 26520))) 2 (fun _ _ => rfl) ?_
  refine q_Ru_rsF (g2 := (20, [(4, .int k), (5, .int c), (3, .int db), (0, .ref 65), (1, .int u), (2, .int 0)], [], (q_cX (q_rA pix smp tr a16 a17 a21 a22) (q_rI t14 t19 p F left dn ins) (q_rJ y), 40, 26520))) rfl rfl (q_d_geT hk) ?_
  refine q_Ru_seg (g2 := (36, [(4, .int k), (5, .int c), (3, .int db), (0, .ref 65), (1, .int u), (2, .int 0)], [.ref 65], (q_cX (q_rA pix smp tr a16 a17 a21 a22) (q_rI t14 t19 p F left dn ins) (q_rJ y), 40, 26520))) 3 (fun _ _ => rfl) ?_
  refine q_Ru_call (v := (some (.int 1))) (h2 := (q_cX (q_rA z34a z34b tr a16 a17 a21 a22) (q_rI z34c z34d p F left dn ins) (q_rJ y), 40, 26520)) rfl rfl ?_ ?_
  · exact p34.le (Nat.le_of_ble_eq_true rfl)
  show q_Ru _ _ _ (39, [(4, .int k), (5, .int c), (3, .int db), (0, .ref 65), (1, .int u), (2, .int 0)], [.int 1], (q_cX (q_rA z34a z34b tr a16 a17 a21 a22) (q_rI z34c z34d p F left dn ins) (q_rJ y), 40, 26520)) _
  refine q_Ru_seg (g2 := (94, [(5, .int (c + 1)), (4, .int k), (3, .int db), (0, .ref 65), (1, .int u), (2, .int 0)], [.ref 66], (q_cX (q_rA z34a z34b tr a16 a17 a21 a22) (q_rI z34c z34d p F left dn ins) (q_rJ y), 40, 26520))) 5 (fun _ _ => rfl) ?_
  refine q_Ru_call (v := none) (h2 := (q_cX (q_rA z34a z34b tr z35a z35b z35c z35d) (q_rI z35e z35f p F left dn ins) (q_rJ (y + 1)), 40, 26520)) rfl rfl ?_ ?_
  · exact p35.le (Nat.le_of_ble_eq_true rfl)
  show q_Ru _ _ _ (97, [(5, .int (c + 1)), (4, .int k), (3, .int db), (0, .ref 65), (1, .int u), (2, .int 0)], [], (q_cX (q_rA z34a z34b tr z35a z35b z35c z35d) (q_rI z35e z35f p F left dn ins) (q_rJ (y + 1)), 40, 26520)) _
  refine q_Ru_seg (g2 := (14, [(4, .int (k + 1)), (5, .int (c + 1)), (3, .int db), (0, .ref 65), (1, .int u), (2, .int 0)], [], (q_cX (q_rA z34a z34b tr z35a z35b z35c z35d) (q_rI z35e z35f p F left dn ins) (q_rJ (y + 1)), 40, 26520))) 2 (fun _ _ => rfl) ?_
  exact h
set_option maxHeartbeats 4000000 in
theorem q_itX00 (pix smp tr a16 a17 a21 a22 : Nat → Int32) (t14 t19 p F dn ins : Int32) (y : Int64) (pos col lin pq : Int32) (hC : (y - y / 24 * 24).toInt32 = col) (hP : (y - y / 960 * 960).toInt32 = pos) (hL : pos / 24 = lin) (hQ : lg_cmp (y / 960 - y / 960 / 2 * 2) 0 = pq) (c0 : 0 ≤ col.toInt) (c1 : col.toInt ≤ 23) (l0 : 0 ≤ lin.toInt) (l1 : lin.toInt ≤ 39) (hpic : q_picX lin col = 0) (p1 p2 : Int32) (a0 : 0 ≤ p.toInt) (a1 : p.toInt ≤ 3839) (b0 : 0 ≤ p1.toInt) (b1 : p1.toInt ≤ 3839) (hp1 : (p + 1) &&& 4095 = p1) (hp2 : (p + 2) &&& 4095 = p2) (k c u db : Int32) (hk : decide (k < u) = true) : ∃ pix2 smp2 t142 t192 a162 a172 a212 a222 tr2 F2, ∀ o, q_Ru q_TB0 8 82 (14, [(4, .int (k + 1)), (5, .int c), (3, .int db), (0, .ref 65), (1, .int u), (2, .int 0)], [], (q_cX (q_rA pix2 smp2 tr2 a162 a172 a212 a222) (q_rI t142 t192 p F2 1 dn ins) (q_rJ (y + 1)), 40, 26520)) o → q_Ru q_TB0 8 82 (14, [(4, .int k), (5, .int c), (3, .int db), (0, .ref 65), (1, .int u), (2, .int 0)], [], (q_cX (q_rA pix smp tr a16 a17 a21 a22) (q_rI t14 t19 p F 0 dn ins) (q_rJ y), 40, 26520)) o := by
  obtain ⟨z36a, z36b, z36c, z36d, p36⟩ := q_p_pass0 pix smp tr a16 a17 a21 a22 t14 t19 p F 0 dn ins y pos col lin pq hC hP hL hQ c0 c1 l0 l1 hpic 
  obtain ⟨z38a, z38b, z38c, z38d, z38e, z38f, p38⟩ := q_p_endC z36a z36b tr a16 a17 a21 a22 z36c z36d p F 1 dn ins y 
  refine ⟨z36a, z36b, z38e, z38f, z38a, z38b, z38c, z38d, tr, F, fun o h => ?_⟩
  refine q_Ru_seg (g2 := (17, [(4, .int k), (5, .int c), (3, .int db), (0, .ref 65), (1, .int u), (2, .int 0)], [.int u, .int k], (q_cX (q_rA pix smp tr a16 a17 a21 a22) (q_rI t14 t19 p F 0 dn ins) (q_rJ y), 40, 26520))) 2 (fun _ _ => rfl) ?_
  refine q_Ru_rsF (g2 := (20, [(4, .int k), (5, .int c), (3, .int db), (0, .ref 65), (1, .int u), (2, .int 0)], [], (q_cX (q_rA pix smp tr a16 a17 a21 a22) (q_rI t14 t19 p F 0 dn ins) (q_rJ y), 40, 26520))) rfl rfl (q_d_geT hk) ?_
  refine q_Ru_seg (g2 := (36, [(4, .int k), (5, .int c), (3, .int db), (0, .ref 65), (1, .int u), (2, .int 0)], [.ref 65], (q_cX (q_rA pix smp tr a16 a17 a21 a22) (q_rI t14 t19 p F 0 dn ins) (q_rJ y), 40, 26520))) 3 (fun _ _ => rfl) ?_
  refine q_Ru_call (v := (some (.int 0))) (h2 := (q_cX (q_rA z36a z36b tr a16 a17 a21 a22) (q_rI z36c z36d p F 0 dn ins) (q_rJ y), 40, 26520)) rfl rfl ?_ ?_
  · exact p36.le (Nat.le_of_ble_eq_true rfl)
  show q_Ru _ _ _ (39, [(4, .int k), (5, .int c), (3, .int db), (0, .ref 65), (1, .int u), (2, .int 0)], [.int 0], (q_cX (q_rA z36a z36b tr a16 a17 a21 a22) (q_rI z36c z36d p F 0 dn ins) (q_rJ y), 40, 26520)) _
  refine q_Ru_seg (g2 := (55, [(4, .int k), (5, .int c), (3, .int db), (0, .ref 65), (1, .int u), (2, .int 0)], [.int 0], (q_cX (q_rA z36a z36b tr a16 a17 a21 a22) (q_rI z36c z36d p F 0 dn ins) (q_rJ y), 40, 26520))) 4 (fun _ _ => rfl) ?_
  refine q_Ru_seg (g2 := (66, [(4, .int k), (5, .int c), (3, .int db), (0, .ref 65), (1, .int u), (2, .int 0)], [.ref 66, .ref 88], (q_cX (q_rA z36a z36b tr a16 a17 a21 a22) (q_rI z36c z36d p F 0 dn ins) (q_rJ y), 40, 26520))) 5 (fun _ _ => rfl) ?_
  refine q_Ru_call (v := none) (h2 := (q_cX (q_rA z36a z36b tr a16 a17 a21 a22) (q_rI z36c z36d p F 2 dn ins) (q_rJ y), 40, 26520)) rfl rfl ?_ ?_
  · exact (q_p_begin z36a z36b tr a16 a17 a21 a22 z36c z36d p F dn ins y p1 p2 a0 a1 b0 b1 hp1 hp2 ).le (Nat.le_of_ble_eq_true rfl)
  show q_Ru _ _ _ (69, [(4, .int k), (5, .int c), (3, .int db), (0, .ref 65), (1, .int u), (2, .int 0)], [], (q_cX (q_rA z36a z36b tr a16 a17 a21 a22) (q_rI z36c z36d p F 2 dn ins) (q_rJ y), 40, 26520)) _
  refine q_Ru_seg (g2 := (73, [(4, .int k), (5, .int c), (3, .int db), (0, .ref 65), (1, .int u), (2, .int 0)], [.ref 88], (q_cX (q_rA z36a z36b tr a16 a17 a21 a22) (q_rI z36c z36d p F 2 dn ins) (q_rJ y), 40, 26520))) 2 (fun _ _ => rfl) ?_
  refine q_Ru_call (v := (some (.int 0))) (h2 := (q_cX (q_rA z36a z36b tr a16 a17 a21 a22) (q_uI (q_rI z36c z36d p F 2 dn ins) 24 9 1) (q_rJ y), 40, 26520)) rfl rfl ?_ ?_
  · refine q_Ca_of (Nat.le_of_ble_eq_true rfl) ?_
    refine q_Ru_seg (g2 := (4, [(0, .ref 88)], [.int 2], (q_cX (q_rA z36a z36b tr a16 a17 a21 a22) (q_rI z36c z36d p F 2 dn ins) (q_rJ y), 40, 26520))) 2 (fun _ _ => rfl) ?_
    refine q_Ru_seg (g2 := (14, [(0, .ref 88)], [.int 2, .ref 88], (q_cX (q_rA z36a z36b tr a16 a17 a21 a22) (q_rI z36c z36d p F 2 dn ins) (q_rJ y), 40, 26520))) 4 (fun _ _ => rfl) ?_
    refine q_Ru_seg (g2 := (23, [(0, .ref 88)], [.int 1], (q_cX (q_rA z36a z36b tr a16 a17 a21 a22) (q_uI (q_rI z36c z36d p F 2 dn ins) 24 9 1) (q_rJ y), 40, 26520))) 5 (fun _ _ => rfl) ?_
    refine q_Ru_seg (g2 := (31, [(0, .ref 88)], [.int 0], (q_cX (q_rA z36a z36b tr a16 a17 a21 a22) (q_uI (q_rI z36c z36d p F 2 dn ins) 24 9 1) (q_rJ y), 40, 26520))) 2 (fun _ _ => rfl) ?_
    exact q_Ru_ret rfl rfl
  show q_Ru _ _ _ (76, [(4, .int k), (5, .int c), (3, .int db), (0, .ref 65), (1, .int u), (2, .int 0)], [.int 0], (q_cX (q_rA z36a z36b tr a16 a17 a21 a22) (q_uI (q_rI z36c z36d p F 2 dn ins) 24 9 1) (q_rJ y), 40, 26520)) _
  refine q_Ru_seg (g2 := (94, [(4, .int k), (5, .int c), (3, .int db), (0, .ref 65), (1, .int u), (2, .int 0)], [.ref 66], (q_cX (q_rA z36a z36b tr a16 a17 a21 a22) (q_uI (q_rI z36c z36d p F 2 dn ins) 24 9 1) (q_rJ y), 40, 26520))) 3 (fun _ _ => rfl) ?_
  refine q_Ru_call (v := none) (h2 := (q_cX (q_rA z36a z36b tr z38a z38b z38c z38d) (q_rI z38e z38f p F 1 dn ins) (q_rJ (y + 1)), 40, 26520)) rfl rfl ?_ ?_
  · exact p38.le (Nat.le_of_ble_eq_true rfl)
  show q_Ru _ _ _ (97, [(4, .int k), (5, .int c), (3, .int db), (0, .ref 65), (1, .int u), (2, .int 0)], [], (q_cX (q_rA z36a z36b tr z38a z38b z38c z38d) (q_rI z38e z38f p F 1 dn ins) (q_rJ (y + 1)), 40, 26520)) _
  refine q_Ru_seg (g2 := (14, [(4, .int (k + 1)), (5, .int c), (3, .int db), (0, .ref 65), (1, .int u), (2, .int 0)], [], (q_cX (q_rA z36a z36b tr z38a z38b z38c z38d) (q_rI z38e z38f p F 1 dn ins) (q_rJ (y + 1)), 40, 26520))) 2 (fun _ _ => rfl) ?_
  exact h
set_option maxHeartbeats 4000000 in
theorem q_itX01 (pix smp tr a16 a17 a21 a22 : Nat → Int32) (t14 t19 p F dn ins : Int32) (y : Int64) (pos col lin pq : Int32) (hC : (y - y / 24 * 24).toInt32 = col) (hP : (y - y / 960 * 960).toInt32 = pos) (hL : pos / 24 = lin) (hQ : lg_cmp (y / 960 - y / 960 / 2 * 2) 0 = pq) (c0 : 0 ≤ col.toInt) (c1 : col.toInt ≤ 23) (l0 : 0 ≤ lin.toInt) (l1 : lin.toInt ≤ 39) (hpic : q_picX lin col = 0) (p1 p2 : Int32) (a0 : 0 ≤ p.toInt) (a1 : p.toInt ≤ 3839) (b0 : 0 ≤ p1.toInt) (b1 : p1.toInt ≤ 3839) (hp1 : (p + 1) &&& 4095 = p1) (hp2 : (p + 2) &&& 4095 = p2) (k c u db : Int32) (hk : decide (k < u) = true) : ∃ pix2 smp2 t142 t192 a162 a172 a212 a222 tr2 F2, ∀ o, q_Ru q_TB0 8 82 (14, [(4, .int (k + 1)), (5, .int c), (3, .int db), (0, .ref 65), (1, .int u), (2, .int 0)], [], (q_cX (q_rA pix2 smp2 tr2 a162 a172 a212 a222) (q_rI t142 t192 p2 F2 0 (dn + 1) (ins + 1)) (q_rJ (y + 1)), 40, 26520)) o → q_Ru q_TB0 8 82 (14, [(4, .int k), (5, .int c), (3, .int db), (0, .ref 65), (1, .int u), (2, .int 0)], [], (q_cX (q_rA pix smp tr a16 a17 a21 a22) (q_rI t14 t19 p F 1 dn ins) (q_rJ y), 40, 26520)) o := by
  obtain ⟨z39a, z39b, z39c, z39d, p39⟩ := q_p_pass0 pix smp tr a16 a17 a21 a22 t14 t19 p F 1 dn ins y pos col lin pq hC hP hL hQ c0 c1 l0 l1 hpic 
  obtain ⟨z40a, z40b, p40⟩ := q_p_finish z39a z39b tr a16 a17 a21 a22 z39c z39d p F dn ins y p1 p2 a0 a1 b0 b1 hp1 hp2 
  obtain ⟨z41a, z41b, z41c, z41d, z41e, z41f, p41⟩ := q_p_endC z39a z39b z40a a16 a17 a21 a22 z39c z39d p2 z40b 0 (dn + 1) (ins + 1) y 
  refine ⟨z39a, z39b, z41e, z41f, z41a, z41b, z41c, z41d, z40a, z40b, fun o h => ?_⟩
  refine q_Ru_seg (g2 := (17, [(4, .int k), (5, .int c), (3, .int db), (0, .ref 65), (1, .int u), (2, .int 0)], [.int u, .int k], (q_cX (q_rA pix smp tr a16 a17 a21 a22) (q_rI t14 t19 p F 1 dn ins) (q_rJ y), 40, 26520))) 2 (fun _ _ => rfl) ?_
  refine q_Ru_rsF (g2 := (20, [(4, .int k), (5, .int c), (3, .int db), (0, .ref 65), (1, .int u), (2, .int 0)], [], (q_cX (q_rA pix smp tr a16 a17 a21 a22) (q_rI t14 t19 p F 1 dn ins) (q_rJ y), 40, 26520))) rfl rfl (q_d_geT hk) ?_
  refine q_Ru_seg (g2 := (36, [(4, .int k), (5, .int c), (3, .int db), (0, .ref 65), (1, .int u), (2, .int 0)], [.ref 65], (q_cX (q_rA pix smp tr a16 a17 a21 a22) (q_rI t14 t19 p F 1 dn ins) (q_rJ y), 40, 26520))) 3 (fun _ _ => rfl) ?_
  refine q_Ru_call (v := (some (.int 0))) (h2 := (q_cX (q_rA z39a z39b tr a16 a17 a21 a22) (q_rI z39c z39d p F 1 dn ins) (q_rJ y), 40, 26520)) rfl rfl ?_ ?_
  · exact p39.le (Nat.le_of_ble_eq_true rfl)
  show q_Ru _ _ _ (39, [(4, .int k), (5, .int c), (3, .int db), (0, .ref 65), (1, .int u), (2, .int 0)], [.int 0], (q_cX (q_rA z39a z39b tr a16 a17 a21 a22) (q_rI z39c z39d p F 1 dn ins) (q_rJ y), 40, 26520)) _
  refine q_Ru_seg (g2 := (55, [(4, .int k), (5, .int c), (3, .int db), (0, .ref 65), (1, .int u), (2, .int 0)], [.int 1], (q_cX (q_rA z39a z39b tr a16 a17 a21 a22) (q_rI z39c z39d p F 1 dn ins) (q_rJ y), 40, 26520))) 4 (fun _ _ => rfl) ?_
  refine q_Ru_seg (g2 := (73, [(4, .int k), (5, .int c), (3, .int db), (0, .ref 65), (1, .int u), (2, .int 0)], [.ref 88], (q_cX (q_rA z39a z39b tr a16 a17 a21 a22) (q_rI z39c z39d p F 1 dn ins) (q_rJ y), 40, 26520))) 3 (fun _ _ => rfl) ?_
  refine q_Ru_call (v := (some (.int 1))) (h2 := (q_cX (q_rA z39a z39b tr a16 a17 a21 a22) (q_uI (q_rI z39c z39d p F 1 dn ins) 24 9 0) (q_rJ y), 40, 26520)) rfl rfl ?_ ?_
  · refine q_Ca_of (Nat.le_of_ble_eq_true rfl) ?_
    refine q_Ru_seg (g2 := (4, [(0, .ref 88)], [.int 1], (q_cX (q_rA z39a z39b tr a16 a17 a21 a22) (q_rI z39c z39d p F 1 dn ins) (q_rJ y), 40, 26520))) 2 (fun _ _ => rfl) ?_
    refine q_Ru_seg (g2 := (14, [(0, .ref 88)], [.int 1, .ref 88], (q_cX (q_rA z39a z39b tr a16 a17 a21 a22) (q_rI z39c z39d p F 1 dn ins) (q_rJ y), 40, 26520))) 4 (fun _ _ => rfl) ?_
    refine q_Ru_seg (g2 := (23, [(0, .ref 88)], [.int 0], (q_cX (q_rA z39a z39b tr a16 a17 a21 a22) (q_uI (q_rI z39c z39d p F 1 dn ins) 24 9 0) (q_rJ y), 40, 26520))) 5 (fun _ _ => rfl) ?_
    refine q_Ru_seg (g2 := (31, [(0, .ref 88)], [.int 1], (q_cX (q_rA z39a z39b tr a16 a17 a21 a22) (q_uI (q_rI z39c z39d p F 1 dn ins) 24 9 0) (q_rJ y), 40, 26520))) 3 (fun _ _ => rfl) ?_
    exact q_Ru_ret rfl rfl
  show q_Ru _ _ _ (76, [(4, .int k), (5, .int c), (3, .int db), (0, .ref 65), (1, .int u), (2, .int 0)], [.int 1], (q_cX (q_rA z39a z39b tr a16 a17 a21 a22) (q_uI (q_rI z39c z39d p F 1 dn ins) 24 9 0) (q_rJ y), 40, 26520)) _
  refine q_Ru_seg (g2 := (87, [(4, .int k), (5, .int c), (3, .int db), (0, .ref 65), (1, .int u), (2, .int 0)], [.ref 66, .ref 88], (q_cX (q_rA z39a z39b tr a16 a17 a21 a22) (q_uI (q_rI z39c z39d p F 1 dn ins) 24 9 0) (q_rJ y), 40, 26520))) 5 (fun _ _ => rfl) ?_
  refine q_Ru_call (v := none) (h2 := (q_cX (q_rA z39a z39b z40a a16 a17 a21 a22) (q_rI z39c z39d p2 z40b 0 (dn + 1) (ins + 1)) (q_rJ y), 40, 26520)) rfl rfl ?_ ?_
  · exact p40.le (Nat.le_of_ble_eq_true rfl)
  show q_Ru _ _ _ (90, [(4, .int k), (5, .int c), (3, .int db), (0, .ref 65), (1, .int u), (2, .int 0)], [], (q_cX (q_rA z39a z39b z40a a16 a17 a21 a22) (q_rI z39c z39d p2 z40b 0 (dn + 1) (ins + 1)) (q_rJ y), 40, 26520)) _
  refine q_Ru_seg (g2 := (94, [(4, .int k), (5, .int c), (3, .int db), (0, .ref 65), (1, .int u), (2, .int 0)], [.ref 66], (q_cX (q_rA z39a z39b z40a a16 a17 a21 a22) (q_rI z39c z39d p2 z40b 0 (dn + 1) (ins + 1)) (q_rJ y), 40, 26520))) 2 (fun _ _ => rfl) ?_
  refine q_Ru_call (v := none) (h2 := (q_cX (q_rA z39a z39b z40a z41a z41b z41c z41d) (q_rI z41e z41f p2 z40b 0 (dn + 1) (ins + 1)) (q_rJ (y + 1)), 40, 26520)) rfl rfl ?_ ?_
  · exact p41.le (Nat.le_of_ble_eq_true rfl)
  show q_Ru _ _ _ (97, [(4, .int k), (5, .int c), (3, .int db), (0, .ref 65), (1, .int u), (2, .int 0)], [], (q_cX (q_rA z39a z39b z40a z41a z41b z41c z41d) (q_rI z41e z41f p2 z40b 0 (dn + 1) (ins + 1)) (q_rJ (y + 1)), 40, 26520)) _
  refine q_Ru_seg (g2 := (14, [(4, .int (k + 1)), (5, .int c), (3, .int db), (0, .ref 65), (1, .int u), (2, .int 0)], [], (q_cX (q_rA z39a z39b z40a z41a z41b z41c z41d) (q_rI z41e z41f p2 z40b 0 (dn + 1) (ins + 1)) (q_rJ (y + 1)), 40, 26520))) 2 (fun _ _ => rfl) ?_
  exact h
