/-! ===== the turns of the law ===== -/
set_option maxHeartbeats 4000000 in
theorem q_lw0 (z L : Nat) (xs : Nat → Int32) (S : q_S) (c n : Nat) (i : Int32) (hx0 : q_in i L = true) (hx1 : q_in (i + 1) L = true) (hx2 : q_in (i + 2) L = true) (hx3 : q_in (i + 3) L = true) (hi : decide (Int32.ofNat L - 4 < i) = false) (hv : xs i.toNatClampNeg &&& 63 = 0) (r0 : q_S × Int32 × Nat) (er0 : dz_X0_64_236 (q_vw 172 0 206 S) (xs ((i + 1).toNatClampNeg)) (xs ((i + 2).toNatClampNeg)) = some r0) (r1 : q_S × Int32) (er1 : dz_M215_64 (q_vw 34 172 0 (q_pt 172 1 0 206 S r0.1)) (xs ((i + 1).toNatClampNeg)) (xs ((i + 2).toNatClampNeg)) = some r1) {o : q_Out} (h : q_Ru (q_TBs z L xs) 20 375 (23, [(4, .int (i + 4)), (3, .ref 270), (2, .ref 236), (1, .ref 64), (0, .ref 0)], [], (q_kL (q_pt 34 0 172 0 (q_pt 172 1 0 206 S r0.1) r1.1) (c + r0.2.2) (n + 6 * r0.2.2))) o) : q_Ru (q_TBs z L xs) 20 375 (23, [(4, .int i), (3, .ref 270), (2, .ref 236), (1, .ref 64), (0, .ref 0)], [], (q_kL S c n)) o := by
  refine q_Ru_seg (g2 := (29, [(4, .int i), (3, .ref 270), (2, .ref 236), (1, .ref 64), (0, .ref 0)], [.int ((Int32.ofNat L) - 4), .int i], (q_kL S c n))) 5 (fun _ _ => rfl) ?_
  refine q_Ru_rsF (g2 := (32, [(4, .int i), (3, .ref 270), (2, .ref 236), (1, .ref 64), (0, .ref 0)], [], (q_kL S c n))) rfl rfl hi ?_
  refine q_Ru_seg (g2 := (35, [(4, .int i), (3, .ref 270), (2, .ref 236), (1, .ref 64), (0, .ref 0)], [.int i, .ref 0], (q_kL S c n))) 2 (fun _ _ => rfl) ?_
  refine q_Ru_rsT (g2 := (36, [(4, .int i), (3, .ref 270), (2, .ref 236), (1, .ref 64), (0, .ref 0)], [.int (xs (i.toNatClampNeg))], (q_kL S c n))) rfl rfl hx0 ?_
  refine q_Ru_seg (g2 := (39, [(4, .int i), (3, .ref 270), (2, .ref 236), (1, .ref 64), (0, .ref 0)], [.int ((xs (i.toNatClampNeg)) &&& 63)], (q_kL S c n))) 2 (fun _ _ => rfl) ?_
  rw [hv]
  refine q_Ru_seg (g2 := (226, [(4, .int i), (3, .ref 270), (2, .ref 236), (1, .ref 64), (0, .ref 0)], [.int (i + 1), .ref 0, .ref 64], (q_kL S c n))) 6 (fun _ _ => rfl) ?_
  refine q_Ru_rsT (g2 := (227, [(4, .int i), (3, .ref 270), (2, .ref 236), (1, .ref 64), (0, .ref 0)], [.int (xs ((i + 1).toNatClampNeg)), .ref 64], (q_kL S c n))) rfl rfl hx1 ?_
  refine q_Ru_seg (g2 := (232, [(4, .int i), (3, .ref 270), (2, .ref 236), (1, .ref 64), (0, .ref 0)], [.int (i + 2), .ref 0, .int (xs ((i + 1).toNatClampNeg)), .ref 64], (q_kL S c n))) 4 (fun _ _ => rfl) ?_
  refine q_Ru_rsT (g2 := (233, [(4, .int i), (3, .ref 270), (2, .ref 236), (1, .ref 64), (0, .ref 0)], [.int (xs ((i + 2).toNatClampNeg)), .int (xs ((i + 1).toNatClampNeg)), .ref 64], (q_kL S c n))) rfl rfl hx2 ?_
  refine q_Ru_seg (g2 := (234, [(4, .int i), (3, .ref 270), (2, .ref 236), (1, .ref 64), (0, .ref 0)], [.ref 270, .int (xs ((i + 2).toNatClampNeg)), .int (xs ((i + 1).toNatClampNeg)), .ref 64], (q_kL S c n))) 1 (fun _ _ => rfl) ?_
  refine q_Ru_call (v := (some (.int r0.2.1))) (h2 := (q_kL (q_pt 172 1 0 206 S r0.1) (c + r0.2.2) (n + 6 * r0.2.2))) rfl rfl ?_ ?_
  · exact (q_emXL rfl (fun _ => rfl) (dzt_X0_64_236 z L xs (q_vw 172 0 206 S) c n (xs ((i + 1).toNatClampNeg)) (xs ((i + 2).toNatClampNeg)) r0 er0)).le (Nat.le_of_ble_eq_true rfl)
  show q_Ru _ _ _ (237, [(4, .int i), (3, .ref 270), (2, .ref 236), (1, .ref 64), (0, .ref 0)], [.int r0.2.1], (q_kL (q_pt 172 1 0 206 S r0.1) (c + r0.2.2) (n + 6 * r0.2.2))) _
  refine q_Ru_seg (g2 := (245, [(5, .int r0.2.1), (4, .int i), (3, .ref 270), (2, .ref 236), (1, .ref 64), (0, .ref 0)], [.int (i + 1), .ref 0, .ref 236], (q_kL (q_pt 172 1 0 206 S r0.1) (c + r0.2.2) (n + 6 * r0.2.2)))) 6 (fun _ _ => rfl) ?_
  refine q_Ru_rsT (g2 := (246, [(5, .int r0.2.1), (4, .int i), (3, .ref 270), (2, .ref 236), (1, .ref 64), (0, .ref 0)], [.int (xs ((i + 1).toNatClampNeg)), .ref 236], (q_kL (q_pt 172 1 0 206 S r0.1) (c + r0.2.2) (n + 6 * r0.2.2)))) rfl rfl hx1 ?_
  refine q_Ru_seg (g2 := (251, [(5, .int r0.2.1), (4, .int i), (3, .ref 270), (2, .ref 236), (1, .ref 64), (0, .ref 0)], [.int (i + 2), .ref 0, .int (xs ((i + 1).toNatClampNeg)), .ref 236], (q_kL (q_pt 172 1 0 206 S r0.1) (c + r0.2.2) (n + 6 * r0.2.2)))) 4 (fun _ _ => rfl) ?_
  refine q_Ru_rsT (g2 := (252, [(5, .int r0.2.1), (4, .int i), (3, .ref 270), (2, .ref 236), (1, .ref 64), (0, .ref 0)], [.int (xs ((i + 2).toNatClampNeg)), .int (xs ((i + 1).toNatClampNeg)), .ref 236], (q_kL (q_pt 172 1 0 206 S r0.1) (c + r0.2.2) (n + 6 * r0.2.2)))) rfl rfl hx2 ?_
  refine q_Ru_call (v := (some (.int r1.2))) (h2 := (q_kL (q_pt 34 0 172 0 (q_pt 172 1 0 206 S r0.1) r1.1) (c + r0.2.2) (n + 6 * r0.2.2))) rfl rfl ?_ ?_
  · exact (q_emML rfl (fun _ => rfl) ((dzt_M215_64 (q_vw 34 172 0 (q_pt 172 1 0 206 S r0.1)) (c + r0.2.2) (n + 6 * r0.2.2) (xs ((i + 1).toNatClampNeg)) (xs ((i + 2).toNatClampNeg)) r1 er1).tb q_TB0_le)).le (Nat.le_of_ble_eq_true rfl)
  show q_Ru _ _ _ (255, [(5, .int r0.2.1), (4, .int i), (3, .ref 270), (2, .ref 236), (1, .ref 64), (0, .ref 0)], [.int r1.2], (q_kL (q_pt 34 0 172 0 (q_pt 172 1 0 206 S r0.1) r1.1) (c + r0.2.2) (n + 6 * r0.2.2))) _
  refine q_Ru_seg (g2 := (23, [(4, .int (i + 4)), (6, .int r1.2), (5, .int r0.2.1), (3, .ref 270), (2, .ref 236), (1, .ref 64), (0, .ref 0)], [], (q_kL (q_pt 34 0 172 0 (q_pt 172 1 0 206 S r0.1) r1.1) (c + r0.2.2) (n + 6 * r0.2.2)))) 4 (fun _ _ => rfl) ?_
  exact q_Ru_xt (q_xt_mk (q_mn1 0 rfl (q_mn1 3 rfl (q_mn1 4 rfl (q_mn1 5 rfl (q_mn1 6 rfl q_mn0))))) rfl) h
set_option maxHeartbeats 4000000 in
theorem q_lw1 (z L : Nat) (xs : Nat → Int32) (S : q_S) (c n : Nat) (i : Int32) (hx0 : q_in i L = true) (hx1 : q_in (i + 1) L = true) (hx2 : q_in (i + 2) L = true) (hx3 : q_in (i + 3) L = true) (hi : decide (Int32.ofNat L - 4 < i) = false) (hv : xs i.toNatClampNeg &&& 63 = 1) (r0 : q_S × Int32 × Nat) (er0 : dz_X1_64_236 (q_vw 172 0 206 S) (xs ((i + 1).toNatClampNeg)) (xs ((i + 2).toNatClampNeg)) = some r0) (r1 : q_S × Int32) (er1 : dz_M216_64 (q_vw 34 172 0 (q_pt 172 1 0 206 S r0.1)) (xs ((i + 1).toNatClampNeg)) (xs ((i + 2).toNatClampNeg)) = some r1) {o : q_Out} (h : q_Ru (q_TBs z L xs) 20 375 (23, [(4, .int (i + 4)), (3, .ref 270), (2, .ref 236), (1, .ref 64), (0, .ref 0)], [], (q_kL (q_pt 34 0 172 0 (q_pt 172 1 0 206 S r0.1) r1.1) (c + r0.2.2) (n + 6 * r0.2.2))) o) : q_Ru (q_TBs z L xs) 20 375 (23, [(4, .int i), (3, .ref 270), (2, .ref 236), (1, .ref 64), (0, .ref 0)], [], (q_kL S c n)) o := by
  refine q_Ru_seg (g2 := (29, [(4, .int i), (3, .ref 270), (2, .ref 236), (1, .ref 64), (0, .ref 0)], [.int ((Int32.ofNat L) - 4), .int i], (q_kL S c n))) 5 (fun _ _ => rfl) ?_
  refine q_Ru_rsF (g2 := (32, [(4, .int i), (3, .ref 270), (2, .ref 236), (1, .ref 64), (0, .ref 0)], [], (q_kL S c n))) rfl rfl hi ?_
  refine q_Ru_seg (g2 := (35, [(4, .int i), (3, .ref 270), (2, .ref 236), (1, .ref 64), (0, .ref 0)], [.int i, .ref 0], (q_kL S c n))) 2 (fun _ _ => rfl) ?_
  refine q_Ru_rsT (g2 := (36, [(4, .int i), (3, .ref 270), (2, .ref 236), (1, .ref 64), (0, .ref 0)], [.int (xs (i.toNatClampNeg))], (q_kL S c n))) rfl rfl hx0 ?_
  refine q_Ru_seg (g2 := (39, [(4, .int i), (3, .ref 270), (2, .ref 236), (1, .ref 64), (0, .ref 0)], [.int ((xs (i.toNatClampNeg)) &&& 63)], (q_kL S c n))) 2 (fun _ _ => rfl) ?_
  rw [hv]
  refine q_Ru_seg (g2 := (266, [(4, .int i), (3, .ref 270), (2, .ref 236), (1, .ref 64), (0, .ref 0)], [.int (i + 1), .ref 0, .ref 64], (q_kL S c n))) 6 (fun _ _ => rfl) ?_
  refine q_Ru_rsT (g2 := (267, [(4, .int i), (3, .ref 270), (2, .ref 236), (1, .ref 64), (0, .ref 0)], [.int (xs ((i + 1).toNatClampNeg)), .ref 64], (q_kL S c n))) rfl rfl hx1 ?_
  refine q_Ru_seg (g2 := (272, [(4, .int i), (3, .ref 270), (2, .ref 236), (1, .ref 64), (0, .ref 0)], [.int (i + 2), .ref 0, .int (xs ((i + 1).toNatClampNeg)), .ref 64], (q_kL S c n))) 4 (fun _ _ => rfl) ?_
  refine q_Ru_rsT (g2 := (273, [(4, .int i), (3, .ref 270), (2, .ref 236), (1, .ref 64), (0, .ref 0)], [.int (xs ((i + 2).toNatClampNeg)), .int (xs ((i + 1).toNatClampNeg)), .ref 64], (q_kL S c n))) rfl rfl hx2 ?_
  refine q_Ru_seg (g2 := (274, [(4, .int i), (3, .ref 270), (2, .ref 236), (1, .ref 64), (0, .ref 0)], [.ref 270, .int (xs ((i + 2).toNatClampNeg)), .int (xs ((i + 1).toNatClampNeg)), .ref 64], (q_kL S c n))) 1 (fun _ _ => rfl) ?_
  refine q_Ru_call (v := (some (.int r0.2.1))) (h2 := (q_kL (q_pt 172 1 0 206 S r0.1) (c + r0.2.2) (n + 6 * r0.2.2))) rfl rfl ?_ ?_
  · exact (q_emXL rfl (fun _ => rfl) (dzt_X1_64_236 z L xs (q_vw 172 0 206 S) c n (xs ((i + 1).toNatClampNeg)) (xs ((i + 2).toNatClampNeg)) r0 er0)).le (Nat.le_of_ble_eq_true rfl)
  show q_Ru _ _ _ (277, [(4, .int i), (3, .ref 270), (2, .ref 236), (1, .ref 64), (0, .ref 0)], [.int r0.2.1], (q_kL (q_pt 172 1 0 206 S r0.1) (c + r0.2.2) (n + 6 * r0.2.2))) _
  refine q_Ru_seg (g2 := (285, [(5, .int r0.2.1), (4, .int i), (3, .ref 270), (2, .ref 236), (1, .ref 64), (0, .ref 0)], [.int (i + 1), .ref 0, .ref 236], (q_kL (q_pt 172 1 0 206 S r0.1) (c + r0.2.2) (n + 6 * r0.2.2)))) 6 (fun _ _ => rfl) ?_
  refine q_Ru_rsT (g2 := (286, [(5, .int r0.2.1), (4, .int i), (3, .ref 270), (2, .ref 236), (1, .ref 64), (0, .ref 0)], [.int (xs ((i + 1).toNatClampNeg)), .ref 236], (q_kL (q_pt 172 1 0 206 S r0.1) (c + r0.2.2) (n + 6 * r0.2.2)))) rfl rfl hx1 ?_
  refine q_Ru_seg (g2 := (291, [(5, .int r0.2.1), (4, .int i), (3, .ref 270), (2, .ref 236), (1, .ref 64), (0, .ref 0)], [.int (i + 2), .ref 0, .int (xs ((i + 1).toNatClampNeg)), .ref 236], (q_kL (q_pt 172 1 0 206 S r0.1) (c + r0.2.2) (n + 6 * r0.2.2)))) 4 (fun _ _ => rfl) ?_
  refine q_Ru_rsT (g2 := (292, [(5, .int r0.2.1), (4, .int i), (3, .ref 270), (2, .ref 236), (1, .ref 64), (0, .ref 0)], [.int (xs ((i + 2).toNatClampNeg)), .int (xs ((i + 1).toNatClampNeg)), .ref 236], (q_kL (q_pt 172 1 0 206 S r0.1) (c + r0.2.2) (n + 6 * r0.2.2)))) rfl rfl hx2 ?_
  refine q_Ru_call (v := (some (.int r1.2))) (h2 := (q_kL (q_pt 34 0 172 0 (q_pt 172 1 0 206 S r0.1) r1.1) (c + r0.2.2) (n + 6 * r0.2.2))) rfl rfl ?_ ?_
  · exact (q_emML rfl (fun _ => rfl) ((dzt_M216_64 (q_vw 34 172 0 (q_pt 172 1 0 206 S r0.1)) (c + r0.2.2) (n + 6 * r0.2.2) (xs ((i + 1).toNatClampNeg)) (xs ((i + 2).toNatClampNeg)) r1 er1).tb q_TB0_le)).le (Nat.le_of_ble_eq_true rfl)
  show q_Ru _ _ _ (295, [(5, .int r0.2.1), (4, .int i), (3, .ref 270), (2, .ref 236), (1, .ref 64), (0, .ref 0)], [.int r1.2], (q_kL (q_pt 34 0 172 0 (q_pt 172 1 0 206 S r0.1) r1.1) (c + r0.2.2) (n + 6 * r0.2.2))) _
  refine q_Ru_seg (g2 := (23, [(4, .int (i + 4)), (6, .int r1.2), (5, .int r0.2.1), (3, .ref 270), (2, .ref 236), (1, .ref 64), (0, .ref 0)], [], (q_kL (q_pt 34 0 172 0 (q_pt 172 1 0 206 S r0.1) r1.1) (c + r0.2.2) (n + 6 * r0.2.2)))) 4 (fun _ _ => rfl) ?_
  exact q_Ru_xt (q_xt_mk (q_mn1 0 rfl (q_mn1 3 rfl (q_mn1 4 rfl (q_mn1 5 rfl (q_mn1 6 rfl q_mn0))))) rfl) h
set_option maxHeartbeats 4000000 in
theorem q_lw2 (z L : Nat) (xs : Nat → Int32) (S : q_S) (c n : Nat) (i : Int32) (hx0 : q_in i L = true) (hx1 : q_in (i + 1) L = true) (hx2 : q_in (i + 2) L = true) (hx3 : q_in (i + 3) L = true) (hi : decide (Int32.ofNat L - 4 < i) = false) (hv : xs i.toNatClampNeg &&& 63 = 2) (r0 : q_S × Int32 × Nat) (er0 : dz_X2_64_236 (q_vw 172 0 206 S) (xs ((i + 1).toNatClampNeg)) (xs ((i + 2).toNatClampNeg)) (xs ((i + 3).toNatClampNeg)) = some r0) (r1 : q_S × Int32) (er1 : dz_M217_64 (q_vw 34 172 0 (q_pt 172 1 0 206 S r0.1)) (xs ((i + 1).toNatClampNeg)) (xs ((i + 2).toNatClampNeg)) (xs ((i + 3).toNatClampNeg)) = some r1) {o : q_Out} (h : q_Ru (q_TBs z L xs) 20 375 (23, [(4, .int (i + 4)), (3, .ref 270), (2, .ref 236), (1, .ref 64), (0, .ref 0)], [], (q_kL (q_pt 34 0 172 0 (q_pt 172 1 0 206 S r0.1) r1.1) (c + r0.2.2) (n + 6 * r0.2.2))) o) : q_Ru (q_TBs z L xs) 20 375 (23, [(4, .int i), (3, .ref 270), (2, .ref 236), (1, .ref 64), (0, .ref 0)], [], (q_kL S c n)) o := by
  refine q_Ru_seg (g2 := (29, [(4, .int i), (3, .ref 270), (2, .ref 236), (1, .ref 64), (0, .ref 0)], [.int ((Int32.ofNat L) - 4), .int i], (q_kL S c n))) 5 (fun _ _ => rfl) ?_
  refine q_Ru_rsF (g2 := (32, [(4, .int i), (3, .ref 270), (2, .ref 236), (1, .ref 64), (0, .ref 0)], [], (q_kL S c n))) rfl rfl hi ?_
  refine q_Ru_seg (g2 := (35, [(4, .int i), (3, .ref 270), (2, .ref 236), (1, .ref 64), (0, .ref 0)], [.int i, .ref 0], (q_kL S c n))) 2 (fun _ _ => rfl) ?_
  refine q_Ru_rsT (g2 := (36, [(4, .int i), (3, .ref 270), (2, .ref 236), (1, .ref 64), (0, .ref 0)], [.int (xs (i.toNatClampNeg))], (q_kL S c n))) rfl rfl hx0 ?_
  refine q_Ru_seg (g2 := (39, [(4, .int i), (3, .ref 270), (2, .ref 236), (1, .ref 64), (0, .ref 0)], [.int ((xs (i.toNatClampNeg)) &&& 63)], (q_kL S c n))) 2 (fun _ _ => rfl) ?_
  rw [hv]
  refine q_Ru_seg (g2 := (306, [(4, .int i), (3, .ref 270), (2, .ref 236), (1, .ref 64), (0, .ref 0)], [.int (i + 1), .ref 0, .ref 64], (q_kL S c n))) 6 (fun _ _ => rfl) ?_
  refine q_Ru_rsT (g2 := (307, [(4, .int i), (3, .ref 270), (2, .ref 236), (1, .ref 64), (0, .ref 0)], [.int (xs ((i + 1).toNatClampNeg)), .ref 64], (q_kL S c n))) rfl rfl hx1 ?_
  refine q_Ru_seg (g2 := (312, [(4, .int i), (3, .ref 270), (2, .ref 236), (1, .ref 64), (0, .ref 0)], [.int (i + 2), .ref 0, .int (xs ((i + 1).toNatClampNeg)), .ref 64], (q_kL S c n))) 4 (fun _ _ => rfl) ?_
  refine q_Ru_rsT (g2 := (313, [(4, .int i), (3, .ref 270), (2, .ref 236), (1, .ref 64), (0, .ref 0)], [.int (xs ((i + 2).toNatClampNeg)), .int (xs ((i + 1).toNatClampNeg)), .ref 64], (q_kL S c n))) rfl rfl hx2 ?_
  refine q_Ru_seg (g2 := (318, [(4, .int i), (3, .ref 270), (2, .ref 236), (1, .ref 64), (0, .ref 0)], [.int (i + 3), .ref 0, .int (xs ((i + 2).toNatClampNeg)), .int (xs ((i + 1).toNatClampNeg)), .ref 64], (q_kL S c n))) 4 (fun _ _ => rfl) ?_
  refine q_Ru_rsT (g2 := (319, [(4, .int i), (3, .ref 270), (2, .ref 236), (1, .ref 64), (0, .ref 0)], [.int (xs ((i + 3).toNatClampNeg)), .int (xs ((i + 2).toNatClampNeg)), .int (xs ((i + 1).toNatClampNeg)), .ref 64], (q_kL S c n))) rfl rfl hx3 ?_
  refine q_Ru_seg (g2 := (320, [(4, .int i), (3, .ref 270), (2, .ref 236), (1, .ref 64), (0, .ref 0)], [.ref 270, .int (xs ((i + 3).toNatClampNeg)), .int (xs ((i + 2).toNatClampNeg)), .int (xs ((i + 1).toNatClampNeg)), .ref 64], (q_kL S c n))) 1 (fun _ _ => rfl) ?_
  refine q_Ru_call (v := (some (.int r0.2.1))) (h2 := (q_kL (q_pt 172 1 0 206 S r0.1) (c + r0.2.2) (n + 6 * r0.2.2))) rfl rfl ?_ ?_
  · exact (q_emXL rfl (fun _ => rfl) (dzt_X2_64_236 z L xs (q_vw 172 0 206 S) c n (xs ((i + 1).toNatClampNeg)) (xs ((i + 2).toNatClampNeg)) (xs ((i + 3).toNatClampNeg)) r0 er0)).le (Nat.le_of_ble_eq_true rfl)
  show q_Ru _ _ _ (323, [(4, .int i), (3, .ref 270), (2, .ref 236), (1, .ref 64), (0, .ref 0)], [.int r0.2.1], (q_kL (q_pt 172 1 0 206 S r0.1) (c + r0.2.2) (n + 6 * r0.2.2))) _
  refine q_Ru_seg (g2 := (331, [(5, .int r0.2.1), (4, .int i), (3, .ref 270), (2, .ref 236), (1, .ref 64), (0, .ref 0)], [.int (i + 1), .ref 0, .ref 236], (q_kL (q_pt 172 1 0 206 S r0.1) (c + r0.2.2) (n + 6 * r0.2.2)))) 6 (fun _ _ => rfl) ?_
  refine q_Ru_rsT (g2 := (332, [(5, .int r0.2.1), (4, .int i), (3, .ref 270), (2, .ref 236), (1, .ref 64), (0, .ref 0)], [.int (xs ((i + 1).toNatClampNeg)), .ref 236], (q_kL (q_pt 172 1 0 206 S r0.1) (c + r0.2.2) (n + 6 * r0.2.2)))) rfl rfl hx1 ?_
  refine q_Ru_seg (g2 := (337, [(5, .int r0.2.1), (4, .int i), (3, .ref 270), (2, .ref 236), (1, .ref 64), (0, .ref 0)], [.int (i + 2), .ref 0, .int (xs ((i + 1).toNatClampNeg)), .ref 236], (q_kL (q_pt 172 1 0 206 S r0.1) (c + r0.2.2) (n + 6 * r0.2.2)))) 4 (fun _ _ => rfl) ?_
  refine q_Ru_rsT (g2 := (338, [(5, .int r0.2.1), (4, .int i), (3, .ref 270), (2, .ref 236), (1, .ref 64), (0, .ref 0)], [.int (xs ((i + 2).toNatClampNeg)), .int (xs ((i + 1).toNatClampNeg)), .ref 236], (q_kL (q_pt 172 1 0 206 S r0.1) (c + r0.2.2) (n + 6 * r0.2.2)))) rfl rfl hx2 ?_
  refine q_Ru_seg (g2 := (343, [(5, .int r0.2.1), (4, .int i), (3, .ref 270), (2, .ref 236), (1, .ref 64), (0, .ref 0)], [.int (i + 3), .ref 0, .int (xs ((i + 2).toNatClampNeg)), .int (xs ((i + 1).toNatClampNeg)), .ref 236], (q_kL (q_pt 172 1 0 206 S r0.1) (c + r0.2.2) (n + 6 * r0.2.2)))) 4 (fun _ _ => rfl) ?_
  refine q_Ru_rsT (g2 := (344, [(5, .int r0.2.1), (4, .int i), (3, .ref 270), (2, .ref 236), (1, .ref 64), (0, .ref 0)], [.int (xs ((i + 3).toNatClampNeg)), .int (xs ((i + 2).toNatClampNeg)), .int (xs ((i + 1).toNatClampNeg)), .ref 236], (q_kL (q_pt 172 1 0 206 S r0.1) (c + r0.2.2) (n + 6 * r0.2.2)))) rfl rfl hx3 ?_
  refine q_Ru_call (v := (some (.int r1.2))) (h2 := (q_kL (q_pt 34 0 172 0 (q_pt 172 1 0 206 S r0.1) r1.1) (c + r0.2.2) (n + 6 * r0.2.2))) rfl rfl ?_ ?_
  · exact (q_emML rfl (fun _ => rfl) ((dzt_M217_64 (q_vw 34 172 0 (q_pt 172 1 0 206 S r0.1)) (c + r0.2.2) (n + 6 * r0.2.2) (xs ((i + 1).toNatClampNeg)) (xs ((i + 2).toNatClampNeg)) (xs ((i + 3).toNatClampNeg)) r1 er1).tb q_TB0_le)).le (Nat.le_of_ble_eq_true rfl)
  show q_Ru _ _ _ (347, [(5, .int r0.2.1), (4, .int i), (3, .ref 270), (2, .ref 236), (1, .ref 64), (0, .ref 0)], [.int r1.2], (q_kL (q_pt 34 0 172 0 (q_pt 172 1 0 206 S r0.1) r1.1) (c + r0.2.2) (n + 6 * r0.2.2))) _
  refine q_Ru_seg (g2 := (23, [(4, .int (i + 4)), (6, .int r1.2), (5, .int r0.2.1), (3, .ref 270), (2, .ref 236), (1, .ref 64), (0, .ref 0)], [], (q_kL (q_pt 34 0 172 0 (q_pt 172 1 0 206 S r0.1) r1.1) (c + r0.2.2) (n + 6 * r0.2.2)))) 4 (fun _ _ => rfl) ?_
  exact q_Ru_xt (q_xt_mk (q_mn1 0 rfl (q_mn1 3 rfl (q_mn1 4 rfl (q_mn1 5 rfl (q_mn1 6 rfl q_mn0))))) rfl) h
set_option maxHeartbeats 4000000 in
theorem q_lw3 (z L : Nat) (xs : Nat → Int32) (S : q_S) (c n : Nat) (i : Int32) (hx0 : q_in i L = true) (hx1 : q_in (i + 1) L = true) (hx2 : q_in (i + 2) L = true) (hx3 : q_in (i + 3) L = true) (hi : decide (Int32.ofNat L - 4 < i) = false) (hv : xs i.toNatClampNeg &&& 63 = 3) (r0 : q_S × Int32 × Nat) (er0 : dz_X3_64_236 (q_vw 172 0 206 S) (xs ((i + 1).toNatClampNeg)) = some r0) (r1 : q_S × Int32) (er1 : dz_M218_64 (q_vw 34 172 0 (q_pt 172 1 0 206 S r0.1)) (xs ((i + 1).toNatClampNeg)) = some r1) {o : q_Out} (h : q_Ru (q_TBs z L xs) 20 375 (23, [(4, .int (i + 4)), (3, .ref 270), (2, .ref 236), (1, .ref 64), (0, .ref 0)], [], (q_kL (q_pt 34 0 172 0 (q_pt 172 1 0 206 S r0.1) r1.1) (c + r0.2.2) (n + 6 * r0.2.2))) o) : q_Ru (q_TBs z L xs) 20 375 (23, [(4, .int i), (3, .ref 270), (2, .ref 236), (1, .ref 64), (0, .ref 0)], [], (q_kL S c n)) o := by
  refine q_Ru_seg (g2 := (29, [(4, .int i), (3, .ref 270), (2, .ref 236), (1, .ref 64), (0, .ref 0)], [.int ((Int32.ofNat L) - 4), .int i], (q_kL S c n))) 5 (fun _ _ => rfl) ?_
  refine q_Ru_rsF (g2 := (32, [(4, .int i), (3, .ref 270), (2, .ref 236), (1, .ref 64), (0, .ref 0)], [], (q_kL S c n))) rfl rfl hi ?_
  refine q_Ru_seg (g2 := (35, [(4, .int i), (3, .ref 270), (2, .ref 236), (1, .ref 64), (0, .ref 0)], [.int i, .ref 0], (q_kL S c n))) 2 (fun _ _ => rfl) ?_
  refine q_Ru_rsT (g2 := (36, [(4, .int i), (3, .ref 270), (2, .ref 236), (1, .ref 64), (0, .ref 0)], [.int (xs (i.toNatClampNeg))], (q_kL S c n))) rfl rfl hx0 ?_
  refine q_Ru_seg (g2 := (39, [(4, .int i), (3, .ref 270), (2, .ref 236), (1, .ref 64), (0, .ref 0)], [.int ((xs (i.toNatClampNeg)) &&& 63)], (q_kL S c n))) 2 (fun _ _ => rfl) ?_
  rw [hv]
  refine q_Ru_seg (g2 := (358, [(4, .int i), (3, .ref 270), (2, .ref 236), (1, .ref 64), (0, .ref 0)], [.int (i + 1), .ref 0, .ref 64], (q_kL S c n))) 6 (fun _ _ => rfl) ?_
  refine q_Ru_rsT (g2 := (359, [(4, .int i), (3, .ref 270), (2, .ref 236), (1, .ref 64), (0, .ref 0)], [.int (xs ((i + 1).toNatClampNeg)), .ref 64], (q_kL S c n))) rfl rfl hx1 ?_
  refine q_Ru_seg (g2 := (360, [(4, .int i), (3, .ref 270), (2, .ref 236), (1, .ref 64), (0, .ref 0)], [.ref 270, .int (xs ((i + 1).toNatClampNeg)), .ref 64], (q_kL S c n))) 1 (fun _ _ => rfl) ?_
  refine q_Ru_call (v := (some (.int r0.2.1))) (h2 := (q_kL (q_pt 172 1 0 206 S r0.1) (c + r0.2.2) (n + 6 * r0.2.2))) rfl rfl ?_ ?_
  · exact (q_emXL rfl (fun _ => rfl) (dzt_X3_64_236 z L xs (q_vw 172 0 206 S) c n (xs ((i + 1).toNatClampNeg)) r0 er0)).le (Nat.le_of_ble_eq_true rfl)
  show q_Ru _ _ _ (363, [(4, .int i), (3, .ref 270), (2, .ref 236), (1, .ref 64), (0, .ref 0)], [.int r0.2.1], (q_kL (q_pt 172 1 0 206 S r0.1) (c + r0.2.2) (n + 6 * r0.2.2))) _
  refine q_Ru_seg (g2 := (371, [(5, .int r0.2.1), (4, .int i), (3, .ref 270), (2, .ref 236), (1, .ref 64), (0, .ref 0)], [.int (i + 1), .ref 0, .ref 236], (q_kL (q_pt 172 1 0 206 S r0.1) (c + r0.2.2) (n + 6 * r0.2.2)))) 6 (fun _ _ => rfl) ?_
  refine q_Ru_rsT (g2 := (372, [(5, .int r0.2.1), (4, .int i), (3, .ref 270), (2, .ref 236), (1, .ref 64), (0, .ref 0)], [.int (xs ((i + 1).toNatClampNeg)), .ref 236], (q_kL (q_pt 172 1 0 206 S r0.1) (c + r0.2.2) (n + 6 * r0.2.2)))) rfl rfl hx1 ?_
  refine q_Ru_call (v := (some (.int r1.2))) (h2 := (q_kL (q_pt 34 0 172 0 (q_pt 172 1 0 206 S r0.1) r1.1) (c + r0.2.2) (n + 6 * r0.2.2))) rfl rfl ?_ ?_
  · exact (q_emML rfl (fun _ => rfl) ((dzt_M218_64 (q_vw 34 172 0 (q_pt 172 1 0 206 S r0.1)) (c + r0.2.2) (n + 6 * r0.2.2) (xs ((i + 1).toNatClampNeg)) r1 er1).tb q_TB0_le)).le (Nat.le_of_ble_eq_true rfl)
  show q_Ru _ _ _ (375, [(5, .int r0.2.1), (4, .int i), (3, .ref 270), (2, .ref 236), (1, .ref 64), (0, .ref 0)], [.int r1.2], (q_kL (q_pt 34 0 172 0 (q_pt 172 1 0 206 S r0.1) r1.1) (c + r0.2.2) (n + 6 * r0.2.2))) _
  refine q_Ru_seg (g2 := (23, [(4, .int (i + 4)), (6, .int r1.2), (5, .int r0.2.1), (3, .ref 270), (2, .ref 236), (1, .ref 64), (0, .ref 0)], [], (q_kL (q_pt 34 0 172 0 (q_pt 172 1 0 206 S r0.1) r1.1) (c + r0.2.2) (n + 6 * r0.2.2)))) 4 (fun _ _ => rfl) ?_
  exact q_Ru_xt (q_xt_mk (q_mn1 0 rfl (q_mn1 3 rfl (q_mn1 4 rfl (q_mn1 5 rfl (q_mn1 6 rfl q_mn0))))) rfl) h
set_option maxHeartbeats 4000000 in
theorem q_lw4 (z L : Nat) (xs : Nat → Int32) (S : q_S) (c n : Nat) (i : Int32) (hx0 : q_in i L = true) (hx1 : q_in (i + 1) L = true) (hx2 : q_in (i + 2) L = true) (hx3 : q_in (i + 3) L = true) (hi : decide (Int32.ofNat L - 4 < i) = false) (hv : xs i.toNatClampNeg &&& 63 = 4) (r0 : q_S × Int32 × Nat) (er0 : dz_X4_64_236 (q_vw 172 0 206 S) (xs ((i + 1).toNatClampNeg)) = r0) (r1 : q_S × Int32) (er1 : dz_M219_64 (q_vw 34 172 0 (q_pt 172 1 0 206 S r0.1)) (xs ((i + 1).toNatClampNeg)) = some r1) {o : q_Out} (h : q_Ru (q_TBs z L xs) 20 375 (23, [(4, .int (i + 4)), (3, .ref 270), (2, .ref 236), (1, .ref 64), (0, .ref 0)], [], (q_kL (q_pt 34 0 172 0 (q_pt 172 1 0 206 S r0.1) r1.1) (c + r0.2.2) (n + 6 * r0.2.2))) o) : q_Ru (q_TBs z L xs) 20 375 (23, [(4, .int i), (3, .ref 270), (2, .ref 236), (1, .ref 64), (0, .ref 0)], [], (q_kL S c n)) o := by
  refine q_Ru_seg (g2 := (29, [(4, .int i), (3, .ref 270), (2, .ref 236), (1, .ref 64), (0, .ref 0)], [.int ((Int32.ofNat L) - 4), .int i], (q_kL S c n))) 5 (fun _ _ => rfl) ?_
  refine q_Ru_rsF (g2 := (32, [(4, .int i), (3, .ref 270), (2, .ref 236), (1, .ref 64), (0, .ref 0)], [], (q_kL S c n))) rfl rfl hi ?_
  refine q_Ru_seg (g2 := (35, [(4, .int i), (3, .ref 270), (2, .ref 236), (1, .ref 64), (0, .ref 0)], [.int i, .ref 0], (q_kL S c n))) 2 (fun _ _ => rfl) ?_
  refine q_Ru_rsT (g2 := (36, [(4, .int i), (3, .ref 270), (2, .ref 236), (1, .ref 64), (0, .ref 0)], [.int (xs (i.toNatClampNeg))], (q_kL S c n))) rfl rfl hx0 ?_
  refine q_Ru_seg (g2 := (39, [(4, .int i), (3, .ref 270), (2, .ref 236), (1, .ref 64), (0, .ref 0)], [.int ((xs (i.toNatClampNeg)) &&& 63)], (q_kL S c n))) 2 (fun _ _ => rfl) ?_
  rw [hv]
  refine q_Ru_seg (g2 := (386, [(4, .int i), (3, .ref 270), (2, .ref 236), (1, .ref 64), (0, .ref 0)], [.int (i + 1), .ref 0, .ref 64], (q_kL S c n))) 6 (fun _ _ => rfl) ?_
  refine q_Ru_rsT (g2 := (387, [(4, .int i), (3, .ref 270), (2, .ref 236), (1, .ref 64), (0, .ref 0)], [.int (xs ((i + 1).toNatClampNeg)), .ref 64], (q_kL S c n))) rfl rfl hx1 ?_
  refine q_Ru_seg (g2 := (388, [(4, .int i), (3, .ref 270), (2, .ref 236), (1, .ref 64), (0, .ref 0)], [.ref 270, .int (xs ((i + 1).toNatClampNeg)), .ref 64], (q_kL S c n))) 1 (fun _ _ => rfl) ?_
  refine q_Ru_call (v := (some (.int r0.2.1))) (h2 := (q_kL (q_pt 172 1 0 206 S r0.1) (c + r0.2.2) (n + 6 * r0.2.2))) rfl rfl ?_ ?_
  · exact (q_emXL rfl (fun _ => rfl) (q_cE (φ := (q_oEX c n)) er0 (dzt_X4_64_236 z L xs (q_vw 172 0 206 S) c n (xs ((i + 1).toNatClampNeg))))).le (Nat.le_of_ble_eq_true rfl)
  show q_Ru _ _ _ (391, [(4, .int i), (3, .ref 270), (2, .ref 236), (1, .ref 64), (0, .ref 0)], [.int r0.2.1], (q_kL (q_pt 172 1 0 206 S r0.1) (c + r0.2.2) (n + 6 * r0.2.2))) _
  refine q_Ru_seg (g2 := (399, [(5, .int r0.2.1), (4, .int i), (3, .ref 270), (2, .ref 236), (1, .ref 64), (0, .ref 0)], [.int (i + 1), .ref 0, .ref 236], (q_kL (q_pt 172 1 0 206 S r0.1) (c + r0.2.2) (n + 6 * r0.2.2)))) 6 (fun _ _ => rfl) ?_
  refine q_Ru_rsT (g2 := (400, [(5, .int r0.2.1), (4, .int i), (3, .ref 270), (2, .ref 236), (1, .ref 64), (0, .ref 0)], [.int (xs ((i + 1).toNatClampNeg)), .ref 236], (q_kL (q_pt 172 1 0 206 S r0.1) (c + r0.2.2) (n + 6 * r0.2.2)))) rfl rfl hx1 ?_
  refine q_Ru_call (v := (some (.int r1.2))) (h2 := (q_kL (q_pt 34 0 172 0 (q_pt 172 1 0 206 S r0.1) r1.1) (c + r0.2.2) (n + 6 * r0.2.2))) rfl rfl ?_ ?_
  · exact (q_emML rfl (fun _ => rfl) ((dzt_M219_64 (q_vw 34 172 0 (q_pt 172 1 0 206 S r0.1)) (c + r0.2.2) (n + 6 * r0.2.2) (xs ((i + 1).toNatClampNeg)) r1 er1).tb q_TB0_le)).le (Nat.le_of_ble_eq_true rfl)
  show q_Ru _ _ _ (403, [(5, .int r0.2.1), (4, .int i), (3, .ref 270), (2, .ref 236), (1, .ref 64), (0, .ref 0)], [.int r1.2], (q_kL (q_pt 34 0 172 0 (q_pt 172 1 0 206 S r0.1) r1.1) (c + r0.2.2) (n + 6 * r0.2.2))) _
  refine q_Ru_seg (g2 := (23, [(4, .int (i + 4)), (6, .int r1.2), (5, .int r0.2.1), (3, .ref 270), (2, .ref 236), (1, .ref 64), (0, .ref 0)], [], (q_kL (q_pt 34 0 172 0 (q_pt 172 1 0 206 S r0.1) r1.1) (c + r0.2.2) (n + 6 * r0.2.2)))) 4 (fun _ _ => rfl) ?_
  exact q_Ru_xt (q_xt_mk (q_mn1 0 rfl (q_mn1 3 rfl (q_mn1 4 rfl (q_mn1 5 rfl (q_mn1 6 rfl q_mn0))))) rfl) h
set_option maxHeartbeats 4000000 in
theorem q_lw5 (z L : Nat) (xs : Nat → Int32) (S : q_S) (c n : Nat) (i : Int32) (hx0 : q_in i L = true) (hx1 : q_in (i + 1) L = true) (hx2 : q_in (i + 2) L = true) (hx3 : q_in (i + 3) L = true) (hi : decide (Int32.ofNat L - 4 < i) = false) (hv : xs i.toNatClampNeg &&& 63 = 5) (r0 : q_S × Int32 × Nat) (er0 : dz_X5_64_236 (q_vw 172 0 206 S) (xs ((i + 1).toNatClampNeg)) (xs ((i + 2).toNatClampNeg)) (xs ((i + 3).toNatClampNeg)) = some r0) (r1 : q_S × Int32) (er1 : dz_M278_64 (q_vw 34 172 0 (q_pt 172 1 0 206 S r0.1)) (xs ((i + 1).toNatClampNeg)) (xs ((i + 2).toNatClampNeg)) (xs ((i + 3).toNatClampNeg)) = some r1) {o : q_Out} (h : q_Ru (q_TBs z L xs) 20 375 (23, [(4, .int (i + 4)), (3, .ref 270), (2, .ref 236), (1, .ref 64), (0, .ref 0)], [], (q_kL (q_pt 34 0 172 0 (q_pt 172 1 0 206 S r0.1) r1.1) (c + r0.2.2) (n + 6 * r0.2.2))) o) : q_Ru (q_TBs z L xs) 20 375 (23, [(4, .int i), (3, .ref 270), (2, .ref 236), (1, .ref 64), (0, .ref 0)], [], (q_kL S c n)) o := by
  refine q_Ru_seg (g2 := (29, [(4, .int i), (3, .ref 270), (2, .ref 236), (1, .ref 64), (0, .ref 0)], [.int ((Int32.ofNat L) - 4), .int i], (q_kL S c n))) 5 (fun _ _ => rfl) ?_
  refine q_Ru_rsF (g2 := (32, [(4, .int i), (3, .ref 270), (2, .ref 236), (1, .ref 64), (0, .ref 0)], [], (q_kL S c n))) rfl rfl hi ?_
  refine q_Ru_seg (g2 := (35, [(4, .int i), (3, .ref 270), (2, .ref 236), (1, .ref 64), (0, .ref 0)], [.int i, .ref 0], (q_kL S c n))) 2 (fun _ _ => rfl) ?_
  refine q_Ru_rsT (g2 := (36, [(4, .int i), (3, .ref 270), (2, .ref 236), (1, .ref 64), (0, .ref 0)], [.int (xs (i.toNatClampNeg))], (q_kL S c n))) rfl rfl hx0 ?_
  refine q_Ru_seg (g2 := (39, [(4, .int i), (3, .ref 270), (2, .ref 236), (1, .ref 64), (0, .ref 0)], [.int ((xs (i.toNatClampNeg)) &&& 63)], (q_kL S c n))) 2 (fun _ _ => rfl) ?_
  rw [hv]
  refine q_Ru_seg (g2 := (414, [(4, .int i), (3, .ref 270), (2, .ref 236), (1, .ref 64), (0, .ref 0)], [.int (i + 1), .ref 0, .ref 64], (q_kL S c n))) 6 (fun _ _ => rfl) ?_
  refine q_Ru_rsT (g2 := (415, [(4, .int i), (3, .ref 270), (2, .ref 236), (1, .ref 64), (0, .ref 0)], [.int (xs ((i + 1).toNatClampNeg)), .ref 64], (q_kL S c n))) rfl rfl hx1 ?_
  refine q_Ru_seg (g2 := (420, [(4, .int i), (3, .ref 270), (2, .ref 236), (1, .ref 64), (0, .ref 0)], [.int (i + 2), .ref 0, .int (xs ((i + 1).toNatClampNeg)), .ref 64], (q_kL S c n))) 4 (fun _ _ => rfl) ?_
  refine q_Ru_rsT (g2 := (421, [(4, .int i), (3, .ref 270), (2, .ref 236), (1, .ref 64), (0, .ref 0)], [.int (xs ((i + 2).toNatClampNeg)), .int (xs ((i + 1).toNatClampNeg)), .ref 64], (q_kL S c n))) rfl rfl hx2 ?_
  refine q_Ru_seg (g2 := (426, [(4, .int i), (3, .ref 270), (2, .ref 236), (1, .ref 64), (0, .ref 0)], [.int (i + 3), .ref 0, .int (xs ((i + 2).toNatClampNeg)), .int (xs ((i + 1).toNatClampNeg)), .ref 64], (q_kL S c n))) 4 (fun _ _ => rfl) ?_
  refine q_Ru_rsT (g2 := (427, [(4, .int i), (3, .ref 270), (2, .ref 236), (1, .ref 64), (0, .ref 0)], [.int (xs ((i + 3).toNatClampNeg)), .int (xs ((i + 2).toNatClampNeg)), .int (xs ((i + 1).toNatClampNeg)), .ref 64], (q_kL S c n))) rfl rfl hx3 ?_
  refine q_Ru_seg (g2 := (428, [(4, .int i), (3, .ref 270), (2, .ref 236), (1, .ref 64), (0, .ref 0)], [.ref 270, .int (xs ((i + 3).toNatClampNeg)), .int (xs ((i + 2).toNatClampNeg)), .int (xs ((i + 1).toNatClampNeg)), .ref 64], (q_kL S c n))) 1 (fun _ _ => rfl) ?_
  refine q_Ru_call (v := (some (.int r0.2.1))) (h2 := (q_kL (q_pt 172 1 0 206 S r0.1) (c + r0.2.2) (n + 6 * r0.2.2))) rfl rfl ?_ ?_
  · exact (q_emXL rfl (fun _ => rfl) (dzt_X5_64_236 z L xs (q_vw 172 0 206 S) c n (xs ((i + 1).toNatClampNeg)) (xs ((i + 2).toNatClampNeg)) (xs ((i + 3).toNatClampNeg)) r0 er0)).le (Nat.le_of_ble_eq_true rfl)
  show q_Ru _ _ _ (431, [(4, .int i), (3, .ref 270), (2, .ref 236), (1, .ref 64), (0, .ref 0)], [.int r0.2.1], (q_kL (q_pt 172 1 0 206 S r0.1) (c + r0.2.2) (n + 6 * r0.2.2))) _
  refine q_Ru_seg (g2 := (439, [(5, .int r0.2.1), (4, .int i), (3, .ref 270), (2, .ref 236), (1, .ref 64), (0, .ref 0)], [.int (i + 1), .ref 0, .ref 236], (q_kL (q_pt 172 1 0 206 S r0.1) (c + r0.2.2) (n + 6 * r0.2.2)))) 6 (fun _ _ => rfl) ?_
  refine q_Ru_rsT (g2 := (440, [(5, .int r0.2.1), (4, .int i), (3, .ref 270), (2, .ref 236), (1, .ref 64), (0, .ref 0)], [.int (xs ((i + 1).toNatClampNeg)), .ref 236], (q_kL (q_pt 172 1 0 206 S r0.1) (c + r0.2.2) (n + 6 * r0.2.2)))) rfl rfl hx1 ?_
  refine q_Ru_seg (g2 := (445, [(5, .int r0.2.1), (4, .int i), (3, .ref 270), (2, .ref 236), (1, .ref 64), (0, .ref 0)], [.int (i + 2), .ref 0, .int (xs ((i + 1).toNatClampNeg)), .ref 236], (q_kL (q_pt 172 1 0 206 S r0.1) (c + r0.2.2) (n + 6 * r0.2.2)))) 4 (fun _ _ => rfl) ?_
  refine q_Ru_rsT (g2 := (446, [(5, .int r0.2.1), (4, .int i), (3, .ref 270), (2, .ref 236), (1, .ref 64), (0, .ref 0)], [.int (xs ((i + 2).toNatClampNeg)), .int (xs ((i + 1).toNatClampNeg)), .ref 236], (q_kL (q_pt 172 1 0 206 S r0.1) (c + r0.2.2) (n + 6 * r0.2.2)))) rfl rfl hx2 ?_
  refine q_Ru_seg (g2 := (451, [(5, .int r0.2.1), (4, .int i), (3, .ref 270), (2, .ref 236), (1, .ref 64), (0, .ref 0)], [.int (i + 3), .ref 0, .int (xs ((i + 2).toNatClampNeg)), .int (xs ((i + 1).toNatClampNeg)), .ref 236], (q_kL (q_pt 172 1 0 206 S r0.1) (c + r0.2.2) (n + 6 * r0.2.2)))) 4 (fun _ _ => rfl) ?_
  refine q_Ru_rsT (g2 := (452, [(5, .int r0.2.1), (4, .int i), (3, .ref 270), (2, .ref 236), (1, .ref 64), (0, .ref 0)], [.int (xs ((i + 3).toNatClampNeg)), .int (xs ((i + 2).toNatClampNeg)), .int (xs ((i + 1).toNatClampNeg)), .ref 236], (q_kL (q_pt 172 1 0 206 S r0.1) (c + r0.2.2) (n + 6 * r0.2.2)))) rfl rfl hx3 ?_
  refine q_Ru_call (v := (some (.int r1.2))) (h2 := (q_kL (q_pt 34 0 172 0 (q_pt 172 1 0 206 S r0.1) r1.1) (c + r0.2.2) (n + 6 * r0.2.2))) rfl rfl ?_ ?_
  · exact (q_emML rfl (fun _ => rfl) ((dzt_M278_64 (q_vw 34 172 0 (q_pt 172 1 0 206 S r0.1)) (c + r0.2.2) (n + 6 * r0.2.2) (xs ((i + 1).toNatClampNeg)) (xs ((i + 2).toNatClampNeg)) (xs ((i + 3).toNatClampNeg)) r1 er1).tb q_TB0_le)).le (Nat.le_of_ble_eq_true rfl)
  show q_Ru _ _ _ (455, [(5, .int r0.2.1), (4, .int i), (3, .ref 270), (2, .ref 236), (1, .ref 64), (0, .ref 0)], [.int r1.2], (q_kL (q_pt 34 0 172 0 (q_pt 172 1 0 206 S r0.1) r1.1) (c + r0.2.2) (n + 6 * r0.2.2))) _
  refine q_Ru_seg (g2 := (23, [(4, .int (i + 4)), (6, .int r1.2), (5, .int r0.2.1), (3, .ref 270), (2, .ref 236), (1, .ref 64), (0, .ref 0)], [], (q_kL (q_pt 34 0 172 0 (q_pt 172 1 0 206 S r0.1) r1.1) (c + r0.2.2) (n + 6 * r0.2.2)))) 4 (fun _ _ => rfl) ?_
  exact q_Ru_xt (q_xt_mk (q_mn1 0 rfl (q_mn1 3 rfl (q_mn1 4 rfl (q_mn1 5 rfl (q_mn1 6 rfl q_mn0))))) rfl) h
set_option maxHeartbeats 4000000 in
theorem q_lw6 (z L : Nat) (xs : Nat → Int32) (S : q_S) (c n : Nat) (i : Int32) (hx0 : q_in i L = true) (hx1 : q_in (i + 1) L = true) (hx2 : q_in (i + 2) L = true) (hx3 : q_in (i + 3) L = true) (hi : decide (Int32.ofNat L - 4 < i) = false) (hv : xs i.toNatClampNeg &&& 63 = 6) (r0 : q_S × Int32 × Nat) (er0 : dz_X6_64_236 (q_vw 172 0 206 S) (xs ((i + 1).toNatClampNeg)) = some r0) (r1 : q_S × Int32) (er1 : dz_M285_64 (q_vw 34 172 0 (q_pt 172 1 0 206 S r0.1)) (xs ((i + 1).toNatClampNeg)) = some r1) {o : q_Out} (h : q_Ru (q_TBs z L xs) 20 375 (23, [(4, .int (i + 4)), (3, .ref 270), (2, .ref 236), (1, .ref 64), (0, .ref 0)], [], (q_kL (q_pt 34 0 172 0 (q_pt 172 1 0 206 S r0.1) r1.1) (c + r0.2.2) (n + 6 * r0.2.2))) o) : q_Ru (q_TBs z L xs) 20 375 (23, [(4, .int i), (3, .ref 270), (2, .ref 236), (1, .ref 64), (0, .ref 0)], [], (q_kL S c n)) o := by
  refine q_Ru_seg (g2 := (29, [(4, .int i), (3, .ref 270), (2, .ref 236), (1, .ref 64), (0, .ref 0)], [.int ((Int32.ofNat L) - 4), .int i], (q_kL S c n))) 5 (fun _ _ => rfl) ?_
  refine q_Ru_rsF (g2 := (32, [(4, .int i), (3, .ref 270), (2, .ref 236), (1, .ref 64), (0, .ref 0)], [], (q_kL S c n))) rfl rfl hi ?_
  refine q_Ru_seg (g2 := (35, [(4, .int i), (3, .ref 270), (2, .ref 236), (1, .ref 64), (0, .ref 0)], [.int i, .ref 0], (q_kL S c n))) 2 (fun _ _ => rfl) ?_
  refine q_Ru_rsT (g2 := (36, [(4, .int i), (3, .ref 270), (2, .ref 236), (1, .ref 64), (0, .ref 0)], [.int (xs (i.toNatClampNeg))], (q_kL S c n))) rfl rfl hx0 ?_
  refine q_Ru_seg (g2 := (39, [(4, .int i), (3, .ref 270), (2, .ref 236), (1, .ref 64), (0, .ref 0)], [.int ((xs (i.toNatClampNeg)) &&& 63)], (q_kL S c n))) 2 (fun _ _ => rfl) ?_
  rw [hv]
  refine q_Ru_seg (g2 := (466, [(4, .int i), (3, .ref 270), (2, .ref 236), (1, .ref 64), (0, .ref 0)], [.int (i + 1), .ref 0, .ref 64], (q_kL S c n))) 6 (fun _ _ => rfl) ?_
  refine q_Ru_rsT (g2 := (467, [(4, .int i), (3, .ref 270), (2, .ref 236), (1, .ref 64), (0, .ref 0)], [.int (xs ((i + 1).toNatClampNeg)), .ref 64], (q_kL S c n))) rfl rfl hx1 ?_
  refine q_Ru_seg (g2 := (468, [(4, .int i), (3, .ref 270), (2, .ref 236), (1, .ref 64), (0, .ref 0)], [.ref 270, .int (xs ((i + 1).toNatClampNeg)), .ref 64], (q_kL S c n))) 1 (fun _ _ => rfl) ?_
  refine q_Ru_call (v := (some (.int r0.2.1))) (h2 := (q_kL (q_pt 172 1 0 206 S r0.1) (c + r0.2.2) (n + 6 * r0.2.2))) rfl rfl ?_ ?_
  · exact (q_emXL rfl (fun _ => rfl) (dzt_X6_64_236 z L xs (q_vw 172 0 206 S) c n (xs ((i + 1).toNatClampNeg)) r0 er0)).le (Nat.le_of_ble_eq_true rfl)
  show q_Ru _ _ _ (471, [(4, .int i), (3, .ref 270), (2, .ref 236), (1, .ref 64), (0, .ref 0)], [.int r0.2.1], (q_kL (q_pt 172 1 0 206 S r0.1) (c + r0.2.2) (n + 6 * r0.2.2))) _
  refine q_Ru_seg (g2 := (479, [(5, .int r0.2.1), (4, .int i), (3, .ref 270), (2, .ref 236), (1, .ref 64), (0, .ref 0)], [.int (i + 1), .ref 0, .ref 236], (q_kL (q_pt 172 1 0 206 S r0.1) (c + r0.2.2) (n + 6 * r0.2.2)))) 6 (fun _ _ => rfl) ?_
  refine q_Ru_rsT (g2 := (480, [(5, .int r0.2.1), (4, .int i), (3, .ref 270), (2, .ref 236), (1, .ref 64), (0, .ref 0)], [.int (xs ((i + 1).toNatClampNeg)), .ref 236], (q_kL (q_pt 172 1 0 206 S r0.1) (c + r0.2.2) (n + 6 * r0.2.2)))) rfl rfl hx1 ?_
  refine q_Ru_call (v := (some (.int r1.2))) (h2 := (q_kL (q_pt 34 0 172 0 (q_pt 172 1 0 206 S r0.1) r1.1) (c + r0.2.2) (n + 6 * r0.2.2))) rfl rfl ?_ ?_
  · exact (q_emML rfl (fun _ => rfl) ((dzt_M285_64 (q_vw 34 172 0 (q_pt 172 1 0 206 S r0.1)) (c + r0.2.2) (n + 6 * r0.2.2) (xs ((i + 1).toNatClampNeg)) r1 er1).tb q_TB0_le)).le (Nat.le_of_ble_eq_true rfl)
  show q_Ru _ _ _ (483, [(5, .int r0.2.1), (4, .int i), (3, .ref 270), (2, .ref 236), (1, .ref 64), (0, .ref 0)], [.int r1.2], (q_kL (q_pt 34 0 172 0 (q_pt 172 1 0 206 S r0.1) r1.1) (c + r0.2.2) (n + 6 * r0.2.2))) _
  refine q_Ru_seg (g2 := (23, [(4, .int (i + 4)), (6, .int r1.2), (5, .int r0.2.1), (3, .ref 270), (2, .ref 236), (1, .ref 64), (0, .ref 0)], [], (q_kL (q_pt 34 0 172 0 (q_pt 172 1 0 206 S r0.1) r1.1) (c + r0.2.2) (n + 6 * r0.2.2)))) 4 (fun _ _ => rfl) ?_
  exact q_Ru_xt (q_xt_mk (q_mn1 0 rfl (q_mn1 3 rfl (q_mn1 4 rfl (q_mn1 5 rfl (q_mn1 6 rfl q_mn0))))) rfl) h
set_option maxHeartbeats 4000000 in
theorem q_lw7 (z L : Nat) (xs : Nat → Int32) (S : q_S) (c n : Nat) (i : Int32) (hx0 : q_in i L = true) (hx1 : q_in (i + 1) L = true) (hx2 : q_in (i + 2) L = true) (hx3 : q_in (i + 3) L = true) (hi : decide (Int32.ofNat L - 4 < i) = false) (hv : xs i.toNatClampNeg &&& 63 = 7) (r0 : q_S × Int32 × Nat) (er0 : dz_X7_64_236 (q_vw 172 0 206 S) (xs ((i + 1).toNatClampNeg)) = some r0) (r1 : q_S × Int32) (er1 : dz_M286_64 (q_vw 34 172 0 (q_pt 172 1 0 206 S r0.1)) (xs ((i + 1).toNatClampNeg)) = some r1) {o : q_Out} (h : q_Ru (q_TBs z L xs) 20 375 (23, [(4, .int (i + 4)), (3, .ref 270), (2, .ref 236), (1, .ref 64), (0, .ref 0)], [], (q_kL (q_pt 34 0 172 0 (q_pt 172 1 0 206 S r0.1) r1.1) (c + r0.2.2) (n + 6 * r0.2.2))) o) : q_Ru (q_TBs z L xs) 20 375 (23, [(4, .int i), (3, .ref 270), (2, .ref 236), (1, .ref 64), (0, .ref 0)], [], (q_kL S c n)) o := by
  refine q_Ru_seg (g2 := (29, [(4, .int i), (3, .ref 270), (2, .ref 236), (1, .ref 64), (0, .ref 0)], [.int ((Int32.ofNat L) - 4), .int i], (q_kL S c n))) 5 (fun _ _ => rfl) ?_
  refine q_Ru_rsF (g2 := (32, [(4, .int i), (3, .ref 270), (2, .ref 236), (1, .ref 64), (0, .ref 0)], [], (q_kL S c n))) rfl rfl hi ?_
  refine q_Ru_seg (g2 := (35, [(4, .int i), (3, .ref 270), (2, .ref 236), (1, .ref 64), (0, .ref 0)], [.int i, .ref 0], (q_kL S c n))) 2 (fun _ _ => rfl) ?_
  refine q_Ru_rsT (g2 := (36, [(4, .int i), (3, .ref 270), (2, .ref 236), (1, .ref 64), (0, .ref 0)], [.int (xs (i.toNatClampNeg))], (q_kL S c n))) rfl rfl hx0 ?_
  refine q_Ru_seg (g2 := (39, [(4, .int i), (3, .ref 270), (2, .ref 236), (1, .ref 64), (0, .ref 0)], [.int ((xs (i.toNatClampNeg)) &&& 63)], (q_kL S c n))) 2 (fun _ _ => rfl) ?_
  rw [hv]
  refine q_Ru_seg (g2 := (494, [(4, .int i), (3, .ref 270), (2, .ref 236), (1, .ref 64), (0, .ref 0)], [.int (i + 1), .ref 0, .ref 64], (q_kL S c n))) 6 (fun _ _ => rfl) ?_
  refine q_Ru_rsT (g2 := (495, [(4, .int i), (3, .ref 270), (2, .ref 236), (1, .ref 64), (0, .ref 0)], [.int (xs ((i + 1).toNatClampNeg)), .ref 64], (q_kL S c n))) rfl rfl hx1 ?_
  refine q_Ru_seg (g2 := (496, [(4, .int i), (3, .ref 270), (2, .ref 236), (1, .ref 64), (0, .ref 0)], [.ref 270, .int (xs ((i + 1).toNatClampNeg)), .ref 64], (q_kL S c n))) 1 (fun _ _ => rfl) ?_
  refine q_Ru_call (v := (some (.int r0.2.1))) (h2 := (q_kL (q_pt 172 1 0 206 S r0.1) (c + r0.2.2) (n + 6 * r0.2.2))) rfl rfl ?_ ?_
  · exact (q_emXL rfl (fun _ => rfl) (dzt_X7_64_236 z L xs (q_vw 172 0 206 S) c n (xs ((i + 1).toNatClampNeg)) r0 er0)).le (Nat.le_of_ble_eq_true rfl)
  show q_Ru _ _ _ (499, [(4, .int i), (3, .ref 270), (2, .ref 236), (1, .ref 64), (0, .ref 0)], [.int r0.2.1], (q_kL (q_pt 172 1 0 206 S r0.1) (c + r0.2.2) (n + 6 * r0.2.2))) _
  refine q_Ru_seg (g2 := (507, [(5, .int r0.2.1), (4, .int i), (3, .ref 270), (2, .ref 236), (1, .ref 64), (0, .ref 0)], [.int (i + 1), .ref 0, .ref 236], (q_kL (q_pt 172 1 0 206 S r0.1) (c + r0.2.2) (n + 6 * r0.2.2)))) 6 (fun _ _ => rfl) ?_
  refine q_Ru_rsT (g2 := (508, [(5, .int r0.2.1), (4, .int i), (3, .ref 270), (2, .ref 236), (1, .ref 64), (0, .ref 0)], [.int (xs ((i + 1).toNatClampNeg)), .ref 236], (q_kL (q_pt 172 1 0 206 S r0.1) (c + r0.2.2) (n + 6 * r0.2.2)))) rfl rfl hx1 ?_
  refine q_Ru_call (v := (some (.int r1.2))) (h2 := (q_kL (q_pt 34 0 172 0 (q_pt 172 1 0 206 S r0.1) r1.1) (c + r0.2.2) (n + 6 * r0.2.2))) rfl rfl ?_ ?_
  · exact (q_emML rfl (fun _ => rfl) ((dzt_M286_64 (q_vw 34 172 0 (q_pt 172 1 0 206 S r0.1)) (c + r0.2.2) (n + 6 * r0.2.2) (xs ((i + 1).toNatClampNeg)) r1 er1).tb q_TB0_le)).le (Nat.le_of_ble_eq_true rfl)
  show q_Ru _ _ _ (511, [(5, .int r0.2.1), (4, .int i), (3, .ref 270), (2, .ref 236), (1, .ref 64), (0, .ref 0)], [.int r1.2], (q_kL (q_pt 34 0 172 0 (q_pt 172 1 0 206 S r0.1) r1.1) (c + r0.2.2) (n + 6 * r0.2.2))) _
  refine q_Ru_seg (g2 := (23, [(4, .int (i + 4)), (6, .int r1.2), (5, .int r0.2.1), (3, .ref 270), (2, .ref 236), (1, .ref 64), (0, .ref 0)], [], (q_kL (q_pt 34 0 172 0 (q_pt 172 1 0 206 S r0.1) r1.1) (c + r0.2.2) (n + 6 * r0.2.2)))) 4 (fun _ _ => rfl) ?_
  exact q_Ru_xt (q_xt_mk (q_mn1 0 rfl (q_mn1 3 rfl (q_mn1 4 rfl (q_mn1 5 rfl (q_mn1 6 rfl q_mn0))))) rfl) h
set_option maxHeartbeats 4000000 in
theorem q_lw8 (z L : Nat) (xs : Nat → Int32) (S : q_S) (c n : Nat) (i : Int32) (hx0 : q_in i L = true) (hx1 : q_in (i + 1) L = true) (hx2 : q_in (i + 2) L = true) (hx3 : q_in (i + 3) L = true) (hi : decide (Int32.ofNat L - 4 < i) = false) (hv : xs i.toNatClampNeg &&& 63 = 8) (r0 : q_S × Int32 × Nat) (er0 : dz_X8_64_236 (q_vw 172 0 206 S) (xs ((i + 1).toNatClampNeg)) (xs ((i + 2).toNatClampNeg)) (xs ((i + 3).toNatClampNeg)) = some r0) (r1 : q_S × Int32) (er1 : dz_M220_64 (q_vw 34 172 0 (q_pt 172 1 0 206 S r0.1)) (xs ((i + 1).toNatClampNeg)) (xs ((i + 2).toNatClampNeg)) (xs ((i + 3).toNatClampNeg)) = some r1) {o : q_Out} (h : q_Ru (q_TBs z L xs) 20 375 (23, [(4, .int (i + 4)), (3, .ref 270), (2, .ref 236), (1, .ref 64), (0, .ref 0)], [], (q_kL (q_pt 34 0 172 0 (q_pt 172 1 0 206 S r0.1) r1.1) (c + r0.2.2) (n + 6 * r0.2.2))) o) : q_Ru (q_TBs z L xs) 20 375 (23, [(4, .int i), (3, .ref 270), (2, .ref 236), (1, .ref 64), (0, .ref 0)], [], (q_kL S c n)) o := by
  refine q_Ru_seg (g2 := (29, [(4, .int i), (3, .ref 270), (2, .ref 236), (1, .ref 64), (0, .ref 0)], [.int ((Int32.ofNat L) - 4), .int i], (q_kL S c n))) 5 (fun _ _ => rfl) ?_
  refine q_Ru_rsF (g2 := (32, [(4, .int i), (3, .ref 270), (2, .ref 236), (1, .ref 64), (0, .ref 0)], [], (q_kL S c n))) rfl rfl hi ?_
  refine q_Ru_seg (g2 := (35, [(4, .int i), (3, .ref 270), (2, .ref 236), (1, .ref 64), (0, .ref 0)], [.int i, .ref 0], (q_kL S c n))) 2 (fun _ _ => rfl) ?_
  refine q_Ru_rsT (g2 := (36, [(4, .int i), (3, .ref 270), (2, .ref 236), (1, .ref 64), (0, .ref 0)], [.int (xs (i.toNatClampNeg))], (q_kL S c n))) rfl rfl hx0 ?_
  refine q_Ru_seg (g2 := (39, [(4, .int i), (3, .ref 270), (2, .ref 236), (1, .ref 64), (0, .ref 0)], [.int ((xs (i.toNatClampNeg)) &&& 63)], (q_kL S c n))) 2 (fun _ _ => rfl) ?_
  rw [hv]
  refine q_Ru_seg (g2 := (522, [(4, .int i), (3, .ref 270), (2, .ref 236), (1, .ref 64), (0, .ref 0)], [.int (i + 1), .ref 0, .ref 64], (q_kL S c n))) 6 (fun _ _ => rfl) ?_
  refine q_Ru_rsT (g2 := (523, [(4, .int i), (3, .ref 270), (2, .ref 236), (1, .ref 64), (0, .ref 0)], [.int (xs ((i + 1).toNatClampNeg)), .ref 64], (q_kL S c n))) rfl rfl hx1 ?_
  refine q_Ru_seg (g2 := (528, [(4, .int i), (3, .ref 270), (2, .ref 236), (1, .ref 64), (0, .ref 0)], [.int (i + 2), .ref 0, .int (xs ((i + 1).toNatClampNeg)), .ref 64], (q_kL S c n))) 4 (fun _ _ => rfl) ?_
  refine q_Ru_rsT (g2 := (529, [(4, .int i), (3, .ref 270), (2, .ref 236), (1, .ref 64), (0, .ref 0)], [.int (xs ((i + 2).toNatClampNeg)), .int (xs ((i + 1).toNatClampNeg)), .ref 64], (q_kL S c n))) rfl rfl hx2 ?_
  refine q_Ru_seg (g2 := (534, [(4, .int i), (3, .ref 270), (2, .ref 236), (1, .ref 64), (0, .ref 0)], [.int (i + 3), .ref 0, .int (xs ((i + 2).toNatClampNeg)), .int (xs ((i + 1).toNatClampNeg)), .ref 64], (q_kL S c n))) 4 (fun _ _ => rfl) ?_
  refine q_Ru_rsT (g2 := (535, [(4, .int i), (3, .ref 270), (2, .ref 236), (1, .ref 64), (0, .ref 0)], [.int (xs ((i + 3).toNatClampNeg)), .int (xs ((i + 2).toNatClampNeg)), .int (xs ((i + 1).toNatClampNeg)), .ref 64], (q_kL S c n))) rfl rfl hx3 ?_
  refine q_Ru_seg (g2 := (536, [(4, .int i), (3, .ref 270), (2, .ref 236), (1, .ref 64), (0, .ref 0)], [.ref 270, .int (xs ((i + 3).toNatClampNeg)), .int (xs ((i + 2).toNatClampNeg)), .int (xs ((i + 1).toNatClampNeg)), .ref 64], (q_kL S c n))) 1 (fun _ _ => rfl) ?_
  refine q_Ru_call (v := (some (.int r0.2.1))) (h2 := (q_kL (q_pt 172 1 0 206 S r0.1) (c + r0.2.2) (n + 6 * r0.2.2))) rfl rfl ?_ ?_
  · exact (q_emXL rfl (fun _ => rfl) (dzt_X8_64_236 z L xs (q_vw 172 0 206 S) c n (xs ((i + 1).toNatClampNeg)) (xs ((i + 2).toNatClampNeg)) (xs ((i + 3).toNatClampNeg)) r0 er0)).le (Nat.le_of_ble_eq_true rfl)
  show q_Ru _ _ _ (539, [(4, .int i), (3, .ref 270), (2, .ref 236), (1, .ref 64), (0, .ref 0)], [.int r0.2.1], (q_kL (q_pt 172 1 0 206 S r0.1) (c + r0.2.2) (n + 6 * r0.2.2))) _
  refine q_Ru_seg (g2 := (547, [(5, .int r0.2.1), (4, .int i), (3, .ref 270), (2, .ref 236), (1, .ref 64), (0, .ref 0)], [.int (i + 1), .ref 0, .ref 236], (q_kL (q_pt 172 1 0 206 S r0.1) (c + r0.2.2) (n + 6 * r0.2.2)))) 6 (fun _ _ => rfl) ?_
  refine q_Ru_rsT (g2 := (548, [(5, .int r0.2.1), (4, .int i), (3, .ref 270), (2, .ref 236), (1, .ref 64), (0, .ref 0)], [.int (xs ((i + 1).toNatClampNeg)), .ref 236], (q_kL (q_pt 172 1 0 206 S r0.1) (c + r0.2.2) (n + 6 * r0.2.2)))) rfl rfl hx1 ?_
  refine q_Ru_seg (g2 := (553, [(5, .int r0.2.1), (4, .int i), (3, .ref 270), (2, .ref 236), (1, .ref 64), (0, .ref 0)], [.int (i + 2), .ref 0, .int (xs ((i + 1).toNatClampNeg)), .ref 236], (q_kL (q_pt 172 1 0 206 S r0.1) (c + r0.2.2) (n + 6 * r0.2.2)))) 4 (fun _ _ => rfl) ?_
  refine q_Ru_rsT (g2 := (554, [(5, .int r0.2.1), (4, .int i), (3, .ref 270), (2, .ref 236), (1, .ref 64), (0, .ref 0)], [.int (xs ((i + 2).toNatClampNeg)), .int (xs ((i + 1).toNatClampNeg)), .ref 236], (q_kL (q_pt 172 1 0 206 S r0.1) (c + r0.2.2) (n + 6 * r0.2.2)))) rfl rfl hx2 ?_
  refine q_Ru_seg (g2 := (559, [(5, .int r0.2.1), (4, .int i), (3, .ref 270), (2, .ref 236), (1, .ref 64), (0, .ref 0)], [.int (i + 3), .ref 0, .int (xs ((i + 2).toNatClampNeg)), .int (xs ((i + 1).toNatClampNeg)), .ref 236], (q_kL (q_pt 172 1 0 206 S r0.1) (c + r0.2.2) (n + 6 * r0.2.2)))) 4 (fun _ _ => rfl) ?_
  refine q_Ru_rsT (g2 := (560, [(5, .int r0.2.1), (4, .int i), (3, .ref 270), (2, .ref 236), (1, .ref 64), (0, .ref 0)], [.int (xs ((i + 3).toNatClampNeg)), .int (xs ((i + 2).toNatClampNeg)), .int (xs ((i + 1).toNatClampNeg)), .ref 236], (q_kL (q_pt 172 1 0 206 S r0.1) (c + r0.2.2) (n + 6 * r0.2.2)))) rfl rfl hx3 ?_
  refine q_Ru_call (v := (some (.int r1.2))) (h2 := (q_kL (q_pt 34 0 172 0 (q_pt 172 1 0 206 S r0.1) r1.1) (c + r0.2.2) (n + 6 * r0.2.2))) rfl rfl ?_ ?_
  · exact (q_emML rfl (fun _ => rfl) ((dzt_M220_64 (q_vw 34 172 0 (q_pt 172 1 0 206 S r0.1)) (c + r0.2.2) (n + 6 * r0.2.2) (xs ((i + 1).toNatClampNeg)) (xs ((i + 2).toNatClampNeg)) (xs ((i + 3).toNatClampNeg)) r1 er1).tb q_TB0_le)).le (Nat.le_of_ble_eq_true rfl)
  show q_Ru _ _ _ (563, [(5, .int r0.2.1), (4, .int i), (3, .ref 270), (2, .ref 236), (1, .ref 64), (0, .ref 0)], [.int r1.2], (q_kL (q_pt 34 0 172 0 (q_pt 172 1 0 206 S r0.1) r1.1) (c + r0.2.2) (n + 6 * r0.2.2))) _
  refine q_Ru_seg (g2 := (23, [(4, .int (i + 4)), (6, .int r1.2), (5, .int r0.2.1), (3, .ref 270), (2, .ref 236), (1, .ref 64), (0, .ref 0)], [], (q_kL (q_pt 34 0 172 0 (q_pt 172 1 0 206 S r0.1) r1.1) (c + r0.2.2) (n + 6 * r0.2.2)))) 4 (fun _ _ => rfl) ?_
  exact q_Ru_xt (q_xt_mk (q_mn1 0 rfl (q_mn1 3 rfl (q_mn1 4 rfl (q_mn1 5 rfl (q_mn1 6 rfl q_mn0))))) rfl) h
set_option maxHeartbeats 4000000 in
theorem q_lw9 (z L : Nat) (xs : Nat → Int32) (S : q_S) (c n : Nat) (i : Int32) (hx0 : q_in i L = true) (hx1 : q_in (i + 1) L = true) (hx2 : q_in (i + 2) L = true) (hx3 : q_in (i + 3) L = true) (hi : decide (Int32.ofNat L - 4 < i) = false) (hv : xs i.toNatClampNeg &&& 63 = 9) (r0 : q_S × Int32 × Nat) (er0 : dz_X9_64_236 (q_vw 172 0 206 S) (xs ((i + 1).toNatClampNeg)) = r0) (r1 : q_S × Int32) (er1 : dz_M287_64 (q_vw 34 172 0 (q_pt 172 1 0 206 S r0.1)) (xs ((i + 1).toNatClampNeg)) = some r1) {o : q_Out} (h : q_Ru (q_TBs z L xs) 20 375 (23, [(4, .int (i + 4)), (3, .ref 270), (2, .ref 236), (1, .ref 64), (0, .ref 0)], [], (q_kL (q_pt 34 0 172 0 (q_pt 172 1 0 206 S r0.1) r1.1) (c + r0.2.2) (n + 6 * r0.2.2))) o) : q_Ru (q_TBs z L xs) 20 375 (23, [(4, .int i), (3, .ref 270), (2, .ref 236), (1, .ref 64), (0, .ref 0)], [], (q_kL S c n)) o := by
  refine q_Ru_seg (g2 := (29, [(4, .int i), (3, .ref 270), (2, .ref 236), (1, .ref 64), (0, .ref 0)], [.int ((Int32.ofNat L) - 4), .int i], (q_kL S c n))) 5 (fun _ _ => rfl) ?_
  refine q_Ru_rsF (g2 := (32, [(4, .int i), (3, .ref 270), (2, .ref 236), (1, .ref 64), (0, .ref 0)], [], (q_kL S c n))) rfl rfl hi ?_
  refine q_Ru_seg (g2 := (35, [(4, .int i), (3, .ref 270), (2, .ref 236), (1, .ref 64), (0, .ref 0)], [.int i, .ref 0], (q_kL S c n))) 2 (fun _ _ => rfl) ?_
  refine q_Ru_rsT (g2 := (36, [(4, .int i), (3, .ref 270), (2, .ref 236), (1, .ref 64), (0, .ref 0)], [.int (xs (i.toNatClampNeg))], (q_kL S c n))) rfl rfl hx0 ?_
  refine q_Ru_seg (g2 := (39, [(4, .int i), (3, .ref 270), (2, .ref 236), (1, .ref 64), (0, .ref 0)], [.int ((xs (i.toNatClampNeg)) &&& 63)], (q_kL S c n))) 2 (fun _ _ => rfl) ?_
  rw [hv]
  refine q_Ru_seg (g2 := (574, [(4, .int i), (3, .ref 270), (2, .ref 236), (1, .ref 64), (0, .ref 0)], [.int (i + 1), .ref 0, .ref 64], (q_kL S c n))) 6 (fun _ _ => rfl) ?_
  refine q_Ru_rsT (g2 := (575, [(4, .int i), (3, .ref 270), (2, .ref 236), (1, .ref 64), (0, .ref 0)], [.int (xs ((i + 1).toNatClampNeg)), .ref 64], (q_kL S c n))) rfl rfl hx1 ?_
  refine q_Ru_seg (g2 := (576, [(4, .int i), (3, .ref 270), (2, .ref 236), (1, .ref 64), (0, .ref 0)], [.ref 270, .int (xs ((i + 1).toNatClampNeg)), .ref 64], (q_kL S c n))) 1 (fun _ _ => rfl) ?_
  refine q_Ru_call (v := (some (.int r0.2.1))) (h2 := (q_kL (q_pt 172 1 0 206 S r0.1) (c + r0.2.2) (n + 6 * r0.2.2))) rfl rfl ?_ ?_
  · exact (q_emXL rfl (fun _ => rfl) (q_cE (φ := (q_oEX c n)) er0 (dzt_X9_64_236 z L xs (q_vw 172 0 206 S) c n (xs ((i + 1).toNatClampNeg))))).le (Nat.le_of_ble_eq_true rfl)
  show q_Ru _ _ _ (579, [(4, .int i), (3, .ref 270), (2, .ref 236), (1, .ref 64), (0, .ref 0)], [.int r0.2.1], (q_kL (q_pt 172 1 0 206 S r0.1) (c + r0.2.2) (n + 6 * r0.2.2))) _
  refine q_Ru_seg (g2 := (587, [(5, .int r0.2.1), (4, .int i), (3, .ref 270), (2, .ref 236), (1, .ref 64), (0, .ref 0)], [.int (i + 1), .ref 0, .ref 236], (q_kL (q_pt 172 1 0 206 S r0.1) (c + r0.2.2) (n + 6 * r0.2.2)))) 6 (fun _ _ => rfl) ?_
  refine q_Ru_rsT (g2 := (588, [(5, .int r0.2.1), (4, .int i), (3, .ref 270), (2, .ref 236), (1, .ref 64), (0, .ref 0)], [.int (xs ((i + 1).toNatClampNeg)), .ref 236], (q_kL (q_pt 172 1 0 206 S r0.1) (c + r0.2.2) (n + 6 * r0.2.2)))) rfl rfl hx1 ?_
  refine q_Ru_call (v := (some (.int r1.2))) (h2 := (q_kL (q_pt 34 0 172 0 (q_pt 172 1 0 206 S r0.1) r1.1) (c + r0.2.2) (n + 6 * r0.2.2))) rfl rfl ?_ ?_
  · exact (q_emML rfl (fun _ => rfl) ((dzt_M287_64 (q_vw 34 172 0 (q_pt 172 1 0 206 S r0.1)) (c + r0.2.2) (n + 6 * r0.2.2) (xs ((i + 1).toNatClampNeg)) r1 er1).tb q_TB0_le)).le (Nat.le_of_ble_eq_true rfl)
  show q_Ru _ _ _ (591, [(5, .int r0.2.1), (4, .int i), (3, .ref 270), (2, .ref 236), (1, .ref 64), (0, .ref 0)], [.int r1.2], (q_kL (q_pt 34 0 172 0 (q_pt 172 1 0 206 S r0.1) r1.1) (c + r0.2.2) (n + 6 * r0.2.2))) _
  refine q_Ru_seg (g2 := (23, [(4, .int (i + 4)), (6, .int r1.2), (5, .int r0.2.1), (3, .ref 270), (2, .ref 236), (1, .ref 64), (0, .ref 0)], [], (q_kL (q_pt 34 0 172 0 (q_pt 172 1 0 206 S r0.1) r1.1) (c + r0.2.2) (n + 6 * r0.2.2)))) 4 (fun _ _ => rfl) ?_
  exact q_Ru_xt (q_xt_mk (q_mn1 0 rfl (q_mn1 3 rfl (q_mn1 4 rfl (q_mn1 5 rfl (q_mn1 6 rfl q_mn0))))) rfl) h
set_option maxHeartbeats 4000000 in
theorem q_lw10 (z L : Nat) (xs : Nat → Int32) (S : q_S) (c n : Nat) (i : Int32) (hx0 : q_in i L = true) (hx1 : q_in (i + 1) L = true) (hx2 : q_in (i + 2) L = true) (hx3 : q_in (i + 3) L = true) (hi : decide (Int32.ofNat L - 4 < i) = false) (hv : xs i.toNatClampNeg &&& 63 = 10) (r0 : q_S × Int32 × Nat) (er0 : dz_X10_64_236 (q_vw 172 0 206 S) (xs ((i + 1).toNatClampNeg)) (xs ((i + 2).toNatClampNeg)) = some r0) (r1 : q_S × Int32) (er1 : dz_M288_64 (q_vw 34 172 0 (q_pt 172 1 0 206 S r0.1)) (xs ((i + 1).toNatClampNeg)) (xs ((i + 2).toNatClampNeg)) = some r1) {o : q_Out} (h : q_Ru (q_TBs z L xs) 20 375 (23, [(4, .int (i + 4)), (3, .ref 270), (2, .ref 236), (1, .ref 64), (0, .ref 0)], [], (q_kL (q_pt 34 0 172 0 (q_pt 172 1 0 206 S r0.1) r1.1) (c + r0.2.2) (n + 6 * r0.2.2))) o) : q_Ru (q_TBs z L xs) 20 375 (23, [(4, .int i), (3, .ref 270), (2, .ref 236), (1, .ref 64), (0, .ref 0)], [], (q_kL S c n)) o := by
  refine q_Ru_seg (g2 := (29, [(4, .int i), (3, .ref 270), (2, .ref 236), (1, .ref 64), (0, .ref 0)], [.int ((Int32.ofNat L) - 4), .int i], (q_kL S c n))) 5 (fun _ _ => rfl) ?_
  refine q_Ru_rsF (g2 := (32, [(4, .int i), (3, .ref 270), (2, .ref 236), (1, .ref 64), (0, .ref 0)], [], (q_kL S c n))) rfl rfl hi ?_
  refine q_Ru_seg (g2 := (35, [(4, .int i), (3, .ref 270), (2, .ref 236), (1, .ref 64), (0, .ref 0)], [.int i, .ref 0], (q_kL S c n))) 2 (fun _ _ => rfl) ?_
  refine q_Ru_rsT (g2 := (36, [(4, .int i), (3, .ref 270), (2, .ref 236), (1, .ref 64), (0, .ref 0)], [.int (xs (i.toNatClampNeg))], (q_kL S c n))) rfl rfl hx0 ?_
  refine q_Ru_seg (g2 := (39, [(4, .int i), (3, .ref 270), (2, .ref 236), (1, .ref 64), (0, .ref 0)], [.int ((xs (i.toNatClampNeg)) &&& 63)], (q_kL S c n))) 2 (fun _ _ => rfl) ?_
  rw [hv]
  refine q_Ru_seg (g2 := (602, [(4, .int i), (3, .ref 270), (2, .ref 236), (1, .ref 64), (0, .ref 0)], [.int (i + 1), .ref 0, .ref 64], (q_kL S c n))) 6 (fun _ _ => rfl) ?_
  refine q_Ru_rsT (g2 := (603, [(4, .int i), (3, .ref 270), (2, .ref 236), (1, .ref 64), (0, .ref 0)], [.int (xs ((i + 1).toNatClampNeg)), .ref 64], (q_kL S c n))) rfl rfl hx1 ?_
  refine q_Ru_seg (g2 := (608, [(4, .int i), (3, .ref 270), (2, .ref 236), (1, .ref 64), (0, .ref 0)], [.int (i + 2), .ref 0, .int (xs ((i + 1).toNatClampNeg)), .ref 64], (q_kL S c n))) 4 (fun _ _ => rfl) ?_
  refine q_Ru_rsT (g2 := (609, [(4, .int i), (3, .ref 270), (2, .ref 236), (1, .ref 64), (0, .ref 0)], [.int (xs ((i + 2).toNatClampNeg)), .int (xs ((i + 1).toNatClampNeg)), .ref 64], (q_kL S c n))) rfl rfl hx2 ?_
  refine q_Ru_seg (g2 := (610, [(4, .int i), (3, .ref 270), (2, .ref 236), (1, .ref 64), (0, .ref 0)], [.ref 270, .int (xs ((i + 2).toNatClampNeg)), .int (xs ((i + 1).toNatClampNeg)), .ref 64], (q_kL S c n))) 1 (fun _ _ => rfl) ?_
  refine q_Ru_call (v := (some (.int r0.2.1))) (h2 := (q_kL (q_pt 172 1 0 206 S r0.1) (c + r0.2.2) (n + 6 * r0.2.2))) rfl rfl ?_ ?_
  · exact (q_emXL rfl (fun _ => rfl) (dzt_X10_64_236 z L xs (q_vw 172 0 206 S) c n (xs ((i + 1).toNatClampNeg)) (xs ((i + 2).toNatClampNeg)) r0 er0)).le (Nat.le_of_ble_eq_true rfl)
  show q_Ru _ _ _ (613, [(4, .int i), (3, .ref 270), (2, .ref 236), (1, .ref 64), (0, .ref 0)], [.int r0.2.1], (q_kL (q_pt 172 1 0 206 S r0.1) (c + r0.2.2) (n + 6 * r0.2.2))) _
  refine q_Ru_seg (g2 := (621, [(5, .int r0.2.1), (4, .int i), (3, .ref 270), (2, .ref 236), (1, .ref 64), (0, .ref 0)], [.int (i + 1), .ref 0, .ref 236], (q_kL (q_pt 172 1 0 206 S r0.1) (c + r0.2.2) (n + 6 * r0.2.2)))) 6 (fun _ _ => rfl) ?_
  refine q_Ru_rsT (g2 := (622, [(5, .int r0.2.1), (4, .int i), (3, .ref 270), (2, .ref 236), (1, .ref 64), (0, .ref 0)], [.int (xs ((i + 1).toNatClampNeg)), .ref 236], (q_kL (q_pt 172 1 0 206 S r0.1) (c + r0.2.2) (n + 6 * r0.2.2)))) rfl rfl hx1 ?_
  refine q_Ru_seg (g2 := (627, [(5, .int r0.2.1), (4, .int i), (3, .ref 270), (2, .ref 236), (1, .ref 64), (0, .ref 0)], [.int (i + 2), .ref 0, .int (xs ((i + 1).toNatClampNeg)), .ref 236], (q_kL (q_pt 172 1 0 206 S r0.1) (c + r0.2.2) (n + 6 * r0.2.2)))) 4 (fun _ _ => rfl) ?_
  refine q_Ru_rsT (g2 := (628, [(5, .int r0.2.1), (4, .int i), (3, .ref 270), (2, .ref 236), (1, .ref 64), (0, .ref 0)], [.int (xs ((i + 2).toNatClampNeg)), .int (xs ((i + 1).toNatClampNeg)), .ref 236], (q_kL (q_pt 172 1 0 206 S r0.1) (c + r0.2.2) (n + 6 * r0.2.2)))) rfl rfl hx2 ?_
  refine q_Ru_call (v := (some (.int r1.2))) (h2 := (q_kL (q_pt 34 0 172 0 (q_pt 172 1 0 206 S r0.1) r1.1) (c + r0.2.2) (n + 6 * r0.2.2))) rfl rfl ?_ ?_
  · exact (q_emML rfl (fun _ => rfl) ((dzt_M288_64 (q_vw 34 172 0 (q_pt 172 1 0 206 S r0.1)) (c + r0.2.2) (n + 6 * r0.2.2) (xs ((i + 1).toNatClampNeg)) (xs ((i + 2).toNatClampNeg)) r1 er1).tb q_TB0_le)).le (Nat.le_of_ble_eq_true rfl)
  show q_Ru _ _ _ (631, [(5, .int r0.2.1), (4, .int i), (3, .ref 270), (2, .ref 236), (1, .ref 64), (0, .ref 0)], [.int r1.2], (q_kL (q_pt 34 0 172 0 (q_pt 172 1 0 206 S r0.1) r1.1) (c + r0.2.2) (n + 6 * r0.2.2))) _
  refine q_Ru_seg (g2 := (23, [(4, .int (i + 4)), (6, .int r1.2), (5, .int r0.2.1), (3, .ref 270), (2, .ref 236), (1, .ref 64), (0, .ref 0)], [], (q_kL (q_pt 34 0 172 0 (q_pt 172 1 0 206 S r0.1) r1.1) (c + r0.2.2) (n + 6 * r0.2.2)))) 4 (fun _ _ => rfl) ?_
  exact q_Ru_xt (q_xt_mk (q_mn1 0 rfl (q_mn1 3 rfl (q_mn1 4 rfl (q_mn1 5 rfl (q_mn1 6 rfl q_mn0))))) rfl) h
set_option maxHeartbeats 4000000 in
theorem q_lw11t (z L : Nat) (xs : Nat → Int32) (S : q_S) (c n : Nat) (i : Int32) (hx0 : q_in i L = true) (hx1 : q_in (i + 1) L = true) (hx2 : q_in (i + 2) L = true) (hx3 : q_in (i + 3) L = true) (hi : decide (Int32.ofNat L - 4 < i) = false) (hv : xs i.toNatClampNeg &&& 63 = 11) (r0 : q_S × Int32) (er0 : dz_M289_64 (q_vw 34 172 0 S) = some r0) (hc0 : decide ((dz_X39_64 (q_vw 172 0 206 S)) = r0.2) = true) {o : q_Out} (h : q_Ru (q_TBs z L xs) 20 375 (23, [(4, .int (i + 4)), (3, .ref 270), (2, .ref 236), (1, .ref 64), (0, .ref 0)], [], (q_kL (q_pt 34 0 172 0 S r0.1) c n)) o) : q_Ru (q_TBs z L xs) 20 375 (23, [(4, .int i), (3, .ref 270), (2, .ref 236), (1, .ref 64), (0, .ref 0)], [], (q_kL S c n)) o := by
  refine q_Ru_seg (g2 := (29, [(4, .int i), (3, .ref 270), (2, .ref 236), (1, .ref 64), (0, .ref 0)], [.int ((Int32.ofNat L) - 4), .int i], (q_kL S c n))) 5 (fun _ _ => rfl) ?_
  refine q_Ru_rsF (g2 := (32, [(4, .int i), (3, .ref 270), (2, .ref 236), (1, .ref 64), (0, .ref 0)], [], (q_kL S c n))) rfl rfl hi ?_
  refine q_Ru_seg (g2 := (35, [(4, .int i), (3, .ref 270), (2, .ref 236), (1, .ref 64), (0, .ref 0)], [.int i, .ref 0], (q_kL S c n))) 2 (fun _ _ => rfl) ?_
  refine q_Ru_rsT (g2 := (36, [(4, .int i), (3, .ref 270), (2, .ref 236), (1, .ref 64), (0, .ref 0)], [.int (xs (i.toNatClampNeg))], (q_kL S c n))) rfl rfl hx0 ?_
  refine q_Ru_seg (g2 := (39, [(4, .int i), (3, .ref 270), (2, .ref 236), (1, .ref 64), (0, .ref 0)], [.int ((xs (i.toNatClampNeg)) &&& 63)], (q_kL S c n))) 2 (fun _ _ => rfl) ?_
  rw [hv]
  refine q_Ru_seg (g2 := (637, [(4, .int i), (3, .ref 270), (2, .ref 236), (1, .ref 64), (0, .ref 0)], [.ref 64], (q_kL S c n))) 2 (fun _ _ => rfl) ?_
  refine q_Ru_call (v := (some (.int (dz_X39_64 (q_vw 172 0 206 S))))) (h2 := (q_kL S c n)) rfl rfl ?_ ?_
  · exact (q_emXLp rfl (fun _ => rfl) (dzt_X39_64 z L xs (q_vw 172 0 206 S) c n)).le (Nat.le_of_ble_eq_true rfl)
  show q_Ru _ _ _ (640, [(4, .int i), (3, .ref 270), (2, .ref 236), (1, .ref 64), (0, .ref 0)], [.int (dz_X39_64 (q_vw 172 0 206 S))], (q_kL S c n)) _
  refine q_Ru_seg (g2 := (641, [(4, .int i), (3, .ref 270), (2, .ref 236), (1, .ref 64), (0, .ref 0)], [.ref 236, .int (dz_X39_64 (q_vw 172 0 206 S))], (q_kL S c n))) 1 (fun _ _ => rfl) ?_
  refine q_Ru_call (v := (some (.int r0.2))) (h2 := (q_kL (q_pt 34 0 172 0 S r0.1) c n)) rfl rfl ?_ ?_
  · exact (q_emML rfl (fun _ => rfl) ((dzt_M289_64 (q_vw 34 172 0 S) c n r0 er0).tb q_TB0_le)).le (Nat.le_of_ble_eq_true rfl)
  show q_Ru _ _ _ (644, [(4, .int i), (3, .ref 270), (2, .ref 236), (1, .ref 64), (0, .ref 0)], [.int r0.2, .int (dz_X39_64 (q_vw 172 0 206 S))], (q_kL (q_pt 34 0 172 0 S r0.1) c n)) _
  refine q_Ru_rsT (g2 := (1301, [(4, .int i), (3, .ref 270), (2, .ref 236), (1, .ref 64), (0, .ref 0)], [], (q_kL (q_pt 34 0 172 0 S r0.1) c n))) rfl rfl hc0 ?_
  refine q_Ru_seg (g2 := (23, [(4, .int (i + 4)), (3, .ref 270), (2, .ref 236), (1, .ref 64), (0, .ref 0)], [], (q_kL (q_pt 34 0 172 0 S r0.1) c n))) 2 (fun _ _ => rfl) ?_
  exact q_Ru_xt (q_xt_mk (q_mn1 0 rfl (q_mn1 1 rfl (q_mn1 2 rfl (q_mn1 3 rfl (q_mn1 4 rfl q_mn0))))) rfl) h
set_option maxHeartbeats 4000000 in
theorem q_lw12 (z L : Nat) (xs : Nat → Int32) (S : q_S) (c n : Nat) (i : Int32) (hx0 : q_in i L = true) (hx1 : q_in (i + 1) L = true) (hx2 : q_in (i + 2) L = true) (hx3 : q_in (i + 3) L = true) (hi : decide (Int32.ofNat L - 4 < i) = false) (hv : xs i.toNatClampNeg &&& 63 = 12) (r0 : q_S × Int32) (er0 : dz_X40_64 (q_vw 172 0 206 S) = some r0) (r1 : q_S × Int32) (er1 : dz_M290_64 (q_vw 34 172 0 (q_pt 172 1 0 206 S r0.1)) = some r1) {o : q_Out} (h : q_Ru (q_TBs z L xs) 20 375 (23, [(4, .int (i + 4)), (3, .ref 270), (2, .ref 236), (1, .ref 64), (0, .ref 0)], [], (q_kL (q_pt 34 0 172 0 (q_pt 172 1 0 206 S r0.1) r1.1) c n)) o) : q_Ru (q_TBs z L xs) 20 375 (23, [(4, .int i), (3, .ref 270), (2, .ref 236), (1, .ref 64), (0, .ref 0)], [], (q_kL S c n)) o := by
  refine q_Ru_seg (g2 := (29, [(4, .int i), (3, .ref 270), (2, .ref 236), (1, .ref 64), (0, .ref 0)], [.int ((Int32.ofNat L) - 4), .int i], (q_kL S c n))) 5 (fun _ _ => rfl) ?_
  refine q_Ru_rsF (g2 := (32, [(4, .int i), (3, .ref 270), (2, .ref 236), (1, .ref 64), (0, .ref 0)], [], (q_kL S c n))) rfl rfl hi ?_
  refine q_Ru_seg (g2 := (35, [(4, .int i), (3, .ref 270), (2, .ref 236), (1, .ref 64), (0, .ref 0)], [.int i, .ref 0], (q_kL S c n))) 2 (fun _ _ => rfl) ?_
  refine q_Ru_rsT (g2 := (36, [(4, .int i), (3, .ref 270), (2, .ref 236), (1, .ref 64), (0, .ref 0)], [.int (xs (i.toNatClampNeg))], (q_kL S c n))) rfl rfl hx0 ?_
  refine q_Ru_seg (g2 := (39, [(4, .int i), (3, .ref 270), (2, .ref 236), (1, .ref 64), (0, .ref 0)], [.int ((xs (i.toNatClampNeg)) &&& 63)], (q_kL S c n))) 2 (fun _ _ => rfl) ?_
  rw [hv]
  refine q_Ru_seg (g2 := (650, [(4, .int i), (3, .ref 270), (2, .ref 236), (1, .ref 64), (0, .ref 0)], [.ref 64], (q_kL S c n))) 2 (fun _ _ => rfl) ?_
  refine q_Ru_call (v := (some (.int r0.2))) (h2 := (q_kL (q_pt 172 1 0 206 S r0.1) c n)) rfl rfl ?_ ?_
  · exact (q_emXL rfl (fun _ => rfl) (dzt_X40_64 z L xs (q_vw 172 0 206 S) c n r0 er0)).le (Nat.le_of_ble_eq_true rfl)
  show q_Ru _ _ _ (653, [(4, .int i), (3, .ref 270), (2, .ref 236), (1, .ref 64), (0, .ref 0)], [.int r0.2], (q_kL (q_pt 172 1 0 206 S r0.1) c n)) _
  refine q_Ru_seg (g2 := (655, [(4, .int i), (3, .ref 270), (2, .ref 236), (1, .ref 64), (0, .ref 0)], [.ref 236], (q_kL (q_pt 172 1 0 206 S r0.1) c n))) 2 (fun _ _ => rfl) ?_
  refine q_Ru_call (v := (some (.int r1.2))) (h2 := (q_kL (q_pt 34 0 172 0 (q_pt 172 1 0 206 S r0.1) r1.1) c n)) rfl rfl ?_ ?_
  · exact (q_emML rfl (fun _ => rfl) ((dzt_M290_64 (q_vw 34 172 0 (q_pt 172 1 0 206 S r0.1)) c n r1 er1).tb q_TB0_le)).le (Nat.le_of_ble_eq_true rfl)
  show q_Ru _ _ _ (658, [(4, .int i), (3, .ref 270), (2, .ref 236), (1, .ref 64), (0, .ref 0)], [.int r1.2], (q_kL (q_pt 34 0 172 0 (q_pt 172 1 0 206 S r0.1) r1.1) c n)) _
  refine q_Ru_seg (g2 := (23, [(4, .int (i + 4)), (3, .ref 270), (2, .ref 236), (1, .ref 64), (0, .ref 0)], [], (q_kL (q_pt 34 0 172 0 (q_pt 172 1 0 206 S r0.1) r1.1) c n))) 4 (fun _ _ => rfl) ?_
  exact q_Ru_xt (q_xt_mk (q_mn1 0 rfl (q_mn1 1 rfl (q_mn1 2 rfl (q_mn1 3 rfl (q_mn1 4 rfl q_mn0))))) rfl) h
set_option maxHeartbeats 4000000 in
theorem q_lw13 (z L : Nat) (xs : Nat → Int32) (S : q_S) (c n : Nat) (i : Int32) (hx0 : q_in i L = true) (hx1 : q_in (i + 1) L = true) (hx2 : q_in (i + 2) L = true) (hx3 : q_in (i + 3) L = true) (hi : decide (Int32.ofNat L - 4 < i) = false) (hv : xs i.toNatClampNeg &&& 63 = 13) (r0 : q_S × Int32) (er0 : dz_X41_64 (q_vw 172 0 206 S) = some r0) (r1 : q_S × Int32) (er1 : dz_M291_64 (q_vw 34 172 0 (q_pt 172 1 0 206 S r0.1)) = r1) {o : q_Out} (h : q_Ru (q_TBs z L xs) 20 375 (23, [(4, .int (i + 4)), (3, .ref 270), (2, .ref 236), (1, .ref 64), (0, .ref 0)], [], (q_kL (q_pt 34 0 172 0 (q_pt 172 1 0 206 S r0.1) r1.1) c n)) o) : q_Ru (q_TBs z L xs) 20 375 (23, [(4, .int i), (3, .ref 270), (2, .ref 236), (1, .ref 64), (0, .ref 0)], [], (q_kL S c n)) o := by
  refine q_Ru_seg (g2 := (29, [(4, .int i), (3, .ref 270), (2, .ref 236), (1, .ref 64), (0, .ref 0)], [.int ((Int32.ofNat L) - 4), .int i], (q_kL S c n))) 5 (fun _ _ => rfl) ?_
  refine q_Ru_rsF (g2 := (32, [(4, .int i), (3, .ref 270), (2, .ref 236), (1, .ref 64), (0, .ref 0)], [], (q_kL S c n))) rfl rfl hi ?_
  refine q_Ru_seg (g2 := (35, [(4, .int i), (3, .ref 270), (2, .ref 236), (1, .ref 64), (0, .ref 0)], [.int i, .ref 0], (q_kL S c n))) 2 (fun _ _ => rfl) ?_
  refine q_Ru_rsT (g2 := (36, [(4, .int i), (3, .ref 270), (2, .ref 236), (1, .ref 64), (0, .ref 0)], [.int (xs (i.toNatClampNeg))], (q_kL S c n))) rfl rfl hx0 ?_
  refine q_Ru_seg (g2 := (39, [(4, .int i), (3, .ref 270), (2, .ref 236), (1, .ref 64), (0, .ref 0)], [.int ((xs (i.toNatClampNeg)) &&& 63)], (q_kL S c n))) 2 (fun _ _ => rfl) ?_
  rw [hv]
  refine q_Ru_seg (g2 := (663, [(4, .int i), (3, .ref 270), (2, .ref 236), (1, .ref 64), (0, .ref 0)], [.ref 64], (q_kL S c n))) 2 (fun _ _ => rfl) ?_
  refine q_Ru_call (v := (some (.int r0.2))) (h2 := (q_kL (q_pt 172 1 0 206 S r0.1) c n)) rfl rfl ?_ ?_
  · exact (q_emXL rfl (fun _ => rfl) (dzt_X41_64 z L xs (q_vw 172 0 206 S) c n r0 er0)).le (Nat.le_of_ble_eq_true rfl)
  show q_Ru _ _ _ (666, [(4, .int i), (3, .ref 270), (2, .ref 236), (1, .ref 64), (0, .ref 0)], [.int r0.2], (q_kL (q_pt 172 1 0 206 S r0.1) c n)) _
  refine q_Ru_seg (g2 := (668, [(4, .int i), (3, .ref 270), (2, .ref 236), (1, .ref 64), (0, .ref 0)], [.ref 236], (q_kL (q_pt 172 1 0 206 S r0.1) c n))) 2 (fun _ _ => rfl) ?_
  refine q_Ru_call (v := (some (.int r1.2))) (h2 := (q_kL (q_pt 34 0 172 0 (q_pt 172 1 0 206 S r0.1) r1.1) c n)) rfl rfl ?_ ?_
  · exact (q_emML rfl (fun _ => rfl) ((q_cE (φ := (q_oIM c n)) er1 (dzt_M291_64 (q_vw 34 172 0 (q_pt 172 1 0 206 S r0.1)) c n)).tb q_TB0_le)).le (Nat.le_of_ble_eq_true rfl)
  show q_Ru _ _ _ (671, [(4, .int i), (3, .ref 270), (2, .ref 236), (1, .ref 64), (0, .ref 0)], [.int r1.2], (q_kL (q_pt 34 0 172 0 (q_pt 172 1 0 206 S r0.1) r1.1) c n)) _
  refine q_Ru_seg (g2 := (23, [(4, .int (i + 4)), (3, .ref 270), (2, .ref 236), (1, .ref 64), (0, .ref 0)], [], (q_kL (q_pt 34 0 172 0 (q_pt 172 1 0 206 S r0.1) r1.1) c n))) 4 (fun _ _ => rfl) ?_
  exact q_Ru_xt (q_xt_mk (q_mn1 0 rfl (q_mn1 1 rfl (q_mn1 2 rfl (q_mn1 3 rfl (q_mn1 4 rfl q_mn0))))) rfl) h
set_option maxHeartbeats 4000000 in
theorem q_lw14 (z L : Nat) (xs : Nat → Int32) (S : q_S) (c n : Nat) (i : Int32) (hx0 : q_in i L = true) (hx1 : q_in (i + 1) L = true) (hx2 : q_in (i + 2) L = true) (hx3 : q_in (i + 3) L = true) (hi : decide (Int32.ofNat L - 4 < i) = false) (hv : xs i.toNatClampNeg &&& 63 = 14) (r0 : q_S × Int32 × Nat) (er0 : dz_X11_64_236 (q_vw 172 0 206 S) (xs ((i + 1).toNatClampNeg)) = some r0) (r1 : q_S × Int32) (er1 : dz_M235_64 (q_vw 34 172 0 (q_pt 172 1 0 206 S r0.1)) (xs ((i + 1).toNatClampNeg)) = some r1) {o : q_Out} (h : q_Ru (q_TBs z L xs) 20 375 (23, [(4, .int (i + 4)), (3, .ref 270), (2, .ref 236), (1, .ref 64), (0, .ref 0)], [], (q_kL (q_pt 34 0 172 0 (q_pt 172 1 0 206 S r0.1) r1.1) (c + r0.2.2) (n + 6 * r0.2.2))) o) : q_Ru (q_TBs z L xs) 20 375 (23, [(4, .int i), (3, .ref 270), (2, .ref 236), (1, .ref 64), (0, .ref 0)], [], (q_kL S c n)) o := by
  refine q_Ru_seg (g2 := (29, [(4, .int i), (3, .ref 270), (2, .ref 236), (1, .ref 64), (0, .ref 0)], [.int ((Int32.ofNat L) - 4), .int i], (q_kL S c n))) 5 (fun _ _ => rfl) ?_
  refine q_Ru_rsF (g2 := (32, [(4, .int i), (3, .ref 270), (2, .ref 236), (1, .ref 64), (0, .ref 0)], [], (q_kL S c n))) rfl rfl hi ?_
  refine q_Ru_seg (g2 := (35, [(4, .int i), (3, .ref 270), (2, .ref 236), (1, .ref 64), (0, .ref 0)], [.int i, .ref 0], (q_kL S c n))) 2 (fun _ _ => rfl) ?_
  refine q_Ru_rsT (g2 := (36, [(4, .int i), (3, .ref 270), (2, .ref 236), (1, .ref 64), (0, .ref 0)], [.int (xs (i.toNatClampNeg))], (q_kL S c n))) rfl rfl hx0 ?_
  refine q_Ru_seg (g2 := (39, [(4, .int i), (3, .ref 270), (2, .ref 236), (1, .ref 64), (0, .ref 0)], [.int ((xs (i.toNatClampNeg)) &&& 63)], (q_kL S c n))) 2 (fun _ _ => rfl) ?_
  rw [hv]
  refine q_Ru_seg (g2 := (681, [(4, .int i), (3, .ref 270), (2, .ref 236), (1, .ref 64), (0, .ref 0)], [.int (i + 1), .ref 0, .ref 64], (q_kL S c n))) 6 (fun _ _ => rfl) ?_
  refine q_Ru_rsT (g2 := (682, [(4, .int i), (3, .ref 270), (2, .ref 236), (1, .ref 64), (0, .ref 0)], [.int (xs ((i + 1).toNatClampNeg)), .ref 64], (q_kL S c n))) rfl rfl hx1 ?_
  refine q_Ru_seg (g2 := (683, [(4, .int i), (3, .ref 270), (2, .ref 236), (1, .ref 64), (0, .ref 0)], [.ref 270, .int (xs ((i + 1).toNatClampNeg)), .ref 64], (q_kL S c n))) 1 (fun _ _ => rfl) ?_
  refine q_Ru_call (v := (some (.int r0.2.1))) (h2 := (q_kL (q_pt 172 1 0 206 S r0.1) (c + r0.2.2) (n + 6 * r0.2.2))) rfl rfl ?_ ?_
  · exact (q_emXL rfl (fun _ => rfl) (dzt_X11_64_236 z L xs (q_vw 172 0 206 S) c n (xs ((i + 1).toNatClampNeg)) r0 er0)).le (Nat.le_of_ble_eq_true rfl)
  show q_Ru _ _ _ (686, [(4, .int i), (3, .ref 270), (2, .ref 236), (1, .ref 64), (0, .ref 0)], [.int r0.2.1], (q_kL (q_pt 172 1 0 206 S r0.1) (c + r0.2.2) (n + 6 * r0.2.2))) _
  refine q_Ru_seg (g2 := (694, [(5, .int r0.2.1), (4, .int i), (3, .ref 270), (2, .ref 236), (1, .ref 64), (0, .ref 0)], [.int (i + 1), .ref 0, .ref 236], (q_kL (q_pt 172 1 0 206 S r0.1) (c + r0.2.2) (n + 6 * r0.2.2)))) 6 (fun _ _ => rfl) ?_
  refine q_Ru_rsT (g2 := (695, [(5, .int r0.2.1), (4, .int i), (3, .ref 270), (2, .ref 236), (1, .ref 64), (0, .ref 0)], [.int (xs ((i + 1).toNatClampNeg)), .ref 236], (q_kL (q_pt 172 1 0 206 S r0.1) (c + r0.2.2) (n + 6 * r0.2.2)))) rfl rfl hx1 ?_
  refine q_Ru_call (v := (some (.int r1.2))) (h2 := (q_kL (q_pt 34 0 172 0 (q_pt 172 1 0 206 S r0.1) r1.1) (c + r0.2.2) (n + 6 * r0.2.2))) rfl rfl ?_ ?_
  · exact (q_emML rfl (fun _ => rfl) ((dzt_M235_64 (q_vw 34 172 0 (q_pt 172 1 0 206 S r0.1)) (c + r0.2.2) (n + 6 * r0.2.2) (xs ((i + 1).toNatClampNeg)) r1 er1).tb q_TB0_le)).le (Nat.le_of_ble_eq_true rfl)
  show q_Ru _ _ _ (698, [(5, .int r0.2.1), (4, .int i), (3, .ref 270), (2, .ref 236), (1, .ref 64), (0, .ref 0)], [.int r1.2], (q_kL (q_pt 34 0 172 0 (q_pt 172 1 0 206 S r0.1) r1.1) (c + r0.2.2) (n + 6 * r0.2.2))) _
  refine q_Ru_seg (g2 := (23, [(4, .int (i + 4)), (6, .int r1.2), (5, .int r0.2.1), (3, .ref 270), (2, .ref 236), (1, .ref 64), (0, .ref 0)], [], (q_kL (q_pt 34 0 172 0 (q_pt 172 1 0 206 S r0.1) r1.1) (c + r0.2.2) (n + 6 * r0.2.2)))) 4 (fun _ _ => rfl) ?_
  exact q_Ru_xt (q_xt_mk (q_mn1 0 rfl (q_mn1 3 rfl (q_mn1 4 rfl (q_mn1 5 rfl (q_mn1 6 rfl q_mn0))))) rfl) h
set_option maxHeartbeats 4000000 in
theorem q_lw15 (z L : Nat) (xs : Nat → Int32) (S : q_S) (c n : Nat) (i : Int32) (hx0 : q_in i L = true) (hx1 : q_in (i + 1) L = true) (hx2 : q_in (i + 2) L = true) (hx3 : q_in (i + 3) L = true) (hi : decide (Int32.ofNat L - 4 < i) = false) (hv : xs i.toNatClampNeg &&& 63 = 15) (r0 : q_S × Int32 × Nat) (er0 : dz_X12_64_236 (q_vw 172 0 206 S) = some r0) (r1 : q_S × Int32) (er1 : dz_M236_64 (q_vw 34 172 0 (q_pt 172 1 0 206 S r0.1)) = some r1) {o : q_Out} (h : q_Ru (q_TBs z L xs) 20 375 (23, [(4, .int (i + 4)), (3, .ref 270), (2, .ref 236), (1, .ref 64), (0, .ref 0)], [], (q_kL (q_pt 34 0 172 0 (q_pt 172 1 0 206 S r0.1) r1.1) (c + r0.2.2) (n + 6 * r0.2.2))) o) : q_Ru (q_TBs z L xs) 20 375 (23, [(4, .int i), (3, .ref 270), (2, .ref 236), (1, .ref 64), (0, .ref 0)], [], (q_kL S c n)) o := by
  refine q_Ru_seg (g2 := (29, [(4, .int i), (3, .ref 270), (2, .ref 236), (1, .ref 64), (0, .ref 0)], [.int ((Int32.ofNat L) - 4), .int i], (q_kL S c n))) 5 (fun _ _ => rfl) ?_
  refine q_Ru_rsF (g2 := (32, [(4, .int i), (3, .ref 270), (2, .ref 236), (1, .ref 64), (0, .ref 0)], [], (q_kL S c n))) rfl rfl hi ?_
  refine q_Ru_seg (g2 := (35, [(4, .int i), (3, .ref 270), (2, .ref 236), (1, .ref 64), (0, .ref 0)], [.int i, .ref 0], (q_kL S c n))) 2 (fun _ _ => rfl) ?_
  refine q_Ru_rsT (g2 := (36, [(4, .int i), (3, .ref 270), (2, .ref 236), (1, .ref 64), (0, .ref 0)], [.int (xs (i.toNatClampNeg))], (q_kL S c n))) rfl rfl hx0 ?_
  refine q_Ru_seg (g2 := (39, [(4, .int i), (3, .ref 270), (2, .ref 236), (1, .ref 64), (0, .ref 0)], [.int ((xs (i.toNatClampNeg)) &&& 63)], (q_kL S c n))) 2 (fun _ _ => rfl) ?_
  rw [hv]
  refine q_Ru_seg (g2 := (705, [(4, .int i), (3, .ref 270), (2, .ref 236), (1, .ref 64), (0, .ref 0)], [.ref 270, .ref 64], (q_kL S c n))) 3 (fun _ _ => rfl) ?_
  refine q_Ru_call (v := (some (.int r0.2.1))) (h2 := (q_kL (q_pt 172 1 0 206 S r0.1) (c + r0.2.2) (n + 6 * r0.2.2))) rfl rfl ?_ ?_
  · exact (q_emXL rfl (fun _ => rfl) (dzt_X12_64_236 z L xs (q_vw 172 0 206 S) c n r0 er0)).le (Nat.le_of_ble_eq_true rfl)
  show q_Ru _ _ _ (708, [(4, .int i), (3, .ref 270), (2, .ref 236), (1, .ref 64), (0, .ref 0)], [.int r0.2.1], (q_kL (q_pt 172 1 0 206 S r0.1) (c + r0.2.2) (n + 6 * r0.2.2))) _
  refine q_Ru_seg (g2 := (711, [(5, .int r0.2.1), (4, .int i), (3, .ref 270), (2, .ref 236), (1, .ref 64), (0, .ref 0)], [.ref 236], (q_kL (q_pt 172 1 0 206 S r0.1) (c + r0.2.2) (n + 6 * r0.2.2)))) 2 (fun _ _ => rfl) ?_
  refine q_Ru_call (v := (some (.int r1.2))) (h2 := (q_kL (q_pt 34 0 172 0 (q_pt 172 1 0 206 S r0.1) r1.1) (c + r0.2.2) (n + 6 * r0.2.2))) rfl rfl ?_ ?_
  · exact (q_emML rfl (fun _ => rfl) ((dzt_M236_64 (q_vw 34 172 0 (q_pt 172 1 0 206 S r0.1)) (c + r0.2.2) (n + 6 * r0.2.2) r1 er1).tb q_TB0_le)).le (Nat.le_of_ble_eq_true rfl)
  show q_Ru _ _ _ (714, [(5, .int r0.2.1), (4, .int i), (3, .ref 270), (2, .ref 236), (1, .ref 64), (0, .ref 0)], [.int r1.2], (q_kL (q_pt 34 0 172 0 (q_pt 172 1 0 206 S r0.1) r1.1) (c + r0.2.2) (n + 6 * r0.2.2))) _
  refine q_Ru_seg (g2 := (23, [(4, .int (i + 4)), (6, .int r1.2), (5, .int r0.2.1), (3, .ref 270), (2, .ref 236), (1, .ref 64), (0, .ref 0)], [], (q_kL (q_pt 34 0 172 0 (q_pt 172 1 0 206 S r0.1) r1.1) (c + r0.2.2) (n + 6 * r0.2.2)))) 4 (fun _ _ => rfl) ?_
  exact q_Ru_xt (q_xt_mk (q_mn1 0 rfl (q_mn1 3 rfl (q_mn1 4 rfl (q_mn1 5 rfl (q_mn1 6 rfl q_mn0))))) rfl) h
set_option maxHeartbeats 4000000 in
theorem q_lw16 (z L : Nat) (xs : Nat → Int32) (S : q_S) (c n : Nat) (i : Int32) (hx0 : q_in i L = true) (hx1 : q_in (i + 1) L = true) (hx2 : q_in (i + 2) L = true) (hx3 : q_in (i + 3) L = true) (hi : decide (Int32.ofNat L - 4 < i) = false) (hv : xs i.toNatClampNeg &&& 63 = 16) (r0 : q_S × Int64) (er0 : dz_M237_64 (q_vw 34 172 0 S) = r0) {o : q_Out} (h : q_Ru (q_TBs z L xs) 20 375 (23, [(4, .int (i + 4)), (3, .ref 270), (2, .ref 236), (1, .ref 64), (0, .ref 0)], [], (q_kL (q_pt 34 0 172 0 S r0.1) c n)) o) : q_Ru (q_TBs z L xs) 20 375 (23, [(4, .int i), (3, .ref 270), (2, .ref 236), (1, .ref 64), (0, .ref 0)], [], (q_kL S c n)) o := by
  refine q_Ru_seg (g2 := (29, [(4, .int i), (3, .ref 270), (2, .ref 236), (1, .ref 64), (0, .ref 0)], [.int ((Int32.ofNat L) - 4), .int i], (q_kL S c n))) 5 (fun _ _ => rfl) ?_
  refine q_Ru_rsF (g2 := (32, [(4, .int i), (3, .ref 270), (2, .ref 236), (1, .ref 64), (0, .ref 0)], [], (q_kL S c n))) rfl rfl hi ?_
  refine q_Ru_seg (g2 := (35, [(4, .int i), (3, .ref 270), (2, .ref 236), (1, .ref 64), (0, .ref 0)], [.int i, .ref 0], (q_kL S c n))) 2 (fun _ _ => rfl) ?_
  refine q_Ru_rsT (g2 := (36, [(4, .int i), (3, .ref 270), (2, .ref 236), (1, .ref 64), (0, .ref 0)], [.int (xs (i.toNatClampNeg))], (q_kL S c n))) rfl rfl hx0 ?_
  refine q_Ru_seg (g2 := (39, [(4, .int i), (3, .ref 270), (2, .ref 236), (1, .ref 64), (0, .ref 0)], [.int ((xs (i.toNatClampNeg)) &&& 63)], (q_kL S c n))) 2 (fun _ _ => rfl) ?_
  rw [hv]
  refine q_Ru_seg (g2 := (720, [(4, .int i), (3, .ref 270), (2, .ref 236), (1, .ref 64), (0, .ref 0)], [.ref 64], (q_kL S c n))) 2 (fun _ _ => rfl) ?_
  refine q_Ru_call (v := (some (.long (dz_X44_64 (q_vw 172 0 206 S))))) (h2 := (q_kL S c n)) rfl rfl ?_ ?_
  · exact (q_emXLp rfl (fun _ => rfl) (dzt_X44_64 z L xs (q_vw 172 0 206 S) c n)).le (Nat.le_of_ble_eq_true rfl)
  show q_Ru _ _ _ (723, [(4, .int i), (3, .ref 270), (2, .ref 236), (1, .ref 64), (0, .ref 0)], [.long (dz_X44_64 (q_vw 172 0 206 S))], (q_kL S c n)) _
  refine q_Ru_seg (g2 := (725, [(4, .int i), (3, .ref 270), (2, .ref 236), (1, .ref 64), (0, .ref 0)], [.ref 236], (q_kL S c n))) 2 (fun _ _ => rfl) ?_
  refine q_Ru_call (v := (some (.long r0.2))) (h2 := (q_kL (q_pt 34 0 172 0 S r0.1) c n)) rfl rfl ?_ ?_
  · exact (q_emML rfl (fun _ => rfl) ((q_cE (φ := (q_oKM c n)) er0 (dzt_M237_64 (q_vw 34 172 0 S) c n)).tb q_TB0_le)).le (Nat.le_of_ble_eq_true rfl)
  show q_Ru _ _ _ (728, [(4, .int i), (3, .ref 270), (2, .ref 236), (1, .ref 64), (0, .ref 0)], [.long r0.2], (q_kL (q_pt 34 0 172 0 S r0.1) c n)) _
  refine q_Ru_seg (g2 := (23, [(4, .int (i + 4)), (3, .ref 270), (2, .ref 236), (1, .ref 64), (0, .ref 0)], [], (q_kL (q_pt 34 0 172 0 S r0.1) c n))) 4 (fun _ _ => rfl) ?_
  exact q_Ru_xt (q_xt_mk (q_mn1 0 rfl (q_mn1 1 rfl (q_mn1 2 rfl (q_mn1 3 rfl (q_mn1 4 rfl q_mn0))))) rfl) h
set_option maxHeartbeats 4000000 in
theorem q_lw17 (z L : Nat) (xs : Nat → Int32) (S : q_S) (c n : Nat) (i : Int32) (hx0 : q_in i L = true) (hx1 : q_in (i + 1) L = true) (hx2 : q_in (i + 2) L = true) (hx3 : q_in (i + 3) L = true) (hi : decide (Int32.ofNat L - 4 < i) = false) (hv : xs i.toNatClampNeg &&& 63 = 17) (r0 : Bool) (er0 : dz_X45_64 (q_vw 172 0 206 S) = some r0) (r1 : q_S × Bool) (er1 : dz_M238_64 (q_vw 34 172 0 S) = some r1) {o : q_Out} (h : q_Ru (q_TBs z L xs) 20 375 (23, [(4, .int (i + 4)), (3, .ref 270), (2, .ref 236), (1, .ref 64), (0, .ref 0)], [], (q_kL (q_pt 34 0 172 0 S r1.1) c n)) o) : q_Ru (q_TBs z L xs) 20 375 (23, [(4, .int i), (3, .ref 270), (2, .ref 236), (1, .ref 64), (0, .ref 0)], [], (q_kL S c n)) o := by
  refine q_Ru_seg (g2 := (29, [(4, .int i), (3, .ref 270), (2, .ref 236), (1, .ref 64), (0, .ref 0)], [.int ((Int32.ofNat L) - 4), .int i], (q_kL S c n))) 5 (fun _ _ => rfl) ?_
  refine q_Ru_rsF (g2 := (32, [(4, .int i), (3, .ref 270), (2, .ref 236), (1, .ref 64), (0, .ref 0)], [], (q_kL S c n))) rfl rfl hi ?_
  refine q_Ru_seg (g2 := (35, [(4, .int i), (3, .ref 270), (2, .ref 236), (1, .ref 64), (0, .ref 0)], [.int i, .ref 0], (q_kL S c n))) 2 (fun _ _ => rfl) ?_
  refine q_Ru_rsT (g2 := (36, [(4, .int i), (3, .ref 270), (2, .ref 236), (1, .ref 64), (0, .ref 0)], [.int (xs (i.toNatClampNeg))], (q_kL S c n))) rfl rfl hx0 ?_
  refine q_Ru_seg (g2 := (39, [(4, .int i), (3, .ref 270), (2, .ref 236), (1, .ref 64), (0, .ref 0)], [.int ((xs (i.toNatClampNeg)) &&& 63)], (q_kL S c n))) 2 (fun _ _ => rfl) ?_
  rw [hv]
  refine q_Ru_seg (g2 := (733, [(4, .int i), (3, .ref 270), (2, .ref 236), (1, .ref 64), (0, .ref 0)], [.ref 64], (q_kL S c n))) 2 (fun _ _ => rfl) ?_
  refine q_Ru_call (v := (some (.int (q_b r0)))) (h2 := (q_kL S c n)) rfl rfl ?_ ?_
  · exact (q_emXLp rfl (fun _ => rfl) (dzt_X45_64 z L xs (q_vw 172 0 206 S) c n r0 er0)).le (Nat.le_of_ble_eq_true rfl)
  show q_Ru _ _ _ (736, [(4, .int i), (3, .ref 270), (2, .ref 236), (1, .ref 64), (0, .ref 0)], [.int (q_b r0)], (q_kL S c n)) _
  refine q_Ru_seg (g2 := (738, [(4, .int i), (3, .ref 270), (2, .ref 236), (1, .ref 64), (0, .ref 0)], [.ref 236], (q_kL S c n))) 2 (fun _ _ => rfl) ?_
  refine q_Ru_call (v := (some (.int (q_b r1.2)))) (h2 := (q_kL (q_pt 34 0 172 0 S r1.1) c n)) rfl rfl ?_ ?_
  · exact (q_emML rfl (fun _ => rfl) ((dzt_M238_64 (q_vw 34 172 0 S) c n r1 er1).tb q_TB0_le)).le (Nat.le_of_ble_eq_true rfl)
  show q_Ru _ _ _ (741, [(4, .int i), (3, .ref 270), (2, .ref 236), (1, .ref 64), (0, .ref 0)], [.int (q_b r1.2)], (q_kL (q_pt 34 0 172 0 S r1.1) c n)) _
  refine q_Ru_seg (g2 := (23, [(4, .int (i + 4)), (3, .ref 270), (2, .ref 236), (1, .ref 64), (0, .ref 0)], [], (q_kL (q_pt 34 0 172 0 S r1.1) c n))) 4 (fun _ _ => rfl) ?_
  exact q_Ru_xt (q_xt_mk (q_mn1 0 rfl (q_mn1 1 rfl (q_mn1 2 rfl (q_mn1 3 rfl (q_mn1 4 rfl q_mn0))))) rfl) h
set_option maxHeartbeats 4000000 in
theorem q_lw18 (z L : Nat) (xs : Nat → Int32) (S : q_S) (c n : Nat) (i : Int32) (hx0 : q_in i L = true) (hx1 : q_in (i + 1) L = true) (hx2 : q_in (i + 2) L = true) (hx3 : q_in (i + 3) L = true) (hi : decide (Int32.ofNat L - 4 < i) = false) (hv : xs i.toNatClampNeg &&& 63 = 18) (r0 : q_S × Int32) (er0 : dz_M239_64 (q_vw 34 172 0 S) = r0) {o : q_Out} (h : q_Ru (q_TBs z L xs) 20 375 (23, [(4, .int (i + 4)), (3, .ref 270), (2, .ref 236), (1, .ref 64), (0, .ref 0)], [], (q_kL (q_pt 34 0 172 0 S r0.1) c n)) o) : q_Ru (q_TBs z L xs) 20 375 (23, [(4, .int i), (3, .ref 270), (2, .ref 236), (1, .ref 64), (0, .ref 0)], [], (q_kL S c n)) o := by
  refine q_Ru_seg (g2 := (29, [(4, .int i), (3, .ref 270), (2, .ref 236), (1, .ref 64), (0, .ref 0)], [.int ((Int32.ofNat L) - 4), .int i], (q_kL S c n))) 5 (fun _ _ => rfl) ?_
  refine q_Ru_rsF (g2 := (32, [(4, .int i), (3, .ref 270), (2, .ref 236), (1, .ref 64), (0, .ref 0)], [], (q_kL S c n))) rfl rfl hi ?_
  refine q_Ru_seg (g2 := (35, [(4, .int i), (3, .ref 270), (2, .ref 236), (1, .ref 64), (0, .ref 0)], [.int i, .ref 0], (q_kL S c n))) 2 (fun _ _ => rfl) ?_
  refine q_Ru_rsT (g2 := (36, [(4, .int i), (3, .ref 270), (2, .ref 236), (1, .ref 64), (0, .ref 0)], [.int (xs (i.toNatClampNeg))], (q_kL S c n))) rfl rfl hx0 ?_
  refine q_Ru_seg (g2 := (39, [(4, .int i), (3, .ref 270), (2, .ref 236), (1, .ref 64), (0, .ref 0)], [.int ((xs (i.toNatClampNeg)) &&& 63)], (q_kL S c n))) 2 (fun _ _ => rfl) ?_
  rw [hv]
  refine q_Ru_seg (g2 := (746, [(4, .int i), (3, .ref 270), (2, .ref 236), (1, .ref 64), (0, .ref 0)], [.ref 64], (q_kL S c n))) 2 (fun _ _ => rfl) ?_
  refine q_Ru_call (v := (some (.int (dz_X46_64 (q_vw 172 0 206 S))))) (h2 := (q_kL S c n)) rfl rfl ?_ ?_
  · exact (q_emXLp rfl (fun _ => rfl) (dzt_X46_64 z L xs (q_vw 172 0 206 S) c n)).le (Nat.le_of_ble_eq_true rfl)
  show q_Ru _ _ _ (749, [(4, .int i), (3, .ref 270), (2, .ref 236), (1, .ref 64), (0, .ref 0)], [.int (dz_X46_64 (q_vw 172 0 206 S))], (q_kL S c n)) _
  refine q_Ru_seg (g2 := (751, [(4, .int i), (3, .ref 270), (2, .ref 236), (1, .ref 64), (0, .ref 0)], [.ref 236], (q_kL S c n))) 2 (fun _ _ => rfl) ?_
  refine q_Ru_call (v := (some (.int r0.2))) (h2 := (q_kL (q_pt 34 0 172 0 S r0.1) c n)) rfl rfl ?_ ?_
  · exact (q_emML rfl (fun _ => rfl) ((q_cE (φ := (q_oIM c n)) er0 (dzt_M239_64 (q_vw 34 172 0 S) c n)).tb q_TB0_le)).le (Nat.le_of_ble_eq_true rfl)
  show q_Ru _ _ _ (754, [(4, .int i), (3, .ref 270), (2, .ref 236), (1, .ref 64), (0, .ref 0)], [.int r0.2], (q_kL (q_pt 34 0 172 0 S r0.1) c n)) _
  refine q_Ru_seg (g2 := (23, [(4, .int (i + 4)), (3, .ref 270), (2, .ref 236), (1, .ref 64), (0, .ref 0)], [], (q_kL (q_pt 34 0 172 0 S r0.1) c n))) 4 (fun _ _ => rfl) ?_
  exact q_Ru_xt (q_xt_mk (q_mn1 0 rfl (q_mn1 1 rfl (q_mn1 2 rfl (q_mn1 3 rfl (q_mn1 4 rfl q_mn0))))) rfl) h
set_option maxHeartbeats 4000000 in
theorem q_lw19 (z L : Nat) (xs : Nat → Int32) (S : q_S) (c n : Nat) (i : Int32) (hx0 : q_in i L = true) (hx1 : q_in (i + 1) L = true) (hx2 : q_in (i + 2) L = true) (hx3 : q_in (i + 3) L = true) (hi : decide (Int32.ofNat L - 4 < i) = false) (hv : xs i.toNatClampNeg &&& 63 = 19) (r0 : q_S × Int32) (er0 : dz_M240_64 (q_vw 34 172 0 S) = r0) {o : q_Out} (h : q_Ru (q_TBs z L xs) 20 375 (23, [(4, .int (i + 4)), (3, .ref 270), (2, .ref 236), (1, .ref 64), (0, .ref 0)], [], (q_kL (q_pt 34 0 172 0 S r0.1) c n)) o) : q_Ru (q_TBs z L xs) 20 375 (23, [(4, .int i), (3, .ref 270), (2, .ref 236), (1, .ref 64), (0, .ref 0)], [], (q_kL S c n)) o := by
  refine q_Ru_seg (g2 := (29, [(4, .int i), (3, .ref 270), (2, .ref 236), (1, .ref 64), (0, .ref 0)], [.int ((Int32.ofNat L) - 4), .int i], (q_kL S c n))) 5 (fun _ _ => rfl) ?_
  refine q_Ru_rsF (g2 := (32, [(4, .int i), (3, .ref 270), (2, .ref 236), (1, .ref 64), (0, .ref 0)], [], (q_kL S c n))) rfl rfl hi ?_
  refine q_Ru_seg (g2 := (35, [(4, .int i), (3, .ref 270), (2, .ref 236), (1, .ref 64), (0, .ref 0)], [.int i, .ref 0], (q_kL S c n))) 2 (fun _ _ => rfl) ?_
  refine q_Ru_rsT (g2 := (36, [(4, .int i), (3, .ref 270), (2, .ref 236), (1, .ref 64), (0, .ref 0)], [.int (xs (i.toNatClampNeg))], (q_kL S c n))) rfl rfl hx0 ?_
  refine q_Ru_seg (g2 := (39, [(4, .int i), (3, .ref 270), (2, .ref 236), (1, .ref 64), (0, .ref 0)], [.int ((xs (i.toNatClampNeg)) &&& 63)], (q_kL S c n))) 2 (fun _ _ => rfl) ?_
  rw [hv]
  refine q_Ru_seg (g2 := (759, [(4, .int i), (3, .ref 270), (2, .ref 236), (1, .ref 64), (0, .ref 0)], [.ref 64], (q_kL S c n))) 2 (fun _ _ => rfl) ?_
  refine q_Ru_call (v := (some (.int (dz_X47_64 (q_vw 172 0 206 S))))) (h2 := (q_kL S c n)) rfl rfl ?_ ?_
  · exact (q_emXLp rfl (fun _ => rfl) (dzt_X47_64 z L xs (q_vw 172 0 206 S) c n)).le (Nat.le_of_ble_eq_true rfl)
  show q_Ru _ _ _ (762, [(4, .int i), (3, .ref 270), (2, .ref 236), (1, .ref 64), (0, .ref 0)], [.int (dz_X47_64 (q_vw 172 0 206 S))], (q_kL S c n)) _
  refine q_Ru_seg (g2 := (764, [(4, .int i), (3, .ref 270), (2, .ref 236), (1, .ref 64), (0, .ref 0)], [.ref 236], (q_kL S c n))) 2 (fun _ _ => rfl) ?_
  refine q_Ru_call (v := (some (.int r0.2))) (h2 := (q_kL (q_pt 34 0 172 0 S r0.1) c n)) rfl rfl ?_ ?_
  · exact (q_emML rfl (fun _ => rfl) ((q_cE (φ := (q_oIM c n)) er0 (dzt_M240_64 (q_vw 34 172 0 S) c n)).tb q_TB0_le)).le (Nat.le_of_ble_eq_true rfl)
  show q_Ru _ _ _ (767, [(4, .int i), (3, .ref 270), (2, .ref 236), (1, .ref 64), (0, .ref 0)], [.int r0.2], (q_kL (q_pt 34 0 172 0 S r0.1) c n)) _
  refine q_Ru_seg (g2 := (23, [(4, .int (i + 4)), (3, .ref 270), (2, .ref 236), (1, .ref 64), (0, .ref 0)], [], (q_kL (q_pt 34 0 172 0 S r0.1) c n))) 4 (fun _ _ => rfl) ?_
  exact q_Ru_xt (q_xt_mk (q_mn1 0 rfl (q_mn1 1 rfl (q_mn1 2 rfl (q_mn1 3 rfl (q_mn1 4 rfl q_mn0))))) rfl) h
set_option maxHeartbeats 4000000 in
theorem q_lw20 (z L : Nat) (xs : Nat → Int32) (S : q_S) (c n : Nat) (i : Int32) (hx0 : q_in i L = true) (hx1 : q_in (i + 1) L = true) (hx2 : q_in (i + 2) L = true) (hx3 : q_in (i + 3) L = true) (hi : decide (Int32.ofNat L - 4 < i) = false) (hv : xs i.toNatClampNeg &&& 63 = 20) (r0 : Bool) (er0 : dz_X48_64 (q_vw 172 0 206 S) = some r0) (r1 : q_S × Bool) (er1 : dz_M241_64 (q_vw 34 172 0 S) = some r1) {o : q_Out} (h : q_Ru (q_TBs z L xs) 20 375 (23, [(4, .int (i + 4)), (3, .ref 270), (2, .ref 236), (1, .ref 64), (0, .ref 0)], [], (q_kL (q_pt 34 0 172 0 S r1.1) c n)) o) : q_Ru (q_TBs z L xs) 20 375 (23, [(4, .int i), (3, .ref 270), (2, .ref 236), (1, .ref 64), (0, .ref 0)], [], (q_kL S c n)) o := by
  refine q_Ru_seg (g2 := (29, [(4, .int i), (3, .ref 270), (2, .ref 236), (1, .ref 64), (0, .ref 0)], [.int ((Int32.ofNat L) - 4), .int i], (q_kL S c n))) 5 (fun _ _ => rfl) ?_
  refine q_Ru_rsF (g2 := (32, [(4, .int i), (3, .ref 270), (2, .ref 236), (1, .ref 64), (0, .ref 0)], [], (q_kL S c n))) rfl rfl hi ?_
  refine q_Ru_seg (g2 := (35, [(4, .int i), (3, .ref 270), (2, .ref 236), (1, .ref 64), (0, .ref 0)], [.int i, .ref 0], (q_kL S c n))) 2 (fun _ _ => rfl) ?_
  refine q_Ru_rsT (g2 := (36, [(4, .int i), (3, .ref 270), (2, .ref 236), (1, .ref 64), (0, .ref 0)], [.int (xs (i.toNatClampNeg))], (q_kL S c n))) rfl rfl hx0 ?_
  refine q_Ru_seg (g2 := (39, [(4, .int i), (3, .ref 270), (2, .ref 236), (1, .ref 64), (0, .ref 0)], [.int ((xs (i.toNatClampNeg)) &&& 63)], (q_kL S c n))) 2 (fun _ _ => rfl) ?_
  rw [hv]
  refine q_Ru_seg (g2 := (772, [(4, .int i), (3, .ref 270), (2, .ref 236), (1, .ref 64), (0, .ref 0)], [.ref 64], (q_kL S c n))) 2 (fun _ _ => rfl) ?_
  refine q_Ru_call (v := (some (.int (q_b r0)))) (h2 := (q_kL S c n)) rfl rfl ?_ ?_
  · exact (q_emXLp rfl (fun _ => rfl) (dzt_X48_64 z L xs (q_vw 172 0 206 S) c n r0 er0)).le (Nat.le_of_ble_eq_true rfl)
  show q_Ru _ _ _ (775, [(4, .int i), (3, .ref 270), (2, .ref 236), (1, .ref 64), (0, .ref 0)], [.int (q_b r0)], (q_kL S c n)) _
  refine q_Ru_seg (g2 := (777, [(4, .int i), (3, .ref 270), (2, .ref 236), (1, .ref 64), (0, .ref 0)], [.ref 236], (q_kL S c n))) 2 (fun _ _ => rfl) ?_
  refine q_Ru_call (v := (some (.int (q_b r1.2)))) (h2 := (q_kL (q_pt 34 0 172 0 S r1.1) c n)) rfl rfl ?_ ?_
  · exact (q_emML rfl (fun _ => rfl) ((dzt_M241_64 (q_vw 34 172 0 S) c n r1 er1).tb q_TB0_le)).le (Nat.le_of_ble_eq_true rfl)
  show q_Ru _ _ _ (780, [(4, .int i), (3, .ref 270), (2, .ref 236), (1, .ref 64), (0, .ref 0)], [.int (q_b r1.2)], (q_kL (q_pt 34 0 172 0 S r1.1) c n)) _
  refine q_Ru_seg (g2 := (23, [(4, .int (i + 4)), (3, .ref 270), (2, .ref 236), (1, .ref 64), (0, .ref 0)], [], (q_kL (q_pt 34 0 172 0 S r1.1) c n))) 4 (fun _ _ => rfl) ?_
  exact q_Ru_xt (q_xt_mk (q_mn1 0 rfl (q_mn1 1 rfl (q_mn1 2 rfl (q_mn1 3 rfl (q_mn1 4 rfl q_mn0))))) rfl) h
set_option maxHeartbeats 4000000 in
theorem q_lw21 (z L : Nat) (xs : Nat → Int32) (S : q_S) (c n : Nat) (i : Int32) (hx0 : q_in i L = true) (hx1 : q_in (i + 1) L = true) (hx2 : q_in (i + 2) L = true) (hx3 : q_in (i + 3) L = true) (hi : decide (Int32.ofNat L - 4 < i) = false) (hv : xs i.toNatClampNeg &&& 63 = 21) (r0 : q_S × Int32 × Nat) (er0 : dz_X13_64_236 (q_vw 172 0 206 S) (xs ((i + 1).toNatClampNeg)) = r0) (r1 : q_S × Int32) (er1 : dz_M242_64 (q_vw 34 172 0 (q_pt 172 1 0 206 S r0.1)) (xs ((i + 1).toNatClampNeg)) = some r1) {o : q_Out} (h : q_Ru (q_TBs z L xs) 20 375 (23, [(4, .int (i + 4)), (3, .ref 270), (2, .ref 236), (1, .ref 64), (0, .ref 0)], [], (q_kL (q_pt 34 0 172 0 (q_pt 172 1 0 206 S r0.1) r1.1) (c + r0.2.2) (n + 6 * r0.2.2))) o) : q_Ru (q_TBs z L xs) 20 375 (23, [(4, .int i), (3, .ref 270), (2, .ref 236), (1, .ref 64), (0, .ref 0)], [], (q_kL S c n)) o := by
  refine q_Ru_seg (g2 := (29, [(4, .int i), (3, .ref 270), (2, .ref 236), (1, .ref 64), (0, .ref 0)], [.int ((Int32.ofNat L) - 4), .int i], (q_kL S c n))) 5 (fun _ _ => rfl) ?_
  refine q_Ru_rsF (g2 := (32, [(4, .int i), (3, .ref 270), (2, .ref 236), (1, .ref 64), (0, .ref 0)], [], (q_kL S c n))) rfl rfl hi ?_
  refine q_Ru_seg (g2 := (35, [(4, .int i), (3, .ref 270), (2, .ref 236), (1, .ref 64), (0, .ref 0)], [.int i, .ref 0], (q_kL S c n))) 2 (fun _ _ => rfl) ?_
  refine q_Ru_rsT (g2 := (36, [(4, .int i), (3, .ref 270), (2, .ref 236), (1, .ref 64), (0, .ref 0)], [.int (xs (i.toNatClampNeg))], (q_kL S c n))) rfl rfl hx0 ?_
  refine q_Ru_seg (g2 := (39, [(4, .int i), (3, .ref 270), (2, .ref 236), (1, .ref 64), (0, .ref 0)], [.int ((xs (i.toNatClampNeg)) &&& 63)], (q_kL S c n))) 2 (fun _ _ => rfl) ?_
  rw [hv]
  refine q_Ru_seg (g2 := (790, [(4, .int i), (3, .ref 270), (2, .ref 236), (1, .ref 64), (0, .ref 0)], [.int (i + 1), .ref 0, .ref 64], (q_kL S c n))) 6 (fun _ _ => rfl) ?_
  refine q_Ru_rsT (g2 := (791, [(4, .int i), (3, .ref 270), (2, .ref 236), (1, .ref 64), (0, .ref 0)], [.int (xs ((i + 1).toNatClampNeg)), .ref 64], (q_kL S c n))) rfl rfl hx1 ?_
  refine q_Ru_seg (g2 := (792, [(4, .int i), (3, .ref 270), (2, .ref 236), (1, .ref 64), (0, .ref 0)], [.ref 270, .int (xs ((i + 1).toNatClampNeg)), .ref 64], (q_kL S c n))) 1 (fun _ _ => rfl) ?_
  refine q_Ru_call (v := (some (.int r0.2.1))) (h2 := (q_kL (q_pt 172 1 0 206 S r0.1) (c + r0.2.2) (n + 6 * r0.2.2))) rfl rfl ?_ ?_
  · exact (q_emXL rfl (fun _ => rfl) (q_cE (φ := (q_oEX c n)) er0 (dzt_X13_64_236 z L xs (q_vw 172 0 206 S) c n (xs ((i + 1).toNatClampNeg))))).le (Nat.le_of_ble_eq_true rfl)
  show q_Ru _ _ _ (795, [(4, .int i), (3, .ref 270), (2, .ref 236), (1, .ref 64), (0, .ref 0)], [.int r0.2.1], (q_kL (q_pt 172 1 0 206 S r0.1) (c + r0.2.2) (n + 6 * r0.2.2))) _
  refine q_Ru_seg (g2 := (803, [(5, .int r0.2.1), (4, .int i), (3, .ref 270), (2, .ref 236), (1, .ref 64), (0, .ref 0)], [.int (i + 1), .ref 0, .ref 236], (q_kL (q_pt 172 1 0 206 S r0.1) (c + r0.2.2) (n + 6 * r0.2.2)))) 6 (fun _ _ => rfl) ?_
  refine q_Ru_rsT (g2 := (804, [(5, .int r0.2.1), (4, .int i), (3, .ref 270), (2, .ref 236), (1, .ref 64), (0, .ref 0)], [.int (xs ((i + 1).toNatClampNeg)), .ref 236], (q_kL (q_pt 172 1 0 206 S r0.1) (c + r0.2.2) (n + 6 * r0.2.2)))) rfl rfl hx1 ?_
  refine q_Ru_call (v := (some (.int r1.2))) (h2 := (q_kL (q_pt 34 0 172 0 (q_pt 172 1 0 206 S r0.1) r1.1) (c + r0.2.2) (n + 6 * r0.2.2))) rfl rfl ?_ ?_
  · exact (q_emML rfl (fun _ => rfl) ((dzt_M242_64 (q_vw 34 172 0 (q_pt 172 1 0 206 S r0.1)) (c + r0.2.2) (n + 6 * r0.2.2) (xs ((i + 1).toNatClampNeg)) r1 er1).tb q_TB0_le)).le (Nat.le_of_ble_eq_true rfl)
  show q_Ru _ _ _ (807, [(5, .int r0.2.1), (4, .int i), (3, .ref 270), (2, .ref 236), (1, .ref 64), (0, .ref 0)], [.int r1.2], (q_kL (q_pt 34 0 172 0 (q_pt 172 1 0 206 S r0.1) r1.1) (c + r0.2.2) (n + 6 * r0.2.2))) _
  refine q_Ru_seg (g2 := (23, [(4, .int (i + 4)), (6, .int r1.2), (5, .int r0.2.1), (3, .ref 270), (2, .ref 236), (1, .ref 64), (0, .ref 0)], [], (q_kL (q_pt 34 0 172 0 (q_pt 172 1 0 206 S r0.1) r1.1) (c + r0.2.2) (n + 6 * r0.2.2)))) 4 (fun _ _ => rfl) ?_
  exact q_Ru_xt (q_xt_mk (q_mn1 0 rfl (q_mn1 3 rfl (q_mn1 4 rfl (q_mn1 5 rfl (q_mn1 6 rfl q_mn0))))) rfl) h
set_option maxHeartbeats 4000000 in
theorem q_lw22 (z L : Nat) (xs : Nat → Int32) (S : q_S) (c n : Nat) (i : Int32) (hx0 : q_in i L = true) (hx1 : q_in (i + 1) L = true) (hx2 : q_in (i + 2) L = true) (hx3 : q_in (i + 3) L = true) (hi : decide (Int32.ofNat L - 4 < i) = false) (hv : xs i.toNatClampNeg &&& 63 = 22) (r0 : q_S × Int32 × Nat) (er0 : dz_X14_64_236 (q_vw 172 0 206 S) (xs ((i + 1).toNatClampNeg)) (xs ((i + 2).toNatClampNeg)) = r0) (r1 : q_S × Int32) (er1 : dz_M293_64 (q_vw 34 172 0 (q_pt 172 1 0 206 S r0.1)) (xs ((i + 1).toNatClampNeg)) (xs ((i + 2).toNatClampNeg)) = some r1) {o : q_Out} (h : q_Ru (q_TBs z L xs) 20 375 (23, [(4, .int (i + 4)), (3, .ref 270), (2, .ref 236), (1, .ref 64), (0, .ref 0)], [], (q_kL (q_pt 34 0 172 0 (q_pt 172 1 0 206 S r0.1) r1.1) (c + r0.2.2) (n + 6 * r0.2.2))) o) : q_Ru (q_TBs z L xs) 20 375 (23, [(4, .int i), (3, .ref 270), (2, .ref 236), (1, .ref 64), (0, .ref 0)], [], (q_kL S c n)) o := by
  refine q_Ru_seg (g2 := (29, [(4, .int i), (3, .ref 270), (2, .ref 236), (1, .ref 64), (0, .ref 0)], [.int ((Int32.ofNat L) - 4), .int i], (q_kL S c n))) 5 (fun _ _ => rfl) ?_
  refine q_Ru_rsF (g2 := (32, [(4, .int i), (3, .ref 270), (2, .ref 236), (1, .ref 64), (0, .ref 0)], [], (q_kL S c n))) rfl rfl hi ?_
  refine q_Ru_seg (g2 := (35, [(4, .int i), (3, .ref 270), (2, .ref 236), (1, .ref 64), (0, .ref 0)], [.int i, .ref 0], (q_kL S c n))) 2 (fun _ _ => rfl) ?_
  refine q_Ru_rsT (g2 := (36, [(4, .int i), (3, .ref 270), (2, .ref 236), (1, .ref 64), (0, .ref 0)], [.int (xs (i.toNatClampNeg))], (q_kL S c n))) rfl rfl hx0 ?_
  refine q_Ru_seg (g2 := (39, [(4, .int i), (3, .ref 270), (2, .ref 236), (1, .ref 64), (0, .ref 0)], [.int ((xs (i.toNatClampNeg)) &&& 63)], (q_kL S c n))) 2 (fun _ _ => rfl) ?_
  rw [hv]
  refine q_Ru_seg (g2 := (818, [(4, .int i), (3, .ref 270), (2, .ref 236), (1, .ref 64), (0, .ref 0)], [.int (i + 1), .ref 0, .ref 64], (q_kL S c n))) 6 (fun _ _ => rfl) ?_
  refine q_Ru_rsT (g2 := (819, [(4, .int i), (3, .ref 270), (2, .ref 236), (1, .ref 64), (0, .ref 0)], [.int (xs ((i + 1).toNatClampNeg)), .ref 64], (q_kL S c n))) rfl rfl hx1 ?_
  refine q_Ru_seg (g2 := (824, [(4, .int i), (3, .ref 270), (2, .ref 236), (1, .ref 64), (0, .ref 0)], [.int (i + 2), .ref 0, .int (xs ((i + 1).toNatClampNeg)), .ref 64], (q_kL S c n))) 4 (fun _ _ => rfl) ?_
  refine q_Ru_rsT (g2 := (825, [(4, .int i), (3, .ref 270), (2, .ref 236), (1, .ref 64), (0, .ref 0)], [.int (xs ((i + 2).toNatClampNeg)), .int (xs ((i + 1).toNatClampNeg)), .ref 64], (q_kL S c n))) rfl rfl hx2 ?_
  refine q_Ru_seg (g2 := (826, [(4, .int i), (3, .ref 270), (2, .ref 236), (1, .ref 64), (0, .ref 0)], [.ref 270, .int (xs ((i + 2).toNatClampNeg)), .int (xs ((i + 1).toNatClampNeg)), .ref 64], (q_kL S c n))) 1 (fun _ _ => rfl) ?_
  refine q_Ru_call (v := (some (.int r0.2.1))) (h2 := (q_kL (q_pt 172 1 0 206 S r0.1) (c + r0.2.2) (n + 6 * r0.2.2))) rfl rfl ?_ ?_
  · exact (q_emXL rfl (fun _ => rfl) (q_cE (φ := (q_oEX c n)) er0 (dzt_X14_64_236 z L xs (q_vw 172 0 206 S) c n (xs ((i + 1).toNatClampNeg)) (xs ((i + 2).toNatClampNeg))))).le (Nat.le_of_ble_eq_true rfl)
  show q_Ru _ _ _ (829, [(4, .int i), (3, .ref 270), (2, .ref 236), (1, .ref 64), (0, .ref 0)], [.int r0.2.1], (q_kL (q_pt 172 1 0 206 S r0.1) (c + r0.2.2) (n + 6 * r0.2.2))) _
  refine q_Ru_seg (g2 := (837, [(5, .int r0.2.1), (4, .int i), (3, .ref 270), (2, .ref 236), (1, .ref 64), (0, .ref 0)], [.int (i + 1), .ref 0, .ref 236], (q_kL (q_pt 172 1 0 206 S r0.1) (c + r0.2.2) (n + 6 * r0.2.2)))) 6 (fun _ _ => rfl) ?_
  refine q_Ru_rsT (g2 := (838, [(5, .int r0.2.1), (4, .int i), (3, .ref 270), (2, .ref 236), (1, .ref 64), (0, .ref 0)], [.int (xs ((i + 1).toNatClampNeg)), .ref 236], (q_kL (q_pt 172 1 0 206 S r0.1) (c + r0.2.2) (n + 6 * r0.2.2)))) rfl rfl hx1 ?_
  refine q_Ru_seg (g2 := (843, [(5, .int r0.2.1), (4, .int i), (3, .ref 270), (2, .ref 236), (1, .ref 64), (0, .ref 0)], [.int (i + 2), .ref 0, .int (xs ((i + 1).toNatClampNeg)), .ref 236], (q_kL (q_pt 172 1 0 206 S r0.1) (c + r0.2.2) (n + 6 * r0.2.2)))) 4 (fun _ _ => rfl) ?_
  refine q_Ru_rsT (g2 := (844, [(5, .int r0.2.1), (4, .int i), (3, .ref 270), (2, .ref 236), (1, .ref 64), (0, .ref 0)], [.int (xs ((i + 2).toNatClampNeg)), .int (xs ((i + 1).toNatClampNeg)), .ref 236], (q_kL (q_pt 172 1 0 206 S r0.1) (c + r0.2.2) (n + 6 * r0.2.2)))) rfl rfl hx2 ?_
  refine q_Ru_call (v := (some (.int r1.2))) (h2 := (q_kL (q_pt 34 0 172 0 (q_pt 172 1 0 206 S r0.1) r1.1) (c + r0.2.2) (n + 6 * r0.2.2))) rfl rfl ?_ ?_
  · exact (q_emML rfl (fun _ => rfl) ((dzt_M293_64 (q_vw 34 172 0 (q_pt 172 1 0 206 S r0.1)) (c + r0.2.2) (n + 6 * r0.2.2) (xs ((i + 1).toNatClampNeg)) (xs ((i + 2).toNatClampNeg)) r1 er1).tb q_TB0_le)).le (Nat.le_of_ble_eq_true rfl)
  show q_Ru _ _ _ (847, [(5, .int r0.2.1), (4, .int i), (3, .ref 270), (2, .ref 236), (1, .ref 64), (0, .ref 0)], [.int r1.2], (q_kL (q_pt 34 0 172 0 (q_pt 172 1 0 206 S r0.1) r1.1) (c + r0.2.2) (n + 6 * r0.2.2))) _
  refine q_Ru_seg (g2 := (23, [(4, .int (i + 4)), (6, .int r1.2), (5, .int r0.2.1), (3, .ref 270), (2, .ref 236), (1, .ref 64), (0, .ref 0)], [], (q_kL (q_pt 34 0 172 0 (q_pt 172 1 0 206 S r0.1) r1.1) (c + r0.2.2) (n + 6 * r0.2.2)))) 4 (fun _ _ => rfl) ?_
  exact q_Ru_xt (q_xt_mk (q_mn1 0 rfl (q_mn1 3 rfl (q_mn1 4 rfl (q_mn1 5 rfl (q_mn1 6 rfl q_mn0))))) rfl) h
set_option maxHeartbeats 4000000 in
theorem q_lw23 (z L : Nat) (xs : Nat → Int32) (S : q_S) (c n : Nat) (i : Int32) (hx0 : q_in i L = true) (hx1 : q_in (i + 1) L = true) (hx2 : q_in (i + 2) L = true) (hx3 : q_in (i + 3) L = true) (hi : decide (Int32.ofNat L - 4 < i) = false) (hv : xs i.toNatClampNeg &&& 63 = 23) (r0 : q_S × Int32 × Nat) (er0 : dz_X15_64_236 (q_vw 172 0 206 S) (xs ((i + 1).toNatClampNeg)) (xs ((i + 2).toNatClampNeg)) = some r0) (r1 : q_S × Int32) (er1 : dz_M294_64 (q_vw 34 172 0 (q_pt 172 1 0 206 S r0.1)) (xs ((i + 1).toNatClampNeg)) (xs ((i + 2).toNatClampNeg)) = some r1) {o : q_Out} (h : q_Ru (q_TBs z L xs) 20 375 (23, [(4, .int (i + 4)), (3, .ref 270), (2, .ref 236), (1, .ref 64), (0, .ref 0)], [], (q_kL (q_pt 34 0 172 0 (q_pt 172 1 0 206 S r0.1) r1.1) (c + r0.2.2) (n + 6 * r0.2.2))) o) : q_Ru (q_TBs z L xs) 20 375 (23, [(4, .int i), (3, .ref 270), (2, .ref 236), (1, .ref 64), (0, .ref 0)], [], (q_kL S c n)) o := by
  refine q_Ru_seg (g2 := (29, [(4, .int i), (3, .ref 270), (2, .ref 236), (1, .ref 64), (0, .ref 0)], [.int ((Int32.ofNat L) - 4), .int i], (q_kL S c n))) 5 (fun _ _ => rfl) ?_
  refine q_Ru_rsF (g2 := (32, [(4, .int i), (3, .ref 270), (2, .ref 236), (1, .ref 64), (0, .ref 0)], [], (q_kL S c n))) rfl rfl hi ?_
  refine q_Ru_seg (g2 := (35, [(4, .int i), (3, .ref 270), (2, .ref 236), (1, .ref 64), (0, .ref 0)], [.int i, .ref 0], (q_kL S c n))) 2 (fun _ _ => rfl) ?_
  refine q_Ru_rsT (g2 := (36, [(4, .int i), (3, .ref 270), (2, .ref 236), (1, .ref 64), (0, .ref 0)], [.int (xs (i.toNatClampNeg))], (q_kL S c n))) rfl rfl hx0 ?_
  refine q_Ru_seg (g2 := (39, [(4, .int i), (3, .ref 270), (2, .ref 236), (1, .ref 64), (0, .ref 0)], [.int ((xs (i.toNatClampNeg)) &&& 63)], (q_kL S c n))) 2 (fun _ _ => rfl) ?_
  rw [hv]
  refine q_Ru_seg (g2 := (858, [(4, .int i), (3, .ref 270), (2, .ref 236), (1, .ref 64), (0, .ref 0)], [.int (i + 1), .ref 0, .ref 64], (q_kL S c n))) 6 (fun _ _ => rfl) ?_
  refine q_Ru_rsT (g2 := (859, [(4, .int i), (3, .ref 270), (2, .ref 236), (1, .ref 64), (0, .ref 0)], [.int (xs ((i + 1).toNatClampNeg)), .ref 64], (q_kL S c n))) rfl rfl hx1 ?_
  refine q_Ru_seg (g2 := (864, [(4, .int i), (3, .ref 270), (2, .ref 236), (1, .ref 64), (0, .ref 0)], [.int (i + 2), .ref 0, .int (xs ((i + 1).toNatClampNeg)), .ref 64], (q_kL S c n))) 4 (fun _ _ => rfl) ?_
  refine q_Ru_rsT (g2 := (865, [(4, .int i), (3, .ref 270), (2, .ref 236), (1, .ref 64), (0, .ref 0)], [.int (xs ((i + 2).toNatClampNeg)), .int (xs ((i + 1).toNatClampNeg)), .ref 64], (q_kL S c n))) rfl rfl hx2 ?_
  refine q_Ru_seg (g2 := (866, [(4, .int i), (3, .ref 270), (2, .ref 236), (1, .ref 64), (0, .ref 0)], [.ref 270, .int (xs ((i + 2).toNatClampNeg)), .int (xs ((i + 1).toNatClampNeg)), .ref 64], (q_kL S c n))) 1 (fun _ _ => rfl) ?_
  refine q_Ru_call (v := (some (.int r0.2.1))) (h2 := (q_kL (q_pt 172 1 0 206 S r0.1) (c + r0.2.2) (n + 6 * r0.2.2))) rfl rfl ?_ ?_
  · exact (q_emXL rfl (fun _ => rfl) (dzt_X15_64_236 z L xs (q_vw 172 0 206 S) c n (xs ((i + 1).toNatClampNeg)) (xs ((i + 2).toNatClampNeg)) r0 er0)).le (Nat.le_of_ble_eq_true rfl)
  show q_Ru _ _ _ (869, [(4, .int i), (3, .ref 270), (2, .ref 236), (1, .ref 64), (0, .ref 0)], [.int r0.2.1], (q_kL (q_pt 172 1 0 206 S r0.1) (c + r0.2.2) (n + 6 * r0.2.2))) _
  refine q_Ru_seg (g2 := (877, [(5, .int r0.2.1), (4, .int i), (3, .ref 270), (2, .ref 236), (1, .ref 64), (0, .ref 0)], [.int (i + 1), .ref 0, .ref 236], (q_kL (q_pt 172 1 0 206 S r0.1) (c + r0.2.2) (n + 6 * r0.2.2)))) 6 (fun _ _ => rfl) ?_
  refine q_Ru_rsT (g2 := (878, [(5, .int r0.2.1), (4, .int i), (3, .ref 270), (2, .ref 236), (1, .ref 64), (0, .ref 0)], [.int (xs ((i + 1).toNatClampNeg)), .ref 236], (q_kL (q_pt 172 1 0 206 S r0.1) (c + r0.2.2) (n + 6 * r0.2.2)))) rfl rfl hx1 ?_
  refine q_Ru_seg (g2 := (883, [(5, .int r0.2.1), (4, .int i), (3, .ref 270), (2, .ref 236), (1, .ref 64), (0, .ref 0)], [.int (i + 2), .ref 0, .int (xs ((i + 1).toNatClampNeg)), .ref 236], (q_kL (q_pt 172 1 0 206 S r0.1) (c + r0.2.2) (n + 6 * r0.2.2)))) 4 (fun _ _ => rfl) ?_
  refine q_Ru_rsT (g2 := (884, [(5, .int r0.2.1), (4, .int i), (3, .ref 270), (2, .ref 236), (1, .ref 64), (0, .ref 0)], [.int (xs ((i + 2).toNatClampNeg)), .int (xs ((i + 1).toNatClampNeg)), .ref 236], (q_kL (q_pt 172 1 0 206 S r0.1) (c + r0.2.2) (n + 6 * r0.2.2)))) rfl rfl hx2 ?_
  refine q_Ru_call (v := (some (.int r1.2))) (h2 := (q_kL (q_pt 34 0 172 0 (q_pt 172 1 0 206 S r0.1) r1.1) (c + r0.2.2) (n + 6 * r0.2.2))) rfl rfl ?_ ?_
  · exact (q_emML rfl (fun _ => rfl) ((dzt_M294_64 (q_vw 34 172 0 (q_pt 172 1 0 206 S r0.1)) (c + r0.2.2) (n + 6 * r0.2.2) (xs ((i + 1).toNatClampNeg)) (xs ((i + 2).toNatClampNeg)) r1 er1).tb q_TB0_le)).le (Nat.le_of_ble_eq_true rfl)
  show q_Ru _ _ _ (887, [(5, .int r0.2.1), (4, .int i), (3, .ref 270), (2, .ref 236), (1, .ref 64), (0, .ref 0)], [.int r1.2], (q_kL (q_pt 34 0 172 0 (q_pt 172 1 0 206 S r0.1) r1.1) (c + r0.2.2) (n + 6 * r0.2.2))) _
  refine q_Ru_seg (g2 := (23, [(4, .int (i + 4)), (6, .int r1.2), (5, .int r0.2.1), (3, .ref 270), (2, .ref 236), (1, .ref 64), (0, .ref 0)], [], (q_kL (q_pt 34 0 172 0 (q_pt 172 1 0 206 S r0.1) r1.1) (c + r0.2.2) (n + 6 * r0.2.2)))) 4 (fun _ _ => rfl) ?_
  exact q_Ru_xt (q_xt_mk (q_mn1 0 rfl (q_mn1 3 rfl (q_mn1 4 rfl (q_mn1 5 rfl (q_mn1 6 rfl q_mn0))))) rfl) h
set_option maxHeartbeats 4000000 in
theorem q_lw24 (z L : Nat) (xs : Nat → Int32) (S : q_S) (c n : Nat) (i : Int32) (hx0 : q_in i L = true) (hx1 : q_in (i + 1) L = true) (hx2 : q_in (i + 2) L = true) (hx3 : q_in (i + 3) L = true) (hi : decide (Int32.ofNat L - 4 < i) = false) (hv : xs i.toNatClampNeg &&& 63 = 24) (r0 : q_S × Int32 × Nat) (er0 : dz_X16_64_236 (q_vw 172 0 206 S) (xs ((i + 1).toNatClampNeg)) = r0) (r1 : q_S × Int32) (er1 : dz_M295_64 (q_vw 34 172 0 (q_pt 172 1 0 206 S r0.1)) (xs ((i + 1).toNatClampNeg)) = some r1) {o : q_Out} (h : q_Ru (q_TBs z L xs) 20 375 (23, [(4, .int (i + 4)), (3, .ref 270), (2, .ref 236), (1, .ref 64), (0, .ref 0)], [], (q_kL (q_pt 34 0 172 0 (q_pt 172 1 0 206 S r0.1) r1.1) (c + r0.2.2) (n + 6 * r0.2.2))) o) : q_Ru (q_TBs z L xs) 20 375 (23, [(4, .int i), (3, .ref 270), (2, .ref 236), (1, .ref 64), (0, .ref 0)], [], (q_kL S c n)) o := by
  refine q_Ru_seg (g2 := (29, [(4, .int i), (3, .ref 270), (2, .ref 236), (1, .ref 64), (0, .ref 0)], [.int ((Int32.ofNat L) - 4), .int i], (q_kL S c n))) 5 (fun _ _ => rfl) ?_
  refine q_Ru_rsF (g2 := (32, [(4, .int i), (3, .ref 270), (2, .ref 236), (1, .ref 64), (0, .ref 0)], [], (q_kL S c n))) rfl rfl hi ?_
  refine q_Ru_seg (g2 := (35, [(4, .int i), (3, .ref 270), (2, .ref 236), (1, .ref 64), (0, .ref 0)], [.int i, .ref 0], (q_kL S c n))) 2 (fun _ _ => rfl) ?_
  refine q_Ru_rsT (g2 := (36, [(4, .int i), (3, .ref 270), (2, .ref 236), (1, .ref 64), (0, .ref 0)], [.int (xs (i.toNatClampNeg))], (q_kL S c n))) rfl rfl hx0 ?_
  refine q_Ru_seg (g2 := (39, [(4, .int i), (3, .ref 270), (2, .ref 236), (1, .ref 64), (0, .ref 0)], [.int ((xs (i.toNatClampNeg)) &&& 63)], (q_kL S c n))) 2 (fun _ _ => rfl) ?_
  rw [hv]
  refine q_Ru_seg (g2 := (898, [(4, .int i), (3, .ref 270), (2, .ref 236), (1, .ref 64), (0, .ref 0)], [.int (i + 1), .ref 0, .ref 64], (q_kL S c n))) 6 (fun _ _ => rfl) ?_
  refine q_Ru_rsT (g2 := (899, [(4, .int i), (3, .ref 270), (2, .ref 236), (1, .ref 64), (0, .ref 0)], [.int (xs ((i + 1).toNatClampNeg)), .ref 64], (q_kL S c n))) rfl rfl hx1 ?_
  refine q_Ru_seg (g2 := (900, [(4, .int i), (3, .ref 270), (2, .ref 236), (1, .ref 64), (0, .ref 0)], [.ref 270, .int (xs ((i + 1).toNatClampNeg)), .ref 64], (q_kL S c n))) 1 (fun _ _ => rfl) ?_
  refine q_Ru_call (v := (some (.int r0.2.1))) (h2 := (q_kL (q_pt 172 1 0 206 S r0.1) (c + r0.2.2) (n + 6 * r0.2.2))) rfl rfl ?_ ?_
  · exact (q_emXL rfl (fun _ => rfl) (q_cE (φ := (q_oEX c n)) er0 (dzt_X16_64_236 z L xs (q_vw 172 0 206 S) c n (xs ((i + 1).toNatClampNeg))))).le (Nat.le_of_ble_eq_true rfl)
  show q_Ru _ _ _ (903, [(4, .int i), (3, .ref 270), (2, .ref 236), (1, .ref 64), (0, .ref 0)], [.int r0.2.1], (q_kL (q_pt 172 1 0 206 S r0.1) (c + r0.2.2) (n + 6 * r0.2.2))) _
  refine q_Ru_seg (g2 := (911, [(5, .int r0.2.1), (4, .int i), (3, .ref 270), (2, .ref 236), (1, .ref 64), (0, .ref 0)], [.int (i + 1), .ref 0, .ref 236], (q_kL (q_pt 172 1 0 206 S r0.1) (c + r0.2.2) (n + 6 * r0.2.2)))) 6 (fun _ _ => rfl) ?_
  refine q_Ru_rsT (g2 := (912, [(5, .int r0.2.1), (4, .int i), (3, .ref 270), (2, .ref 236), (1, .ref 64), (0, .ref 0)], [.int (xs ((i + 1).toNatClampNeg)), .ref 236], (q_kL (q_pt 172 1 0 206 S r0.1) (c + r0.2.2) (n + 6 * r0.2.2)))) rfl rfl hx1 ?_
  refine q_Ru_call (v := (some (.int r1.2))) (h2 := (q_kL (q_pt 34 0 172 0 (q_pt 172 1 0 206 S r0.1) r1.1) (c + r0.2.2) (n + 6 * r0.2.2))) rfl rfl ?_ ?_
  · exact (q_emML rfl (fun _ => rfl) ((dzt_M295_64 (q_vw 34 172 0 (q_pt 172 1 0 206 S r0.1)) (c + r0.2.2) (n + 6 * r0.2.2) (xs ((i + 1).toNatClampNeg)) r1 er1).tb q_TB0_le)).le (Nat.le_of_ble_eq_true rfl)
  show q_Ru _ _ _ (915, [(5, .int r0.2.1), (4, .int i), (3, .ref 270), (2, .ref 236), (1, .ref 64), (0, .ref 0)], [.int r1.2], (q_kL (q_pt 34 0 172 0 (q_pt 172 1 0 206 S r0.1) r1.1) (c + r0.2.2) (n + 6 * r0.2.2))) _
  refine q_Ru_seg (g2 := (23, [(4, .int (i + 4)), (6, .int r1.2), (5, .int r0.2.1), (3, .ref 270), (2, .ref 236), (1, .ref 64), (0, .ref 0)], [], (q_kL (q_pt 34 0 172 0 (q_pt 172 1 0 206 S r0.1) r1.1) (c + r0.2.2) (n + 6 * r0.2.2)))) 4 (fun _ _ => rfl) ?_
  exact q_Ru_xt (q_xt_mk (q_mn1 0 rfl (q_mn1 3 rfl (q_mn1 4 rfl (q_mn1 5 rfl (q_mn1 6 rfl q_mn0))))) rfl) h
set_option maxHeartbeats 4000000 in
theorem q_lw25 (z L : Nat) (xs : Nat → Int32) (S : q_S) (c n : Nat) (i : Int32) (hx0 : q_in i L = true) (hx1 : q_in (i + 1) L = true) (hx2 : q_in (i + 2) L = true) (hx3 : q_in (i + 3) L = true) (hi : decide (Int32.ofNat L - 4 < i) = false) (hv : xs i.toNatClampNeg &&& 63 = 25) (r0 : q_S × Int32 × Nat) (er0 : dz_X17_64_236 (q_vw 172 0 206 S) (xs ((i + 1).toNatClampNeg)) = r0) (r1 : q_S × Int32) (er1 : dz_M296_64 (q_vw 34 172 0 (q_pt 172 1 0 206 S r0.1)) (xs ((i + 1).toNatClampNeg)) = some r1) {o : q_Out} (h : q_Ru (q_TBs z L xs) 20 375 (23, [(4, .int (i + 4)), (3, .ref 270), (2, .ref 236), (1, .ref 64), (0, .ref 0)], [], (q_kL (q_pt 34 0 172 0 (q_pt 172 1 0 206 S r0.1) r1.1) (c + r0.2.2) (n + 6 * r0.2.2))) o) : q_Ru (q_TBs z L xs) 20 375 (23, [(4, .int i), (3, .ref 270), (2, .ref 236), (1, .ref 64), (0, .ref 0)], [], (q_kL S c n)) o := by
  refine q_Ru_seg (g2 := (29, [(4, .int i), (3, .ref 270), (2, .ref 236), (1, .ref 64), (0, .ref 0)], [.int ((Int32.ofNat L) - 4), .int i], (q_kL S c n))) 5 (fun _ _ => rfl) ?_
  refine q_Ru_rsF (g2 := (32, [(4, .int i), (3, .ref 270), (2, .ref 236), (1, .ref 64), (0, .ref 0)], [], (q_kL S c n))) rfl rfl hi ?_
  refine q_Ru_seg (g2 := (35, [(4, .int i), (3, .ref 270), (2, .ref 236), (1, .ref 64), (0, .ref 0)], [.int i, .ref 0], (q_kL S c n))) 2 (fun _ _ => rfl) ?_
  refine q_Ru_rsT (g2 := (36, [(4, .int i), (3, .ref 270), (2, .ref 236), (1, .ref 64), (0, .ref 0)], [.int (xs (i.toNatClampNeg))], (q_kL S c n))) rfl rfl hx0 ?_
  refine q_Ru_seg (g2 := (39, [(4, .int i), (3, .ref 270), (2, .ref 236), (1, .ref 64), (0, .ref 0)], [.int ((xs (i.toNatClampNeg)) &&& 63)], (q_kL S c n))) 2 (fun _ _ => rfl) ?_
  rw [hv]
  refine q_Ru_seg (g2 := (926, [(4, .int i), (3, .ref 270), (2, .ref 236), (1, .ref 64), (0, .ref 0)], [.int (i + 1), .ref 0, .ref 64], (q_kL S c n))) 6 (fun _ _ => rfl) ?_
  refine q_Ru_rsT (g2 := (927, [(4, .int i), (3, .ref 270), (2, .ref 236), (1, .ref 64), (0, .ref 0)], [.int (xs ((i + 1).toNatClampNeg)), .ref 64], (q_kL S c n))) rfl rfl hx1 ?_
  refine q_Ru_seg (g2 := (928, [(4, .int i), (3, .ref 270), (2, .ref 236), (1, .ref 64), (0, .ref 0)], [.ref 270, .int (xs ((i + 1).toNatClampNeg)), .ref 64], (q_kL S c n))) 1 (fun _ _ => rfl) ?_
  refine q_Ru_call (v := (some (.int r0.2.1))) (h2 := (q_kL (q_pt 172 1 0 206 S r0.1) (c + r0.2.2) (n + 6 * r0.2.2))) rfl rfl ?_ ?_
  · exact (q_emXL rfl (fun _ => rfl) (q_cE (φ := (q_oEX c n)) er0 (dzt_X17_64_236 z L xs (q_vw 172 0 206 S) c n (xs ((i + 1).toNatClampNeg))))).le (Nat.le_of_ble_eq_true rfl)
  show q_Ru _ _ _ (931, [(4, .int i), (3, .ref 270), (2, .ref 236), (1, .ref 64), (0, .ref 0)], [.int r0.2.1], (q_kL (q_pt 172 1 0 206 S r0.1) (c + r0.2.2) (n + 6 * r0.2.2))) _
  refine q_Ru_seg (g2 := (939, [(5, .int r0.2.1), (4, .int i), (3, .ref 270), (2, .ref 236), (1, .ref 64), (0, .ref 0)], [.int (i + 1), .ref 0, .ref 236], (q_kL (q_pt 172 1 0 206 S r0.1) (c + r0.2.2) (n + 6 * r0.2.2)))) 6 (fun _ _ => rfl) ?_
  refine q_Ru_rsT (g2 := (940, [(5, .int r0.2.1), (4, .int i), (3, .ref 270), (2, .ref 236), (1, .ref 64), (0, .ref 0)], [.int (xs ((i + 1).toNatClampNeg)), .ref 236], (q_kL (q_pt 172 1 0 206 S r0.1) (c + r0.2.2) (n + 6 * r0.2.2)))) rfl rfl hx1 ?_
  refine q_Ru_call (v := (some (.int r1.2))) (h2 := (q_kL (q_pt 34 0 172 0 (q_pt 172 1 0 206 S r0.1) r1.1) (c + r0.2.2) (n + 6 * r0.2.2))) rfl rfl ?_ ?_
  · exact (q_emML rfl (fun _ => rfl) ((dzt_M296_64 (q_vw 34 172 0 (q_pt 172 1 0 206 S r0.1)) (c + r0.2.2) (n + 6 * r0.2.2) (xs ((i + 1).toNatClampNeg)) r1 er1).tb q_TB0_le)).le (Nat.le_of_ble_eq_true rfl)
  show q_Ru _ _ _ (943, [(5, .int r0.2.1), (4, .int i), (3, .ref 270), (2, .ref 236), (1, .ref 64), (0, .ref 0)], [.int r1.2], (q_kL (q_pt 34 0 172 0 (q_pt 172 1 0 206 S r0.1) r1.1) (c + r0.2.2) (n + 6 * r0.2.2))) _
  refine q_Ru_seg (g2 := (23, [(4, .int (i + 4)), (6, .int r1.2), (5, .int r0.2.1), (3, .ref 270), (2, .ref 236), (1, .ref 64), (0, .ref 0)], [], (q_kL (q_pt 34 0 172 0 (q_pt 172 1 0 206 S r0.1) r1.1) (c + r0.2.2) (n + 6 * r0.2.2)))) 4 (fun _ _ => rfl) ?_
  exact q_Ru_xt (q_xt_mk (q_mn1 0 rfl (q_mn1 3 rfl (q_mn1 4 rfl (q_mn1 5 rfl (q_mn1 6 rfl q_mn0))))) rfl) h
set_option maxHeartbeats 4000000 in
theorem q_lw26t (z L : Nat) (xs : Nat → Int32) (S : q_S) (c n : Nat) (i : Int32) (hx0 : q_in i L = true) (hx1 : q_in (i + 1) L = true) (hx2 : q_in (i + 2) L = true) (hx3 : q_in (i + 3) L = true) (hi : decide (Int32.ofNat L - 4 < i) = false) (hv : xs i.toNatClampNeg &&& 63 = 26) (r0 : q_S × Int32 × Nat) (er0 : dz_X18_64_f_236 (q_vw 172 0 206 S) (xs ((i + 1).toNatClampNeg)) (xs ((i + 2).toNatClampNeg)) = some r0) (r1 : q_S × Bool) (er1 : dz_M297_64 (q_vw 34 172 0 (q_pt 172 1 0 206 S r0.1)) (xs ((i + 1).toNatClampNeg)) (xs ((i + 2).toNatClampNeg)) 0 = some r1) (hc0 : decide (xs ((i + 3).toNatClampNeg) = 0) = true) {o : q_Out} (h : q_Ru (q_TBs z L xs) 20 375 (23, [(4, .int (i + 4)), (3, .ref 270), (2, .ref 236), (1, .ref 64), (0, .ref 0)], [], (q_kL (q_pt 34 0 172 0 (q_pt 172 1 0 206 S r0.1) r1.1) (c + r0.2.2) (n + 6 * r0.2.2))) o) : q_Ru (q_TBs z L xs) 20 375 (23, [(4, .int i), (3, .ref 270), (2, .ref 236), (1, .ref 64), (0, .ref 0)], [], (q_kL S c n)) o := by
  refine q_Ru_seg (g2 := (29, [(4, .int i), (3, .ref 270), (2, .ref 236), (1, .ref 64), (0, .ref 0)], [.int ((Int32.ofNat L) - 4), .int i], (q_kL S c n))) 5 (fun _ _ => rfl) ?_
  refine q_Ru_rsF (g2 := (32, [(4, .int i), (3, .ref 270), (2, .ref 236), (1, .ref 64), (0, .ref 0)], [], (q_kL S c n))) rfl rfl hi ?_
  refine q_Ru_seg (g2 := (35, [(4, .int i), (3, .ref 270), (2, .ref 236), (1, .ref 64), (0, .ref 0)], [.int i, .ref 0], (q_kL S c n))) 2 (fun _ _ => rfl) ?_
  refine q_Ru_rsT (g2 := (36, [(4, .int i), (3, .ref 270), (2, .ref 236), (1, .ref 64), (0, .ref 0)], [.int (xs (i.toNatClampNeg))], (q_kL S c n))) rfl rfl hx0 ?_
  refine q_Ru_seg (g2 := (39, [(4, .int i), (3, .ref 270), (2, .ref 236), (1, .ref 64), (0, .ref 0)], [.int ((xs (i.toNatClampNeg)) &&& 63)], (q_kL S c n))) 2 (fun _ _ => rfl) ?_
  rw [hv]
  refine q_Ru_seg (g2 := (954, [(4, .int i), (3, .ref 270), (2, .ref 236), (1, .ref 64), (0, .ref 0)], [.int (i + 1), .ref 0, .ref 64], (q_kL S c n))) 6 (fun _ _ => rfl) ?_
  refine q_Ru_rsT (g2 := (955, [(4, .int i), (3, .ref 270), (2, .ref 236), (1, .ref 64), (0, .ref 0)], [.int (xs ((i + 1).toNatClampNeg)), .ref 64], (q_kL S c n))) rfl rfl hx1 ?_
  refine q_Ru_seg (g2 := (960, [(4, .int i), (3, .ref 270), (2, .ref 236), (1, .ref 64), (0, .ref 0)], [.int (i + 2), .ref 0, .int (xs ((i + 1).toNatClampNeg)), .ref 64], (q_kL S c n))) 4 (fun _ _ => rfl) ?_
  refine q_Ru_rsT (g2 := (961, [(4, .int i), (3, .ref 270), (2, .ref 236), (1, .ref 64), (0, .ref 0)], [.int (xs ((i + 2).toNatClampNeg)), .int (xs ((i + 1).toNatClampNeg)), .ref 64], (q_kL S c n))) rfl rfl hx2 ?_
  refine q_Ru_seg (g2 := (966, [(4, .int i), (3, .ref 270), (2, .ref 236), (1, .ref 64), (0, .ref 0)], [.int (i + 3), .ref 0, .int (xs ((i + 2).toNatClampNeg)), .int (xs ((i + 1).toNatClampNeg)), .ref 64], (q_kL S c n))) 4 (fun _ _ => rfl) ?_
  refine q_Ru_rsT (g2 := (967, [(4, .int i), (3, .ref 270), (2, .ref 236), (1, .ref 64), (0, .ref 0)], [.int (xs ((i + 3).toNatClampNeg)), .int (xs ((i + 2).toNatClampNeg)), .int (xs ((i + 1).toNatClampNeg)), .ref 64], (q_kL S c n))) rfl rfl hx3 ?_
  refine q_Ru_rsT (g2 := (974, [(4, .int i), (3, .ref 270), (2, .ref 236), (1, .ref 64), (0, .ref 0)], [.int (xs ((i + 2).toNatClampNeg)), .int (xs ((i + 1).toNatClampNeg)), .ref 64], (q_kL S c n))) rfl rfl hc0 ?_
  refine q_Ru_seg (g2 := (976, [(4, .int i), (3, .ref 270), (2, .ref 236), (1, .ref 64), (0, .ref 0)], [.ref 270, .int 0, .int (xs ((i + 2).toNatClampNeg)), .int (xs ((i + 1).toNatClampNeg)), .ref 64], (q_kL S c n))) 2 (fun _ _ => rfl) ?_
  refine q_Ru_call (v := (some (.int r0.2.1))) (h2 := (q_kL (q_pt 172 1 0 206 S r0.1) (c + r0.2.2) (n + 6 * r0.2.2))) rfl rfl ?_ ?_
  · exact (q_emXL rfl (fun _ => rfl) (dzt_X18_64_f_236 z L xs (q_vw 172 0 206 S) c n (xs ((i + 1).toNatClampNeg)) (xs ((i + 2).toNatClampNeg)) r0 er0)).le (Nat.le_of_ble_eq_true rfl)
  show q_Ru _ _ _ (979, [(4, .int i), (3, .ref 270), (2, .ref 236), (1, .ref 64), (0, .ref 0)], [.int r0.2.1], (q_kL (q_pt 172 1 0 206 S r0.1) (c + r0.2.2) (n + 6 * r0.2.2))) _
  refine q_Ru_seg (g2 := (987, [(5, .int r0.2.1), (4, .int i), (3, .ref 270), (2, .ref 236), (1, .ref 64), (0, .ref 0)], [.int (i + 1), .ref 0, .ref 236], (q_kL (q_pt 172 1 0 206 S r0.1) (c + r0.2.2) (n + 6 * r0.2.2)))) 6 (fun _ _ => rfl) ?_
  refine q_Ru_rsT (g2 := (988, [(5, .int r0.2.1), (4, .int i), (3, .ref 270), (2, .ref 236), (1, .ref 64), (0, .ref 0)], [.int (xs ((i + 1).toNatClampNeg)), .ref 236], (q_kL (q_pt 172 1 0 206 S r0.1) (c + r0.2.2) (n + 6 * r0.2.2)))) rfl rfl hx1 ?_
  refine q_Ru_seg (g2 := (993, [(5, .int r0.2.1), (4, .int i), (3, .ref 270), (2, .ref 236), (1, .ref 64), (0, .ref 0)], [.int (i + 2), .ref 0, .int (xs ((i + 1).toNatClampNeg)), .ref 236], (q_kL (q_pt 172 1 0 206 S r0.1) (c + r0.2.2) (n + 6 * r0.2.2)))) 4 (fun _ _ => rfl) ?_
  refine q_Ru_rsT (g2 := (994, [(5, .int r0.2.1), (4, .int i), (3, .ref 270), (2, .ref 236), (1, .ref 64), (0, .ref 0)], [.int (xs ((i + 2).toNatClampNeg)), .int (xs ((i + 1).toNatClampNeg)), .ref 236], (q_kL (q_pt 172 1 0 206 S r0.1) (c + r0.2.2) (n + 6 * r0.2.2)))) rfl rfl hx2 ?_
  refine q_Ru_seg (g2 := (999, [(5, .int r0.2.1), (4, .int i), (3, .ref 270), (2, .ref 236), (1, .ref 64), (0, .ref 0)], [.int (i + 3), .ref 0, .int (xs ((i + 2).toNatClampNeg)), .int (xs ((i + 1).toNatClampNeg)), .ref 236], (q_kL (q_pt 172 1 0 206 S r0.1) (c + r0.2.2) (n + 6 * r0.2.2)))) 4 (fun _ _ => rfl) ?_
  refine q_Ru_rsT (g2 := (1000, [(5, .int r0.2.1), (4, .int i), (3, .ref 270), (2, .ref 236), (1, .ref 64), (0, .ref 0)], [.int (xs ((i + 3).toNatClampNeg)), .int (xs ((i + 2).toNatClampNeg)), .int (xs ((i + 1).toNatClampNeg)), .ref 236], (q_kL (q_pt 172 1 0 206 S r0.1) (c + r0.2.2) (n + 6 * r0.2.2)))) rfl rfl hx3 ?_
  refine q_Ru_rsT (g2 := (1007, [(5, .int r0.2.1), (4, .int i), (3, .ref 270), (2, .ref 236), (1, .ref 64), (0, .ref 0)], [.int (xs ((i + 2).toNatClampNeg)), .int (xs ((i + 1).toNatClampNeg)), .ref 236], (q_kL (q_pt 172 1 0 206 S r0.1) (c + r0.2.2) (n + 6 * r0.2.2)))) rfl rfl hc0 ?_
  refine q_Ru_seg (g2 := (1008, [(5, .int r0.2.1), (4, .int i), (3, .ref 270), (2, .ref 236), (1, .ref 64), (0, .ref 0)], [.int 0, .int (xs ((i + 2).toNatClampNeg)), .int (xs ((i + 1).toNatClampNeg)), .ref 236], (q_kL (q_pt 172 1 0 206 S r0.1) (c + r0.2.2) (n + 6 * r0.2.2)))) 1 (fun _ _ => rfl) ?_
  refine q_Ru_call (v := (some (.int (q_b r1.2)))) (h2 := (q_kL (q_pt 34 0 172 0 (q_pt 172 1 0 206 S r0.1) r1.1) (c + r0.2.2) (n + 6 * r0.2.2))) rfl rfl ?_ ?_
  · exact (q_emML rfl (fun _ => rfl) ((dzt_M297_64 (q_vw 34 172 0 (q_pt 172 1 0 206 S r0.1)) (c + r0.2.2) (n + 6 * r0.2.2) (xs ((i + 1).toNatClampNeg)) (xs ((i + 2).toNatClampNeg)) 0 r1 er1).tb q_TB0_le)).le (Nat.le_of_ble_eq_true rfl)
  show q_Ru _ _ _ (1011, [(5, .int r0.2.1), (4, .int i), (3, .ref 270), (2, .ref 236), (1, .ref 64), (0, .ref 0)], [.int (q_b r1.2)], (q_kL (q_pt 34 0 172 0 (q_pt 172 1 0 206 S r0.1) r1.1) (c + r0.2.2) (n + 6 * r0.2.2))) _
  refine q_Ru_seg (g2 := (23, [(4, .int (i + 4)), (6, .int (q_b r1.2)), (5, .int r0.2.1), (3, .ref 270), (2, .ref 236), (1, .ref 64), (0, .ref 0)], [], (q_kL (q_pt 34 0 172 0 (q_pt 172 1 0 206 S r0.1) r1.1) (c + r0.2.2) (n + 6 * r0.2.2)))) 4 (fun _ _ => rfl) ?_
  exact q_Ru_xt (q_xt_mk (q_mn1 0 rfl (q_mn1 3 rfl (q_mn1 4 rfl (q_mn1 5 rfl (q_mn1 6 rfl q_mn0))))) rfl) h
set_option maxHeartbeats 4000000 in
theorem q_lw26f (z L : Nat) (xs : Nat → Int32) (S : q_S) (c n : Nat) (i : Int32) (hx0 : q_in i L = true) (hx1 : q_in (i + 1) L = true) (hx2 : q_in (i + 2) L = true) (hx3 : q_in (i + 3) L = true) (hi : decide (Int32.ofNat L - 4 < i) = false) (hv : xs i.toNatClampNeg &&& 63 = 26) (r0 : q_S × Int32 × Nat) (er0 : dz_X18_64_t_236 (q_vw 172 0 206 S) (xs ((i + 1).toNatClampNeg)) (xs ((i + 2).toNatClampNeg)) = some r0) (r1 : q_S × Bool) (er1 : dz_M297_64 (q_vw 34 172 0 (q_pt 172 1 0 206 S r0.1)) (xs ((i + 1).toNatClampNeg)) (xs ((i + 2).toNatClampNeg)) 1 = some r1) (hc0 : decide (xs ((i + 3).toNatClampNeg) = 0) = false) {o : q_Out} (h : q_Ru (q_TBs z L xs) 20 375 (23, [(4, .int (i + 4)), (3, .ref 270), (2, .ref 236), (1, .ref 64), (0, .ref 0)], [], (q_kL (q_pt 34 0 172 0 (q_pt 172 1 0 206 S r0.1) r1.1) (c + r0.2.2) (n + 6 * r0.2.2))) o) : q_Ru (q_TBs z L xs) 20 375 (23, [(4, .int i), (3, .ref 270), (2, .ref 236), (1, .ref 64), (0, .ref 0)], [], (q_kL S c n)) o := by
  refine q_Ru_seg (g2 := (29, [(4, .int i), (3, .ref 270), (2, .ref 236), (1, .ref 64), (0, .ref 0)], [.int ((Int32.ofNat L) - 4), .int i], (q_kL S c n))) 5 (fun _ _ => rfl) ?_
  refine q_Ru_rsF (g2 := (32, [(4, .int i), (3, .ref 270), (2, .ref 236), (1, .ref 64), (0, .ref 0)], [], (q_kL S c n))) rfl rfl hi ?_
  refine q_Ru_seg (g2 := (35, [(4, .int i), (3, .ref 270), (2, .ref 236), (1, .ref 64), (0, .ref 0)], [.int i, .ref 0], (q_kL S c n))) 2 (fun _ _ => rfl) ?_
  refine q_Ru_rsT (g2 := (36, [(4, .int i), (3, .ref 270), (2, .ref 236), (1, .ref 64), (0, .ref 0)], [.int (xs (i.toNatClampNeg))], (q_kL S c n))) rfl rfl hx0 ?_
  refine q_Ru_seg (g2 := (39, [(4, .int i), (3, .ref 270), (2, .ref 236), (1, .ref 64), (0, .ref 0)], [.int ((xs (i.toNatClampNeg)) &&& 63)], (q_kL S c n))) 2 (fun _ _ => rfl) ?_
  rw [hv]
  refine q_Ru_seg (g2 := (954, [(4, .int i), (3, .ref 270), (2, .ref 236), (1, .ref 64), (0, .ref 0)], [.int (i + 1), .ref 0, .ref 64], (q_kL S c n))) 6 (fun _ _ => rfl) ?_
  refine q_Ru_rsT (g2 := (955, [(4, .int i), (3, .ref 270), (2, .ref 236), (1, .ref 64), (0, .ref 0)], [.int (xs ((i + 1).toNatClampNeg)), .ref 64], (q_kL S c n))) rfl rfl hx1 ?_
  refine q_Ru_seg (g2 := (960, [(4, .int i), (3, .ref 270), (2, .ref 236), (1, .ref 64), (0, .ref 0)], [.int (i + 2), .ref 0, .int (xs ((i + 1).toNatClampNeg)), .ref 64], (q_kL S c n))) 4 (fun _ _ => rfl) ?_
  refine q_Ru_rsT (g2 := (961, [(4, .int i), (3, .ref 270), (2, .ref 236), (1, .ref 64), (0, .ref 0)], [.int (xs ((i + 2).toNatClampNeg)), .int (xs ((i + 1).toNatClampNeg)), .ref 64], (q_kL S c n))) rfl rfl hx2 ?_
  refine q_Ru_seg (g2 := (966, [(4, .int i), (3, .ref 270), (2, .ref 236), (1, .ref 64), (0, .ref 0)], [.int (i + 3), .ref 0, .int (xs ((i + 2).toNatClampNeg)), .int (xs ((i + 1).toNatClampNeg)), .ref 64], (q_kL S c n))) 4 (fun _ _ => rfl) ?_
  refine q_Ru_rsT (g2 := (967, [(4, .int i), (3, .ref 270), (2, .ref 236), (1, .ref 64), (0, .ref 0)], [.int (xs ((i + 3).toNatClampNeg)), .int (xs ((i + 2).toNatClampNeg)), .int (xs ((i + 1).toNatClampNeg)), .ref 64], (q_kL S c n))) rfl rfl hx3 ?_
  refine q_Ru_rsF (g2 := (970, [(4, .int i), (3, .ref 270), (2, .ref 236), (1, .ref 64), (0, .ref 0)], [.int (xs ((i + 2).toNatClampNeg)), .int (xs ((i + 1).toNatClampNeg)), .ref 64], (q_kL S c n))) rfl rfl hc0 ?_
  refine q_Ru_seg (g2 := (976, [(4, .int i), (3, .ref 270), (2, .ref 236), (1, .ref 64), (0, .ref 0)], [.ref 270, .int 1, .int (xs ((i + 2).toNatClampNeg)), .int (xs ((i + 1).toNatClampNeg)), .ref 64], (q_kL S c n))) 3 (fun _ _ => rfl) ?_
  refine q_Ru_call (v := (some (.int r0.2.1))) (h2 := (q_kL (q_pt 172 1 0 206 S r0.1) (c + r0.2.2) (n + 6 * r0.2.2))) rfl rfl ?_ ?_
  · exact (q_emXL rfl (fun _ => rfl) (dzt_X18_64_t_236 z L xs (q_vw 172 0 206 S) c n (xs ((i + 1).toNatClampNeg)) (xs ((i + 2).toNatClampNeg)) r0 er0)).le (Nat.le_of_ble_eq_true rfl)
  show q_Ru _ _ _ (979, [(4, .int i), (3, .ref 270), (2, .ref 236), (1, .ref 64), (0, .ref 0)], [.int r0.2.1], (q_kL (q_pt 172 1 0 206 S r0.1) (c + r0.2.2) (n + 6 * r0.2.2))) _
  refine q_Ru_seg (g2 := (987, [(5, .int r0.2.1), (4, .int i), (3, .ref 270), (2, .ref 236), (1, .ref 64), (0, .ref 0)], [.int (i + 1), .ref 0, .ref 236], (q_kL (q_pt 172 1 0 206 S r0.1) (c + r0.2.2) (n + 6 * r0.2.2)))) 6 (fun _ _ => rfl) ?_
  refine q_Ru_rsT (g2 := (988, [(5, .int r0.2.1), (4, .int i), (3, .ref 270), (2, .ref 236), (1, .ref 64), (0, .ref 0)], [.int (xs ((i + 1).toNatClampNeg)), .ref 236], (q_kL (q_pt 172 1 0 206 S r0.1) (c + r0.2.2) (n + 6 * r0.2.2)))) rfl rfl hx1 ?_
  refine q_Ru_seg (g2 := (993, [(5, .int r0.2.1), (4, .int i), (3, .ref 270), (2, .ref 236), (1, .ref 64), (0, .ref 0)], [.int (i + 2), .ref 0, .int (xs ((i + 1).toNatClampNeg)), .ref 236], (q_kL (q_pt 172 1 0 206 S r0.1) (c + r0.2.2) (n + 6 * r0.2.2)))) 4 (fun _ _ => rfl) ?_
  refine q_Ru_rsT (g2 := (994, [(5, .int r0.2.1), (4, .int i), (3, .ref 270), (2, .ref 236), (1, .ref 64), (0, .ref 0)], [.int (xs ((i + 2).toNatClampNeg)), .int (xs ((i + 1).toNatClampNeg)), .ref 236], (q_kL (q_pt 172 1 0 206 S r0.1) (c + r0.2.2) (n + 6 * r0.2.2)))) rfl rfl hx2 ?_
  refine q_Ru_seg (g2 := (999, [(5, .int r0.2.1), (4, .int i), (3, .ref 270), (2, .ref 236), (1, .ref 64), (0, .ref 0)], [.int (i + 3), .ref 0, .int (xs ((i + 2).toNatClampNeg)), .int (xs ((i + 1).toNatClampNeg)), .ref 236], (q_kL (q_pt 172 1 0 206 S r0.1) (c + r0.2.2) (n + 6 * r0.2.2)))) 4 (fun _ _ => rfl) ?_
  refine q_Ru_rsT (g2 := (1000, [(5, .int r0.2.1), (4, .int i), (3, .ref 270), (2, .ref 236), (1, .ref 64), (0, .ref 0)], [.int (xs ((i + 3).toNatClampNeg)), .int (xs ((i + 2).toNatClampNeg)), .int (xs ((i + 1).toNatClampNeg)), .ref 236], (q_kL (q_pt 172 1 0 206 S r0.1) (c + r0.2.2) (n + 6 * r0.2.2)))) rfl rfl hx3 ?_
  refine q_Ru_rsF (g2 := (1003, [(5, .int r0.2.1), (4, .int i), (3, .ref 270), (2, .ref 236), (1, .ref 64), (0, .ref 0)], [.int (xs ((i + 2).toNatClampNeg)), .int (xs ((i + 1).toNatClampNeg)), .ref 236], (q_kL (q_pt 172 1 0 206 S r0.1) (c + r0.2.2) (n + 6 * r0.2.2)))) rfl rfl hc0 ?_
  refine q_Ru_seg (g2 := (1008, [(5, .int r0.2.1), (4, .int i), (3, .ref 270), (2, .ref 236), (1, .ref 64), (0, .ref 0)], [.int 1, .int (xs ((i + 2).toNatClampNeg)), .int (xs ((i + 1).toNatClampNeg)), .ref 236], (q_kL (q_pt 172 1 0 206 S r0.1) (c + r0.2.2) (n + 6 * r0.2.2)))) 2 (fun _ _ => rfl) ?_
  refine q_Ru_call (v := (some (.int (q_b r1.2)))) (h2 := (q_kL (q_pt 34 0 172 0 (q_pt 172 1 0 206 S r0.1) r1.1) (c + r0.2.2) (n + 6 * r0.2.2))) rfl rfl ?_ ?_
  · exact (q_emML rfl (fun _ => rfl) ((dzt_M297_64 (q_vw 34 172 0 (q_pt 172 1 0 206 S r0.1)) (c + r0.2.2) (n + 6 * r0.2.2) (xs ((i + 1).toNatClampNeg)) (xs ((i + 2).toNatClampNeg)) 1 r1 er1).tb q_TB0_le)).le (Nat.le_of_ble_eq_true rfl)
  show q_Ru _ _ _ (1011, [(5, .int r0.2.1), (4, .int i), (3, .ref 270), (2, .ref 236), (1, .ref 64), (0, .ref 0)], [.int (q_b r1.2)], (q_kL (q_pt 34 0 172 0 (q_pt 172 1 0 206 S r0.1) r1.1) (c + r0.2.2) (n + 6 * r0.2.2))) _
  refine q_Ru_seg (g2 := (23, [(4, .int (i + 4)), (6, .int (q_b r1.2)), (5, .int r0.2.1), (3, .ref 270), (2, .ref 236), (1, .ref 64), (0, .ref 0)], [], (q_kL (q_pt 34 0 172 0 (q_pt 172 1 0 206 S r0.1) r1.1) (c + r0.2.2) (n + 6 * r0.2.2)))) 4 (fun _ _ => rfl) ?_
  exact q_Ru_xt (q_xt_mk (q_mn1 0 rfl (q_mn1 3 rfl (q_mn1 4 rfl (q_mn1 5 rfl (q_mn1 6 rfl q_mn0))))) rfl) h
set_option maxHeartbeats 4000000 in
theorem q_lw27 (z L : Nat) (xs : Nat → Int32) (S : q_S) (c n : Nat) (i : Int32) (hx0 : q_in i L = true) (hx1 : q_in (i + 1) L = true) (hx2 : q_in (i + 2) L = true) (hx3 : q_in (i + 3) L = true) (hi : decide (Int32.ofNat L - 4 < i) = false) (hv : xs i.toNatClampNeg &&& 63 = 27) (r0 : q_S × Int32 × Nat) (er0 : dz_X19_64_236 (q_vw 172 0 206 S) (xs ((i + 1).toNatClampNeg)) = r0) (r1 : q_S × Int32) (er1 : dz_M298_64 (q_vw 34 172 0 (q_pt 172 1 0 206 S r0.1)) (xs ((i + 1).toNatClampNeg)) = some r1) {o : q_Out} (h : q_Ru (q_TBs z L xs) 20 375 (23, [(4, .int (i + 4)), (3, .ref 270), (2, .ref 236), (1, .ref 64), (0, .ref 0)], [], (q_kL (q_pt 34 0 172 0 (q_pt 172 1 0 206 S r0.1) r1.1) (c + r0.2.2) (n + 6 * r0.2.2))) o) : q_Ru (q_TBs z L xs) 20 375 (23, [(4, .int i), (3, .ref 270), (2, .ref 236), (1, .ref 64), (0, .ref 0)], [], (q_kL S c n)) o := by
  refine q_Ru_seg (g2 := (29, [(4, .int i), (3, .ref 270), (2, .ref 236), (1, .ref 64), (0, .ref 0)], [.int ((Int32.ofNat L) - 4), .int i], (q_kL S c n))) 5 (fun _ _ => rfl) ?_
  refine q_Ru_rsF (g2 := (32, [(4, .int i), (3, .ref 270), (2, .ref 236), (1, .ref 64), (0, .ref 0)], [], (q_kL S c n))) rfl rfl hi ?_
  refine q_Ru_seg (g2 := (35, [(4, .int i), (3, .ref 270), (2, .ref 236), (1, .ref 64), (0, .ref 0)], [.int i, .ref 0], (q_kL S c n))) 2 (fun _ _ => rfl) ?_
  refine q_Ru_rsT (g2 := (36, [(4, .int i), (3, .ref 270), (2, .ref 236), (1, .ref 64), (0, .ref 0)], [.int (xs (i.toNatClampNeg))], (q_kL S c n))) rfl rfl hx0 ?_
  refine q_Ru_seg (g2 := (39, [(4, .int i), (3, .ref 270), (2, .ref 236), (1, .ref 64), (0, .ref 0)], [.int ((xs (i.toNatClampNeg)) &&& 63)], (q_kL S c n))) 2 (fun _ _ => rfl) ?_
  rw [hv]
  refine q_Ru_seg (g2 := (1022, [(4, .int i), (3, .ref 270), (2, .ref 236), (1, .ref 64), (0, .ref 0)], [.int (i + 1), .ref 0, .ref 64], (q_kL S c n))) 6 (fun _ _ => rfl) ?_
  refine q_Ru_rsT (g2 := (1023, [(4, .int i), (3, .ref 270), (2, .ref 236), (1, .ref 64), (0, .ref 0)], [.int (xs ((i + 1).toNatClampNeg)), .ref 64], (q_kL S c n))) rfl rfl hx1 ?_
  refine q_Ru_seg (g2 := (1024, [(4, .int i), (3, .ref 270), (2, .ref 236), (1, .ref 64), (0, .ref 0)], [.ref 270, .int (xs ((i + 1).toNatClampNeg)), .ref 64], (q_kL S c n))) 1 (fun _ _ => rfl) ?_
  refine q_Ru_call (v := (some (.int r0.2.1))) (h2 := (q_kL (q_pt 172 1 0 206 S r0.1) (c + r0.2.2) (n + 6 * r0.2.2))) rfl rfl ?_ ?_
  · exact (q_emXL rfl (fun _ => rfl) (q_cE (φ := (q_oEX c n)) er0 (dzt_X19_64_236 z L xs (q_vw 172 0 206 S) c n (xs ((i + 1).toNatClampNeg))))).le (Nat.le_of_ble_eq_true rfl)
  show q_Ru _ _ _ (1027, [(4, .int i), (3, .ref 270), (2, .ref 236), (1, .ref 64), (0, .ref 0)], [.int r0.2.1], (q_kL (q_pt 172 1 0 206 S r0.1) (c + r0.2.2) (n + 6 * r0.2.2))) _
  refine q_Ru_seg (g2 := (1035, [(5, .int r0.2.1), (4, .int i), (3, .ref 270), (2, .ref 236), (1, .ref 64), (0, .ref 0)], [.int (i + 1), .ref 0, .ref 236], (q_kL (q_pt 172 1 0 206 S r0.1) (c + r0.2.2) (n + 6 * r0.2.2)))) 6 (fun _ _ => rfl) ?_
  refine q_Ru_rsT (g2 := (1036, [(5, .int r0.2.1), (4, .int i), (3, .ref 270), (2, .ref 236), (1, .ref 64), (0, .ref 0)], [.int (xs ((i + 1).toNatClampNeg)), .ref 236], (q_kL (q_pt 172 1 0 206 S r0.1) (c + r0.2.2) (n + 6 * r0.2.2)))) rfl rfl hx1 ?_
  refine q_Ru_call (v := (some (.int r1.2))) (h2 := (q_kL (q_pt 34 0 172 0 (q_pt 172 1 0 206 S r0.1) r1.1) (c + r0.2.2) (n + 6 * r0.2.2))) rfl rfl ?_ ?_
  · exact (q_emML rfl (fun _ => rfl) ((dzt_M298_64 (q_vw 34 172 0 (q_pt 172 1 0 206 S r0.1)) (c + r0.2.2) (n + 6 * r0.2.2) (xs ((i + 1).toNatClampNeg)) r1 er1).tb q_TB0_le)).le (Nat.le_of_ble_eq_true rfl)
  show q_Ru _ _ _ (1039, [(5, .int r0.2.1), (4, .int i), (3, .ref 270), (2, .ref 236), (1, .ref 64), (0, .ref 0)], [.int r1.2], (q_kL (q_pt 34 0 172 0 (q_pt 172 1 0 206 S r0.1) r1.1) (c + r0.2.2) (n + 6 * r0.2.2))) _
  refine q_Ru_seg (g2 := (23, [(4, .int (i + 4)), (6, .int r1.2), (5, .int r0.2.1), (3, .ref 270), (2, .ref 236), (1, .ref 64), (0, .ref 0)], [], (q_kL (q_pt 34 0 172 0 (q_pt 172 1 0 206 S r0.1) r1.1) (c + r0.2.2) (n + 6 * r0.2.2)))) 4 (fun _ _ => rfl) ?_
  exact q_Ru_xt (q_xt_mk (q_mn1 0 rfl (q_mn1 3 rfl (q_mn1 4 rfl (q_mn1 5 rfl (q_mn1 6 rfl q_mn0))))) rfl) h
set_option maxHeartbeats 4000000 in
theorem q_lw28 (z L : Nat) (xs : Nat → Int32) (S : q_S) (c n : Nat) (i : Int32) (hx0 : q_in i L = true) (hx1 : q_in (i + 1) L = true) (hx2 : q_in (i + 2) L = true) (hx3 : q_in (i + 3) L = true) (hi : decide (Int32.ofNat L - 4 < i) = false) (hv : xs i.toNatClampNeg &&& 63 = 28) (r0 : q_S × Int32 × Nat) (er0 : dz_X20_64_236 (q_vw 172 0 206 S) (xs ((i + 1).toNatClampNeg)) = some r0) (r1 : q_S × Int32) (er1 : dz_M299_64 (q_vw 34 172 0 (q_pt 172 1 0 206 S r0.1)) (xs ((i + 1).toNatClampNeg)) = r1) {o : q_Out} (h : q_Ru (q_TBs z L xs) 20 375 (23, [(4, .int (i + 4)), (3, .ref 270), (2, .ref 236), (1, .ref 64), (0, .ref 0)], [], (q_kL (q_pt 34 0 172 0 (q_pt 172 1 0 206 S r0.1) r1.1) (c + r0.2.2) (n + 6 * r0.2.2))) o) : q_Ru (q_TBs z L xs) 20 375 (23, [(4, .int i), (3, .ref 270), (2, .ref 236), (1, .ref 64), (0, .ref 0)], [], (q_kL S c n)) o := by
  refine q_Ru_seg (g2 := (29, [(4, .int i), (3, .ref 270), (2, .ref 236), (1, .ref 64), (0, .ref 0)], [.int ((Int32.ofNat L) - 4), .int i], (q_kL S c n))) 5 (fun _ _ => rfl) ?_
  refine q_Ru_rsF (g2 := (32, [(4, .int i), (3, .ref 270), (2, .ref 236), (1, .ref 64), (0, .ref 0)], [], (q_kL S c n))) rfl rfl hi ?_
  refine q_Ru_seg (g2 := (35, [(4, .int i), (3, .ref 270), (2, .ref 236), (1, .ref 64), (0, .ref 0)], [.int i, .ref 0], (q_kL S c n))) 2 (fun _ _ => rfl) ?_
  refine q_Ru_rsT (g2 := (36, [(4, .int i), (3, .ref 270), (2, .ref 236), (1, .ref 64), (0, .ref 0)], [.int (xs (i.toNatClampNeg))], (q_kL S c n))) rfl rfl hx0 ?_
  refine q_Ru_seg (g2 := (39, [(4, .int i), (3, .ref 270), (2, .ref 236), (1, .ref 64), (0, .ref 0)], [.int ((xs (i.toNatClampNeg)) &&& 63)], (q_kL S c n))) 2 (fun _ _ => rfl) ?_
  rw [hv]
  refine q_Ru_seg (g2 := (1050, [(4, .int i), (3, .ref 270), (2, .ref 236), (1, .ref 64), (0, .ref 0)], [.int (i + 1), .ref 0, .ref 64], (q_kL S c n))) 6 (fun _ _ => rfl) ?_
  refine q_Ru_rsT (g2 := (1051, [(4, .int i), (3, .ref 270), (2, .ref 236), (1, .ref 64), (0, .ref 0)], [.int (xs ((i + 1).toNatClampNeg)), .ref 64], (q_kL S c n))) rfl rfl hx1 ?_
  refine q_Ru_seg (g2 := (1052, [(4, .int i), (3, .ref 270), (2, .ref 236), (1, .ref 64), (0, .ref 0)], [.ref 270, .int (xs ((i + 1).toNatClampNeg)), .ref 64], (q_kL S c n))) 1 (fun _ _ => rfl) ?_
  refine q_Ru_call (v := (some (.int r0.2.1))) (h2 := (q_kL (q_pt 172 1 0 206 S r0.1) (c + r0.2.2) (n + 6 * r0.2.2))) rfl rfl ?_ ?_
  · exact (q_emXL rfl (fun _ => rfl) (dzt_X20_64_236 z L xs (q_vw 172 0 206 S) c n (xs ((i + 1).toNatClampNeg)) r0 er0)).le (Nat.le_of_ble_eq_true rfl)
  show q_Ru _ _ _ (1055, [(4, .int i), (3, .ref 270), (2, .ref 236), (1, .ref 64), (0, .ref 0)], [.int r0.2.1], (q_kL (q_pt 172 1 0 206 S r0.1) (c + r0.2.2) (n + 6 * r0.2.2))) _
  refine q_Ru_seg (g2 := (1063, [(5, .int r0.2.1), (4, .int i), (3, .ref 270), (2, .ref 236), (1, .ref 64), (0, .ref 0)], [.int (i + 1), .ref 0, .ref 236], (q_kL (q_pt 172 1 0 206 S r0.1) (c + r0.2.2) (n + 6 * r0.2.2)))) 6 (fun _ _ => rfl) ?_
  refine q_Ru_rsT (g2 := (1064, [(5, .int r0.2.1), (4, .int i), (3, .ref 270), (2, .ref 236), (1, .ref 64), (0, .ref 0)], [.int (xs ((i + 1).toNatClampNeg)), .ref 236], (q_kL (q_pt 172 1 0 206 S r0.1) (c + r0.2.2) (n + 6 * r0.2.2)))) rfl rfl hx1 ?_
  refine q_Ru_call (v := (some (.int r1.2))) (h2 := (q_kL (q_pt 34 0 172 0 (q_pt 172 1 0 206 S r0.1) r1.1) (c + r0.2.2) (n + 6 * r0.2.2))) rfl rfl ?_ ?_
  · exact (q_emML rfl (fun _ => rfl) ((q_cE (φ := (q_oIM (c + r0.2.2) (n + 6 * r0.2.2))) er1 (dzt_M299_64 (q_vw 34 172 0 (q_pt 172 1 0 206 S r0.1)) (c + r0.2.2) (n + 6 * r0.2.2) (xs ((i + 1).toNatClampNeg)))).tb q_TB0_le)).le (Nat.le_of_ble_eq_true rfl)
  show q_Ru _ _ _ (1067, [(5, .int r0.2.1), (4, .int i), (3, .ref 270), (2, .ref 236), (1, .ref 64), (0, .ref 0)], [.int r1.2], (q_kL (q_pt 34 0 172 0 (q_pt 172 1 0 206 S r0.1) r1.1) (c + r0.2.2) (n + 6 * r0.2.2))) _
  refine q_Ru_seg (g2 := (23, [(4, .int (i + 4)), (6, .int r1.2), (5, .int r0.2.1), (3, .ref 270), (2, .ref 236), (1, .ref 64), (0, .ref 0)], [], (q_kL (q_pt 34 0 172 0 (q_pt 172 1 0 206 S r0.1) r1.1) (c + r0.2.2) (n + 6 * r0.2.2)))) 4 (fun _ _ => rfl) ?_
  exact q_Ru_xt (q_xt_mk (q_mn1 0 rfl (q_mn1 3 rfl (q_mn1 4 rfl (q_mn1 5 rfl (q_mn1 6 rfl q_mn0))))) rfl) h
set_option maxHeartbeats 4000000 in
theorem q_lw29 (z L : Nat) (xs : Nat → Int32) (S : q_S) (c n : Nat) (i : Int32) (hx0 : q_in i L = true) (hx1 : q_in (i + 1) L = true) (hx2 : q_in (i + 2) L = true) (hx3 : q_in (i + 3) L = true) (hi : decide (Int32.ofNat L - 4 < i) = false) (hv : xs i.toNatClampNeg &&& 63 = 29) (r0 : q_S × Int32 × Nat) (er0 : dz_X21_64_236 (q_vw 172 0 206 S) (xs ((i + 1).toNatClampNeg)) = some r0) (r1 : q_S × Int32) (er1 : dz_M300_64 (q_vw 34 172 0 (q_pt 172 1 0 206 S r0.1)) (xs ((i + 1).toNatClampNeg)) = some r1) {o : q_Out} (h : q_Ru (q_TBs z L xs) 20 375 (23, [(4, .int (i + 4)), (3, .ref 270), (2, .ref 236), (1, .ref 64), (0, .ref 0)], [], (q_kL (q_pt 34 0 172 0 (q_pt 172 1 0 206 S r0.1) r1.1) (c + r0.2.2) (n + 6 * r0.2.2))) o) : q_Ru (q_TBs z L xs) 20 375 (23, [(4, .int i), (3, .ref 270), (2, .ref 236), (1, .ref 64), (0, .ref 0)], [], (q_kL S c n)) o := by
  refine q_Ru_seg (g2 := (29, [(4, .int i), (3, .ref 270), (2, .ref 236), (1, .ref 64), (0, .ref 0)], [.int ((Int32.ofNat L) - 4), .int i], (q_kL S c n))) 5 (fun _ _ => rfl) ?_
  refine q_Ru_rsF (g2 := (32, [(4, .int i), (3, .ref 270), (2, .ref 236), (1, .ref 64), (0, .ref 0)], [], (q_kL S c n))) rfl rfl hi ?_
  refine q_Ru_seg (g2 := (35, [(4, .int i), (3, .ref 270), (2, .ref 236), (1, .ref 64), (0, .ref 0)], [.int i, .ref 0], (q_kL S c n))) 2 (fun _ _ => rfl) ?_
  refine q_Ru_rsT (g2 := (36, [(4, .int i), (3, .ref 270), (2, .ref 236), (1, .ref 64), (0, .ref 0)], [.int (xs (i.toNatClampNeg))], (q_kL S c n))) rfl rfl hx0 ?_
  refine q_Ru_seg (g2 := (39, [(4, .int i), (3, .ref 270), (2, .ref 236), (1, .ref 64), (0, .ref 0)], [.int ((xs (i.toNatClampNeg)) &&& 63)], (q_kL S c n))) 2 (fun _ _ => rfl) ?_
  rw [hv]
  refine q_Ru_seg (g2 := (1078, [(4, .int i), (3, .ref 270), (2, .ref 236), (1, .ref 64), (0, .ref 0)], [.int (i + 1), .ref 0, .ref 64], (q_kL S c n))) 6 (fun _ _ => rfl) ?_
  refine q_Ru_rsT (g2 := (1079, [(4, .int i), (3, .ref 270), (2, .ref 236), (1, .ref 64), (0, .ref 0)], [.int (xs ((i + 1).toNatClampNeg)), .ref 64], (q_kL S c n))) rfl rfl hx1 ?_
  refine q_Ru_seg (g2 := (1080, [(4, .int i), (3, .ref 270), (2, .ref 236), (1, .ref 64), (0, .ref 0)], [.ref 270, .int (xs ((i + 1).toNatClampNeg)), .ref 64], (q_kL S c n))) 1 (fun _ _ => rfl) ?_
  refine q_Ru_call (v := (some (.int r0.2.1))) (h2 := (q_kL (q_pt 172 1 0 206 S r0.1) (c + r0.2.2) (n + 6 * r0.2.2))) rfl rfl ?_ ?_
  · exact (q_emXL rfl (fun _ => rfl) (dzt_X21_64_236 z L xs (q_vw 172 0 206 S) c n (xs ((i + 1).toNatClampNeg)) r0 er0)).le (Nat.le_of_ble_eq_true rfl)
  show q_Ru _ _ _ (1083, [(4, .int i), (3, .ref 270), (2, .ref 236), (1, .ref 64), (0, .ref 0)], [.int r0.2.1], (q_kL (q_pt 172 1 0 206 S r0.1) (c + r0.2.2) (n + 6 * r0.2.2))) _
  refine q_Ru_seg (g2 := (1091, [(5, .int r0.2.1), (4, .int i), (3, .ref 270), (2, .ref 236), (1, .ref 64), (0, .ref 0)], [.int (i + 1), .ref 0, .ref 236], (q_kL (q_pt 172 1 0 206 S r0.1) (c + r0.2.2) (n + 6 * r0.2.2)))) 6 (fun _ _ => rfl) ?_
  refine q_Ru_rsT (g2 := (1092, [(5, .int r0.2.1), (4, .int i), (3, .ref 270), (2, .ref 236), (1, .ref 64), (0, .ref 0)], [.int (xs ((i + 1).toNatClampNeg)), .ref 236], (q_kL (q_pt 172 1 0 206 S r0.1) (c + r0.2.2) (n + 6 * r0.2.2)))) rfl rfl hx1 ?_
  refine q_Ru_call (v := (some (.int r1.2))) (h2 := (q_kL (q_pt 34 0 172 0 (q_pt 172 1 0 206 S r0.1) r1.1) (c + r0.2.2) (n + 6 * r0.2.2))) rfl rfl ?_ ?_
  · exact (q_emML rfl (fun _ => rfl) ((dzt_M300_64 (q_vw 34 172 0 (q_pt 172 1 0 206 S r0.1)) (c + r0.2.2) (n + 6 * r0.2.2) (xs ((i + 1).toNatClampNeg)) r1 er1).tb q_TB0_le)).le (Nat.le_of_ble_eq_true rfl)
  show q_Ru _ _ _ (1095, [(5, .int r0.2.1), (4, .int i), (3, .ref 270), (2, .ref 236), (1, .ref 64), (0, .ref 0)], [.int r1.2], (q_kL (q_pt 34 0 172 0 (q_pt 172 1 0 206 S r0.1) r1.1) (c + r0.2.2) (n + 6 * r0.2.2))) _
  refine q_Ru_seg (g2 := (23, [(4, .int (i + 4)), (6, .int r1.2), (5, .int r0.2.1), (3, .ref 270), (2, .ref 236), (1, .ref 64), (0, .ref 0)], [], (q_kL (q_pt 34 0 172 0 (q_pt 172 1 0 206 S r0.1) r1.1) (c + r0.2.2) (n + 6 * r0.2.2)))) 4 (fun _ _ => rfl) ?_
  exact q_Ru_xt (q_xt_mk (q_mn1 0 rfl (q_mn1 3 rfl (q_mn1 4 rfl (q_mn1 5 rfl (q_mn1 6 rfl q_mn0))))) rfl) h
set_option maxHeartbeats 4000000 in
theorem q_lw30 (z L : Nat) (xs : Nat → Int32) (S : q_S) (c n : Nat) (i : Int32) (hx0 : q_in i L = true) (hx1 : q_in (i + 1) L = true) (hx2 : q_in (i + 2) L = true) (hx3 : q_in (i + 3) L = true) (hi : decide (Int32.ofNat L - 4 < i) = false) (hv : xs i.toNatClampNeg &&& 63 = 30) (r0 : q_S × Int32) (er0 : dz_X58_64 (q_vw 172 0 206 S) = some r0) (r1 : q_S × Int32) (er1 : dz_M301_64 (q_vw 34 172 0 (q_pt 172 1 0 206 S r0.1)) = r1) {o : q_Out} (h : q_Ru (q_TBs z L xs) 20 375 (23, [(4, .int (i + 4)), (3, .ref 270), (2, .ref 236), (1, .ref 64), (0, .ref 0)], [], (q_kL (q_pt 34 0 172 0 (q_pt 172 1 0 206 S r0.1) r1.1) c n)) o) : q_Ru (q_TBs z L xs) 20 375 (23, [(4, .int i), (3, .ref 270), (2, .ref 236), (1, .ref 64), (0, .ref 0)], [], (q_kL S c n)) o := by
  refine q_Ru_seg (g2 := (29, [(4, .int i), (3, .ref 270), (2, .ref 236), (1, .ref 64), (0, .ref 0)], [.int ((Int32.ofNat L) - 4), .int i], (q_kL S c n))) 5 (fun _ _ => rfl) ?_
  refine q_Ru_rsF (g2 := (32, [(4, .int i), (3, .ref 270), (2, .ref 236), (1, .ref 64), (0, .ref 0)], [], (q_kL S c n))) rfl rfl hi ?_
  refine q_Ru_seg (g2 := (35, [(4, .int i), (3, .ref 270), (2, .ref 236), (1, .ref 64), (0, .ref 0)], [.int i, .ref 0], (q_kL S c n))) 2 (fun _ _ => rfl) ?_
  refine q_Ru_rsT (g2 := (36, [(4, .int i), (3, .ref 270), (2, .ref 236), (1, .ref 64), (0, .ref 0)], [.int (xs (i.toNatClampNeg))], (q_kL S c n))) rfl rfl hx0 ?_
  refine q_Ru_seg (g2 := (39, [(4, .int i), (3, .ref 270), (2, .ref 236), (1, .ref 64), (0, .ref 0)], [.int ((xs (i.toNatClampNeg)) &&& 63)], (q_kL S c n))) 2 (fun _ _ => rfl) ?_
  rw [hv]
  refine q_Ru_seg (g2 := (1101, [(4, .int i), (3, .ref 270), (2, .ref 236), (1, .ref 64), (0, .ref 0)], [.ref 64], (q_kL S c n))) 2 (fun _ _ => rfl) ?_
  refine q_Ru_call (v := (some (.int r0.2))) (h2 := (q_kL (q_pt 172 1 0 206 S r0.1) c n)) rfl rfl ?_ ?_
  · exact (q_emXL rfl (fun _ => rfl) (dzt_X58_64 z L xs (q_vw 172 0 206 S) c n r0 er0)).le (Nat.le_of_ble_eq_true rfl)
  show q_Ru _ _ _ (1104, [(4, .int i), (3, .ref 270), (2, .ref 236), (1, .ref 64), (0, .ref 0)], [.int r0.2], (q_kL (q_pt 172 1 0 206 S r0.1) c n)) _
  refine q_Ru_seg (g2 := (1106, [(4, .int i), (3, .ref 270), (2, .ref 236), (1, .ref 64), (0, .ref 0)], [.ref 236], (q_kL (q_pt 172 1 0 206 S r0.1) c n))) 2 (fun _ _ => rfl) ?_
  refine q_Ru_call (v := (some (.int r1.2))) (h2 := (q_kL (q_pt 34 0 172 0 (q_pt 172 1 0 206 S r0.1) r1.1) c n)) rfl rfl ?_ ?_
  · exact (q_emML rfl (fun _ => rfl) ((q_cE (φ := (q_oIM c n)) er1 (dzt_M301_64 (q_vw 34 172 0 (q_pt 172 1 0 206 S r0.1)) c n)).tb q_TB0_le)).le (Nat.le_of_ble_eq_true rfl)
  show q_Ru _ _ _ (1109, [(4, .int i), (3, .ref 270), (2, .ref 236), (1, .ref 64), (0, .ref 0)], [.int r1.2], (q_kL (q_pt 34 0 172 0 (q_pt 172 1 0 206 S r0.1) r1.1) c n)) _
  refine q_Ru_seg (g2 := (23, [(4, .int (i + 4)), (3, .ref 270), (2, .ref 236), (1, .ref 64), (0, .ref 0)], [], (q_kL (q_pt 34 0 172 0 (q_pt 172 1 0 206 S r0.1) r1.1) c n))) 4 (fun _ _ => rfl) ?_
  exact q_Ru_xt (q_xt_mk (q_mn1 0 rfl (q_mn1 1 rfl (q_mn1 2 rfl (q_mn1 3 rfl (q_mn1 4 rfl q_mn0))))) rfl) h
set_option maxHeartbeats 4000000 in
theorem q_lw31 (z L : Nat) (xs : Nat → Int32) (S : q_S) (c n : Nat) (i : Int32) (hx0 : q_in i L = true) (hx1 : q_in (i + 1) L = true) (hx2 : q_in (i + 2) L = true) (hx3 : q_in (i + 3) L = true) (hi : decide (Int32.ofNat L - 4 < i) = false) (hv : xs i.toNatClampNeg &&& 63 = 31) (r0 : q_S × Int32) (er0 : dz_M302_64 (q_vw 34 172 0 S) = r0) {o : q_Out} (h : q_Ru (q_TBs z L xs) 20 375 (23, [(4, .int (i + 4)), (3, .ref 270), (2, .ref 236), (1, .ref 64), (0, .ref 0)], [], (q_kL (q_pt 34 0 172 0 S r0.1) c n)) o) : q_Ru (q_TBs z L xs) 20 375 (23, [(4, .int i), (3, .ref 270), (2, .ref 236), (1, .ref 64), (0, .ref 0)], [], (q_kL S c n)) o := by
  refine q_Ru_seg (g2 := (29, [(4, .int i), (3, .ref 270), (2, .ref 236), (1, .ref 64), (0, .ref 0)], [.int ((Int32.ofNat L) - 4), .int i], (q_kL S c n))) 5 (fun _ _ => rfl) ?_
  refine q_Ru_rsF (g2 := (32, [(4, .int i), (3, .ref 270), (2, .ref 236), (1, .ref 64), (0, .ref 0)], [], (q_kL S c n))) rfl rfl hi ?_
  refine q_Ru_seg (g2 := (35, [(4, .int i), (3, .ref 270), (2, .ref 236), (1, .ref 64), (0, .ref 0)], [.int i, .ref 0], (q_kL S c n))) 2 (fun _ _ => rfl) ?_
  refine q_Ru_rsT (g2 := (36, [(4, .int i), (3, .ref 270), (2, .ref 236), (1, .ref 64), (0, .ref 0)], [.int (xs (i.toNatClampNeg))], (q_kL S c n))) rfl rfl hx0 ?_
  refine q_Ru_seg (g2 := (39, [(4, .int i), (3, .ref 270), (2, .ref 236), (1, .ref 64), (0, .ref 0)], [.int ((xs (i.toNatClampNeg)) &&& 63)], (q_kL S c n))) 2 (fun _ _ => rfl) ?_
  rw [hv]
  refine q_Ru_seg (g2 := (1114, [(4, .int i), (3, .ref 270), (2, .ref 236), (1, .ref 64), (0, .ref 0)], [.ref 64], (q_kL S c n))) 2 (fun _ _ => rfl) ?_
  refine q_Ru_call (v := (some (.int (dz_X59_64 (q_vw 172 0 206 S))))) (h2 := (q_kL S c n)) rfl rfl ?_ ?_
  · exact (q_emXLp rfl (fun _ => rfl) (dzt_X59_64 z L xs (q_vw 172 0 206 S) c n)).le (Nat.le_of_ble_eq_true rfl)
  show q_Ru _ _ _ (1117, [(4, .int i), (3, .ref 270), (2, .ref 236), (1, .ref 64), (0, .ref 0)], [.int (dz_X59_64 (q_vw 172 0 206 S))], (q_kL S c n)) _
  refine q_Ru_seg (g2 := (1119, [(4, .int i), (3, .ref 270), (2, .ref 236), (1, .ref 64), (0, .ref 0)], [.ref 236], (q_kL S c n))) 2 (fun _ _ => rfl) ?_
  refine q_Ru_call (v := (some (.int r0.2))) (h2 := (q_kL (q_pt 34 0 172 0 S r0.1) c n)) rfl rfl ?_ ?_
  · exact (q_emML rfl (fun _ => rfl) ((q_cE (φ := (q_oIM c n)) er0 (dzt_M302_64 (q_vw 34 172 0 S) c n)).tb q_TB0_le)).le (Nat.le_of_ble_eq_true rfl)
  show q_Ru _ _ _ (1122, [(4, .int i), (3, .ref 270), (2, .ref 236), (1, .ref 64), (0, .ref 0)], [.int r0.2], (q_kL (q_pt 34 0 172 0 S r0.1) c n)) _
  refine q_Ru_seg (g2 := (23, [(4, .int (i + 4)), (3, .ref 270), (2, .ref 236), (1, .ref 64), (0, .ref 0)], [], (q_kL (q_pt 34 0 172 0 S r0.1) c n))) 4 (fun _ _ => rfl) ?_
  exact q_Ru_xt (q_xt_mk (q_mn1 0 rfl (q_mn1 1 rfl (q_mn1 2 rfl (q_mn1 3 rfl (q_mn1 4 rfl q_mn0))))) rfl) h
set_option maxHeartbeats 4000000 in
theorem q_lw32 (z L : Nat) (xs : Nat → Int32) (S : q_S) (c n : Nat) (i : Int32) (hx0 : q_in i L = true) (hx1 : q_in (i + 1) L = true) (hx2 : q_in (i + 2) L = true) (hx3 : q_in (i + 3) L = true) (hi : decide (Int32.ofNat L - 4 < i) = false) (hv : xs i.toNatClampNeg &&& 63 = 32) (r0 : q_S × Int32 × Nat) (er0 : dz_X22_64_236 (q_vw 172 0 206 S) = some r0) (r1 : q_S × Int32) (er1 : dz_M305_64 (q_vw 34 172 0 (q_pt 172 1 0 206 S r0.1)) = some r1) {o : q_Out} (h : q_Ru (q_TBs z L xs) 20 375 (23, [(4, .int (i + 4)), (3, .ref 270), (2, .ref 236), (1, .ref 64), (0, .ref 0)], [], (q_kL (q_pt 34 0 172 0 (q_pt 172 1 0 206 S r0.1) r1.1) (c + r0.2.2) (n + 6 * r0.2.2))) o) : q_Ru (q_TBs z L xs) 20 375 (23, [(4, .int i), (3, .ref 270), (2, .ref 236), (1, .ref 64), (0, .ref 0)], [], (q_kL S c n)) o := by
  refine q_Ru_seg (g2 := (29, [(4, .int i), (3, .ref 270), (2, .ref 236), (1, .ref 64), (0, .ref 0)], [.int ((Int32.ofNat L) - 4), .int i], (q_kL S c n))) 5 (fun _ _ => rfl) ?_
  refine q_Ru_rsF (g2 := (32, [(4, .int i), (3, .ref 270), (2, .ref 236), (1, .ref 64), (0, .ref 0)], [], (q_kL S c n))) rfl rfl hi ?_
  refine q_Ru_seg (g2 := (35, [(4, .int i), (3, .ref 270), (2, .ref 236), (1, .ref 64), (0, .ref 0)], [.int i, .ref 0], (q_kL S c n))) 2 (fun _ _ => rfl) ?_
  refine q_Ru_rsT (g2 := (36, [(4, .int i), (3, .ref 270), (2, .ref 236), (1, .ref 64), (0, .ref 0)], [.int (xs (i.toNatClampNeg))], (q_kL S c n))) rfl rfl hx0 ?_
  refine q_Ru_seg (g2 := (39, [(4, .int i), (3, .ref 270), (2, .ref 236), (1, .ref 64), (0, .ref 0)], [.int ((xs (i.toNatClampNeg)) &&& 63)], (q_kL S c n))) 2 (fun _ _ => rfl) ?_
  rw [hv]
  refine q_Ru_seg (g2 := (1128, [(4, .int i), (3, .ref 270), (2, .ref 236), (1, .ref 64), (0, .ref 0)], [.ref 270, .ref 64], (q_kL S c n))) 3 (fun _ _ => rfl) ?_
  refine q_Ru_call (v := (some (.int r0.2.1))) (h2 := (q_kL (q_pt 172 1 0 206 S r0.1) (c + r0.2.2) (n + 6 * r0.2.2))) rfl rfl ?_ ?_
  · exact (q_emXL rfl (fun _ => rfl) (dzt_X22_64_236 z L xs (q_vw 172 0 206 S) c n r0 er0)).le (Nat.le_of_ble_eq_true rfl)
  show q_Ru _ _ _ (1131, [(4, .int i), (3, .ref 270), (2, .ref 236), (1, .ref 64), (0, .ref 0)], [.int r0.2.1], (q_kL (q_pt 172 1 0 206 S r0.1) (c + r0.2.2) (n + 6 * r0.2.2))) _
  refine q_Ru_seg (g2 := (1134, [(5, .int r0.2.1), (4, .int i), (3, .ref 270), (2, .ref 236), (1, .ref 64), (0, .ref 0)], [.ref 236], (q_kL (q_pt 172 1 0 206 S r0.1) (c + r0.2.2) (n + 6 * r0.2.2)))) 2 (fun _ _ => rfl) ?_
  refine q_Ru_call (v := (some (.int r1.2))) (h2 := (q_kL (q_pt 34 0 172 0 (q_pt 172 1 0 206 S r0.1) r1.1) (c + r0.2.2) (n + 6 * r0.2.2))) rfl rfl ?_ ?_
  · exact (q_emML rfl (fun _ => rfl) ((dzt_M305_64 (q_vw 34 172 0 (q_pt 172 1 0 206 S r0.1)) (c + r0.2.2) (n + 6 * r0.2.2) r1 er1).tb q_TB0_le)).le (Nat.le_of_ble_eq_true rfl)
  show q_Ru _ _ _ (1137, [(5, .int r0.2.1), (4, .int i), (3, .ref 270), (2, .ref 236), (1, .ref 64), (0, .ref 0)], [.int r1.2], (q_kL (q_pt 34 0 172 0 (q_pt 172 1 0 206 S r0.1) r1.1) (c + r0.2.2) (n + 6 * r0.2.2))) _
  refine q_Ru_seg (g2 := (23, [(4, .int (i + 4)), (6, .int r1.2), (5, .int r0.2.1), (3, .ref 270), (2, .ref 236), (1, .ref 64), (0, .ref 0)], [], (q_kL (q_pt 34 0 172 0 (q_pt 172 1 0 206 S r0.1) r1.1) (c + r0.2.2) (n + 6 * r0.2.2)))) 4 (fun _ _ => rfl) ?_
  exact q_Ru_xt (q_xt_mk (q_mn1 0 rfl (q_mn1 3 rfl (q_mn1 4 rfl (q_mn1 5 rfl (q_mn1 6 rfl q_mn0))))) rfl) h
set_option maxHeartbeats 4000000 in
theorem q_lw33 (z L : Nat) (xs : Nat → Int32) (S : q_S) (c n : Nat) (i : Int32) (hx0 : q_in i L = true) (hx1 : q_in (i + 1) L = true) (hx2 : q_in (i + 2) L = true) (hx3 : q_in (i + 3) L = true) (hi : decide (Int32.ofNat L - 4 < i) = false) (hv : xs i.toNatClampNeg &&& 63 = 33) (r0 : q_S × Int32 × Nat) (er0 : dz_X23_64_236 (q_vw 172 0 206 S) (xs ((i + 1).toNatClampNeg)) = some r0) (r1 : q_S × Int32) (er1 : dz_M307_64 (q_vw 34 172 0 (q_pt 172 1 0 206 S r0.1)) (xs ((i + 1).toNatClampNeg)) = some r1) {o : q_Out} (h : q_Ru (q_TBs z L xs) 20 375 (23, [(4, .int (i + 4)), (3, .ref 270), (2, .ref 236), (1, .ref 64), (0, .ref 0)], [], (q_kL (q_pt 34 0 172 0 (q_pt 172 1 0 206 S r0.1) r1.1) (c + r0.2.2) (n + 6 * r0.2.2))) o) : q_Ru (q_TBs z L xs) 20 375 (23, [(4, .int i), (3, .ref 270), (2, .ref 236), (1, .ref 64), (0, .ref 0)], [], (q_kL S c n)) o := by
  refine q_Ru_seg (g2 := (29, [(4, .int i), (3, .ref 270), (2, .ref 236), (1, .ref 64), (0, .ref 0)], [.int ((Int32.ofNat L) - 4), .int i], (q_kL S c n))) 5 (fun _ _ => rfl) ?_
  refine q_Ru_rsF (g2 := (32, [(4, .int i), (3, .ref 270), (2, .ref 236), (1, .ref 64), (0, .ref 0)], [], (q_kL S c n))) rfl rfl hi ?_
  refine q_Ru_seg (g2 := (35, [(4, .int i), (3, .ref 270), (2, .ref 236), (1, .ref 64), (0, .ref 0)], [.int i, .ref 0], (q_kL S c n))) 2 (fun _ _ => rfl) ?_
  refine q_Ru_rsT (g2 := (36, [(4, .int i), (3, .ref 270), (2, .ref 236), (1, .ref 64), (0, .ref 0)], [.int (xs (i.toNatClampNeg))], (q_kL S c n))) rfl rfl hx0 ?_
  refine q_Ru_seg (g2 := (39, [(4, .int i), (3, .ref 270), (2, .ref 236), (1, .ref 64), (0, .ref 0)], [.int ((xs (i.toNatClampNeg)) &&& 63)], (q_kL S c n))) 2 (fun _ _ => rfl) ?_
  rw [hv]
  refine q_Ru_seg (g2 := (1148, [(4, .int i), (3, .ref 270), (2, .ref 236), (1, .ref 64), (0, .ref 0)], [.int (i + 1), .ref 0, .ref 64], (q_kL S c n))) 6 (fun _ _ => rfl) ?_
  refine q_Ru_rsT (g2 := (1149, [(4, .int i), (3, .ref 270), (2, .ref 236), (1, .ref 64), (0, .ref 0)], [.int (xs ((i + 1).toNatClampNeg)), .ref 64], (q_kL S c n))) rfl rfl hx1 ?_
  refine q_Ru_seg (g2 := (1150, [(4, .int i), (3, .ref 270), (2, .ref 236), (1, .ref 64), (0, .ref 0)], [.ref 270, .int (xs ((i + 1).toNatClampNeg)), .ref 64], (q_kL S c n))) 1 (fun _ _ => rfl) ?_
  refine q_Ru_call (v := (some (.int r0.2.1))) (h2 := (q_kL (q_pt 172 1 0 206 S r0.1) (c + r0.2.2) (n + 6 * r0.2.2))) rfl rfl ?_ ?_
  · exact (q_emXL rfl (fun _ => rfl) (dzt_X23_64_236 z L xs (q_vw 172 0 206 S) c n (xs ((i + 1).toNatClampNeg)) r0 er0)).le (Nat.le_of_ble_eq_true rfl)
  show q_Ru _ _ _ (1153, [(4, .int i), (3, .ref 270), (2, .ref 236), (1, .ref 64), (0, .ref 0)], [.int r0.2.1], (q_kL (q_pt 172 1 0 206 S r0.1) (c + r0.2.2) (n + 6 * r0.2.2))) _
  refine q_Ru_seg (g2 := (1161, [(5, .int r0.2.1), (4, .int i), (3, .ref 270), (2, .ref 236), (1, .ref 64), (0, .ref 0)], [.int (i + 1), .ref 0, .ref 236], (q_kL (q_pt 172 1 0 206 S r0.1) (c + r0.2.2) (n + 6 * r0.2.2)))) 6 (fun _ _ => rfl) ?_
  refine q_Ru_rsT (g2 := (1162, [(5, .int r0.2.1), (4, .int i), (3, .ref 270), (2, .ref 236), (1, .ref 64), (0, .ref 0)], [.int (xs ((i + 1).toNatClampNeg)), .ref 236], (q_kL (q_pt 172 1 0 206 S r0.1) (c + r0.2.2) (n + 6 * r0.2.2)))) rfl rfl hx1 ?_
  refine q_Ru_call (v := (some (.int r1.2))) (h2 := (q_kL (q_pt 34 0 172 0 (q_pt 172 1 0 206 S r0.1) r1.1) (c + r0.2.2) (n + 6 * r0.2.2))) rfl rfl ?_ ?_
  · exact (q_emML rfl (fun _ => rfl) ((dzt_M307_64 (q_vw 34 172 0 (q_pt 172 1 0 206 S r0.1)) (c + r0.2.2) (n + 6 * r0.2.2) (xs ((i + 1).toNatClampNeg)) r1 er1).tb q_TB0_le)).le (Nat.le_of_ble_eq_true rfl)
  show q_Ru _ _ _ (1165, [(5, .int r0.2.1), (4, .int i), (3, .ref 270), (2, .ref 236), (1, .ref 64), (0, .ref 0)], [.int r1.2], (q_kL (q_pt 34 0 172 0 (q_pt 172 1 0 206 S r0.1) r1.1) (c + r0.2.2) (n + 6 * r0.2.2))) _
  refine q_Ru_seg (g2 := (23, [(4, .int (i + 4)), (6, .int r1.2), (5, .int r0.2.1), (3, .ref 270), (2, .ref 236), (1, .ref 64), (0, .ref 0)], [], (q_kL (q_pt 34 0 172 0 (q_pt 172 1 0 206 S r0.1) r1.1) (c + r0.2.2) (n + 6 * r0.2.2)))) 4 (fun _ _ => rfl) ?_
  exact q_Ru_xt (q_xt_mk (q_mn1 0 rfl (q_mn1 3 rfl (q_mn1 4 rfl (q_mn1 5 rfl (q_mn1 6 rfl q_mn0))))) rfl) h
set_option maxHeartbeats 4000000 in
theorem q_lw34 (z L : Nat) (xs : Nat → Int32) (S : q_S) (c n : Nat) (i : Int32) (hx0 : q_in i L = true) (hx1 : q_in (i + 1) L = true) (hx2 : q_in (i + 2) L = true) (hx3 : q_in (i + 3) L = true) (hi : decide (Int32.ofNat L - 4 < i) = false) (hv : xs i.toNatClampNeg &&& 63 = 34) (r0 : q_S × Int32 × Nat) (er0 : dz_X24_64_236 (q_vw 172 0 206 S) (xs ((i + 1).toNatClampNeg)) = some r0) (r1 : q_S × Int32) (er1 : dz_M308_64 (q_vw 34 172 0 (q_pt 172 1 0 206 S r0.1)) (xs ((i + 1).toNatClampNeg)) = some r1) {o : q_Out} (h : q_Ru (q_TBs z L xs) 20 375 (23, [(4, .int (i + 4)), (3, .ref 270), (2, .ref 236), (1, .ref 64), (0, .ref 0)], [], (q_kL (q_pt 34 0 172 0 (q_pt 172 1 0 206 S r0.1) r1.1) (c + r0.2.2) (n + 6 * r0.2.2))) o) : q_Ru (q_TBs z L xs) 20 375 (23, [(4, .int i), (3, .ref 270), (2, .ref 236), (1, .ref 64), (0, .ref 0)], [], (q_kL S c n)) o := by
  refine q_Ru_seg (g2 := (29, [(4, .int i), (3, .ref 270), (2, .ref 236), (1, .ref 64), (0, .ref 0)], [.int ((Int32.ofNat L) - 4), .int i], (q_kL S c n))) 5 (fun _ _ => rfl) ?_
  refine q_Ru_rsF (g2 := (32, [(4, .int i), (3, .ref 270), (2, .ref 236), (1, .ref 64), (0, .ref 0)], [], (q_kL S c n))) rfl rfl hi ?_
  refine q_Ru_seg (g2 := (35, [(4, .int i), (3, .ref 270), (2, .ref 236), (1, .ref 64), (0, .ref 0)], [.int i, .ref 0], (q_kL S c n))) 2 (fun _ _ => rfl) ?_
  refine q_Ru_rsT (g2 := (36, [(4, .int i), (3, .ref 270), (2, .ref 236), (1, .ref 64), (0, .ref 0)], [.int (xs (i.toNatClampNeg))], (q_kL S c n))) rfl rfl hx0 ?_
  refine q_Ru_seg (g2 := (39, [(4, .int i), (3, .ref 270), (2, .ref 236), (1, .ref 64), (0, .ref 0)], [.int ((xs (i.toNatClampNeg)) &&& 63)], (q_kL S c n))) 2 (fun _ _ => rfl) ?_
  rw [hv]
  refine q_Ru_seg (g2 := (1176, [(4, .int i), (3, .ref 270), (2, .ref 236), (1, .ref 64), (0, .ref 0)], [.int (i + 1), .ref 0, .ref 64], (q_kL S c n))) 6 (fun _ _ => rfl) ?_
  refine q_Ru_rsT (g2 := (1177, [(4, .int i), (3, .ref 270), (2, .ref 236), (1, .ref 64), (0, .ref 0)], [.int (xs ((i + 1).toNatClampNeg)), .ref 64], (q_kL S c n))) rfl rfl hx1 ?_
  refine q_Ru_seg (g2 := (1178, [(4, .int i), (3, .ref 270), (2, .ref 236), (1, .ref 64), (0, .ref 0)], [.ref 270, .int (xs ((i + 1).toNatClampNeg)), .ref 64], (q_kL S c n))) 1 (fun _ _ => rfl) ?_
  refine q_Ru_call (v := (some (.int r0.2.1))) (h2 := (q_kL (q_pt 172 1 0 206 S r0.1) (c + r0.2.2) (n + 6 * r0.2.2))) rfl rfl ?_ ?_
  · exact (q_emXL rfl (fun _ => rfl) (dzt_X24_64_236 z L xs (q_vw 172 0 206 S) c n (xs ((i + 1).toNatClampNeg)) r0 er0)).le (Nat.le_of_ble_eq_true rfl)
  show q_Ru _ _ _ (1181, [(4, .int i), (3, .ref 270), (2, .ref 236), (1, .ref 64), (0, .ref 0)], [.int r0.2.1], (q_kL (q_pt 172 1 0 206 S r0.1) (c + r0.2.2) (n + 6 * r0.2.2))) _
  refine q_Ru_seg (g2 := (1189, [(5, .int r0.2.1), (4, .int i), (3, .ref 270), (2, .ref 236), (1, .ref 64), (0, .ref 0)], [.int (i + 1), .ref 0, .ref 236], (q_kL (q_pt 172 1 0 206 S r0.1) (c + r0.2.2) (n + 6 * r0.2.2)))) 6 (fun _ _ => rfl) ?_
  refine q_Ru_rsT (g2 := (1190, [(5, .int r0.2.1), (4, .int i), (3, .ref 270), (2, .ref 236), (1, .ref 64), (0, .ref 0)], [.int (xs ((i + 1).toNatClampNeg)), .ref 236], (q_kL (q_pt 172 1 0 206 S r0.1) (c + r0.2.2) (n + 6 * r0.2.2)))) rfl rfl hx1 ?_
  refine q_Ru_call (v := (some (.int r1.2))) (h2 := (q_kL (q_pt 34 0 172 0 (q_pt 172 1 0 206 S r0.1) r1.1) (c + r0.2.2) (n + 6 * r0.2.2))) rfl rfl ?_ ?_
  · exact (q_emML rfl (fun _ => rfl) ((dzt_M308_64 (q_vw 34 172 0 (q_pt 172 1 0 206 S r0.1)) (c + r0.2.2) (n + 6 * r0.2.2) (xs ((i + 1).toNatClampNeg)) r1 er1).tb q_TB0_le)).le (Nat.le_of_ble_eq_true rfl)
  show q_Ru _ _ _ (1193, [(5, .int r0.2.1), (4, .int i), (3, .ref 270), (2, .ref 236), (1, .ref 64), (0, .ref 0)], [.int r1.2], (q_kL (q_pt 34 0 172 0 (q_pt 172 1 0 206 S r0.1) r1.1) (c + r0.2.2) (n + 6 * r0.2.2))) _
  refine q_Ru_seg (g2 := (23, [(4, .int (i + 4)), (6, .int r1.2), (5, .int r0.2.1), (3, .ref 270), (2, .ref 236), (1, .ref 64), (0, .ref 0)], [], (q_kL (q_pt 34 0 172 0 (q_pt 172 1 0 206 S r0.1) r1.1) (c + r0.2.2) (n + 6 * r0.2.2)))) 4 (fun _ _ => rfl) ?_
  exact q_Ru_xt (q_xt_mk (q_mn1 0 rfl (q_mn1 3 rfl (q_mn1 4 rfl (q_mn1 5 rfl (q_mn1 6 rfl q_mn0))))) rfl) h
set_option maxHeartbeats 4000000 in
theorem q_lw35 (z L : Nat) (xs : Nat → Int32) (S : q_S) (c n : Nat) (i : Int32) (hx0 : q_in i L = true) (hx1 : q_in (i + 1) L = true) (hx2 : q_in (i + 2) L = true) (hx3 : q_in (i + 3) L = true) (hi : decide (Int32.ofNat L - 4 < i) = false) (hv : xs i.toNatClampNeg &&& 63 = 35) (r0 : q_S × Int32) (er0 : dz_X63_64 (q_vw 172 0 206 S) = some r0) (r1 : q_S × Int32) (er1 : dz_M309_64 (q_vw 34 172 0 (q_pt 172 1 0 206 S r0.1)) = r1) {o : q_Out} (h : q_Ru (q_TBs z L xs) 20 375 (23, [(4, .int (i + 4)), (3, .ref 270), (2, .ref 236), (1, .ref 64), (0, .ref 0)], [], (q_kL (q_pt 34 0 172 0 (q_pt 172 1 0 206 S r0.1) r1.1) c n)) o) : q_Ru (q_TBs z L xs) 20 375 (23, [(4, .int i), (3, .ref 270), (2, .ref 236), (1, .ref 64), (0, .ref 0)], [], (q_kL S c n)) o := by
  refine q_Ru_seg (g2 := (29, [(4, .int i), (3, .ref 270), (2, .ref 236), (1, .ref 64), (0, .ref 0)], [.int ((Int32.ofNat L) - 4), .int i], (q_kL S c n))) 5 (fun _ _ => rfl) ?_
  refine q_Ru_rsF (g2 := (32, [(4, .int i), (3, .ref 270), (2, .ref 236), (1, .ref 64), (0, .ref 0)], [], (q_kL S c n))) rfl rfl hi ?_
  refine q_Ru_seg (g2 := (35, [(4, .int i), (3, .ref 270), (2, .ref 236), (1, .ref 64), (0, .ref 0)], [.int i, .ref 0], (q_kL S c n))) 2 (fun _ _ => rfl) ?_
  refine q_Ru_rsT (g2 := (36, [(4, .int i), (3, .ref 270), (2, .ref 236), (1, .ref 64), (0, .ref 0)], [.int (xs (i.toNatClampNeg))], (q_kL S c n))) rfl rfl hx0 ?_
  refine q_Ru_seg (g2 := (39, [(4, .int i), (3, .ref 270), (2, .ref 236), (1, .ref 64), (0, .ref 0)], [.int ((xs (i.toNatClampNeg)) &&& 63)], (q_kL S c n))) 2 (fun _ _ => rfl) ?_
  rw [hv]
  refine q_Ru_seg (g2 := (1199, [(4, .int i), (3, .ref 270), (2, .ref 236), (1, .ref 64), (0, .ref 0)], [.ref 64], (q_kL S c n))) 2 (fun _ _ => rfl) ?_
  refine q_Ru_call (v := (some (.int r0.2))) (h2 := (q_kL (q_pt 172 1 0 206 S r0.1) c n)) rfl rfl ?_ ?_
  · exact (q_emXL rfl (fun _ => rfl) (dzt_X63_64 z L xs (q_vw 172 0 206 S) c n r0 er0)).le (Nat.le_of_ble_eq_true rfl)
  show q_Ru _ _ _ (1202, [(4, .int i), (3, .ref 270), (2, .ref 236), (1, .ref 64), (0, .ref 0)], [.int r0.2], (q_kL (q_pt 172 1 0 206 S r0.1) c n)) _
  refine q_Ru_seg (g2 := (1204, [(4, .int i), (3, .ref 270), (2, .ref 236), (1, .ref 64), (0, .ref 0)], [.ref 236], (q_kL (q_pt 172 1 0 206 S r0.1) c n))) 2 (fun _ _ => rfl) ?_
  refine q_Ru_call (v := (some (.int r1.2))) (h2 := (q_kL (q_pt 34 0 172 0 (q_pt 172 1 0 206 S r0.1) r1.1) c n)) rfl rfl ?_ ?_
  · exact (q_emML rfl (fun _ => rfl) ((q_cE (φ := (q_oIM c n)) er1 (dzt_M309_64 (q_vw 34 172 0 (q_pt 172 1 0 206 S r0.1)) c n)).tb q_TB0_le)).le (Nat.le_of_ble_eq_true rfl)
  show q_Ru _ _ _ (1207, [(4, .int i), (3, .ref 270), (2, .ref 236), (1, .ref 64), (0, .ref 0)], [.int r1.2], (q_kL (q_pt 34 0 172 0 (q_pt 172 1 0 206 S r0.1) r1.1) c n)) _
  refine q_Ru_seg (g2 := (23, [(4, .int (i + 4)), (3, .ref 270), (2, .ref 236), (1, .ref 64), (0, .ref 0)], [], (q_kL (q_pt 34 0 172 0 (q_pt 172 1 0 206 S r0.1) r1.1) c n))) 4 (fun _ _ => rfl) ?_
  exact q_Ru_xt (q_xt_mk (q_mn1 0 rfl (q_mn1 1 rfl (q_mn1 2 rfl (q_mn1 3 rfl (q_mn1 4 rfl q_mn0))))) rfl) h
set_option maxHeartbeats 4000000 in
theorem q_lw36 (z L : Nat) (xs : Nat → Int32) (S : q_S) (c n : Nat) (i : Int32) (hx0 : q_in i L = true) (hx1 : q_in (i + 1) L = true) (hx2 : q_in (i + 2) L = true) (hx3 : q_in (i + 3) L = true) (hi : decide (Int32.ofNat L - 4 < i) = false) (hv : xs i.toNatClampNeg &&& 63 = 36) (r0 : q_S × Int32 × Nat) (er0 : dz_X25_64_236 (q_vw 172 0 206 S) = r0) (r1 : q_S × Int32) (er1 : dz_M310_64 (q_vw 34 172 0 (q_pt 172 1 0 206 S r0.1)) = r1) {o : q_Out} (h : q_Ru (q_TBs z L xs) 20 375 (23, [(4, .int (i + 4)), (3, .ref 270), (2, .ref 236), (1, .ref 64), (0, .ref 0)], [], (q_kL (q_pt 34 0 172 0 (q_pt 172 1 0 206 S r0.1) r1.1) (c + r0.2.2) (n + 6 * r0.2.2))) o) : q_Ru (q_TBs z L xs) 20 375 (23, [(4, .int i), (3, .ref 270), (2, .ref 236), (1, .ref 64), (0, .ref 0)], [], (q_kL S c n)) o := by
  refine q_Ru_seg (g2 := (29, [(4, .int i), (3, .ref 270), (2, .ref 236), (1, .ref 64), (0, .ref 0)], [.int ((Int32.ofNat L) - 4), .int i], (q_kL S c n))) 5 (fun _ _ => rfl) ?_
  refine q_Ru_rsF (g2 := (32, [(4, .int i), (3, .ref 270), (2, .ref 236), (1, .ref 64), (0, .ref 0)], [], (q_kL S c n))) rfl rfl hi ?_
  refine q_Ru_seg (g2 := (35, [(4, .int i), (3, .ref 270), (2, .ref 236), (1, .ref 64), (0, .ref 0)], [.int i, .ref 0], (q_kL S c n))) 2 (fun _ _ => rfl) ?_
  refine q_Ru_rsT (g2 := (36, [(4, .int i), (3, .ref 270), (2, .ref 236), (1, .ref 64), (0, .ref 0)], [.int (xs (i.toNatClampNeg))], (q_kL S c n))) rfl rfl hx0 ?_
  refine q_Ru_seg (g2 := (39, [(4, .int i), (3, .ref 270), (2, .ref 236), (1, .ref 64), (0, .ref 0)], [.int ((xs (i.toNatClampNeg)) &&& 63)], (q_kL S c n))) 2 (fun _ _ => rfl) ?_
  rw [hv]
  refine q_Ru_seg (g2 := (1213, [(4, .int i), (3, .ref 270), (2, .ref 236), (1, .ref 64), (0, .ref 0)], [.ref 270, .ref 64], (q_kL S c n))) 3 (fun _ _ => rfl) ?_
  refine q_Ru_call (v := (some (.int r0.2.1))) (h2 := (q_kL (q_pt 172 1 0 206 S r0.1) (c + r0.2.2) (n + 6 * r0.2.2))) rfl rfl ?_ ?_
  · exact (q_emXL rfl (fun _ => rfl) (q_cE (φ := (q_oEX c n)) er0 (dzt_X25_64_236 z L xs (q_vw 172 0 206 S) c n))).le (Nat.le_of_ble_eq_true rfl)
  show q_Ru _ _ _ (1216, [(4, .int i), (3, .ref 270), (2, .ref 236), (1, .ref 64), (0, .ref 0)], [.int r0.2.1], (q_kL (q_pt 172 1 0 206 S r0.1) (c + r0.2.2) (n + 6 * r0.2.2))) _
  refine q_Ru_seg (g2 := (1219, [(5, .int r0.2.1), (4, .int i), (3, .ref 270), (2, .ref 236), (1, .ref 64), (0, .ref 0)], [.ref 236], (q_kL (q_pt 172 1 0 206 S r0.1) (c + r0.2.2) (n + 6 * r0.2.2)))) 2 (fun _ _ => rfl) ?_
  refine q_Ru_call (v := (some (.int r1.2))) (h2 := (q_kL (q_pt 34 0 172 0 (q_pt 172 1 0 206 S r0.1) r1.1) (c + r0.2.2) (n + 6 * r0.2.2))) rfl rfl ?_ ?_
  · exact (q_emML rfl (fun _ => rfl) ((q_cE (φ := (q_oIM (c + r0.2.2) (n + 6 * r0.2.2))) er1 (dzt_M310_64 (q_vw 34 172 0 (q_pt 172 1 0 206 S r0.1)) (c + r0.2.2) (n + 6 * r0.2.2))).tb q_TB0_le)).le (Nat.le_of_ble_eq_true rfl)
  show q_Ru _ _ _ (1222, [(5, .int r0.2.1), (4, .int i), (3, .ref 270), (2, .ref 236), (1, .ref 64), (0, .ref 0)], [.int r1.2], (q_kL (q_pt 34 0 172 0 (q_pt 172 1 0 206 S r0.1) r1.1) (c + r0.2.2) (n + 6 * r0.2.2))) _
  refine q_Ru_seg (g2 := (23, [(4, .int (i + 4)), (6, .int r1.2), (5, .int r0.2.1), (3, .ref 270), (2, .ref 236), (1, .ref 64), (0, .ref 0)], [], (q_kL (q_pt 34 0 172 0 (q_pt 172 1 0 206 S r0.1) r1.1) (c + r0.2.2) (n + 6 * r0.2.2)))) 4 (fun _ _ => rfl) ?_
  exact q_Ru_xt (q_xt_mk (q_mn1 0 rfl (q_mn1 3 rfl (q_mn1 4 rfl (q_mn1 5 rfl (q_mn1 6 rfl q_mn0))))) rfl) h
set_option maxHeartbeats 4000000 in
theorem q_lw37 (z L : Nat) (xs : Nat → Int32) (S : q_S) (c n : Nat) (i : Int32) (hx0 : q_in i L = true) (hx1 : q_in (i + 1) L = true) (hx2 : q_in (i + 2) L = true) (hx3 : q_in (i + 3) L = true) (hi : decide (Int32.ofNat L - 4 < i) = false) (hv : xs i.toNatClampNeg &&& 63 = 37) (r0 : q_S × Int32 × Nat) (er0 : dz_X26_64_236 (q_vw 172 0 206 S) = some r0) (r1 : q_S × Bool) (er1 : dz_M311_64 (q_vw 34 172 0 (q_pt 172 1 0 206 S r0.1)) = r1) {o : q_Out} (h : q_Ru (q_TBs z L xs) 20 375 (23, [(4, .int (i + 4)), (3, .ref 270), (2, .ref 236), (1, .ref 64), (0, .ref 0)], [], (q_kL (q_pt 34 0 172 0 (q_pt 172 1 0 206 S r0.1) r1.1) (c + r0.2.2) (n + 6 * r0.2.2))) o) : q_Ru (q_TBs z L xs) 20 375 (23, [(4, .int i), (3, .ref 270), (2, .ref 236), (1, .ref 64), (0, .ref 0)], [], (q_kL S c n)) o := by
  refine q_Ru_seg (g2 := (29, [(4, .int i), (3, .ref 270), (2, .ref 236), (1, .ref 64), (0, .ref 0)], [.int ((Int32.ofNat L) - 4), .int i], (q_kL S c n))) 5 (fun _ _ => rfl) ?_
  refine q_Ru_rsF (g2 := (32, [(4, .int i), (3, .ref 270), (2, .ref 236), (1, .ref 64), (0, .ref 0)], [], (q_kL S c n))) rfl rfl hi ?_
  refine q_Ru_seg (g2 := (35, [(4, .int i), (3, .ref 270), (2, .ref 236), (1, .ref 64), (0, .ref 0)], [.int i, .ref 0], (q_kL S c n))) 2 (fun _ _ => rfl) ?_
  refine q_Ru_rsT (g2 := (36, [(4, .int i), (3, .ref 270), (2, .ref 236), (1, .ref 64), (0, .ref 0)], [.int (xs (i.toNatClampNeg))], (q_kL S c n))) rfl rfl hx0 ?_
  refine q_Ru_seg (g2 := (39, [(4, .int i), (3, .ref 270), (2, .ref 236), (1, .ref 64), (0, .ref 0)], [.int ((xs (i.toNatClampNeg)) &&& 63)], (q_kL S c n))) 2 (fun _ _ => rfl) ?_
  rw [hv]
  refine q_Ru_seg (g2 := (1229, [(4, .int i), (3, .ref 270), (2, .ref 236), (1, .ref 64), (0, .ref 0)], [.ref 270, .ref 64], (q_kL S c n))) 3 (fun _ _ => rfl) ?_
  refine q_Ru_call (v := (some (.int r0.2.1))) (h2 := (q_kL (q_pt 172 1 0 206 S r0.1) (c + r0.2.2) (n + 6 * r0.2.2))) rfl rfl ?_ ?_
  · exact (q_emXL rfl (fun _ => rfl) (dzt_X26_64_236 z L xs (q_vw 172 0 206 S) c n r0 er0)).le (Nat.le_of_ble_eq_true rfl)
  show q_Ru _ _ _ (1232, [(4, .int i), (3, .ref 270), (2, .ref 236), (1, .ref 64), (0, .ref 0)], [.int r0.2.1], (q_kL (q_pt 172 1 0 206 S r0.1) (c + r0.2.2) (n + 6 * r0.2.2))) _
  refine q_Ru_seg (g2 := (1235, [(5, .int r0.2.1), (4, .int i), (3, .ref 270), (2, .ref 236), (1, .ref 64), (0, .ref 0)], [.ref 236], (q_kL (q_pt 172 1 0 206 S r0.1) (c + r0.2.2) (n + 6 * r0.2.2)))) 2 (fun _ _ => rfl) ?_
  refine q_Ru_call (v := (some (.int (q_b r1.2)))) (h2 := (q_kL (q_pt 34 0 172 0 (q_pt 172 1 0 206 S r0.1) r1.1) (c + r0.2.2) (n + 6 * r0.2.2))) rfl rfl ?_ ?_
  · exact (q_emML rfl (fun _ => rfl) ((q_cE (φ := (q_oJM (c + r0.2.2) (n + 6 * r0.2.2))) er1 (dzt_M311_64 (q_vw 34 172 0 (q_pt 172 1 0 206 S r0.1)) (c + r0.2.2) (n + 6 * r0.2.2))).tb q_TB0_le)).le (Nat.le_of_ble_eq_true rfl)
  show q_Ru _ _ _ (1238, [(5, .int r0.2.1), (4, .int i), (3, .ref 270), (2, .ref 236), (1, .ref 64), (0, .ref 0)], [.int (q_b r1.2)], (q_kL (q_pt 34 0 172 0 (q_pt 172 1 0 206 S r0.1) r1.1) (c + r0.2.2) (n + 6 * r0.2.2))) _
  refine q_Ru_seg (g2 := (23, [(4, .int (i + 4)), (6, .int (q_b r1.2)), (5, .int r0.2.1), (3, .ref 270), (2, .ref 236), (1, .ref 64), (0, .ref 0)], [], (q_kL (q_pt 34 0 172 0 (q_pt 172 1 0 206 S r0.1) r1.1) (c + r0.2.2) (n + 6 * r0.2.2)))) 4 (fun _ _ => rfl) ?_
  exact q_Ru_xt (q_xt_mk (q_mn1 0 rfl (q_mn1 3 rfl (q_mn1 4 rfl (q_mn1 5 rfl (q_mn1 6 rfl q_mn0))))) rfl) h
set_option maxHeartbeats 4000000 in
theorem q_lw38 (z L : Nat) (xs : Nat → Int32) (S : q_S) (c n : Nat) (i : Int32) (hx0 : q_in i L = true) (hx1 : q_in (i + 1) L = true) (hx2 : q_in (i + 2) L = true) (hx3 : q_in (i + 3) L = true) (hi : decide (Int32.ofNat L - 4 < i) = false) (hv : xs i.toNatClampNeg &&& 63 = 38) (r0 : Int32) (er0 : dz_X66_64 (q_vw 172 0 206 S) = some r0) (r1 : q_S × Int32) (er1 : dz_M312_64 (q_vw 34 172 0 S) = some r1) {o : q_Out} (h : q_Ru (q_TBs z L xs) 20 375 (23, [(4, .int (i + 4)), (3, .ref 270), (2, .ref 236), (1, .ref 64), (0, .ref 0)], [], (q_kL (q_pt 34 0 172 0 S r1.1) c n)) o) : q_Ru (q_TBs z L xs) 20 375 (23, [(4, .int i), (3, .ref 270), (2, .ref 236), (1, .ref 64), (0, .ref 0)], [], (q_kL S c n)) o := by
  refine q_Ru_seg (g2 := (29, [(4, .int i), (3, .ref 270), (2, .ref 236), (1, .ref 64), (0, .ref 0)], [.int ((Int32.ofNat L) - 4), .int i], (q_kL S c n))) 5 (fun _ _ => rfl) ?_
  refine q_Ru_rsF (g2 := (32, [(4, .int i), (3, .ref 270), (2, .ref 236), (1, .ref 64), (0, .ref 0)], [], (q_kL S c n))) rfl rfl hi ?_
  refine q_Ru_seg (g2 := (35, [(4, .int i), (3, .ref 270), (2, .ref 236), (1, .ref 64), (0, .ref 0)], [.int i, .ref 0], (q_kL S c n))) 2 (fun _ _ => rfl) ?_
  refine q_Ru_rsT (g2 := (36, [(4, .int i), (3, .ref 270), (2, .ref 236), (1, .ref 64), (0, .ref 0)], [.int (xs (i.toNatClampNeg))], (q_kL S c n))) rfl rfl hx0 ?_
  refine q_Ru_seg (g2 := (39, [(4, .int i), (3, .ref 270), (2, .ref 236), (1, .ref 64), (0, .ref 0)], [.int ((xs (i.toNatClampNeg)) &&& 63)], (q_kL S c n))) 2 (fun _ _ => rfl) ?_
  rw [hv]
  refine q_Ru_seg (g2 := (1244, [(4, .int i), (3, .ref 270), (2, .ref 236), (1, .ref 64), (0, .ref 0)], [.ref 64], (q_kL S c n))) 2 (fun _ _ => rfl) ?_
  refine q_Ru_call (v := (some (.int r0))) (h2 := (q_kL S c n)) rfl rfl ?_ ?_
  · exact (q_emXLp rfl (fun _ => rfl) (dzt_X66_64 z L xs (q_vw 172 0 206 S) c n r0 er0)).le (Nat.le_of_ble_eq_true rfl)
  show q_Ru _ _ _ (1247, [(4, .int i), (3, .ref 270), (2, .ref 236), (1, .ref 64), (0, .ref 0)], [.int r0], (q_kL S c n)) _
  refine q_Ru_seg (g2 := (1249, [(4, .int i), (3, .ref 270), (2, .ref 236), (1, .ref 64), (0, .ref 0)], [.ref 236], (q_kL S c n))) 2 (fun _ _ => rfl) ?_
  refine q_Ru_call (v := (some (.int r1.2))) (h2 := (q_kL (q_pt 34 0 172 0 S r1.1) c n)) rfl rfl ?_ ?_
  · exact (q_emML rfl (fun _ => rfl) ((dzt_M312_64 (q_vw 34 172 0 S) c n r1 er1).tb q_TB0_le)).le (Nat.le_of_ble_eq_true rfl)
  show q_Ru _ _ _ (1252, [(4, .int i), (3, .ref 270), (2, .ref 236), (1, .ref 64), (0, .ref 0)], [.int r1.2], (q_kL (q_pt 34 0 172 0 S r1.1) c n)) _
  refine q_Ru_seg (g2 := (23, [(4, .int (i + 4)), (3, .ref 270), (2, .ref 236), (1, .ref 64), (0, .ref 0)], [], (q_kL (q_pt 34 0 172 0 S r1.1) c n))) 4 (fun _ _ => rfl) ?_
  exact q_Ru_xt (q_xt_mk (q_mn1 0 rfl (q_mn1 1 rfl (q_mn1 2 rfl (q_mn1 3 rfl (q_mn1 4 rfl q_mn0))))) rfl) h
set_option maxHeartbeats 4000000 in
theorem q_lw39 (z L : Nat) (xs : Nat → Int32) (S : q_S) (c n : Nat) (i : Int32) (hx0 : q_in i L = true) (hx1 : q_in (i + 1) L = true) (hx2 : q_in (i + 2) L = true) (hx3 : q_in (i + 3) L = true) (hi : decide (Int32.ofNat L - 4 < i) = false) (hv : xs i.toNatClampNeg &&& 63 = 39) (r0 : q_S × Int64) (er0 : dz_M313_64 (q_vw 34 172 0 S) = r0) {o : q_Out} (h : q_Ru (q_TBs z L xs) 20 375 (23, [(4, .int (i + 4)), (3, .ref 270), (2, .ref 236), (1, .ref 64), (0, .ref 0)], [], (q_kL (q_pt 34 0 172 0 S r0.1) c n)) o) : q_Ru (q_TBs z L xs) 20 375 (23, [(4, .int i), (3, .ref 270), (2, .ref 236), (1, .ref 64), (0, .ref 0)], [], (q_kL S c n)) o := by
  refine q_Ru_seg (g2 := (29, [(4, .int i), (3, .ref 270), (2, .ref 236), (1, .ref 64), (0, .ref 0)], [.int ((Int32.ofNat L) - 4), .int i], (q_kL S c n))) 5 (fun _ _ => rfl) ?_
  refine q_Ru_rsF (g2 := (32, [(4, .int i), (3, .ref 270), (2, .ref 236), (1, .ref 64), (0, .ref 0)], [], (q_kL S c n))) rfl rfl hi ?_
  refine q_Ru_seg (g2 := (35, [(4, .int i), (3, .ref 270), (2, .ref 236), (1, .ref 64), (0, .ref 0)], [.int i, .ref 0], (q_kL S c n))) 2 (fun _ _ => rfl) ?_
  refine q_Ru_rsT (g2 := (36, [(4, .int i), (3, .ref 270), (2, .ref 236), (1, .ref 64), (0, .ref 0)], [.int (xs (i.toNatClampNeg))], (q_kL S c n))) rfl rfl hx0 ?_
  refine q_Ru_seg (g2 := (39, [(4, .int i), (3, .ref 270), (2, .ref 236), (1, .ref 64), (0, .ref 0)], [.int ((xs (i.toNatClampNeg)) &&& 63)], (q_kL S c n))) 2 (fun _ _ => rfl) ?_
  rw [hv]
  refine q_Ru_seg (g2 := (1257, [(4, .int i), (3, .ref 270), (2, .ref 236), (1, .ref 64), (0, .ref 0)], [.ref 64], (q_kL S c n))) 2 (fun _ _ => rfl) ?_
  refine q_Ru_call (v := (some (.long (dz_X67_64 (q_vw 172 0 206 S))))) (h2 := (q_kL S c n)) rfl rfl ?_ ?_
  · exact (q_emXLp rfl (fun _ => rfl) (dzt_X67_64 z L xs (q_vw 172 0 206 S) c n)).le (Nat.le_of_ble_eq_true rfl)
  show q_Ru _ _ _ (1260, [(4, .int i), (3, .ref 270), (2, .ref 236), (1, .ref 64), (0, .ref 0)], [.long (dz_X67_64 (q_vw 172 0 206 S))], (q_kL S c n)) _
  refine q_Ru_seg (g2 := (1262, [(4, .int i), (3, .ref 270), (2, .ref 236), (1, .ref 64), (0, .ref 0)], [.ref 236], (q_kL S c n))) 2 (fun _ _ => rfl) ?_
  refine q_Ru_call (v := (some (.long r0.2))) (h2 := (q_kL (q_pt 34 0 172 0 S r0.1) c n)) rfl rfl ?_ ?_
  · exact (q_emML rfl (fun _ => rfl) ((q_cE (φ := (q_oKM c n)) er0 (dzt_M313_64 (q_vw 34 172 0 S) c n)).tb q_TB0_le)).le (Nat.le_of_ble_eq_true rfl)
  show q_Ru _ _ _ (1265, [(4, .int i), (3, .ref 270), (2, .ref 236), (1, .ref 64), (0, .ref 0)], [.long r0.2], (q_kL (q_pt 34 0 172 0 S r0.1) c n)) _
  refine q_Ru_seg (g2 := (23, [(4, .int (i + 4)), (3, .ref 270), (2, .ref 236), (1, .ref 64), (0, .ref 0)], [], (q_kL (q_pt 34 0 172 0 S r0.1) c n))) 4 (fun _ _ => rfl) ?_
  exact q_Ru_xt (q_xt_mk (q_mn1 0 rfl (q_mn1 1 rfl (q_mn1 2 rfl (q_mn1 3 rfl (q_mn1 4 rfl q_mn0))))) rfl) h
set_option maxHeartbeats 4000000 in
theorem q_lw40 (z L : Nat) (xs : Nat → Int32) (S : q_S) (c n : Nat) (i : Int32) (hx0 : q_in i L = true) (hx1 : q_in (i + 1) L = true) (hx2 : q_in (i + 2) L = true) (hx3 : q_in (i + 3) L = true) (hi : decide (Int32.ofNat L - 4 < i) = false) (hv : xs i.toNatClampNeg &&& 63 = 40) (r0 : UInt32) (er0 : dz_X68_64 (q_vw 172 0 206 S) = some r0) (r1 : q_S × UInt32) (er1 : dz_M314_64 (q_vw 34 172 0 S) = some r1) (hn0 : q_nnd (FP.f2d r0) = true) (hn1 : q_nnd (FP.f2d r1.2) = true) {o : q_Out} (h : q_Ru (q_TBs z L xs) 20 375 (23, [(4, .int (i + 4)), (3, .ref 270), (2, .ref 236), (1, .ref 64), (0, .ref 0)], [], (q_kL (q_pt 34 0 172 0 S r1.1) c n)) o) : q_Ru (q_TBs z L xs) 20 375 (23, [(4, .int i), (3, .ref 270), (2, .ref 236), (1, .ref 64), (0, .ref 0)], [], (q_kL S c n)) o := by
  refine q_Ru_seg (g2 := (29, [(4, .int i), (3, .ref 270), (2, .ref 236), (1, .ref 64), (0, .ref 0)], [.int ((Int32.ofNat L) - 4), .int i], (q_kL S c n))) 5 (fun _ _ => rfl) ?_
  refine q_Ru_rsF (g2 := (32, [(4, .int i), (3, .ref 270), (2, .ref 236), (1, .ref 64), (0, .ref 0)], [], (q_kL S c n))) rfl rfl hi ?_
  refine q_Ru_seg (g2 := (35, [(4, .int i), (3, .ref 270), (2, .ref 236), (1, .ref 64), (0, .ref 0)], [.int i, .ref 0], (q_kL S c n))) 2 (fun _ _ => rfl) ?_
  refine q_Ru_rsT (g2 := (36, [(4, .int i), (3, .ref 270), (2, .ref 236), (1, .ref 64), (0, .ref 0)], [.int (xs (i.toNatClampNeg))], (q_kL S c n))) rfl rfl hx0 ?_
  refine q_Ru_seg (g2 := (39, [(4, .int i), (3, .ref 270), (2, .ref 236), (1, .ref 64), (0, .ref 0)], [.int ((xs (i.toNatClampNeg)) &&& 63)], (q_kL S c n))) 2 (fun _ _ => rfl) ?_
  rw [hv]
  refine q_Ru_seg (g2 := (1270, [(4, .int i), (3, .ref 270), (2, .ref 236), (1, .ref 64), (0, .ref 0)], [.ref 64], (q_kL S c n))) 2 (fun _ _ => rfl) ?_
  refine q_Ru_call (v := (some (.float r0))) (h2 := (q_kL S c n)) rfl rfl ?_ ?_
  · exact (q_emXLp rfl (fun _ => rfl) (dzt_X68_64 z L xs (q_vw 172 0 206 S) c n r0 er0)).le (Nat.le_of_ble_eq_true rfl)
  show q_Ru _ _ _ (1273, [(4, .int i), (3, .ref 270), (2, .ref 236), (1, .ref 64), (0, .ref 0)], [.float r0], (q_kL S c n)) _
  refine q_Ru_st1 (g2 := (1274, [(4, .int i), (3, .ref 270), (2, .ref 236), (1, .ref 64), (0, .ref 0)], [.double (FP.f2d r0)], (q_kL S c n))) rfl (q_f2dv hn0) ?_
  refine q_Ru_seg (g2 := (1277, [(5, .double (FP.f2d r0)), (4, .int i), (3, .ref 270), (2, .ref 236), (1, .ref 64), (0, .ref 0)], [.ref 236], (q_kL S c n))) 2 (fun _ _ => rfl) ?_
  refine q_Ru_call (v := (some (.float r1.2))) (h2 := (q_kL (q_pt 34 0 172 0 S r1.1) c n)) rfl rfl ?_ ?_
  · exact (q_emML rfl (fun _ => rfl) ((dzt_M314_64 (q_vw 34 172 0 S) c n r1 er1).tb q_TB0_le)).le (Nat.le_of_ble_eq_true rfl)
  show q_Ru _ _ _ (1280, [(5, .double (FP.f2d r0)), (4, .int i), (3, .ref 270), (2, .ref 236), (1, .ref 64), (0, .ref 0)], [.float r1.2], (q_kL (q_pt 34 0 172 0 S r1.1) c n)) _
  refine q_Ru_st1 (g2 := (1281, [(5, .double (FP.f2d r0)), (4, .int i), (3, .ref 270), (2, .ref 236), (1, .ref 64), (0, .ref 0)], [.double (FP.f2d r1.2)], (q_kL (q_pt 34 0 172 0 S r1.1) c n))) rfl (q_f2dv hn1) ?_
  refine q_Ru_seg (g2 := (23, [(4, .int (i + 4)), (7, .double (FP.f2d r1.2)), (5, .double (FP.f2d r0)), (3, .ref 270), (2, .ref 236), (1, .ref 64), (0, .ref 0)], [], (q_kL (q_pt 34 0 172 0 S r1.1) c n))) 4 (fun _ _ => rfl) ?_
  exact q_Ru_xt (q_xt_mk (q_mn1 0 rfl (q_mn1 3 rfl (q_mn1 4 rfl (q_mn1 5 rfl (q_mn1 6 rfl q_mn0))))) rfl) h
set_option maxHeartbeats 4000000 in
theorem q_lw41 (z L : Nat) (xs : Nat → Int32) (S : q_S) (c n : Nat) (i : Int32) (hx0 : q_in i L = true) (hx1 : q_in (i + 1) L = true) (hx2 : q_in (i + 2) L = true) (hx3 : q_in (i + 3) L = true) (hi : decide (Int32.ofNat L - 4 < i) = false) (hv : xs i.toNatClampNeg &&& 63 = 41) (r0 : UInt64) (er0 : dz_X69_64 (q_vw 172 0 206 S) = some r0) (r1 : q_S × UInt64) (er1 : dz_M315_64 (q_vw 34 172 0 S) = some r1) {o : q_Out} (h : q_Ru (q_TBs z L xs) 20 375 (23, [(4, .int (i + 4)), (3, .ref 270), (2, .ref 236), (1, .ref 64), (0, .ref 0)], [], (q_kL (q_pt 34 0 172 0 S r1.1) c n)) o) : q_Ru (q_TBs z L xs) 20 375 (23, [(4, .int i), (3, .ref 270), (2, .ref 236), (1, .ref 64), (0, .ref 0)], [], (q_kL S c n)) o := by
  refine q_Ru_seg (g2 := (29, [(4, .int i), (3, .ref 270), (2, .ref 236), (1, .ref 64), (0, .ref 0)], [.int ((Int32.ofNat L) - 4), .int i], (q_kL S c n))) 5 (fun _ _ => rfl) ?_
  refine q_Ru_rsF (g2 := (32, [(4, .int i), (3, .ref 270), (2, .ref 236), (1, .ref 64), (0, .ref 0)], [], (q_kL S c n))) rfl rfl hi ?_
  refine q_Ru_seg (g2 := (35, [(4, .int i), (3, .ref 270), (2, .ref 236), (1, .ref 64), (0, .ref 0)], [.int i, .ref 0], (q_kL S c n))) 2 (fun _ _ => rfl) ?_
  refine q_Ru_rsT (g2 := (36, [(4, .int i), (3, .ref 270), (2, .ref 236), (1, .ref 64), (0, .ref 0)], [.int (xs (i.toNatClampNeg))], (q_kL S c n))) rfl rfl hx0 ?_
  refine q_Ru_seg (g2 := (39, [(4, .int i), (3, .ref 270), (2, .ref 236), (1, .ref 64), (0, .ref 0)], [.int ((xs (i.toNatClampNeg)) &&& 63)], (q_kL S c n))) 2 (fun _ _ => rfl) ?_
  rw [hv]
  refine q_Ru_seg (g2 := (1287, [(4, .int i), (3, .ref 270), (2, .ref 236), (1, .ref 64), (0, .ref 0)], [.ref 64], (q_kL S c n))) 2 (fun _ _ => rfl) ?_
  refine q_Ru_call (v := (some (.double r0))) (h2 := (q_kL S c n)) rfl rfl ?_ ?_
  · exact (q_emXLp rfl (fun _ => rfl) (dzt_X69_64 z L xs (q_vw 172 0 206 S) c n r0 er0)).le (Nat.le_of_ble_eq_true rfl)
  show q_Ru _ _ _ (1290, [(4, .int i), (3, .ref 270), (2, .ref 236), (1, .ref 64), (0, .ref 0)], [.double r0], (q_kL S c n)) _
  refine q_Ru_seg (g2 := (1293, [(5, .double r0), (4, .int i), (3, .ref 270), (2, .ref 236), (1, .ref 64), (0, .ref 0)], [.ref 236], (q_kL S c n))) 2 (fun _ _ => rfl) ?_
  refine q_Ru_call (v := (some (.double r1.2))) (h2 := (q_kL (q_pt 34 0 172 0 S r1.1) c n)) rfl rfl ?_ ?_
  · exact (q_emML rfl (fun _ => rfl) ((dzt_M315_64 (q_vw 34 172 0 S) c n r1 er1).tb q_TB0_le)).le (Nat.le_of_ble_eq_true rfl)
  show q_Ru _ _ _ (1296, [(5, .double r0), (4, .int i), (3, .ref 270), (2, .ref 236), (1, .ref 64), (0, .ref 0)], [.double r1.2], (q_kL (q_pt 34 0 172 0 S r1.1) c n)) _
  refine q_Ru_seg (g2 := (23, [(4, .int (i + 4)), (7, .double r1.2), (5, .double r0), (3, .ref 270), (2, .ref 236), (1, .ref 64), (0, .ref 0)], [], (q_kL (q_pt 34 0 172 0 S r1.1) c n))) 4 (fun _ _ => rfl) ?_
  exact q_Ru_xt (q_xt_mk (q_mn1 0 rfl (q_mn1 3 rfl (q_mn1 4 rfl (q_mn1 5 rfl (q_mn1 6 rfl q_mn0))))) rfl) h
set_option maxHeartbeats 4000000 in
theorem q_lw42 (z L : Nat) (xs : Nat → Int32) (S : q_S) (c n : Nat) (i : Int32) (hx0 : q_in i L = true) (hx1 : q_in (i + 1) L = true) (hx2 : q_in (i + 2) L = true) (hx3 : q_in (i + 3) L = true) (hi : decide (Int32.ofNat L - 4 < i) = false) (hv : xs i.toNatClampNeg &&& 63 = 42) {o : q_Out} (h : q_Ru (q_TBs z L xs) 20 375 (23, [(4, .int (i + 4)), (3, .ref 270), (2, .ref 236), (1, .ref 64), (0, .ref 0)], [], (q_kL S c n)) o) : q_Ru (q_TBs z L xs) 20 375 (23, [(4, .int i), (3, .ref 270), (2, .ref 236), (1, .ref 64), (0, .ref 0)], [], (q_kL S c n)) o := by
  refine q_Ru_seg (g2 := (29, [(4, .int i), (3, .ref 270), (2, .ref 236), (1, .ref 64), (0, .ref 0)], [.int ((Int32.ofNat L) - 4), .int i], (q_kL S c n))) 5 (fun _ _ => rfl) ?_
  refine q_Ru_rsF (g2 := (32, [(4, .int i), (3, .ref 270), (2, .ref 236), (1, .ref 64), (0, .ref 0)], [], (q_kL S c n))) rfl rfl hi ?_
  refine q_Ru_seg (g2 := (35, [(4, .int i), (3, .ref 270), (2, .ref 236), (1, .ref 64), (0, .ref 0)], [.int i, .ref 0], (q_kL S c n))) 2 (fun _ _ => rfl) ?_
  refine q_Ru_rsT (g2 := (36, [(4, .int i), (3, .ref 270), (2, .ref 236), (1, .ref 64), (0, .ref 0)], [.int (xs (i.toNatClampNeg))], (q_kL S c n))) rfl rfl hx0 ?_
  refine q_Ru_seg (g2 := (39, [(4, .int i), (3, .ref 270), (2, .ref 236), (1, .ref 64), (0, .ref 0)], [.int ((xs (i.toNatClampNeg)) &&& 63)], (q_kL S c n))) 2 (fun _ _ => rfl) ?_
  rw [hv]
  refine q_Ru_seg (g2 := (23, [(4, .int (i + 4)), (3, .ref 270), (2, .ref 236), (1, .ref 64), (0, .ref 0)], [], (q_kL S c n))) 3 (fun _ _ => rfl) ?_
  exact q_Ru_xt (q_xt_mk (q_mn1 0 rfl (q_mn1 1 rfl (q_mn1 2 rfl (q_mn1 3 rfl (q_mn1 4 rfl q_mn0))))) rfl) h
