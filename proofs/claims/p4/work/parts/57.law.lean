/-! ===== the turns of the law ===== -/
set_option maxHeartbeats 4000000 in
theorem q_lw0 (z L : Nat) (xs : Nat → Int32) (S : q_S) (c n : Nat) (i : Int32) (hx0 : q_in i L = true) (hx1 : q_in (i + 1) L = true) (hx2 : q_in (i + 2) L = true) (hx3 : q_in (i + 3) L = true) (hi : decide (Int32.ofNat L - 4 < i) = false) (hv : xs i.toNatClampNeg &&& 63 = 0) (r0 : q_S × Int32 × Nat) (er0 : dz_X0_64_236 (q_vw 172 0 206 S) (xs ((i + 1).toNatClampNeg)) (xs ((i + 2).toNatClampNeg)) = some r0) (r1 : q_S × Int32) (er1 : dz_M216_64 (q_vw 34 172 0 (q_pt 172 1 0 206 S r0.1)) (xs ((i + 1).toNatClampNeg)) (xs ((i + 2).toNatClampNeg)) = some r1) {o : q_Out} (h : q_Ru (q_TBs z L xs) 20 376 (23, [(4, .int (i + 4)), (3, .ref 270), (2, .ref 236), (1, .ref 64), (0, .ref 0)], [], (q_kL (q_pt 34 0 172 0 (q_pt 172 1 0 206 S r0.1) r1.1) (c + r0.2.2) (n + 6 * r0.2.2))) o) : q_Ru (q_TBs z L xs) 20 376 (23, [(4, .int i), (3, .ref 270), (2, .ref 236), (1, .ref 64), (0, .ref 0)], [], (q_kL S c n)) o := by
  refine q_Ru_seg (g2 := (29, [(4, .int i), (3, .ref 270), (2, .ref 236), (1, .ref 64), (0, .ref 0)], [.int ((Int32.ofNat L) - 4), .int i], (q_kL S c n))) 5 (fun _ _ => rfl) ?_
  refine q_Ru_rsF (g2 := (32, [(4, .int i), (3, .ref 270), (2, .ref 236), (1, .ref 64), (0, .ref 0)], [], (q_kL S c n))) rfl rfl hi ?_
  refine q_Ru_seg (g2 := (35, [(4, .int i), (3, .ref 270), (2, .ref 236), (1, .ref 64), (0, .ref 0)], [.int i, .ref 0], (q_kL S c n))) 2 (fun _ _ => rfl) ?_
  refine q_Ru_rsT (g2 := (36, [(4, .int i), (3, .ref 270), (2, .ref 236), (1, .ref 64), (0, .ref 0)], [.int (xs (i.toNatClampNeg))], (q_kL S c n))) rfl rfl hx0 ?_
  refine q_Ru_seg (g2 := (39, [(4, .int i), (3, .ref 270), (2, .ref 236), (1, .ref 64), (0, .ref 0)], [.int ((xs (i.toNatClampNeg)) &&& 63)], (q_kL S c n))) 2 (fun _ _ => rfl) ?_
  rw [hv]
  refine q_Ru_seg (g2 := (226, [(4, .int i), (3, .ref 270), (2, .ref 236), (1, .ref 64), (0, .ref 0)], [.int (i + 1), .ref 0, .ref 64], (q_kL S c n))) 6 (fun _ _ => rfl) ?_
  refine q_Ru_rsT (g2 := (227, [(4, .int i), (3, .ref 270), (2, .ref 236), (1, .ref 64), (0, .ref 0)], [.int (xs ((i + 1).toNatClampNeg)), .ref 64], (q_kL S c n))) rfl rfl hx1 ?_
  refine q_Ru_seg (g2 := (232, [(4, .int i), (3, .ref 270), (2, .ref 236), (1, .ref 64), (0, .ref 0)], [.int (i + 2), .ref 0, .int (xs ((i + 1).toNatClampNeg)), .ref 64], (q_kL S c n))) 4 (fun _ _ => rfl) ?_
  refine q_Ru_rsT (g2 := (233, [(4, .int i), (3, .ref 270), (2, .ref 236), (1, .ref 64), (0, .ref 0)], [.int (xs ((i + 2).toNatClampNeg)), .int (xs ((i + 1).toNatClampNeg)), .ref 64], (q_kL S c n))) rfl rfl hx2 ?_
  refine q_Ru_seg (g2 := (234, [(4, .int i), (3, .ref 270), (2, .ref 236), (1, .ref 64), (0, .ref 0)], [.ref 270, .int (xs ((i + 2).toNatClampNeg)), .int (xs ((i + 1).toNatClampNeg)), .ref 64], (q_kL S c n))) 1 (fun _ _ => rfl) ?_
  refine q_Ru_call (v := (some (.int r0.2.1))) (h2 := (q_kL (q_pt 172 1 0 206 S r0.1) (c + r0.2.2) (n + 6 * r0.2.2))) rfl rfl ?_ ?_
  · exact (q_emXL rfl (fun _ => rfl) (dzt_X0_64_236 z L xs (q_vw 172 0 206 S) c n (xs ((i + 1).toNatClampNeg)) (xs ((i + 2).toNatClampNeg)) r0 er0)).le (Nat.le_of_ble_eq_true rfl)
  show q_Ru _ _ _ (237, [(4, .int i), (3, .ref 270), (2, .ref 236), (1, .ref 64), (0, .ref 0)], [.int r0.2.1], (q_kL (q_pt 172 1 0 206 S r0.1) (c + r0.2.2) (n + 6 * r0.2.2))) _
  refine q_Ru_seg (g2 := (245, [(5, .int r0.2.1), (4, .int i), (3, .ref 270), (2, .ref 236), (1, .ref 64), (0, .ref 0)], [.int (i + 1), .ref 0, .ref 236], (q_kL (q_pt 172 1 0 206 S r0.1) (c + r0.2.2) (n + 6 * r0.2.2)))) 6 (fun _ _ => rfl) ?_
  refine q_Ru_rsT (g2 := (246, [(5, .int r0.2.1), (4, .int i), (3, .ref 270), (2, .ref 236), (1, .ref 64), (0, .ref 0)], [.int (xs ((i + 1).toNatClampNeg)), .ref 236], (q_kL (q_pt 172 1 0 206 S r0.1) (c + r0.2.2) (n + 6 * r0.2.2)))) rfl rfl hx1 ?_
  refine q_Ru_seg (g2 := (251, [(5, .int r0.2.1), (4, .int i), (3, .ref 270), (2, .ref 236), (1, .ref 64), (0, .ref 0)], [.int (i + 2), .ref 0, .int (xs ((i + 1).toNatClampNeg)), .ref 236], (q_kL (q_pt 172 1 0 206 S r0.1) (c + r0.2.2) (n + 6 * r0.2.2)))) 4 (fun _ _ => rfl) ?_
  refine q_Ru_rsT (g2 := (252, [(5, .int r0.2.1), (4, .int i), (3, .ref 270), (2, .ref 236), (1, .ref 64), (0, .ref 0)], [.int (xs ((i + 2).toNatClampNeg)), .int (xs ((i + 1).toNatClampNeg)), .ref 236], (q_kL (q_pt 172 1 0 206 S r0.1) (c + r0.2.2) (n + 6 * r0.2.2)))) rfl rfl hx2 ?_
  refine q_Ru_call (v := (some (.int r1.2))) (h2 := (q_kL (q_pt 34 0 172 0 (q_pt 172 1 0 206 S r0.1) r1.1) (c + r0.2.2) (n + 6 * r0.2.2))) rfl rfl ?_ ?_
  · exact (q_emML rfl (fun _ => rfl) ((dzt_M216_64 (q_vw 34 172 0 (q_pt 172 1 0 206 S r0.1)) (c + r0.2.2) (n + 6 * r0.2.2) (xs ((i + 1).toNatClampNeg)) (xs ((i + 2).toNatClampNeg)) r1 er1).tb q_TB0_le)).le (Nat.le_of_ble_eq_true rfl)
  show q_Ru _ _ _ (255, [(5, .int r0.2.1), (4, .int i), (3, .ref 270), (2, .ref 236), (1, .ref 64), (0, .ref 0)], [.int r1.2], (q_kL (q_pt 34 0 172 0 (q_pt 172 1 0 206 S r0.1) r1.1) (c + r0.2.2) (n + 6 * r0.2.2))) _
  refine q_Ru_seg (g2 := (23, [(4, .int (i + 4)), (6, .int r1.2), (5, .int r0.2.1), (3, .ref 270), (2, .ref 236), (1, .ref 64), (0, .ref 0)], [], (q_kL (q_pt 34 0 172 0 (q_pt 172 1 0 206 S r0.1) r1.1) (c + r0.2.2) (n + 6 * r0.2.2)))) 4 (fun _ _ => rfl) ?_
  exact q_Ru_xt (q_xt_mk (q_mn1 0 rfl (q_mn1 3 rfl (q_mn1 4 rfl (q_mn1 5 rfl (q_mn1 6 rfl q_mn0))))) rfl) h
set_option maxHeartbeats 4000000 in
theorem q_lw1 (z L : Nat) (xs : Nat → Int32) (S : q_S) (c n : Nat) (i : Int32) (hx0 : q_in i L = true) (hx1 : q_in (i + 1) L = true) (hx2 : q_in (i + 2) L = true) (hx3 : q_in (i + 3) L = true) (hi : decide (Int32.ofNat L - 4 < i) = false) (hv : xs i.toNatClampNeg &&& 63 = 1) (r0 : q_S × Int32 × Nat) (er0 : dz_X1_64_236 (q_vw 172 0 206 S) (xs ((i + 1).toNatClampNeg)) (xs ((i + 2).toNatClampNeg)) = some r0) (r1 : q_S × Int32) (er1 : dz_M217_64 (q_vw 34 172 0 (q_pt 172 1 0 206 S r0.1)) (xs ((i + 1).toNatClampNeg)) (xs ((i + 2).toNatClampNeg)) = some r1) {o : q_Out} (h : q_Ru (q_TBs z L xs) 20 376 (23, [(4, .int (i + 4)), (3, .ref 270), (2, .ref 236), (1, .ref 64), (0, .ref 0)], [], (q_kL (q_pt 34 0 172 0 (q_pt 172 1 0 206 S r0.1) r1.1) (c + r0.2.2) (n + 6 * r0.2.2))) o) : q_Ru (q_TBs z L xs) 20 376 (23, [(4, .int i), (3, .ref 270), (2, .ref 236), (1, .ref 64), (0, .ref 0)], [], (q_kL S c n)) o := by
  refine q_Ru_seg (g2 := (29, [(4, .int i), (3, .ref 270), (2, .ref 236), (1, .ref 64), (0, .ref 0)], [.int ((Int32.ofNat L) - 4), .int i], (q_kL S c n))) 5 (fun _ _ => rfl) ?_
  refine q_Ru_rsF (g2 := (32, [(4, .int i), (3, .ref 270), (2, .ref 236), (1, .ref 64), (0, .ref 0)], [], (q_kL S c n))) rfl rfl hi ?_
  refine q_Ru_seg (g2 := (35, [(4, .int i), (3, .ref 270), (2, .ref 236), (1, .ref 64), (0, .ref 0)], [.int i, .ref 0], (q_kL S c n))) 2 (fun _ _ => rfl) ?_
  refine q_Ru_rsT (g2 := (36, [(4, .int i), (3, .ref 270), (2, .ref 236), (1, .ref 64), (0, .ref 0)], [.int (xs (i.toNatClampNeg))], (q_kL S c n))) rfl rfl hx0 ?_
  refine q_Ru_seg (g2 := (39, [(4, .int i), (3, .ref 270), (2, .ref 236), (1, .ref 64), (0, .ref 0)], [.int ((xs (i.toNatClampNeg)) &&& 63)], (q_kL S c n))) 2 (fun _ _ => rfl) ?_
  rw [hv]
  refine q_Ru_seg (g2 := (266, [(4, .int i), (3, .ref 270), (2, .ref 236), (1, .ref 64), (0, .ref 0)], [.int (i + 1), .ref 0, .ref 64], (q_kL S c n))) 6 (fun _ _ => rfl) ?_
  refine q_Ru_rsT (g2 := (267, [(4, .int i), (3, .ref 270), (2, .ref 236), (1, .ref 64), (0, .ref 0)], [.int (xs ((i + 1).toNatClampNeg)), .ref 64], (q_kL S c n))) rfl rfl hx1 ?_
  refine q_Ru_seg (g2 := (272, [(4, .int i), (3, .ref 270), (2, .ref 236), (1, .ref 64), (0, .ref 0)], [.int (i + 2), .ref 0, .int (xs ((i + 1).toNatClampNeg)), .ref 64], (q_kL S c n))) 4 (fun _ _ => rfl) ?_
  refine q_Ru_rsT (g2 := (273, [(4, .int i), (3, .ref 270), (2, .ref 236), (1, .ref 64), (0, .ref 0)], [.int (xs ((i + 2).toNatClampNeg)), .int (xs ((i + 1).toNatClampNeg)), .ref 64], (q_kL S c n))) rfl rfl hx2 ?_
  refine q_Ru_seg (g2 := (274, [(4, .int i), (3, .ref 270), (2, .ref 236), (1, .ref 64), (0, .ref 0)], [.ref 270, .int (xs ((i + 2).toNatClampNeg)), .int (xs ((i + 1).toNatClampNeg)), .ref 64], (q_kL S c n))) 1 (fun _ _ => rfl) ?_
  refine q_Ru_call (v := (some (.int r0.2.1))) (h2 := (q_kL (q_pt 172 1 0 206 S r0.1) (c + r0.2.2) (n + 6 * r0.2.2))) rfl rfl ?_ ?_
  · exact (q_emXL rfl (fun _ => rfl) (dzt_X1_64_236 z L xs (q_vw 172 0 206 S) c n (xs ((i + 1).toNatClampNeg)) (xs ((i + 2).toNatClampNeg)) r0 er0)).le (Nat.le_of_ble_eq_true rfl)
  show q_Ru _ _ _ (277, [(4, .int i), (3, .ref 270), (2, .ref 236), (1, .ref 64), (0, .ref 0)], [.int r0.2.1], (q_kL (q_pt 172 1 0 206 S r0.1) (c + r0.2.2) (n + 6 * r0.2.2))) _
  refine q_Ru_seg (g2 := (285, [(5, .int r0.2.1), (4, .int i), (3, .ref 270), (2, .ref 236), (1, .ref 64), (0, .ref 0)], [.int (i + 1), .ref 0, .ref 236], (q_kL (q_pt 172 1 0 206 S r0.1) (c + r0.2.2) (n + 6 * r0.2.2)))) 6 (fun _ _ => rfl) ?_
  refine q_Ru_rsT (g2 := (286, [(5, .int r0.2.1), (4, .int i), (3, .ref 270), (2, .ref 236), (1, .ref 64), (0, .ref 0)], [.int (xs ((i + 1).toNatClampNeg)), .ref 236], (q_kL (q_pt 172 1 0 206 S r0.1) (c + r0.2.2) (n + 6 * r0.2.2)))) rfl rfl hx1 ?_
  refine q_Ru_seg (g2 := (291, [(5, .int r0.2.1), (4, .int i), (3, .ref 270), (2, .ref 236), (1, .ref 64), (0, .ref 0)], [.int (i + 2), .ref 0, .int (xs ((i + 1).toNatClampNeg)), .ref 236], (q_kL (q_pt 172 1 0 206 S r0.1) (c + r0.2.2) (n + 6 * r0.2.2)))) 4 (fun _ _ => rfl) ?_
  refine q_Ru_rsT (g2 := (292, [(5, .int r0.2.1), (4, .int i), (3, .ref 270), (2, .ref 236), (1, .ref 64), (0, .ref 0)], [.int (xs ((i + 2).toNatClampNeg)), .int (xs ((i + 1).toNatClampNeg)), .ref 236], (q_kL (q_pt 172 1 0 206 S r0.1) (c + r0.2.2) (n + 6 * r0.2.2)))) rfl rfl hx2 ?_
  refine q_Ru_call (v := (some (.int r1.2))) (h2 := (q_kL (q_pt 34 0 172 0 (q_pt 172 1 0 206 S r0.1) r1.1) (c + r0.2.2) (n + 6 * r0.2.2))) rfl rfl ?_ ?_
  · exact (q_emML rfl (fun _ => rfl) ((dzt_M217_64 (q_vw 34 172 0 (q_pt 172 1 0 206 S r0.1)) (c + r0.2.2) (n + 6 * r0.2.2) (xs ((i + 1).toNatClampNeg)) (xs ((i + 2).toNatClampNeg)) r1 er1).tb q_TB0_le)).le (Nat.le_of_ble_eq_true rfl)
  show q_Ru _ _ _ (295, [(5, .int r0.2.1), (4, .int i), (3, .ref 270), (2, .ref 236), (1, .ref 64), (0, .ref 0)], [.int r1.2], (q_kL (q_pt 34 0 172 0 (q_pt 172 1 0 206 S r0.1) r1.1) (c + r0.2.2) (n + 6 * r0.2.2))) _
  refine q_Ru_seg (g2 := (23, [(4, .int (i + 4)), (6, .int r1.2), (5, .int r0.2.1), (3, .ref 270), (2, .ref 236), (1, .ref 64), (0, .ref 0)], [], (q_kL (q_pt 34 0 172 0 (q_pt 172 1 0 206 S r0.1) r1.1) (c + r0.2.2) (n + 6 * r0.2.2)))) 4 (fun _ _ => rfl) ?_
  exact q_Ru_xt (q_xt_mk (q_mn1 0 rfl (q_mn1 3 rfl (q_mn1 4 rfl (q_mn1 5 rfl (q_mn1 6 rfl q_mn0))))) rfl) h
set_option maxHeartbeats 4000000 in
theorem q_lw2tf (z L : Nat) (xs : Nat → Int32) (S : q_S) (c n : Nat) (i : Int32) (hx0 : q_in i L = true) (hx1 : q_in (i + 1) L = true) (hx2 : q_in (i + 2) L = true) (hx3 : q_in (i + 3) L = true) (hi : decide (Int32.ofNat L - 4 < i) = false) (hv : xs i.toNatClampNeg &&& 63 = 2) (r0 : q_S × Int32 × Nat) (er0 : dz_X2_64_236 (q_vw 172 0 206 S) (xs ((i + 1).toNatClampNeg)) (xs ((i + 2).toNatClampNeg)) (xs ((i + 3).toNatClampNeg)) = some r0) (r1 : q_S × Int32) (er1 : dz_M218_64 (q_vw 34 172 0 (q_pt 172 1 0 206 S r0.1)) (xs ((i + 1).toNatClampNeg)) (xs ((i + 2).toNatClampNeg)) (xs ((i + 3).toNatClampNeg)) = some r1) (hc0 : decide ((dz_M199_64 (q_vw 34 172 0 (q_pt 34 0 172 0 (q_pt 172 1 0 206 S r0.1) r1.1))) = r0.2.1) = true) (hc1 : decide (r0.2.1 = 0) = false) {o : q_Out} (h : q_Ru (q_TBs z L xs) 20 376 (23, [(4, .int (i + 4)), (3, .ref 270), (2, .ref 236), (1, .ref 64), (0, .ref 0)], [], (q_kL (q_pt 34 0 172 0 (q_pt 172 1 0 206 S r0.1) r1.1) (c + r0.2.2) (n + 6 * r0.2.2))) o) : q_Ru (q_TBs z L xs) 20 376 (23, [(4, .int i), (3, .ref 270), (2, .ref 236), (1, .ref 64), (0, .ref 0)], [], (q_kL S c n)) o := by
  refine q_Ru_seg (g2 := (29, [(4, .int i), (3, .ref 270), (2, .ref 236), (1, .ref 64), (0, .ref 0)], [.int ((Int32.ofNat L) - 4), .int i], (q_kL S c n))) 5 (fun _ _ => rfl) ?_
  refine q_Ru_rsF (g2 := (32, [(4, .int i), (3, .ref 270), (2, .ref 236), (1, .ref 64), (0, .ref 0)], [], (q_kL S c n))) rfl rfl hi ?_
  refine q_Ru_seg (g2 := (35, [(4, .int i), (3, .ref 270), (2, .ref 236), (1, .ref 64), (0, .ref 0)], [.int i, .ref 0], (q_kL S c n))) 2 (fun _ _ => rfl) ?_
  refine q_Ru_rsT (g2 := (36, [(4, .int i), (3, .ref 270), (2, .ref 236), (1, .ref 64), (0, .ref 0)], [.int (xs (i.toNatClampNeg))], (q_kL S c n))) rfl rfl hx0 ?_
  refine q_Ru_seg (g2 := (39, [(4, .int i), (3, .ref 270), (2, .ref 236), (1, .ref 64), (0, .ref 0)], [.int ((xs (i.toNatClampNeg)) &&& 63)], (q_kL S c n))) 2 (fun _ _ => rfl) ?_
  rw [hv]
  refine q_Ru_seg (g2 := (306, [(4, .int i), (3, .ref 270), (2, .ref 236), (1, .ref 64), (0, .ref 0)], [.int (i + 1), .ref 0, .ref 64], (q_kL S c n))) 6 (fun _ _ => rfl) ?_
  refine q_Ru_rsT (g2 := (307, [(4, .int i), (3, .ref 270), (2, .ref 236), (1, .ref 64), (0, .ref 0)], [.int (xs ((i + 1).toNatClampNeg)), .ref 64], (q_kL S c n))) rfl rfl hx1 ?_
  refine q_Ru_seg (g2 := (312, [(4, .int i), (3, .ref 270), (2, .ref 236), (1, .ref 64), (0, .ref 0)], [.int (i + 2), .ref 0, .int (xs ((i + 1).toNatClampNeg)), .ref 64], (q_kL S c n))) 4 (fun _ _ => rfl) ?_
  refine q_Ru_rsT (g2 := (313, [(4, .int i), (3, .ref 270), (2, .ref 236), (1, .ref 64), (0, .ref 0)], [.int (xs ((i + 2).toNatClampNeg)), .int (xs ((i + 1).toNatClampNeg)), .ref 64], (q_kL S c n))) rfl rfl hx2 ?_
  refine q_Ru_seg (g2 := (318, [(4, .int i), (3, .ref 270), (2, .ref 236), (1, .ref 64), (0, .ref 0)], [.int (i + 3), .ref 0, .int (xs ((i + 2).toNatClampNeg)), .int (xs ((i + 1).toNatClampNeg)), .ref 64], (q_kL S c n))) 4 (fun _ _ => rfl) ?_
  refine q_Ru_rsT (g2 := (319, [(4, .int i), (3, .ref 270), (2, .ref 236), (1, .ref 64), (0, .ref 0)], [.int (xs ((i + 3).toNatClampNeg)), .int (xs ((i + 2).toNatClampNeg)), .int (xs ((i + 1).toNatClampNeg)), .ref 64], (q_kL S c n))) rfl rfl hx3 ?_
  refine q_Ru_seg (g2 := (320, [(4, .int i), (3, .ref 270), (2, .ref 236), (1, .ref 64), (0, .ref 0)], [.ref 270, .int (xs ((i + 3).toNatClampNeg)), .int (xs ((i + 2).toNatClampNeg)), .int (xs ((i + 1).toNatClampNeg)), .ref 64], (q_kL S c n))) 1 (fun _ _ => rfl) ?_
  refine q_Ru_call (v := (some (.int r0.2.1))) (h2 := (q_kL (q_pt 172 1 0 206 S r0.1) (c + r0.2.2) (n + 6 * r0.2.2))) rfl rfl ?_ ?_
  · exact (q_emXL rfl (fun _ => rfl) (dzt_X2_64_236 z L xs (q_vw 172 0 206 S) c n (xs ((i + 1).toNatClampNeg)) (xs ((i + 2).toNatClampNeg)) (xs ((i + 3).toNatClampNeg)) r0 er0)).le (Nat.le_of_ble_eq_true rfl)
  show q_Ru _ _ _ (323, [(4, .int i), (3, .ref 270), (2, .ref 236), (1, .ref 64), (0, .ref 0)], [.int r0.2.1], (q_kL (q_pt 172 1 0 206 S r0.1) (c + r0.2.2) (n + 6 * r0.2.2))) _
  refine q_Ru_seg (g2 := (331, [(5, .int r0.2.1), (4, .int i), (3, .ref 270), (2, .ref 236), (1, .ref 64), (0, .ref 0)], [.int (i + 1), .ref 0, .ref 236], (q_kL (q_pt 172 1 0 206 S r0.1) (c + r0.2.2) (n + 6 * r0.2.2)))) 6 (fun _ _ => rfl) ?_
  refine q_Ru_rsT (g2 := (332, [(5, .int r0.2.1), (4, .int i), (3, .ref 270), (2, .ref 236), (1, .ref 64), (0, .ref 0)], [.int (xs ((i + 1).toNatClampNeg)), .ref 236], (q_kL (q_pt 172 1 0 206 S r0.1) (c + r0.2.2) (n + 6 * r0.2.2)))) rfl rfl hx1 ?_
  refine q_Ru_seg (g2 := (337, [(5, .int r0.2.1), (4, .int i), (3, .ref 270), (2, .ref 236), (1, .ref 64), (0, .ref 0)], [.int (i + 2), .ref 0, .int (xs ((i + 1).toNatClampNeg)), .ref 236], (q_kL (q_pt 172 1 0 206 S r0.1) (c + r0.2.2) (n + 6 * r0.2.2)))) 4 (fun _ _ => rfl) ?_
  refine q_Ru_rsT (g2 := (338, [(5, .int r0.2.1), (4, .int i), (3, .ref 270), (2, .ref 236), (1, .ref 64), (0, .ref 0)], [.int (xs ((i + 2).toNatClampNeg)), .int (xs ((i + 1).toNatClampNeg)), .ref 236], (q_kL (q_pt 172 1 0 206 S r0.1) (c + r0.2.2) (n + 6 * r0.2.2)))) rfl rfl hx2 ?_
  refine q_Ru_seg (g2 := (343, [(5, .int r0.2.1), (4, .int i), (3, .ref 270), (2, .ref 236), (1, .ref 64), (0, .ref 0)], [.int (i + 3), .ref 0, .int (xs ((i + 2).toNatClampNeg)), .int (xs ((i + 1).toNatClampNeg)), .ref 236], (q_kL (q_pt 172 1 0 206 S r0.1) (c + r0.2.2) (n + 6 * r0.2.2)))) 4 (fun _ _ => rfl) ?_
  refine q_Ru_rsT (g2 := (344, [(5, .int r0.2.1), (4, .int i), (3, .ref 270), (2, .ref 236), (1, .ref 64), (0, .ref 0)], [.int (xs ((i + 3).toNatClampNeg)), .int (xs ((i + 2).toNatClampNeg)), .int (xs ((i + 1).toNatClampNeg)), .ref 236], (q_kL (q_pt 172 1 0 206 S r0.1) (c + r0.2.2) (n + 6 * r0.2.2)))) rfl rfl hx3 ?_
  refine q_Ru_call (v := (some (.int r1.2))) (h2 := (q_kL (q_pt 34 0 172 0 (q_pt 172 1 0 206 S r0.1) r1.1) (c + r0.2.2) (n + 6 * r0.2.2))) rfl rfl ?_ ?_
  · exact (q_emML rfl (fun _ => rfl) ((dzt_M218_64 (q_vw 34 172 0 (q_pt 172 1 0 206 S r0.1)) (c + r0.2.2) (n + 6 * r0.2.2) (xs ((i + 1).toNatClampNeg)) (xs ((i + 2).toNatClampNeg)) (xs ((i + 3).toNatClampNeg)) r1 er1).tb q_TB0_le)).le (Nat.le_of_ble_eq_true rfl)
  show q_Ru _ _ _ (347, [(5, .int r0.2.1), (4, .int i), (3, .ref 270), (2, .ref 236), (1, .ref 64), (0, .ref 0)], [.int r1.2], (q_kL (q_pt 34 0 172 0 (q_pt 172 1 0 206 S r0.1) r1.1) (c + r0.2.2) (n + 6 * r0.2.2))) _
  refine q_Ru_seg (g2 := (350, [(6, .int r1.2), (5, .int r0.2.1), (4, .int i), (3, .ref 270), (2, .ref 236), (1, .ref 64), (0, .ref 0)], [.ref 236], (q_kL (q_pt 34 0 172 0 (q_pt 172 1 0 206 S r0.1) r1.1) (c + r0.2.2) (n + 6 * r0.2.2)))) 2 (fun _ _ => rfl) ?_
  refine q_Ru_call (v := (some (.int (dz_M199_64 (q_vw 34 172 0 (q_pt 34 0 172 0 (q_pt 172 1 0 206 S r0.1) r1.1)))))) (h2 := (q_kL (q_pt 34 0 172 0 (q_pt 172 1 0 206 S r0.1) r1.1) (c + r0.2.2) (n + 6 * r0.2.2))) rfl rfl ?_ ?_
  · exact (q_emMLp rfl (fun _ => rfl) ((dzt_M199_64 (q_vw 34 172 0 (q_pt 34 0 172 0 (q_pt 172 1 0 206 S r0.1) r1.1)) (c + r0.2.2) (n + 6 * r0.2.2)).tb q_TB0_le)).le (Nat.le_of_ble_eq_true rfl)
  show q_Ru _ _ _ (353, [(6, .int r1.2), (5, .int r0.2.1), (4, .int i), (3, .ref 270), (2, .ref 236), (1, .ref 64), (0, .ref 0)], [.int (dz_M199_64 (q_vw 34 172 0 (q_pt 34 0 172 0 (q_pt 172 1 0 206 S r0.1) r1.1)))], (q_kL (q_pt 34 0 172 0 (q_pt 172 1 0 206 S r0.1) r1.1) (c + r0.2.2) (n + 6 * r0.2.2))) _
  refine q_Ru_seg (g2 := (355, [(6, .int r1.2), (5, .int r0.2.1), (4, .int i), (3, .ref 270), (2, .ref 236), (1, .ref 64), (0, .ref 0)], [.int r0.2.1, .int (dz_M199_64 (q_vw 34 172 0 (q_pt 34 0 172 0 (q_pt 172 1 0 206 S r0.1) r1.1)))], (q_kL (q_pt 34 0 172 0 (q_pt 172 1 0 206 S r0.1) r1.1) (c + r0.2.2) (n + 6 * r0.2.2)))) 1 (fun _ _ => rfl) ?_
  refine q_Ru_rsT (g2 := (360, [(6, .int r1.2), (5, .int r0.2.1), (4, .int i), (3, .ref 270), (2, .ref 236), (1, .ref 64), (0, .ref 0)], [], (q_kL (q_pt 34 0 172 0 (q_pt 172 1 0 206 S r0.1) r1.1) (c + r0.2.2) (n + 6 * r0.2.2)))) rfl rfl hc0 ?_
  refine q_Ru_seg (g2 := (362, [(6, .int r1.2), (5, .int r0.2.1), (4, .int i), (3, .ref 270), (2, .ref 236), (1, .ref 64), (0, .ref 0)], [.int r0.2.1], (q_kL (q_pt 34 0 172 0 (q_pt 172 1 0 206 S r0.1) r1.1) (c + r0.2.2) (n + 6 * r0.2.2)))) 1 (fun _ _ => rfl) ?_
  refine q_Ru_rsT (g2 := (377, [(6, .int r1.2), (5, .int r0.2.1), (4, .int i), (3, .ref 270), (2, .ref 236), (1, .ref 64), (0, .ref 0)], [], (q_kL (q_pt 34 0 172 0 (q_pt 172 1 0 206 S r0.1) r1.1) (c + r0.2.2) (n + 6 * r0.2.2)))) rfl rfl (q_d_neF hc1) ?_
  refine q_Ru_seg (g2 := (23, [(4, .int (i + 4)), (6, .int r1.2), (5, .int r0.2.1), (3, .ref 270), (2, .ref 236), (1, .ref 64), (0, .ref 0)], [], (q_kL (q_pt 34 0 172 0 (q_pt 172 1 0 206 S r0.1) r1.1) (c + r0.2.2) (n + 6 * r0.2.2)))) 3 (fun _ _ => rfl) ?_
  exact q_Ru_xt (q_xt_mk (q_mn1 0 rfl (q_mn1 3 rfl (q_mn1 4 rfl (q_mn1 5 rfl (q_mn1 6 rfl q_mn0))))) rfl) h
set_option maxHeartbeats 4000000 in
theorem q_lw2ttt (z L : Nat) (xs : Nat → Int32) (S : q_S) (c n : Nat) (i : Int32) (hx0 : q_in i L = true) (hx1 : q_in (i + 1) L = true) (hx2 : q_in (i + 2) L = true) (hx3 : q_in (i + 3) L = true) (hi : decide (Int32.ofNat L - 4 < i) = false) (hv : xs i.toNatClampNeg &&& 63 = 2) (r0 : q_S × Int32 × Nat) (er0 : dz_X2_64_236 (q_vw 172 0 206 S) (xs ((i + 1).toNatClampNeg)) (xs ((i + 2).toNatClampNeg)) (xs ((i + 3).toNatClampNeg)) = some r0) (r1 : q_S × Int32) (er1 : dz_M218_64 (q_vw 34 172 0 (q_pt 172 1 0 206 S r0.1)) (xs ((i + 1).toNatClampNeg)) (xs ((i + 2).toNatClampNeg)) (xs ((i + 3).toNatClampNeg)) = some r1) (hc0 : decide ((dz_M199_64 (q_vw 34 172 0 (q_pt 34 0 172 0 (q_pt 172 1 0 206 S r0.1) r1.1))) = r0.2.1) = true) (hc1 : decide (r0.2.1 = 0) = true) (hc2 : decide (lg_cmp (((q_pt 34 0 172 0 (q_pt 172 1 0 206 S r0.1) r1.1).2.2 206) 0) r1.2.toInt64 = 0) = true) {o : q_Out} (h : q_Ru (q_TBs z L xs) 20 376 (23, [(4, .int (i + 4)), (3, .ref 270), (2, .ref 236), (1, .ref 64), (0, .ref 0)], [], (q_kL (q_pt 34 0 172 0 (q_pt 172 1 0 206 S r0.1) r1.1) (c + r0.2.2) (n + 6 * r0.2.2))) o) : q_Ru (q_TBs z L xs) 20 376 (23, [(4, .int i), (3, .ref 270), (2, .ref 236), (1, .ref 64), (0, .ref 0)], [], (q_kL S c n)) o := by
  refine q_Ru_seg (g2 := (29, [(4, .int i), (3, .ref 270), (2, .ref 236), (1, .ref 64), (0, .ref 0)], [.int ((Int32.ofNat L) - 4), .int i], (q_kL S c n))) 5 (fun _ _ => rfl) ?_
  refine q_Ru_rsF (g2 := (32, [(4, .int i), (3, .ref 270), (2, .ref 236), (1, .ref 64), (0, .ref 0)], [], (q_kL S c n))) rfl rfl hi ?_
  refine q_Ru_seg (g2 := (35, [(4, .int i), (3, .ref 270), (2, .ref 236), (1, .ref 64), (0, .ref 0)], [.int i, .ref 0], (q_kL S c n))) 2 (fun _ _ => rfl) ?_
  refine q_Ru_rsT (g2 := (36, [(4, .int i), (3, .ref 270), (2, .ref 236), (1, .ref 64), (0, .ref 0)], [.int (xs (i.toNatClampNeg))], (q_kL S c n))) rfl rfl hx0 ?_
  refine q_Ru_seg (g2 := (39, [(4, .int i), (3, .ref 270), (2, .ref 236), (1, .ref 64), (0, .ref 0)], [.int ((xs (i.toNatClampNeg)) &&& 63)], (q_kL S c n))) 2 (fun _ _ => rfl) ?_
  rw [hv]
  refine q_Ru_seg (g2 := (306, [(4, .int i), (3, .ref 270), (2, .ref 236), (1, .ref 64), (0, .ref 0)], [.int (i + 1), .ref 0, .ref 64], (q_kL S c n))) 6 (fun _ _ => rfl) ?_
  refine q_Ru_rsT (g2 := (307, [(4, .int i), (3, .ref 270), (2, .ref 236), (1, .ref 64), (0, .ref 0)], [.int (xs ((i + 1).toNatClampNeg)), .ref 64], (q_kL S c n))) rfl rfl hx1 ?_
  refine q_Ru_seg (g2 := (312, [(4, .int i), (3, .ref 270), (2, .ref 236), (1, .ref 64), (0, .ref 0)], [.int (i + 2), .ref 0, .int (xs ((i + 1).toNatClampNeg)), .ref 64], (q_kL S c n))) 4 (fun _ _ => rfl) ?_
  refine q_Ru_rsT (g2 := (313, [(4, .int i), (3, .ref 270), (2, .ref 236), (1, .ref 64), (0, .ref 0)], [.int (xs ((i + 2).toNatClampNeg)), .int (xs ((i + 1).toNatClampNeg)), .ref 64], (q_kL S c n))) rfl rfl hx2 ?_
  refine q_Ru_seg (g2 := (318, [(4, .int i), (3, .ref 270), (2, .ref 236), (1, .ref 64), (0, .ref 0)], [.int (i + 3), .ref 0, .int (xs ((i + 2).toNatClampNeg)), .int (xs ((i + 1).toNatClampNeg)), .ref 64], (q_kL S c n))) 4 (fun _ _ => rfl) ?_
  refine q_Ru_rsT (g2 := (319, [(4, .int i), (3, .ref 270), (2, .ref 236), (1, .ref 64), (0, .ref 0)], [.int (xs ((i + 3).toNatClampNeg)), .int (xs ((i + 2).toNatClampNeg)), .int (xs ((i + 1).toNatClampNeg)), .ref 64], (q_kL S c n))) rfl rfl hx3 ?_
  refine q_Ru_seg (g2 := (320, [(4, .int i), (3, .ref 270), (2, .ref 236), (1, .ref 64), (0, .ref 0)], [.ref 270, .int (xs ((i + 3).toNatClampNeg)), .int (xs ((i + 2).toNatClampNeg)), .int (xs ((i + 1).toNatClampNeg)), .ref 64], (q_kL S c n))) 1 (fun _ _ => rfl) ?_
  refine q_Ru_call (v := (some (.int r0.2.1))) (h2 := (q_kL (q_pt 172 1 0 206 S r0.1) (c + r0.2.2) (n + 6 * r0.2.2))) rfl rfl ?_ ?_
  · exact (q_emXL rfl (fun _ => rfl) (dzt_X2_64_236 z L xs (q_vw 172 0 206 S) c n (xs ((i + 1).toNatClampNeg)) (xs ((i + 2).toNatClampNeg)) (xs ((i + 3).toNatClampNeg)) r0 er0)).le (Nat.le_of_ble_eq_true rfl)
  show q_Ru _ _ _ (323, [(4, .int i), (3, .ref 270), (2, .ref 236), (1, .ref 64), (0, .ref 0)], [.int r0.2.1], (q_kL (q_pt 172 1 0 206 S r0.1) (c + r0.2.2) (n + 6 * r0.2.2))) _
  refine q_Ru_seg (g2 := (331, [(5, .int r0.2.1), (4, .int i), (3, .ref 270), (2, .ref 236), (1, .ref 64), (0, .ref 0)], [.int (i + 1), .ref 0, .ref 236], (q_kL (q_pt 172 1 0 206 S r0.1) (c + r0.2.2) (n + 6 * r0.2.2)))) 6 (fun _ _ => rfl) ?_
  refine q_Ru_rsT (g2 := (332, [(5, .int r0.2.1), (4, .int i), (3, .ref 270), (2, .ref 236), (1, .ref 64), (0, .ref 0)], [.int (xs ((i + 1).toNatClampNeg)), .ref 236], (q_kL (q_pt 172 1 0 206 S r0.1) (c + r0.2.2) (n + 6 * r0.2.2)))) rfl rfl hx1 ?_
  refine q_Ru_seg (g2 := (337, [(5, .int r0.2.1), (4, .int i), (3, .ref 270), (2, .ref 236), (1, .ref 64), (0, .ref 0)], [.int (i + 2), .ref 0, .int (xs ((i + 1).toNatClampNeg)), .ref 236], (q_kL (q_pt 172 1 0 206 S r0.1) (c + r0.2.2) (n + 6 * r0.2.2)))) 4 (fun _ _ => rfl) ?_
  refine q_Ru_rsT (g2 := (338, [(5, .int r0.2.1), (4, .int i), (3, .ref 270), (2, .ref 236), (1, .ref 64), (0, .ref 0)], [.int (xs ((i + 2).toNatClampNeg)), .int (xs ((i + 1).toNatClampNeg)), .ref 236], (q_kL (q_pt 172 1 0 206 S r0.1) (c + r0.2.2) (n + 6 * r0.2.2)))) rfl rfl hx2 ?_
  refine q_Ru_seg (g2 := (343, [(5, .int r0.2.1), (4, .int i), (3, .ref 270), (2, .ref 236), (1, .ref 64), (0, .ref 0)], [.int (i + 3), .ref 0, .int (xs ((i + 2).toNatClampNeg)), .int (xs ((i + 1).toNatClampNeg)), .ref 236], (q_kL (q_pt 172 1 0 206 S r0.1) (c + r0.2.2) (n + 6 * r0.2.2)))) 4 (fun _ _ => rfl) ?_
  refine q_Ru_rsT (g2 := (344, [(5, .int r0.2.1), (4, .int i), (3, .ref 270), (2, .ref 236), (1, .ref 64), (0, .ref 0)], [.int (xs ((i + 3).toNatClampNeg)), .int (xs ((i + 2).toNatClampNeg)), .int (xs ((i + 1).toNatClampNeg)), .ref 236], (q_kL (q_pt 172 1 0 206 S r0.1) (c + r0.2.2) (n + 6 * r0.2.2)))) rfl rfl hx3 ?_
  refine q_Ru_call (v := (some (.int r1.2))) (h2 := (q_kL (q_pt 34 0 172 0 (q_pt 172 1 0 206 S r0.1) r1.1) (c + r0.2.2) (n + 6 * r0.2.2))) rfl rfl ?_ ?_
  · exact (q_emML rfl (fun _ => rfl) ((dzt_M218_64 (q_vw 34 172 0 (q_pt 172 1 0 206 S r0.1)) (c + r0.2.2) (n + 6 * r0.2.2) (xs ((i + 1).toNatClampNeg)) (xs ((i + 2).toNatClampNeg)) (xs ((i + 3).toNatClampNeg)) r1 er1).tb q_TB0_le)).le (Nat.le_of_ble_eq_true rfl)
  show q_Ru _ _ _ (347, [(5, .int r0.2.1), (4, .int i), (3, .ref 270), (2, .ref 236), (1, .ref 64), (0, .ref 0)], [.int r1.2], (q_kL (q_pt 34 0 172 0 (q_pt 172 1 0 206 S r0.1) r1.1) (c + r0.2.2) (n + 6 * r0.2.2))) _
  refine q_Ru_seg (g2 := (350, [(6, .int r1.2), (5, .int r0.2.1), (4, .int i), (3, .ref 270), (2, .ref 236), (1, .ref 64), (0, .ref 0)], [.ref 236], (q_kL (q_pt 34 0 172 0 (q_pt 172 1 0 206 S r0.1) r1.1) (c + r0.2.2) (n + 6 * r0.2.2)))) 2 (fun _ _ => rfl) ?_
  refine q_Ru_call (v := (some (.int (dz_M199_64 (q_vw 34 172 0 (q_pt 34 0 172 0 (q_pt 172 1 0 206 S r0.1) r1.1)))))) (h2 := (q_kL (q_pt 34 0 172 0 (q_pt 172 1 0 206 S r0.1) r1.1) (c + r0.2.2) (n + 6 * r0.2.2))) rfl rfl ?_ ?_
  · exact (q_emMLp rfl (fun _ => rfl) ((dzt_M199_64 (q_vw 34 172 0 (q_pt 34 0 172 0 (q_pt 172 1 0 206 S r0.1) r1.1)) (c + r0.2.2) (n + 6 * r0.2.2)).tb q_TB0_le)).le (Nat.le_of_ble_eq_true rfl)
  show q_Ru _ _ _ (353, [(6, .int r1.2), (5, .int r0.2.1), (4, .int i), (3, .ref 270), (2, .ref 236), (1, .ref 64), (0, .ref 0)], [.int (dz_M199_64 (q_vw 34 172 0 (q_pt 34 0 172 0 (q_pt 172 1 0 206 S r0.1) r1.1)))], (q_kL (q_pt 34 0 172 0 (q_pt 172 1 0 206 S r0.1) r1.1) (c + r0.2.2) (n + 6 * r0.2.2))) _
  refine q_Ru_seg (g2 := (355, [(6, .int r1.2), (5, .int r0.2.1), (4, .int i), (3, .ref 270), (2, .ref 236), (1, .ref 64), (0, .ref 0)], [.int r0.2.1, .int (dz_M199_64 (q_vw 34 172 0 (q_pt 34 0 172 0 (q_pt 172 1 0 206 S r0.1) r1.1)))], (q_kL (q_pt 34 0 172 0 (q_pt 172 1 0 206 S r0.1) r1.1) (c + r0.2.2) (n + 6 * r0.2.2)))) 1 (fun _ _ => rfl) ?_
  refine q_Ru_rsT (g2 := (360, [(6, .int r1.2), (5, .int r0.2.1), (4, .int i), (3, .ref 270), (2, .ref 236), (1, .ref 64), (0, .ref 0)], [], (q_kL (q_pt 34 0 172 0 (q_pt 172 1 0 206 S r0.1) r1.1) (c + r0.2.2) (n + 6 * r0.2.2)))) rfl rfl hc0 ?_
  refine q_Ru_seg (g2 := (362, [(6, .int r1.2), (5, .int r0.2.1), (4, .int i), (3, .ref 270), (2, .ref 236), (1, .ref 64), (0, .ref 0)], [.int r0.2.1], (q_kL (q_pt 34 0 172 0 (q_pt 172 1 0 206 S r0.1) r1.1) (c + r0.2.2) (n + 6 * r0.2.2)))) 1 (fun _ _ => rfl) ?_
  refine q_Ru_rsF (g2 := (365, [(6, .int r1.2), (5, .int r0.2.1), (4, .int i), (3, .ref 270), (2, .ref 236), (1, .ref 64), (0, .ref 0)], [], (q_kL (q_pt 34 0 172 0 (q_pt 172 1 0 206 S r0.1) r1.1) (c + r0.2.2) (n + 6 * r0.2.2)))) rfl rfl (q_d_neT hc1) ?_
  refine q_Ru_seg (g2 := (372, [(6, .int r1.2), (5, .int r0.2.1), (4, .int i), (3, .ref 270), (2, .ref 236), (1, .ref 64), (0, .ref 0)], [.int (lg_cmp (((q_pt 34 0 172 0 (q_pt 172 1 0 206 S r0.1) r1.1).2.2 206) 0) r1.2.toInt64)], (q_kL (q_pt 34 0 172 0 (q_pt 172 1 0 206 S r0.1) r1.1) (c + r0.2.2) (n + 6 * r0.2.2)))) 6 (fun _ _ => rfl) ?_
  refine q_Ru_rsT (g2 := (377, [(6, .int r1.2), (5, .int r0.2.1), (4, .int i), (3, .ref 270), (2, .ref 236), (1, .ref 64), (0, .ref 0)], [], (q_kL (q_pt 34 0 172 0 (q_pt 172 1 0 206 S r0.1) r1.1) (c + r0.2.2) (n + 6 * r0.2.2)))) rfl rfl hc2 ?_
  refine q_Ru_seg (g2 := (23, [(4, .int (i + 4)), (6, .int r1.2), (5, .int r0.2.1), (3, .ref 270), (2, .ref 236), (1, .ref 64), (0, .ref 0)], [], (q_kL (q_pt 34 0 172 0 (q_pt 172 1 0 206 S r0.1) r1.1) (c + r0.2.2) (n + 6 * r0.2.2)))) 3 (fun _ _ => rfl) ?_
  exact q_Ru_xt (q_xt_mk (q_mn1 0 rfl (q_mn1 3 rfl (q_mn1 4 rfl (q_mn1 5 rfl (q_mn1 6 rfl q_mn0))))) rfl) h
set_option maxHeartbeats 4000000 in
theorem q_lw3 (z L : Nat) (xs : Nat → Int32) (S : q_S) (c n : Nat) (i : Int32) (hx0 : q_in i L = true) (hx1 : q_in (i + 1) L = true) (hx2 : q_in (i + 2) L = true) (hx3 : q_in (i + 3) L = true) (hi : decide (Int32.ofNat L - 4 < i) = false) (hv : xs i.toNatClampNeg &&& 63 = 3) (r0 : q_S × Int32 × Nat) (er0 : dz_X3_64_236 (q_vw 172 0 206 S) (xs ((i + 1).toNatClampNeg)) = some r0) (r1 : q_S × Int32) (er1 : dz_M219_64 (q_vw 34 172 0 (q_pt 172 1 0 206 S r0.1)) (xs ((i + 1).toNatClampNeg)) = some r1) {o : q_Out} (h : q_Ru (q_TBs z L xs) 20 376 (23, [(4, .int (i + 4)), (3, .ref 270), (2, .ref 236), (1, .ref 64), (0, .ref 0)], [], (q_kL (q_pt 34 0 172 0 (q_pt 172 1 0 206 S r0.1) r1.1) (c + r0.2.2) (n + 6 * r0.2.2))) o) : q_Ru (q_TBs z L xs) 20 376 (23, [(4, .int i), (3, .ref 270), (2, .ref 236), (1, .ref 64), (0, .ref 0)], [], (q_kL S c n)) o := by
  refine q_Ru_seg (g2 := (29, [(4, .int i), (3, .ref 270), (2, .ref 236), (1, .ref 64), (0, .ref 0)], [.int ((Int32.ofNat L) - 4), .int i], (q_kL S c n))) 5 (fun _ _ => rfl) ?_
  refine q_Ru_rsF (g2 := (32, [(4, .int i), (3, .ref 270), (2, .ref 236), (1, .ref 64), (0, .ref 0)], [], (q_kL S c n))) rfl rfl hi ?_
  refine q_Ru_seg (g2 := (35, [(4, .int i), (3, .ref 270), (2, .ref 236), (1, .ref 64), (0, .ref 0)], [.int i, .ref 0], (q_kL S c n))) 2 (fun _ _ => rfl) ?_
  refine q_Ru_rsT (g2 := (36, [(4, .int i), (3, .ref 270), (2, .ref 236), (1, .ref 64), (0, .ref 0)], [.int (xs (i.toNatClampNeg))], (q_kL S c n))) rfl rfl hx0 ?_
  refine q_Ru_seg (g2 := (39, [(4, .int i), (3, .ref 270), (2, .ref 236), (1, .ref 64), (0, .ref 0)], [.int ((xs (i.toNatClampNeg)) &&& 63)], (q_kL S c n))) 2 (fun _ _ => rfl) ?_
  rw [hv]
  refine q_Ru_seg (g2 := (386, [(4, .int i), (3, .ref 270), (2, .ref 236), (1, .ref 64), (0, .ref 0)], [.int (i + 1), .ref 0, .ref 64], (q_kL S c n))) 6 (fun _ _ => rfl) ?_
  refine q_Ru_rsT (g2 := (387, [(4, .int i), (3, .ref 270), (2, .ref 236), (1, .ref 64), (0, .ref 0)], [.int (xs ((i + 1).toNatClampNeg)), .ref 64], (q_kL S c n))) rfl rfl hx1 ?_
  refine q_Ru_seg (g2 := (388, [(4, .int i), (3, .ref 270), (2, .ref 236), (1, .ref 64), (0, .ref 0)], [.ref 270, .int (xs ((i + 1).toNatClampNeg)), .ref 64], (q_kL S c n))) 1 (fun _ _ => rfl) ?_
  refine q_Ru_call (v := (some (.int r0.2.1))) (h2 := (q_kL (q_pt 172 1 0 206 S r0.1) (c + r0.2.2) (n + 6 * r0.2.2))) rfl rfl ?_ ?_
  · exact (q_emXL rfl (fun _ => rfl) (dzt_X3_64_236 z L xs (q_vw 172 0 206 S) c n (xs ((i + 1).toNatClampNeg)) r0 er0)).le (Nat.le_of_ble_eq_true rfl)
  show q_Ru _ _ _ (391, [(4, .int i), (3, .ref 270), (2, .ref 236), (1, .ref 64), (0, .ref 0)], [.int r0.2.1], (q_kL (q_pt 172 1 0 206 S r0.1) (c + r0.2.2) (n + 6 * r0.2.2))) _
  refine q_Ru_seg (g2 := (399, [(5, .int r0.2.1), (4, .int i), (3, .ref 270), (2, .ref 236), (1, .ref 64), (0, .ref 0)], [.int (i + 1), .ref 0, .ref 236], (q_kL (q_pt 172 1 0 206 S r0.1) (c + r0.2.2) (n + 6 * r0.2.2)))) 6 (fun _ _ => rfl) ?_
  refine q_Ru_rsT (g2 := (400, [(5, .int r0.2.1), (4, .int i), (3, .ref 270), (2, .ref 236), (1, .ref 64), (0, .ref 0)], [.int (xs ((i + 1).toNatClampNeg)), .ref 236], (q_kL (q_pt 172 1 0 206 S r0.1) (c + r0.2.2) (n + 6 * r0.2.2)))) rfl rfl hx1 ?_
  refine q_Ru_call (v := (some (.int r1.2))) (h2 := (q_kL (q_pt 34 0 172 0 (q_pt 172 1 0 206 S r0.1) r1.1) (c + r0.2.2) (n + 6 * r0.2.2))) rfl rfl ?_ ?_
  · exact (q_emML rfl (fun _ => rfl) ((dzt_M219_64 (q_vw 34 172 0 (q_pt 172 1 0 206 S r0.1)) (c + r0.2.2) (n + 6 * r0.2.2) (xs ((i + 1).toNatClampNeg)) r1 er1).tb q_TB0_le)).le (Nat.le_of_ble_eq_true rfl)
  show q_Ru _ _ _ (403, [(5, .int r0.2.1), (4, .int i), (3, .ref 270), (2, .ref 236), (1, .ref 64), (0, .ref 0)], [.int r1.2], (q_kL (q_pt 34 0 172 0 (q_pt 172 1 0 206 S r0.1) r1.1) (c + r0.2.2) (n + 6 * r0.2.2))) _
  refine q_Ru_seg (g2 := (23, [(4, .int (i + 4)), (6, .int r1.2), (5, .int r0.2.1), (3, .ref 270), (2, .ref 236), (1, .ref 64), (0, .ref 0)], [], (q_kL (q_pt 34 0 172 0 (q_pt 172 1 0 206 S r0.1) r1.1) (c + r0.2.2) (n + 6 * r0.2.2)))) 4 (fun _ _ => rfl) ?_
  exact q_Ru_xt (q_xt_mk (q_mn1 0 rfl (q_mn1 3 rfl (q_mn1 4 rfl (q_mn1 5 rfl (q_mn1 6 rfl q_mn0))))) rfl) h
set_option maxHeartbeats 4000000 in
theorem q_lw4 (z L : Nat) (xs : Nat → Int32) (S : q_S) (c n : Nat) (i : Int32) (hx0 : q_in i L = true) (hx1 : q_in (i + 1) L = true) (hx2 : q_in (i + 2) L = true) (hx3 : q_in (i + 3) L = true) (hi : decide (Int32.ofNat L - 4 < i) = false) (hv : xs i.toNatClampNeg &&& 63 = 4) (r0 : q_S × Int32 × Nat) (er0 : dz_X4_64_236 (q_vw 172 0 206 S) (xs ((i + 1).toNatClampNeg)) = r0) (r1 : q_S × Int32) (er1 : dz_M220_64 (q_vw 34 172 0 (q_pt 172 1 0 206 S r0.1)) (xs ((i + 1).toNatClampNeg)) = some r1) {o : q_Out} (h : q_Ru (q_TBs z L xs) 20 376 (23, [(4, .int (i + 4)), (3, .ref 270), (2, .ref 236), (1, .ref 64), (0, .ref 0)], [], (q_kL (q_pt 34 0 172 0 (q_pt 172 1 0 206 S r0.1) r1.1) (c + r0.2.2) (n + 6 * r0.2.2))) o) : q_Ru (q_TBs z L xs) 20 376 (23, [(4, .int i), (3, .ref 270), (2, .ref 236), (1, .ref 64), (0, .ref 0)], [], (q_kL S c n)) o := by
  refine q_Ru_seg (g2 := (29, [(4, .int i), (3, .ref 270), (2, .ref 236), (1, .ref 64), (0, .ref 0)], [.int ((Int32.ofNat L) - 4), .int i], (q_kL S c n))) 5 (fun _ _ => rfl) ?_
  refine q_Ru_rsF (g2 := (32, [(4, .int i), (3, .ref 270), (2, .ref 236), (1, .ref 64), (0, .ref 0)], [], (q_kL S c n))) rfl rfl hi ?_
  refine q_Ru_seg (g2 := (35, [(4, .int i), (3, .ref 270), (2, .ref 236), (1, .ref 64), (0, .ref 0)], [.int i, .ref 0], (q_kL S c n))) 2 (fun _ _ => rfl) ?_
  refine q_Ru_rsT (g2 := (36, [(4, .int i), (3, .ref 270), (2, .ref 236), (1, .ref 64), (0, .ref 0)], [.int (xs (i.toNatClampNeg))], (q_kL S c n))) rfl rfl hx0 ?_
  refine q_Ru_seg (g2 := (39, [(4, .int i), (3, .ref 270), (2, .ref 236), (1, .ref 64), (0, .ref 0)], [.int ((xs (i.toNatClampNeg)) &&& 63)], (q_kL S c n))) 2 (fun _ _ => rfl) ?_
  rw [hv]
  refine q_Ru_seg (g2 := (414, [(4, .int i), (3, .ref 270), (2, .ref 236), (1, .ref 64), (0, .ref 0)], [.int (i + 1), .ref 0, .ref 64], (q_kL S c n))) 6 (fun _ _ => rfl) ?_
  refine q_Ru_rsT (g2 := (415, [(4, .int i), (3, .ref 270), (2, .ref 236), (1, .ref 64), (0, .ref 0)], [.int (xs ((i + 1).toNatClampNeg)), .ref 64], (q_kL S c n))) rfl rfl hx1 ?_
  refine q_Ru_seg (g2 := (416, [(4, .int i), (3, .ref 270), (2, .ref 236), (1, .ref 64), (0, .ref 0)], [.ref 270, .int (xs ((i + 1).toNatClampNeg)), .ref 64], (q_kL S c n))) 1 (fun _ _ => rfl) ?_
  refine q_Ru_call (v := (some (.int r0.2.1))) (h2 := (q_kL (q_pt 172 1 0 206 S r0.1) (c + r0.2.2) (n + 6 * r0.2.2))) rfl rfl ?_ ?_
  · exact (q_emXL rfl (fun _ => rfl) (q_cE (φ := (q_oEX c n)) er0 (dzt_X4_64_236 z L xs (q_vw 172 0 206 S) c n (xs ((i + 1).toNatClampNeg))))).le (Nat.le_of_ble_eq_true rfl)
  show q_Ru _ _ _ (419, [(4, .int i), (3, .ref 270), (2, .ref 236), (1, .ref 64), (0, .ref 0)], [.int r0.2.1], (q_kL (q_pt 172 1 0 206 S r0.1) (c + r0.2.2) (n + 6 * r0.2.2))) _
  refine q_Ru_seg (g2 := (427, [(5, .int r0.2.1), (4, .int i), (3, .ref 270), (2, .ref 236), (1, .ref 64), (0, .ref 0)], [.int (i + 1), .ref 0, .ref 236], (q_kL (q_pt 172 1 0 206 S r0.1) (c + r0.2.2) (n + 6 * r0.2.2)))) 6 (fun _ _ => rfl) ?_
  refine q_Ru_rsT (g2 := (428, [(5, .int r0.2.1), (4, .int i), (3, .ref 270), (2, .ref 236), (1, .ref 64), (0, .ref 0)], [.int (xs ((i + 1).toNatClampNeg)), .ref 236], (q_kL (q_pt 172 1 0 206 S r0.1) (c + r0.2.2) (n + 6 * r0.2.2)))) rfl rfl hx1 ?_
  refine q_Ru_call (v := (some (.int r1.2))) (h2 := (q_kL (q_pt 34 0 172 0 (q_pt 172 1 0 206 S r0.1) r1.1) (c + r0.2.2) (n + 6 * r0.2.2))) rfl rfl ?_ ?_
  · exact (q_emML rfl (fun _ => rfl) ((dzt_M220_64 (q_vw 34 172 0 (q_pt 172 1 0 206 S r0.1)) (c + r0.2.2) (n + 6 * r0.2.2) (xs ((i + 1).toNatClampNeg)) r1 er1).tb q_TB0_le)).le (Nat.le_of_ble_eq_true rfl)
  show q_Ru _ _ _ (431, [(5, .int r0.2.1), (4, .int i), (3, .ref 270), (2, .ref 236), (1, .ref 64), (0, .ref 0)], [.int r1.2], (q_kL (q_pt 34 0 172 0 (q_pt 172 1 0 206 S r0.1) r1.1) (c + r0.2.2) (n + 6 * r0.2.2))) _
  refine q_Ru_seg (g2 := (23, [(4, .int (i + 4)), (6, .int r1.2), (5, .int r0.2.1), (3, .ref 270), (2, .ref 236), (1, .ref 64), (0, .ref 0)], [], (q_kL (q_pt 34 0 172 0 (q_pt 172 1 0 206 S r0.1) r1.1) (c + r0.2.2) (n + 6 * r0.2.2)))) 4 (fun _ _ => rfl) ?_
  exact q_Ru_xt (q_xt_mk (q_mn1 0 rfl (q_mn1 3 rfl (q_mn1 4 rfl (q_mn1 5 rfl (q_mn1 6 rfl q_mn0))))) rfl) h
set_option maxHeartbeats 4000000 in
theorem q_lw5 (z L : Nat) (xs : Nat → Int32) (S : q_S) (c n : Nat) (i : Int32) (hx0 : q_in i L = true) (hx1 : q_in (i + 1) L = true) (hx2 : q_in (i + 2) L = true) (hx3 : q_in (i + 3) L = true) (hi : decide (Int32.ofNat L - 4 < i) = false) (hv : xs i.toNatClampNeg &&& 63 = 5) (r0 : q_S × Int32 × Nat) (er0 : dz_X5_64_236 (q_vw 172 0 206 S) (xs ((i + 1).toNatClampNeg)) (xs ((i + 2).toNatClampNeg)) (xs ((i + 3).toNatClampNeg)) = some r0) (r1 : q_S × Int32) (er1 : dz_M279_64 (q_vw 34 172 0 (q_pt 172 1 0 206 S r0.1)) (xs ((i + 1).toNatClampNeg)) (xs ((i + 2).toNatClampNeg)) (xs ((i + 3).toNatClampNeg)) = some r1) {o : q_Out} (h : q_Ru (q_TBs z L xs) 20 376 (23, [(4, .int (i + 4)), (3, .ref 270), (2, .ref 236), (1, .ref 64), (0, .ref 0)], [], (q_kL (q_pt 34 0 172 0 (q_pt 172 1 0 206 S r0.1) r1.1) (c + r0.2.2) (n + 6 * r0.2.2))) o) : q_Ru (q_TBs z L xs) 20 376 (23, [(4, .int i), (3, .ref 270), (2, .ref 236), (1, .ref 64), (0, .ref 0)], [], (q_kL S c n)) o := by
  refine q_Ru_seg (g2 := (29, [(4, .int i), (3, .ref 270), (2, .ref 236), (1, .ref 64), (0, .ref 0)], [.int ((Int32.ofNat L) - 4), .int i], (q_kL S c n))) 5 (fun _ _ => rfl) ?_
  refine q_Ru_rsF (g2 := (32, [(4, .int i), (3, .ref 270), (2, .ref 236), (1, .ref 64), (0, .ref 0)], [], (q_kL S c n))) rfl rfl hi ?_
  refine q_Ru_seg (g2 := (35, [(4, .int i), (3, .ref 270), (2, .ref 236), (1, .ref 64), (0, .ref 0)], [.int i, .ref 0], (q_kL S c n))) 2 (fun _ _ => rfl) ?_
  refine q_Ru_rsT (g2 := (36, [(4, .int i), (3, .ref 270), (2, .ref 236), (1, .ref 64), (0, .ref 0)], [.int (xs (i.toNatClampNeg))], (q_kL S c n))) rfl rfl hx0 ?_
  refine q_Ru_seg (g2 := (39, [(4, .int i), (3, .ref 270), (2, .ref 236), (1, .ref 64), (0, .ref 0)], [.int ((xs (i.toNatClampNeg)) &&& 63)], (q_kL S c n))) 2 (fun _ _ => rfl) ?_
  rw [hv]
  refine q_Ru_seg (g2 := (442, [(4, .int i), (3, .ref 270), (2, .ref 236), (1, .ref 64), (0, .ref 0)], [.int (i + 1), .ref 0, .ref 64], (q_kL S c n))) 6 (fun _ _ => rfl) ?_
  refine q_Ru_rsT (g2 := (443, [(4, .int i), (3, .ref 270), (2, .ref 236), (1, .ref 64), (0, .ref 0)], [.int (xs ((i + 1).toNatClampNeg)), .ref 64], (q_kL S c n))) rfl rfl hx1 ?_
  refine q_Ru_seg (g2 := (448, [(4, .int i), (3, .ref 270), (2, .ref 236), (1, .ref 64), (0, .ref 0)], [.int (i + 2), .ref 0, .int (xs ((i + 1).toNatClampNeg)), .ref 64], (q_kL S c n))) 4 (fun _ _ => rfl) ?_
  refine q_Ru_rsT (g2 := (449, [(4, .int i), (3, .ref 270), (2, .ref 236), (1, .ref 64), (0, .ref 0)], [.int (xs ((i + 2).toNatClampNeg)), .int (xs ((i + 1).toNatClampNeg)), .ref 64], (q_kL S c n))) rfl rfl hx2 ?_
  refine q_Ru_seg (g2 := (454, [(4, .int i), (3, .ref 270), (2, .ref 236), (1, .ref 64), (0, .ref 0)], [.int (i + 3), .ref 0, .int (xs ((i + 2).toNatClampNeg)), .int (xs ((i + 1).toNatClampNeg)), .ref 64], (q_kL S c n))) 4 (fun _ _ => rfl) ?_
  refine q_Ru_rsT (g2 := (455, [(4, .int i), (3, .ref 270), (2, .ref 236), (1, .ref 64), (0, .ref 0)], [.int (xs ((i + 3).toNatClampNeg)), .int (xs ((i + 2).toNatClampNeg)), .int (xs ((i + 1).toNatClampNeg)), .ref 64], (q_kL S c n))) rfl rfl hx3 ?_
  refine q_Ru_seg (g2 := (456, [(4, .int i), (3, .ref 270), (2, .ref 236), (1, .ref 64), (0, .ref 0)], [.ref 270, .int (xs ((i + 3).toNatClampNeg)), .int (xs ((i + 2).toNatClampNeg)), .int (xs ((i + 1).toNatClampNeg)), .ref 64], (q_kL S c n))) 1 (fun _ _ => rfl) ?_
  refine q_Ru_call (v := (some (.int r0.2.1))) (h2 := (q_kL (q_pt 172 1 0 206 S r0.1) (c + r0.2.2) (n + 6 * r0.2.2))) rfl rfl ?_ ?_
  · exact (q_emXL rfl (fun _ => rfl) (dzt_X5_64_236 z L xs (q_vw 172 0 206 S) c n (xs ((i + 1).toNatClampNeg)) (xs ((i + 2).toNatClampNeg)) (xs ((i + 3).toNatClampNeg)) r0 er0)).le (Nat.le_of_ble_eq_true rfl)
  show q_Ru _ _ _ (459, [(4, .int i), (3, .ref 270), (2, .ref 236), (1, .ref 64), (0, .ref 0)], [.int r0.2.1], (q_kL (q_pt 172 1 0 206 S r0.1) (c + r0.2.2) (n + 6 * r0.2.2))) _
  refine q_Ru_seg (g2 := (467, [(5, .int r0.2.1), (4, .int i), (3, .ref 270), (2, .ref 236), (1, .ref 64), (0, .ref 0)], [.int (i + 1), .ref 0, .ref 236], (q_kL (q_pt 172 1 0 206 S r0.1) (c + r0.2.2) (n + 6 * r0.2.2)))) 6 (fun _ _ => rfl) ?_
  refine q_Ru_rsT (g2 := (468, [(5, .int r0.2.1), (4, .int i), (3, .ref 270), (2, .ref 236), (1, .ref 64), (0, .ref 0)], [.int (xs ((i + 1).toNatClampNeg)), .ref 236], (q_kL (q_pt 172 1 0 206 S r0.1) (c + r0.2.2) (n + 6 * r0.2.2)))) rfl rfl hx1 ?_
  refine q_Ru_seg (g2 := (473, [(5, .int r0.2.1), (4, .int i), (3, .ref 270), (2, .ref 236), (1, .ref 64), (0, .ref 0)], [.int (i + 2), .ref 0, .int (xs ((i + 1).toNatClampNeg)), .ref 236], (q_kL (q_pt 172 1 0 206 S r0.1) (c + r0.2.2) (n + 6 * r0.2.2)))) 4 (fun _ _ => rfl) ?_
  refine q_Ru_rsT (g2 := (474, [(5, .int r0.2.1), (4, .int i), (3, .ref 270), (2, .ref 236), (1, .ref 64), (0, .ref 0)], [.int (xs ((i + 2).toNatClampNeg)), .int (xs ((i + 1).toNatClampNeg)), .ref 236], (q_kL (q_pt 172 1 0 206 S r0.1) (c + r0.2.2) (n + 6 * r0.2.2)))) rfl rfl hx2 ?_
  refine q_Ru_seg (g2 := (479, [(5, .int r0.2.1), (4, .int i), (3, .ref 270), (2, .ref 236), (1, .ref 64), (0, .ref 0)], [.int (i + 3), .ref 0, .int (xs ((i + 2).toNatClampNeg)), .int (xs ((i + 1).toNatClampNeg)), .ref 236], (q_kL (q_pt 172 1 0 206 S r0.1) (c + r0.2.2) (n + 6 * r0.2.2)))) 4 (fun _ _ => rfl) ?_
  refine q_Ru_rsT (g2 := (480, [(5, .int r0.2.1), (4, .int i), (3, .ref 270), (2, .ref 236), (1, .ref 64), (0, .ref 0)], [.int (xs ((i + 3).toNatClampNeg)), .int (xs ((i + 2).toNatClampNeg)), .int (xs ((i + 1).toNatClampNeg)), .ref 236], (q_kL (q_pt 172 1 0 206 S r0.1) (c + r0.2.2) (n + 6 * r0.2.2)))) rfl rfl hx3 ?_
  refine q_Ru_call (v := (some (.int r1.2))) (h2 := (q_kL (q_pt 34 0 172 0 (q_pt 172 1 0 206 S r0.1) r1.1) (c + r0.2.2) (n + 6 * r0.2.2))) rfl rfl ?_ ?_
  · exact (q_emML rfl (fun _ => rfl) ((dzt_M279_64 (q_vw 34 172 0 (q_pt 172 1 0 206 S r0.1)) (c + r0.2.2) (n + 6 * r0.2.2) (xs ((i + 1).toNatClampNeg)) (xs ((i + 2).toNatClampNeg)) (xs ((i + 3).toNatClampNeg)) r1 er1).tb q_TB0_le)).le (Nat.le_of_ble_eq_true rfl)
  show q_Ru _ _ _ (483, [(5, .int r0.2.1), (4, .int i), (3, .ref 270), (2, .ref 236), (1, .ref 64), (0, .ref 0)], [.int r1.2], (q_kL (q_pt 34 0 172 0 (q_pt 172 1 0 206 S r0.1) r1.1) (c + r0.2.2) (n + 6 * r0.2.2))) _
  refine q_Ru_seg (g2 := (23, [(4, .int (i + 4)), (6, .int r1.2), (5, .int r0.2.1), (3, .ref 270), (2, .ref 236), (1, .ref 64), (0, .ref 0)], [], (q_kL (q_pt 34 0 172 0 (q_pt 172 1 0 206 S r0.1) r1.1) (c + r0.2.2) (n + 6 * r0.2.2)))) 4 (fun _ _ => rfl) ?_
  exact q_Ru_xt (q_xt_mk (q_mn1 0 rfl (q_mn1 3 rfl (q_mn1 4 rfl (q_mn1 5 rfl (q_mn1 6 rfl q_mn0))))) rfl) h
set_option maxHeartbeats 4000000 in
theorem q_lw6 (z L : Nat) (xs : Nat → Int32) (S : q_S) (c n : Nat) (i : Int32) (hx0 : q_in i L = true) (hx1 : q_in (i + 1) L = true) (hx2 : q_in (i + 2) L = true) (hx3 : q_in (i + 3) L = true) (hi : decide (Int32.ofNat L - 4 < i) = false) (hv : xs i.toNatClampNeg &&& 63 = 6) (r0 : q_S × Int32 × Nat) (er0 : dz_X6_64_236 (q_vw 172 0 206 S) (xs ((i + 1).toNatClampNeg)) = some r0) (r1 : q_S × Int32) (er1 : dz_M286_64 (q_vw 34 172 0 (q_pt 172 1 0 206 S r0.1)) (xs ((i + 1).toNatClampNeg)) = some r1) {o : q_Out} (h : q_Ru (q_TBs z L xs) 20 376 (23, [(4, .int (i + 4)), (3, .ref 270), (2, .ref 236), (1, .ref 64), (0, .ref 0)], [], (q_kL (q_pt 34 0 172 0 (q_pt 172 1 0 206 S r0.1) r1.1) (c + r0.2.2) (n + 6 * r0.2.2))) o) : q_Ru (q_TBs z L xs) 20 376 (23, [(4, .int i), (3, .ref 270), (2, .ref 236), (1, .ref 64), (0, .ref 0)], [], (q_kL S c n)) o := by
  refine q_Ru_seg (g2 := (29, [(4, .int i), (3, .ref 270), (2, .ref 236), (1, .ref 64), (0, .ref 0)], [.int ((Int32.ofNat L) - 4), .int i], (q_kL S c n))) 5 (fun _ _ => rfl) ?_
  refine q_Ru_rsF (g2 := (32, [(4, .int i), (3, .ref 270), (2, .ref 236), (1, .ref 64), (0, .ref 0)], [], (q_kL S c n))) rfl rfl hi ?_
  refine q_Ru_seg (g2 := (35, [(4, .int i), (3, .ref 270), (2, .ref 236), (1, .ref 64), (0, .ref 0)], [.int i, .ref 0], (q_kL S c n))) 2 (fun _ _ => rfl) ?_
  refine q_Ru_rsT (g2 := (36, [(4, .int i), (3, .ref 270), (2, .ref 236), (1, .ref 64), (0, .ref 0)], [.int (xs (i.toNatClampNeg))], (q_kL S c n))) rfl rfl hx0 ?_
  refine q_Ru_seg (g2 := (39, [(4, .int i), (3, .ref 270), (2, .ref 236), (1, .ref 64), (0, .ref 0)], [.int ((xs (i.toNatClampNeg)) &&& 63)], (q_kL S c n))) 2 (fun _ _ => rfl) ?_
  rw [hv]
  refine q_Ru_seg (g2 := (494, [(4, .int i), (3, .ref 270), (2, .ref 236), (1, .ref 64), (0, .ref 0)], [.int (i + 1), .ref 0, .ref 64], (q_kL S c n))) 6 (fun _ _ => rfl) ?_
  refine q_Ru_rsT (g2 := (495, [(4, .int i), (3, .ref 270), (2, .ref 236), (1, .ref 64), (0, .ref 0)], [.int (xs ((i + 1).toNatClampNeg)), .ref 64], (q_kL S c n))) rfl rfl hx1 ?_
  refine q_Ru_seg (g2 := (496, [(4, .int i), (3, .ref 270), (2, .ref 236), (1, .ref 64), (0, .ref 0)], [.ref 270, .int (xs ((i + 1).toNatClampNeg)), .ref 64], (q_kL S c n))) 1 (fun _ _ => rfl) ?_
  refine q_Ru_call (v := (some (.int r0.2.1))) (h2 := (q_kL (q_pt 172 1 0 206 S r0.1) (c + r0.2.2) (n + 6 * r0.2.2))) rfl rfl ?_ ?_
  · exact (q_emXL rfl (fun _ => rfl) (dzt_X6_64_236 z L xs (q_vw 172 0 206 S) c n (xs ((i + 1).toNatClampNeg)) r0 er0)).le (Nat.le_of_ble_eq_true rfl)
  show q_Ru _ _ _ (499, [(4, .int i), (3, .ref 270), (2, .ref 236), (1, .ref 64), (0, .ref 0)], [.int r0.2.1], (q_kL (q_pt 172 1 0 206 S r0.1) (c + r0.2.2) (n + 6 * r0.2.2))) _
  refine q_Ru_seg (g2 := (507, [(5, .int r0.2.1), (4, .int i), (3, .ref 270), (2, .ref 236), (1, .ref 64), (0, .ref 0)], [.int (i + 1), .ref 0, .ref 236], (q_kL (q_pt 172 1 0 206 S r0.1) (c + r0.2.2) (n + 6 * r0.2.2)))) 6 (fun _ _ => rfl) ?_
  refine q_Ru_rsT (g2 := (508, [(5, .int r0.2.1), (4, .int i), (3, .ref 270), (2, .ref 236), (1, .ref 64), (0, .ref 0)], [.int (xs ((i + 1).toNatClampNeg)), .ref 236], (q_kL (q_pt 172 1 0 206 S r0.1) (c + r0.2.2) (n + 6 * r0.2.2)))) rfl rfl hx1 ?_
  refine q_Ru_call (v := (some (.int r1.2))) (h2 := (q_kL (q_pt 34 0 172 0 (q_pt 172 1 0 206 S r0.1) r1.1) (c + r0.2.2) (n + 6 * r0.2.2))) rfl rfl ?_ ?_
  · exact (q_emML rfl (fun _ => rfl) ((dzt_M286_64 (q_vw 34 172 0 (q_pt 172 1 0 206 S r0.1)) (c + r0.2.2) (n + 6 * r0.2.2) (xs ((i + 1).toNatClampNeg)) r1 er1).tb q_TB0_le)).le (Nat.le_of_ble_eq_true rfl)
  show q_Ru _ _ _ (511, [(5, .int r0.2.1), (4, .int i), (3, .ref 270), (2, .ref 236), (1, .ref 64), (0, .ref 0)], [.int r1.2], (q_kL (q_pt 34 0 172 0 (q_pt 172 1 0 206 S r0.1) r1.1) (c + r0.2.2) (n + 6 * r0.2.2))) _
  refine q_Ru_seg (g2 := (23, [(4, .int (i + 4)), (6, .int r1.2), (5, .int r0.2.1), (3, .ref 270), (2, .ref 236), (1, .ref 64), (0, .ref 0)], [], (q_kL (q_pt 34 0 172 0 (q_pt 172 1 0 206 S r0.1) r1.1) (c + r0.2.2) (n + 6 * r0.2.2)))) 4 (fun _ _ => rfl) ?_
  exact q_Ru_xt (q_xt_mk (q_mn1 0 rfl (q_mn1 3 rfl (q_mn1 4 rfl (q_mn1 5 rfl (q_mn1 6 rfl q_mn0))))) rfl) h
set_option maxHeartbeats 4000000 in
theorem q_lw7 (z L : Nat) (xs : Nat → Int32) (S : q_S) (c n : Nat) (i : Int32) (hx0 : q_in i L = true) (hx1 : q_in (i + 1) L = true) (hx2 : q_in (i + 2) L = true) (hx3 : q_in (i + 3) L = true) (hi : decide (Int32.ofNat L - 4 < i) = false) (hv : xs i.toNatClampNeg &&& 63 = 7) (r0 : q_S × Int32 × Nat) (er0 : dz_X7_64_236 (q_vw 172 0 206 S) (xs ((i + 1).toNatClampNeg)) = some r0) (r1 : q_S × Int32) (er1 : dz_M287_64 (q_vw 34 172 0 (q_pt 172 1 0 206 S r0.1)) (xs ((i + 1).toNatClampNeg)) = some r1) {o : q_Out} (h : q_Ru (q_TBs z L xs) 20 376 (23, [(4, .int (i + 4)), (3, .ref 270), (2, .ref 236), (1, .ref 64), (0, .ref 0)], [], (q_kL (q_pt 34 0 172 0 (q_pt 172 1 0 206 S r0.1) r1.1) (c + r0.2.2) (n + 6 * r0.2.2))) o) : q_Ru (q_TBs z L xs) 20 376 (23, [(4, .int i), (3, .ref 270), (2, .ref 236), (1, .ref 64), (0, .ref 0)], [], (q_kL S c n)) o := by
  refine q_Ru_seg (g2 := (29, [(4, .int i), (3, .ref 270), (2, .ref 236), (1, .ref 64), (0, .ref 0)], [.int ((Int32.ofNat L) - 4), .int i], (q_kL S c n))) 5 (fun _ _ => rfl) ?_
  refine q_Ru_rsF (g2 := (32, [(4, .int i), (3, .ref 270), (2, .ref 236), (1, .ref 64), (0, .ref 0)], [], (q_kL S c n))) rfl rfl hi ?_
  refine q_Ru_seg (g2 := (35, [(4, .int i), (3, .ref 270), (2, .ref 236), (1, .ref 64), (0, .ref 0)], [.int i, .ref 0], (q_kL S c n))) 2 (fun _ _ => rfl) ?_
  refine q_Ru_rsT (g2 := (36, [(4, .int i), (3, .ref 270), (2, .ref 236), (1, .ref 64), (0, .ref 0)], [.int (xs (i.toNatClampNeg))], (q_kL S c n))) rfl rfl hx0 ?_
  refine q_Ru_seg (g2 := (39, [(4, .int i), (3, .ref 270), (2, .ref 236), (1, .ref 64), (0, .ref 0)], [.int ((xs (i.toNatClampNeg)) &&& 63)], (q_kL S c n))) 2 (fun _ _ => rfl) ?_
  rw [hv]
  refine q_Ru_seg (g2 := (522, [(4, .int i), (3, .ref 270), (2, .ref 236), (1, .ref 64), (0, .ref 0)], [.int (i + 1), .ref 0, .ref 64], (q_kL S c n))) 6 (fun _ _ => rfl) ?_
  refine q_Ru_rsT (g2 := (523, [(4, .int i), (3, .ref 270), (2, .ref 236), (1, .ref 64), (0, .ref 0)], [.int (xs ((i + 1).toNatClampNeg)), .ref 64], (q_kL S c n))) rfl rfl hx1 ?_
  refine q_Ru_seg (g2 := (524, [(4, .int i), (3, .ref 270), (2, .ref 236), (1, .ref 64), (0, .ref 0)], [.ref 270, .int (xs ((i + 1).toNatClampNeg)), .ref 64], (q_kL S c n))) 1 (fun _ _ => rfl) ?_
  refine q_Ru_call (v := (some (.int r0.2.1))) (h2 := (q_kL (q_pt 172 1 0 206 S r0.1) (c + r0.2.2) (n + 6 * r0.2.2))) rfl rfl ?_ ?_
  · exact (q_emXL rfl (fun _ => rfl) (dzt_X7_64_236 z L xs (q_vw 172 0 206 S) c n (xs ((i + 1).toNatClampNeg)) r0 er0)).le (Nat.le_of_ble_eq_true rfl)
  show q_Ru _ _ _ (527, [(4, .int i), (3, .ref 270), (2, .ref 236), (1, .ref 64), (0, .ref 0)], [.int r0.2.1], (q_kL (q_pt 172 1 0 206 S r0.1) (c + r0.2.2) (n + 6 * r0.2.2))) _
  refine q_Ru_seg (g2 := (535, [(5, .int r0.2.1), (4, .int i), (3, .ref 270), (2, .ref 236), (1, .ref 64), (0, .ref 0)], [.int (i + 1), .ref 0, .ref 236], (q_kL (q_pt 172 1 0 206 S r0.1) (c + r0.2.2) (n + 6 * r0.2.2)))) 6 (fun _ _ => rfl) ?_
  refine q_Ru_rsT (g2 := (536, [(5, .int r0.2.1), (4, .int i), (3, .ref 270), (2, .ref 236), (1, .ref 64), (0, .ref 0)], [.int (xs ((i + 1).toNatClampNeg)), .ref 236], (q_kL (q_pt 172 1 0 206 S r0.1) (c + r0.2.2) (n + 6 * r0.2.2)))) rfl rfl hx1 ?_
  refine q_Ru_call (v := (some (.int r1.2))) (h2 := (q_kL (q_pt 34 0 172 0 (q_pt 172 1 0 206 S r0.1) r1.1) (c + r0.2.2) (n + 6 * r0.2.2))) rfl rfl ?_ ?_
  · exact (q_emML rfl (fun _ => rfl) ((dzt_M287_64 (q_vw 34 172 0 (q_pt 172 1 0 206 S r0.1)) (c + r0.2.2) (n + 6 * r0.2.2) (xs ((i + 1).toNatClampNeg)) r1 er1).tb q_TB0_le)).le (Nat.le_of_ble_eq_true rfl)
  show q_Ru _ _ _ (539, [(5, .int r0.2.1), (4, .int i), (3, .ref 270), (2, .ref 236), (1, .ref 64), (0, .ref 0)], [.int r1.2], (q_kL (q_pt 34 0 172 0 (q_pt 172 1 0 206 S r0.1) r1.1) (c + r0.2.2) (n + 6 * r0.2.2))) _
  refine q_Ru_seg (g2 := (23, [(4, .int (i + 4)), (6, .int r1.2), (5, .int r0.2.1), (3, .ref 270), (2, .ref 236), (1, .ref 64), (0, .ref 0)], [], (q_kL (q_pt 34 0 172 0 (q_pt 172 1 0 206 S r0.1) r1.1) (c + r0.2.2) (n + 6 * r0.2.2)))) 4 (fun _ _ => rfl) ?_
  exact q_Ru_xt (q_xt_mk (q_mn1 0 rfl (q_mn1 3 rfl (q_mn1 4 rfl (q_mn1 5 rfl (q_mn1 6 rfl q_mn0))))) rfl) h
set_option maxHeartbeats 4000000 in
theorem q_lw8 (z L : Nat) (xs : Nat → Int32) (S : q_S) (c n : Nat) (i : Int32) (hx0 : q_in i L = true) (hx1 : q_in (i + 1) L = true) (hx2 : q_in (i + 2) L = true) (hx3 : q_in (i + 3) L = true) (hi : decide (Int32.ofNat L - 4 < i) = false) (hv : xs i.toNatClampNeg &&& 63 = 8) (r0 : q_S × Int32 × Nat) (er0 : dz_X8_64_236 (q_vw 172 0 206 S) (xs ((i + 1).toNatClampNeg)) (xs ((i + 2).toNatClampNeg)) (xs ((i + 3).toNatClampNeg)) = some r0) (r1 : q_S × Int32) (er1 : dz_M221_64 (q_vw 34 172 0 (q_pt 172 1 0 206 S r0.1)) (xs ((i + 1).toNatClampNeg)) (xs ((i + 2).toNatClampNeg)) (xs ((i + 3).toNatClampNeg)) = some r1) {o : q_Out} (h : q_Ru (q_TBs z L xs) 20 376 (23, [(4, .int (i + 4)), (3, .ref 270), (2, .ref 236), (1, .ref 64), (0, .ref 0)], [], (q_kL (q_pt 34 0 172 0 (q_pt 172 1 0 206 S r0.1) r1.1) (c + r0.2.2) (n + 6 * r0.2.2))) o) : q_Ru (q_TBs z L xs) 20 376 (23, [(4, .int i), (3, .ref 270), (2, .ref 236), (1, .ref 64), (0, .ref 0)], [], (q_kL S c n)) o := by
  refine q_Ru_seg (g2 := (29, [(4, .int i), (3, .ref 270), (2, .ref 236), (1, .ref 64), (0, .ref 0)], [.int ((Int32.ofNat L) - 4), .int i], (q_kL S c n))) 5 (fun _ _ => rfl) ?_
  refine q_Ru_rsF (g2 := (32, [(4, .int i), (3, .ref 270), (2, .ref 236), (1, .ref 64), (0, .ref 0)], [], (q_kL S c n))) rfl rfl hi ?_
  refine q_Ru_seg (g2 := (35, [(4, .int i), (3, .ref 270), (2, .ref 236), (1, .ref 64), (0, .ref 0)], [.int i, .ref 0], (q_kL S c n))) 2 (fun _ _ => rfl) ?_
  refine q_Ru_rsT (g2 := (36, [(4, .int i), (3, .ref 270), (2, .ref 236), (1, .ref 64), (0, .ref 0)], [.int (xs (i.toNatClampNeg))], (q_kL S c n))) rfl rfl hx0 ?_
  refine q_Ru_seg (g2 := (39, [(4, .int i), (3, .ref 270), (2, .ref 236), (1, .ref 64), (0, .ref 0)], [.int ((xs (i.toNatClampNeg)) &&& 63)], (q_kL S c n))) 2 (fun _ _ => rfl) ?_
  rw [hv]
  refine q_Ru_seg (g2 := (550, [(4, .int i), (3, .ref 270), (2, .ref 236), (1, .ref 64), (0, .ref 0)], [.int (i + 1), .ref 0, .ref 64], (q_kL S c n))) 6 (fun _ _ => rfl) ?_
  refine q_Ru_rsT (g2 := (551, [(4, .int i), (3, .ref 270), (2, .ref 236), (1, .ref 64), (0, .ref 0)], [.int (xs ((i + 1).toNatClampNeg)), .ref 64], (q_kL S c n))) rfl rfl hx1 ?_
  refine q_Ru_seg (g2 := (556, [(4, .int i), (3, .ref 270), (2, .ref 236), (1, .ref 64), (0, .ref 0)], [.int (i + 2), .ref 0, .int (xs ((i + 1).toNatClampNeg)), .ref 64], (q_kL S c n))) 4 (fun _ _ => rfl) ?_
  refine q_Ru_rsT (g2 := (557, [(4, .int i), (3, .ref 270), (2, .ref 236), (1, .ref 64), (0, .ref 0)], [.int (xs ((i + 2).toNatClampNeg)), .int (xs ((i + 1).toNatClampNeg)), .ref 64], (q_kL S c n))) rfl rfl hx2 ?_
  refine q_Ru_seg (g2 := (562, [(4, .int i), (3, .ref 270), (2, .ref 236), (1, .ref 64), (0, .ref 0)], [.int (i + 3), .ref 0, .int (xs ((i + 2).toNatClampNeg)), .int (xs ((i + 1).toNatClampNeg)), .ref 64], (q_kL S c n))) 4 (fun _ _ => rfl) ?_
  refine q_Ru_rsT (g2 := (563, [(4, .int i), (3, .ref 270), (2, .ref 236), (1, .ref 64), (0, .ref 0)], [.int (xs ((i + 3).toNatClampNeg)), .int (xs ((i + 2).toNatClampNeg)), .int (xs ((i + 1).toNatClampNeg)), .ref 64], (q_kL S c n))) rfl rfl hx3 ?_
  refine q_Ru_seg (g2 := (564, [(4, .int i), (3, .ref 270), (2, .ref 236), (1, .ref 64), (0, .ref 0)], [.ref 270, .int (xs ((i + 3).toNatClampNeg)), .int (xs ((i + 2).toNatClampNeg)), .int (xs ((i + 1).toNatClampNeg)), .ref 64], (q_kL S c n))) 1 (fun _ _ => rfl) ?_
  refine q_Ru_call (v := (some (.int r0.2.1))) (h2 := (q_kL (q_pt 172 1 0 206 S r0.1) (c + r0.2.2) (n + 6 * r0.2.2))) rfl rfl ?_ ?_
  · exact (q_emXL rfl (fun _ => rfl) (dzt_X8_64_236 z L xs (q_vw 172 0 206 S) c n (xs ((i + 1).toNatClampNeg)) (xs ((i + 2).toNatClampNeg)) (xs ((i + 3).toNatClampNeg)) r0 er0)).le (Nat.le_of_ble_eq_true rfl)
  show q_Ru _ _ _ (567, [(4, .int i), (3, .ref 270), (2, .ref 236), (1, .ref 64), (0, .ref 0)], [.int r0.2.1], (q_kL (q_pt 172 1 0 206 S r0.1) (c + r0.2.2) (n + 6 * r0.2.2))) _
  refine q_Ru_seg (g2 := (575, [(5, .int r0.2.1), (4, .int i), (3, .ref 270), (2, .ref 236), (1, .ref 64), (0, .ref 0)], [.int (i + 1), .ref 0, .ref 236], (q_kL (q_pt 172 1 0 206 S r0.1) (c + r0.2.2) (n + 6 * r0.2.2)))) 6 (fun _ _ => rfl) ?_
  refine q_Ru_rsT (g2 := (576, [(5, .int r0.2.1), (4, .int i), (3, .ref 270), (2, .ref 236), (1, .ref 64), (0, .ref 0)], [.int (xs ((i + 1).toNatClampNeg)), .ref 236], (q_kL (q_pt 172 1 0 206 S r0.1) (c + r0.2.2) (n + 6 * r0.2.2)))) rfl rfl hx1 ?_
  refine q_Ru_seg (g2 := (581, [(5, .int r0.2.1), (4, .int i), (3, .ref 270), (2, .ref 236), (1, .ref 64), (0, .ref 0)], [.int (i + 2), .ref 0, .int (xs ((i + 1).toNatClampNeg)), .ref 236], (q_kL (q_pt 172 1 0 206 S r0.1) (c + r0.2.2) (n + 6 * r0.2.2)))) 4 (fun _ _ => rfl) ?_
  refine q_Ru_rsT (g2 := (582, [(5, .int r0.2.1), (4, .int i), (3, .ref 270), (2, .ref 236), (1, .ref 64), (0, .ref 0)], [.int (xs ((i + 2).toNatClampNeg)), .int (xs ((i + 1).toNatClampNeg)), .ref 236], (q_kL (q_pt 172 1 0 206 S r0.1) (c + r0.2.2) (n + 6 * r0.2.2)))) rfl rfl hx2 ?_
  refine q_Ru_seg (g2 := (587, [(5, .int r0.2.1), (4, .int i), (3, .ref 270), (2, .ref 236), (1, .ref 64), (0, .ref 0)], [.int (i + 3), .ref 0, .int (xs ((i + 2).toNatClampNeg)), .int (xs ((i + 1).toNatClampNeg)), .ref 236], (q_kL (q_pt 172 1 0 206 S r0.1) (c + r0.2.2) (n + 6 * r0.2.2)))) 4 (fun _ _ => rfl) ?_
  refine q_Ru_rsT (g2 := (588, [(5, .int r0.2.1), (4, .int i), (3, .ref 270), (2, .ref 236), (1, .ref 64), (0, .ref 0)], [.int (xs ((i + 3).toNatClampNeg)), .int (xs ((i + 2).toNatClampNeg)), .int (xs ((i + 1).toNatClampNeg)), .ref 236], (q_kL (q_pt 172 1 0 206 S r0.1) (c + r0.2.2) (n + 6 * r0.2.2)))) rfl rfl hx3 ?_
  refine q_Ru_call (v := (some (.int r1.2))) (h2 := (q_kL (q_pt 34 0 172 0 (q_pt 172 1 0 206 S r0.1) r1.1) (c + r0.2.2) (n + 6 * r0.2.2))) rfl rfl ?_ ?_
  · exact (q_emML rfl (fun _ => rfl) ((dzt_M221_64 (q_vw 34 172 0 (q_pt 172 1 0 206 S r0.1)) (c + r0.2.2) (n + 6 * r0.2.2) (xs ((i + 1).toNatClampNeg)) (xs ((i + 2).toNatClampNeg)) (xs ((i + 3).toNatClampNeg)) r1 er1).tb q_TB0_le)).le (Nat.le_of_ble_eq_true rfl)
  show q_Ru _ _ _ (591, [(5, .int r0.2.1), (4, .int i), (3, .ref 270), (2, .ref 236), (1, .ref 64), (0, .ref 0)], [.int r1.2], (q_kL (q_pt 34 0 172 0 (q_pt 172 1 0 206 S r0.1) r1.1) (c + r0.2.2) (n + 6 * r0.2.2))) _
  refine q_Ru_seg (g2 := (23, [(4, .int (i + 4)), (6, .int r1.2), (5, .int r0.2.1), (3, .ref 270), (2, .ref 236), (1, .ref 64), (0, .ref 0)], [], (q_kL (q_pt 34 0 172 0 (q_pt 172 1 0 206 S r0.1) r1.1) (c + r0.2.2) (n + 6 * r0.2.2)))) 4 (fun _ _ => rfl) ?_
  exact q_Ru_xt (q_xt_mk (q_mn1 0 rfl (q_mn1 3 rfl (q_mn1 4 rfl (q_mn1 5 rfl (q_mn1 6 rfl q_mn0))))) rfl) h
set_option maxHeartbeats 4000000 in
theorem q_lw9 (z L : Nat) (xs : Nat → Int32) (S : q_S) (c n : Nat) (i : Int32) (hx0 : q_in i L = true) (hx1 : q_in (i + 1) L = true) (hx2 : q_in (i + 2) L = true) (hx3 : q_in (i + 3) L = true) (hi : decide (Int32.ofNat L - 4 < i) = false) (hv : xs i.toNatClampNeg &&& 63 = 9) (r0 : q_S × Int32 × Nat) (er0 : dz_X9_64_236 (q_vw 172 0 206 S) (xs ((i + 1).toNatClampNeg)) = r0) (r1 : q_S × Int32) (er1 : dz_M288_64 (q_vw 34 172 0 (q_pt 172 1 0 206 S r0.1)) (xs ((i + 1).toNatClampNeg)) = some r1) {o : q_Out} (h : q_Ru (q_TBs z L xs) 20 376 (23, [(4, .int (i + 4)), (3, .ref 270), (2, .ref 236), (1, .ref 64), (0, .ref 0)], [], (q_kL (q_pt 34 0 172 0 (q_pt 172 1 0 206 S r0.1) r1.1) (c + r0.2.2) (n + 6 * r0.2.2))) o) : q_Ru (q_TBs z L xs) 20 376 (23, [(4, .int i), (3, .ref 270), (2, .ref 236), (1, .ref 64), (0, .ref 0)], [], (q_kL S c n)) o := by
  refine q_Ru_seg (g2 := (29, [(4, .int i), (3, .ref 270), (2, .ref 236), (1, .ref 64), (0, .ref 0)], [.int ((Int32.ofNat L) - 4), .int i], (q_kL S c n))) 5 (fun _ _ => rfl) ?_
  refine q_Ru_rsF (g2 := (32, [(4, .int i), (3, .ref 270), (2, .ref 236), (1, .ref 64), (0, .ref 0)], [], (q_kL S c n))) rfl rfl hi ?_
  refine q_Ru_seg (g2 := (35, [(4, .int i), (3, .ref 270), (2, .ref 236), (1, .ref 64), (0, .ref 0)], [.int i, .ref 0], (q_kL S c n))) 2 (fun _ _ => rfl) ?_
  refine q_Ru_rsT (g2 := (36, [(4, .int i), (3, .ref 270), (2, .ref 236), (1, .ref 64), (0, .ref 0)], [.int (xs (i.toNatClampNeg))], (q_kL S c n))) rfl rfl hx0 ?_
  refine q_Ru_seg (g2 := (39, [(4, .int i), (3, .ref 270), (2, .ref 236), (1, .ref 64), (0, .ref 0)], [.int ((xs (i.toNatClampNeg)) &&& 63)], (q_kL S c n))) 2 (fun _ _ => rfl) ?_
  rw [hv]
  refine q_Ru_seg (g2 := (602, [(4, .int i), (3, .ref 270), (2, .ref 236), (1, .ref 64), (0, .ref 0)], [.int (i + 1), .ref 0, .ref 64], (q_kL S c n))) 6 (fun _ _ => rfl) ?_
  refine q_Ru_rsT (g2 := (603, [(4, .int i), (3, .ref 270), (2, .ref 236), (1, .ref 64), (0, .ref 0)], [.int (xs ((i + 1).toNatClampNeg)), .ref 64], (q_kL S c n))) rfl rfl hx1 ?_
  refine q_Ru_seg (g2 := (604, [(4, .int i), (3, .ref 270), (2, .ref 236), (1, .ref 64), (0, .ref 0)], [.ref 270, .int (xs ((i + 1).toNatClampNeg)), .ref 64], (q_kL S c n))) 1 (fun _ _ => rfl) ?_
  refine q_Ru_call (v := (some (.int r0.2.1))) (h2 := (q_kL (q_pt 172 1 0 206 S r0.1) (c + r0.2.2) (n + 6 * r0.2.2))) rfl rfl ?_ ?_
  · exact (q_emXL rfl (fun _ => rfl) (q_cE (φ := (q_oEX c n)) er0 (dzt_X9_64_236 z L xs (q_vw 172 0 206 S) c n (xs ((i + 1).toNatClampNeg))))).le (Nat.le_of_ble_eq_true rfl)
  show q_Ru _ _ _ (607, [(4, .int i), (3, .ref 270), (2, .ref 236), (1, .ref 64), (0, .ref 0)], [.int r0.2.1], (q_kL (q_pt 172 1 0 206 S r0.1) (c + r0.2.2) (n + 6 * r0.2.2))) _
  refine q_Ru_seg (g2 := (615, [(5, .int r0.2.1), (4, .int i), (3, .ref 270), (2, .ref 236), (1, .ref 64), (0, .ref 0)], [.int (i + 1), .ref 0, .ref 236], (q_kL (q_pt 172 1 0 206 S r0.1) (c + r0.2.2) (n + 6 * r0.2.2)))) 6 (fun _ _ => rfl) ?_
  refine q_Ru_rsT (g2 := (616, [(5, .int r0.2.1), (4, .int i), (3, .ref 270), (2, .ref 236), (1, .ref 64), (0, .ref 0)], [.int (xs ((i + 1).toNatClampNeg)), .ref 236], (q_kL (q_pt 172 1 0 206 S r0.1) (c + r0.2.2) (n + 6 * r0.2.2)))) rfl rfl hx1 ?_
  refine q_Ru_call (v := (some (.int r1.2))) (h2 := (q_kL (q_pt 34 0 172 0 (q_pt 172 1 0 206 S r0.1) r1.1) (c + r0.2.2) (n + 6 * r0.2.2))) rfl rfl ?_ ?_
  · exact (q_emML rfl (fun _ => rfl) ((dzt_M288_64 (q_vw 34 172 0 (q_pt 172 1 0 206 S r0.1)) (c + r0.2.2) (n + 6 * r0.2.2) (xs ((i + 1).toNatClampNeg)) r1 er1).tb q_TB0_le)).le (Nat.le_of_ble_eq_true rfl)
  show q_Ru _ _ _ (619, [(5, .int r0.2.1), (4, .int i), (3, .ref 270), (2, .ref 236), (1, .ref 64), (0, .ref 0)], [.int r1.2], (q_kL (q_pt 34 0 172 0 (q_pt 172 1 0 206 S r0.1) r1.1) (c + r0.2.2) (n + 6 * r0.2.2))) _
  refine q_Ru_seg (g2 := (23, [(4, .int (i + 4)), (6, .int r1.2), (5, .int r0.2.1), (3, .ref 270), (2, .ref 236), (1, .ref 64), (0, .ref 0)], [], (q_kL (q_pt 34 0 172 0 (q_pt 172 1 0 206 S r0.1) r1.1) (c + r0.2.2) (n + 6 * r0.2.2)))) 4 (fun _ _ => rfl) ?_
  exact q_Ru_xt (q_xt_mk (q_mn1 0 rfl (q_mn1 3 rfl (q_mn1 4 rfl (q_mn1 5 rfl (q_mn1 6 rfl q_mn0))))) rfl) h
set_option maxHeartbeats 4000000 in
theorem q_lw10 (z L : Nat) (xs : Nat → Int32) (S : q_S) (c n : Nat) (i : Int32) (hx0 : q_in i L = true) (hx1 : q_in (i + 1) L = true) (hx2 : q_in (i + 2) L = true) (hx3 : q_in (i + 3) L = true) (hi : decide (Int32.ofNat L - 4 < i) = false) (hv : xs i.toNatClampNeg &&& 63 = 10) (r0 : q_S × Int32 × Nat) (er0 : dz_X10_64_236 (q_vw 172 0 206 S) (xs ((i + 1).toNatClampNeg)) (xs ((i + 2).toNatClampNeg)) = some r0) (r1 : q_S × Int32) (er1 : dz_M289_64 (q_vw 34 172 0 (q_pt 172 1 0 206 S r0.1)) (xs ((i + 1).toNatClampNeg)) (xs ((i + 2).toNatClampNeg)) = some r1) {o : q_Out} (h : q_Ru (q_TBs z L xs) 20 376 (23, [(4, .int (i + 4)), (3, .ref 270), (2, .ref 236), (1, .ref 64), (0, .ref 0)], [], (q_kL (q_pt 34 0 172 0 (q_pt 172 1 0 206 S r0.1) r1.1) (c + r0.2.2) (n + 6 * r0.2.2))) o) : q_Ru (q_TBs z L xs) 20 376 (23, [(4, .int i), (3, .ref 270), (2, .ref 236), (1, .ref 64), (0, .ref 0)], [], (q_kL S c n)) o := by
  refine q_Ru_seg (g2 := (29, [(4, .int i), (3, .ref 270), (2, .ref 236), (1, .ref 64), (0, .ref 0)], [.int ((Int32.ofNat L) - 4), .int i], (q_kL S c n))) 5 (fun _ _ => rfl) ?_
  refine q_Ru_rsF (g2 := (32, [(4, .int i), (3, .ref 270), (2, .ref 236), (1, .ref 64), (0, .ref 0)], [], (q_kL S c n))) rfl rfl hi ?_
  refine q_Ru_seg (g2 := (35, [(4, .int i), (3, .ref 270), (2, .ref 236), (1, .ref 64), (0, .ref 0)], [.int i, .ref 0], (q_kL S c n))) 2 (fun _ _ => rfl) ?_
  refine q_Ru_rsT (g2 := (36, [(4, .int i), (3, .ref 270), (2, .ref 236), (1, .ref 64), (0, .ref 0)], [.int (xs (i.toNatClampNeg))], (q_kL S c n))) rfl rfl hx0 ?_
  refine q_Ru_seg (g2 := (39, [(4, .int i), (3, .ref 270), (2, .ref 236), (1, .ref 64), (0, .ref 0)], [.int ((xs (i.toNatClampNeg)) &&& 63)], (q_kL S c n))) 2 (fun _ _ => rfl) ?_
  rw [hv]
  refine q_Ru_seg (g2 := (630, [(4, .int i), (3, .ref 270), (2, .ref 236), (1, .ref 64), (0, .ref 0)], [.int (i + 1), .ref 0, .ref 64], (q_kL S c n))) 6 (fun _ _ => rfl) ?_
  refine q_Ru_rsT (g2 := (631, [(4, .int i), (3, .ref 270), (2, .ref 236), (1, .ref 64), (0, .ref 0)], [.int (xs ((i + 1).toNatClampNeg)), .ref 64], (q_kL S c n))) rfl rfl hx1 ?_
  refine q_Ru_seg (g2 := (636, [(4, .int i), (3, .ref 270), (2, .ref 236), (1, .ref 64), (0, .ref 0)], [.int (i + 2), .ref 0, .int (xs ((i + 1).toNatClampNeg)), .ref 64], (q_kL S c n))) 4 (fun _ _ => rfl) ?_
  refine q_Ru_rsT (g2 := (637, [(4, .int i), (3, .ref 270), (2, .ref 236), (1, .ref 64), (0, .ref 0)], [.int (xs ((i + 2).toNatClampNeg)), .int (xs ((i + 1).toNatClampNeg)), .ref 64], (q_kL S c n))) rfl rfl hx2 ?_
  refine q_Ru_seg (g2 := (638, [(4, .int i), (3, .ref 270), (2, .ref 236), (1, .ref 64), (0, .ref 0)], [.ref 270, .int (xs ((i + 2).toNatClampNeg)), .int (xs ((i + 1).toNatClampNeg)), .ref 64], (q_kL S c n))) 1 (fun _ _ => rfl) ?_
  refine q_Ru_call (v := (some (.int r0.2.1))) (h2 := (q_kL (q_pt 172 1 0 206 S r0.1) (c + r0.2.2) (n + 6 * r0.2.2))) rfl rfl ?_ ?_
  · exact (q_emXL rfl (fun _ => rfl) (dzt_X10_64_236 z L xs (q_vw 172 0 206 S) c n (xs ((i + 1).toNatClampNeg)) (xs ((i + 2).toNatClampNeg)) r0 er0)).le (Nat.le_of_ble_eq_true rfl)
  show q_Ru _ _ _ (641, [(4, .int i), (3, .ref 270), (2, .ref 236), (1, .ref 64), (0, .ref 0)], [.int r0.2.1], (q_kL (q_pt 172 1 0 206 S r0.1) (c + r0.2.2) (n + 6 * r0.2.2))) _
  refine q_Ru_seg (g2 := (649, [(5, .int r0.2.1), (4, .int i), (3, .ref 270), (2, .ref 236), (1, .ref 64), (0, .ref 0)], [.int (i + 1), .ref 0, .ref 236], (q_kL (q_pt 172 1 0 206 S r0.1) (c + r0.2.2) (n + 6 * r0.2.2)))) 6 (fun _ _ => rfl) ?_
  refine q_Ru_rsT (g2 := (650, [(5, .int r0.2.1), (4, .int i), (3, .ref 270), (2, .ref 236), (1, .ref 64), (0, .ref 0)], [.int (xs ((i + 1).toNatClampNeg)), .ref 236], (q_kL (q_pt 172 1 0 206 S r0.1) (c + r0.2.2) (n + 6 * r0.2.2)))) rfl rfl hx1 ?_
  refine q_Ru_seg (g2 := (655, [(5, .int r0.2.1), (4, .int i), (3, .ref 270), (2, .ref 236), (1, .ref 64), (0, .ref 0)], [.int (i + 2), .ref 0, .int (xs ((i + 1).toNatClampNeg)), .ref 236], (q_kL (q_pt 172 1 0 206 S r0.1) (c + r0.2.2) (n + 6 * r0.2.2)))) 4 (fun _ _ => rfl) ?_
  refine q_Ru_rsT (g2 := (656, [(5, .int r0.2.1), (4, .int i), (3, .ref 270), (2, .ref 236), (1, .ref 64), (0, .ref 0)], [.int (xs ((i + 2).toNatClampNeg)), .int (xs ((i + 1).toNatClampNeg)), .ref 236], (q_kL (q_pt 172 1 0 206 S r0.1) (c + r0.2.2) (n + 6 * r0.2.2)))) rfl rfl hx2 ?_
  refine q_Ru_call (v := (some (.int r1.2))) (h2 := (q_kL (q_pt 34 0 172 0 (q_pt 172 1 0 206 S r0.1) r1.1) (c + r0.2.2) (n + 6 * r0.2.2))) rfl rfl ?_ ?_
  · exact (q_emML rfl (fun _ => rfl) ((dzt_M289_64 (q_vw 34 172 0 (q_pt 172 1 0 206 S r0.1)) (c + r0.2.2) (n + 6 * r0.2.2) (xs ((i + 1).toNatClampNeg)) (xs ((i + 2).toNatClampNeg)) r1 er1).tb q_TB0_le)).le (Nat.le_of_ble_eq_true rfl)
  show q_Ru _ _ _ (659, [(5, .int r0.2.1), (4, .int i), (3, .ref 270), (2, .ref 236), (1, .ref 64), (0, .ref 0)], [.int r1.2], (q_kL (q_pt 34 0 172 0 (q_pt 172 1 0 206 S r0.1) r1.1) (c + r0.2.2) (n + 6 * r0.2.2))) _
  refine q_Ru_seg (g2 := (23, [(4, .int (i + 4)), (6, .int r1.2), (5, .int r0.2.1), (3, .ref 270), (2, .ref 236), (1, .ref 64), (0, .ref 0)], [], (q_kL (q_pt 34 0 172 0 (q_pt 172 1 0 206 S r0.1) r1.1) (c + r0.2.2) (n + 6 * r0.2.2)))) 4 (fun _ _ => rfl) ?_
  exact q_Ru_xt (q_xt_mk (q_mn1 0 rfl (q_mn1 3 rfl (q_mn1 4 rfl (q_mn1 5 rfl (q_mn1 6 rfl q_mn0))))) rfl) h
set_option maxHeartbeats 4000000 in
theorem q_lw11 (z L : Nat) (xs : Nat → Int32) (S : q_S) (c n : Nat) (i : Int32) (hx0 : q_in i L = true) (hx1 : q_in (i + 1) L = true) (hx2 : q_in (i + 2) L = true) (hx3 : q_in (i + 3) L = true) (hi : decide (Int32.ofNat L - 4 < i) = false) (hv : xs i.toNatClampNeg &&& 63 = 11) (r0 : q_S × Int32) (er0 : dz_M290_64 (q_vw 34 172 0 S) = some r0) {o : q_Out} (h : q_Ru (q_TBs z L xs) 20 376 (23, [(4, .int (i + 4)), (3, .ref 270), (2, .ref 236), (1, .ref 64), (0, .ref 0)], [], (q_kL (q_pt 34 0 172 0 S r0.1) c n)) o) : q_Ru (q_TBs z L xs) 20 376 (23, [(4, .int i), (3, .ref 270), (2, .ref 236), (1, .ref 64), (0, .ref 0)], [], (q_kL S c n)) o := by
  refine q_Ru_seg (g2 := (29, [(4, .int i), (3, .ref 270), (2, .ref 236), (1, .ref 64), (0, .ref 0)], [.int ((Int32.ofNat L) - 4), .int i], (q_kL S c n))) 5 (fun _ _ => rfl) ?_
  refine q_Ru_rsF (g2 := (32, [(4, .int i), (3, .ref 270), (2, .ref 236), (1, .ref 64), (0, .ref 0)], [], (q_kL S c n))) rfl rfl hi ?_
  refine q_Ru_seg (g2 := (35, [(4, .int i), (3, .ref 270), (2, .ref 236), (1, .ref 64), (0, .ref 0)], [.int i, .ref 0], (q_kL S c n))) 2 (fun _ _ => rfl) ?_
  refine q_Ru_rsT (g2 := (36, [(4, .int i), (3, .ref 270), (2, .ref 236), (1, .ref 64), (0, .ref 0)], [.int (xs (i.toNatClampNeg))], (q_kL S c n))) rfl rfl hx0 ?_
  refine q_Ru_seg (g2 := (39, [(4, .int i), (3, .ref 270), (2, .ref 236), (1, .ref 64), (0, .ref 0)], [.int ((xs (i.toNatClampNeg)) &&& 63)], (q_kL S c n))) 2 (fun _ _ => rfl) ?_
  rw [hv]
  refine q_Ru_seg (g2 := (665, [(4, .int i), (3, .ref 270), (2, .ref 236), (1, .ref 64), (0, .ref 0)], [.ref 64], (q_kL S c n))) 2 (fun _ _ => rfl) ?_
  refine q_Ru_call (v := (some (.int (dz_X39_64 (q_vw 172 0 206 S))))) (h2 := (q_kL S c n)) rfl rfl ?_ ?_
  · exact (q_emXLp rfl (fun _ => rfl) (dzt_X39_64 z L xs (q_vw 172 0 206 S) c n)).le (Nat.le_of_ble_eq_true rfl)
  show q_Ru _ _ _ (668, [(4, .int i), (3, .ref 270), (2, .ref 236), (1, .ref 64), (0, .ref 0)], [.int (dz_X39_64 (q_vw 172 0 206 S))], (q_kL S c n)) _
  refine q_Ru_seg (g2 := (670, [(4, .int i), (3, .ref 270), (2, .ref 236), (1, .ref 64), (0, .ref 0)], [.ref 236], (q_kL S c n))) 2 (fun _ _ => rfl) ?_
  refine q_Ru_call (v := (some (.int r0.2))) (h2 := (q_kL (q_pt 34 0 172 0 S r0.1) c n)) rfl rfl ?_ ?_
  · exact (q_emML rfl (fun _ => rfl) ((dzt_M290_64 (q_vw 34 172 0 S) c n r0 er0).tb q_TB0_le)).le (Nat.le_of_ble_eq_true rfl)
  show q_Ru _ _ _ (673, [(4, .int i), (3, .ref 270), (2, .ref 236), (1, .ref 64), (0, .ref 0)], [.int r0.2], (q_kL (q_pt 34 0 172 0 S r0.1) c n)) _
  refine q_Ru_seg (g2 := (23, [(4, .int (i + 4)), (3, .ref 270), (2, .ref 236), (1, .ref 64), (0, .ref 0)], [], (q_kL (q_pt 34 0 172 0 S r0.1) c n))) 4 (fun _ _ => rfl) ?_
  exact q_Ru_xt (q_xt_mk (q_mn1 0 rfl (q_mn1 1 rfl (q_mn1 2 rfl (q_mn1 3 rfl (q_mn1 4 rfl q_mn0))))) rfl) h
set_option maxHeartbeats 4000000 in
theorem q_lw12 (z L : Nat) (xs : Nat → Int32) (S : q_S) (c n : Nat) (i : Int32) (hx0 : q_in i L = true) (hx1 : q_in (i + 1) L = true) (hx2 : q_in (i + 2) L = true) (hx3 : q_in (i + 3) L = true) (hi : decide (Int32.ofNat L - 4 < i) = false) (hv : xs i.toNatClampNeg &&& 63 = 12) (r0 : q_S × Int32) (er0 : dz_X40_64 (q_vw 172 0 206 S) = some r0) (r1 : q_S × Int32) (er1 : dz_M291_64 (q_vw 34 172 0 (q_pt 172 1 0 206 S r0.1)) = some r1) {o : q_Out} (h : q_Ru (q_TBs z L xs) 20 376 (23, [(4, .int (i + 4)), (3, .ref 270), (2, .ref 236), (1, .ref 64), (0, .ref 0)], [], (q_kL (q_pt 34 0 172 0 (q_pt 172 1 0 206 S r0.1) r1.1) c n)) o) : q_Ru (q_TBs z L xs) 20 376 (23, [(4, .int i), (3, .ref 270), (2, .ref 236), (1, .ref 64), (0, .ref 0)], [], (q_kL S c n)) o := by
  refine q_Ru_seg (g2 := (29, [(4, .int i), (3, .ref 270), (2, .ref 236), (1, .ref 64), (0, .ref 0)], [.int ((Int32.ofNat L) - 4), .int i], (q_kL S c n))) 5 (fun _ _ => rfl) ?_
  refine q_Ru_rsF (g2 := (32, [(4, .int i), (3, .ref 270), (2, .ref 236), (1, .ref 64), (0, .ref 0)], [], (q_kL S c n))) rfl rfl hi ?_
  refine q_Ru_seg (g2 := (35, [(4, .int i), (3, .ref 270), (2, .ref 236), (1, .ref 64), (0, .ref 0)], [.int i, .ref 0], (q_kL S c n))) 2 (fun _ _ => rfl) ?_
  refine q_Ru_rsT (g2 := (36, [(4, .int i), (3, .ref 270), (2, .ref 236), (1, .ref 64), (0, .ref 0)], [.int (xs (i.toNatClampNeg))], (q_kL S c n))) rfl rfl hx0 ?_
  refine q_Ru_seg (g2 := (39, [(4, .int i), (3, .ref 270), (2, .ref 236), (1, .ref 64), (0, .ref 0)], [.int ((xs (i.toNatClampNeg)) &&& 63)], (q_kL S c n))) 2 (fun _ _ => rfl) ?_
  rw [hv]
  refine q_Ru_seg (g2 := (678, [(4, .int i), (3, .ref 270), (2, .ref 236), (1, .ref 64), (0, .ref 0)], [.ref 64], (q_kL S c n))) 2 (fun _ _ => rfl) ?_
  refine q_Ru_call (v := (some (.int r0.2))) (h2 := (q_kL (q_pt 172 1 0 206 S r0.1) c n)) rfl rfl ?_ ?_
  · exact (q_emXL rfl (fun _ => rfl) (dzt_X40_64 z L xs (q_vw 172 0 206 S) c n r0 er0)).le (Nat.le_of_ble_eq_true rfl)
  show q_Ru _ _ _ (681, [(4, .int i), (3, .ref 270), (2, .ref 236), (1, .ref 64), (0, .ref 0)], [.int r0.2], (q_kL (q_pt 172 1 0 206 S r0.1) c n)) _
  refine q_Ru_seg (g2 := (683, [(4, .int i), (3, .ref 270), (2, .ref 236), (1, .ref 64), (0, .ref 0)], [.ref 236], (q_kL (q_pt 172 1 0 206 S r0.1) c n))) 2 (fun _ _ => rfl) ?_
  refine q_Ru_call (v := (some (.int r1.2))) (h2 := (q_kL (q_pt 34 0 172 0 (q_pt 172 1 0 206 S r0.1) r1.1) c n)) rfl rfl ?_ ?_
  · exact (q_emML rfl (fun _ => rfl) ((dzt_M291_64 (q_vw 34 172 0 (q_pt 172 1 0 206 S r0.1)) c n r1 er1).tb q_TB0_le)).le (Nat.le_of_ble_eq_true rfl)
  show q_Ru _ _ _ (686, [(4, .int i), (3, .ref 270), (2, .ref 236), (1, .ref 64), (0, .ref 0)], [.int r1.2], (q_kL (q_pt 34 0 172 0 (q_pt 172 1 0 206 S r0.1) r1.1) c n)) _
  refine q_Ru_seg (g2 := (23, [(4, .int (i + 4)), (3, .ref 270), (2, .ref 236), (1, .ref 64), (0, .ref 0)], [], (q_kL (q_pt 34 0 172 0 (q_pt 172 1 0 206 S r0.1) r1.1) c n))) 4 (fun _ _ => rfl) ?_
  exact q_Ru_xt (q_xt_mk (q_mn1 0 rfl (q_mn1 1 rfl (q_mn1 2 rfl (q_mn1 3 rfl (q_mn1 4 rfl q_mn0))))) rfl) h
set_option maxHeartbeats 4000000 in
theorem q_lw13 (z L : Nat) (xs : Nat → Int32) (S : q_S) (c n : Nat) (i : Int32) (hx0 : q_in i L = true) (hx1 : q_in (i + 1) L = true) (hx2 : q_in (i + 2) L = true) (hx3 : q_in (i + 3) L = true) (hi : decide (Int32.ofNat L - 4 < i) = false) (hv : xs i.toNatClampNeg &&& 63 = 13) (r0 : q_S × Int32) (er0 : dz_X41_64 (q_vw 172 0 206 S) = some r0) (r1 : q_S × Int32) (er1 : dz_M292_64 (q_vw 34 172 0 (q_pt 172 1 0 206 S r0.1)) = r1) {o : q_Out} (h : q_Ru (q_TBs z L xs) 20 376 (23, [(4, .int (i + 4)), (3, .ref 270), (2, .ref 236), (1, .ref 64), (0, .ref 0)], [], (q_kL (q_pt 34 0 172 0 (q_pt 172 1 0 206 S r0.1) r1.1) c n)) o) : q_Ru (q_TBs z L xs) 20 376 (23, [(4, .int i), (3, .ref 270), (2, .ref 236), (1, .ref 64), (0, .ref 0)], [], (q_kL S c n)) o := by
  refine q_Ru_seg (g2 := (29, [(4, .int i), (3, .ref 270), (2, .ref 236), (1, .ref 64), (0, .ref 0)], [.int ((Int32.ofNat L) - 4), .int i], (q_kL S c n))) 5 (fun _ _ => rfl) ?_
  refine q_Ru_rsF (g2 := (32, [(4, .int i), (3, .ref 270), (2, .ref 236), (1, .ref 64), (0, .ref 0)], [], (q_kL S c n))) rfl rfl hi ?_
  refine q_Ru_seg (g2 := (35, [(4, .int i), (3, .ref 270), (2, .ref 236), (1, .ref 64), (0, .ref 0)], [.int i, .ref 0], (q_kL S c n))) 2 (fun _ _ => rfl) ?_
  refine q_Ru_rsT (g2 := (36, [(4, .int i), (3, .ref 270), (2, .ref 236), (1, .ref 64), (0, .ref 0)], [.int (xs (i.toNatClampNeg))], (q_kL S c n))) rfl rfl hx0 ?_
  refine q_Ru_seg (g2 := (39, [(4, .int i), (3, .ref 270), (2, .ref 236), (1, .ref 64), (0, .ref 0)], [.int ((xs (i.toNatClampNeg)) &&& 63)], (q_kL S c n))) 2 (fun _ _ => rfl) ?_
  rw [hv]
  refine q_Ru_seg (g2 := (691, [(4, .int i), (3, .ref 270), (2, .ref 236), (1, .ref 64), (0, .ref 0)], [.ref 64], (q_kL S c n))) 2 (fun _ _ => rfl) ?_
  refine q_Ru_call (v := (some (.int r0.2))) (h2 := (q_kL (q_pt 172 1 0 206 S r0.1) c n)) rfl rfl ?_ ?_
  · exact (q_emXL rfl (fun _ => rfl) (dzt_X41_64 z L xs (q_vw 172 0 206 S) c n r0 er0)).le (Nat.le_of_ble_eq_true rfl)
  show q_Ru _ _ _ (694, [(4, .int i), (3, .ref 270), (2, .ref 236), (1, .ref 64), (0, .ref 0)], [.int r0.2], (q_kL (q_pt 172 1 0 206 S r0.1) c n)) _
  refine q_Ru_seg (g2 := (696, [(4, .int i), (3, .ref 270), (2, .ref 236), (1, .ref 64), (0, .ref 0)], [.ref 236], (q_kL (q_pt 172 1 0 206 S r0.1) c n))) 2 (fun _ _ => rfl) ?_
  refine q_Ru_call (v := (some (.int r1.2))) (h2 := (q_kL (q_pt 34 0 172 0 (q_pt 172 1 0 206 S r0.1) r1.1) c n)) rfl rfl ?_ ?_
  · exact (q_emML rfl (fun _ => rfl) ((q_cE (φ := (q_oIM c n)) er1 (dzt_M292_64 (q_vw 34 172 0 (q_pt 172 1 0 206 S r0.1)) c n)).tb q_TB0_le)).le (Nat.le_of_ble_eq_true rfl)
  show q_Ru _ _ _ (699, [(4, .int i), (3, .ref 270), (2, .ref 236), (1, .ref 64), (0, .ref 0)], [.int r1.2], (q_kL (q_pt 34 0 172 0 (q_pt 172 1 0 206 S r0.1) r1.1) c n)) _
  refine q_Ru_seg (g2 := (23, [(4, .int (i + 4)), (3, .ref 270), (2, .ref 236), (1, .ref 64), (0, .ref 0)], [], (q_kL (q_pt 34 0 172 0 (q_pt 172 1 0 206 S r0.1) r1.1) c n))) 4 (fun _ _ => rfl) ?_
  exact q_Ru_xt (q_xt_mk (q_mn1 0 rfl (q_mn1 1 rfl (q_mn1 2 rfl (q_mn1 3 rfl (q_mn1 4 rfl q_mn0))))) rfl) h
set_option maxHeartbeats 4000000 in
theorem q_lw14 (z L : Nat) (xs : Nat → Int32) (S : q_S) (c n : Nat) (i : Int32) (hx0 : q_in i L = true) (hx1 : q_in (i + 1) L = true) (hx2 : q_in (i + 2) L = true) (hx3 : q_in (i + 3) L = true) (hi : decide (Int32.ofNat L - 4 < i) = false) (hv : xs i.toNatClampNeg &&& 63 = 14) (r0 : q_S × Int32 × Nat) (er0 : dz_X11_64_236 (q_vw 172 0 206 S) (xs ((i + 1).toNatClampNeg)) = some r0) (r1 : q_S × Int32) (er1 : dz_M236_64 (q_vw 34 172 0 (q_pt 172 1 0 206 S r0.1)) (xs ((i + 1).toNatClampNeg)) = some r1) {o : q_Out} (h : q_Ru (q_TBs z L xs) 20 376 (23, [(4, .int (i + 4)), (3, .ref 270), (2, .ref 236), (1, .ref 64), (0, .ref 0)], [], (q_kL (q_pt 34 0 172 0 (q_pt 172 1 0 206 S r0.1) r1.1) (c + r0.2.2) (n + 6 * r0.2.2))) o) : q_Ru (q_TBs z L xs) 20 376 (23, [(4, .int i), (3, .ref 270), (2, .ref 236), (1, .ref 64), (0, .ref 0)], [], (q_kL S c n)) o := by
  refine q_Ru_seg (g2 := (29, [(4, .int i), (3, .ref 270), (2, .ref 236), (1, .ref 64), (0, .ref 0)], [.int ((Int32.ofNat L) - 4), .int i], (q_kL S c n))) 5 (fun _ _ => rfl) ?_
  refine q_Ru_rsF (g2 := (32, [(4, .int i), (3, .ref 270), (2, .ref 236), (1, .ref 64), (0, .ref 0)], [], (q_kL S c n))) rfl rfl hi ?_
  refine q_Ru_seg (g2 := (35, [(4, .int i), (3, .ref 270), (2, .ref 236), (1, .ref 64), (0, .ref 0)], [.int i, .ref 0], (q_kL S c n))) 2 (fun _ _ => rfl) ?_
  refine q_Ru_rsT (g2 := (36, [(4, .int i), (3, .ref 270), (2, .ref 236), (1, .ref 64), (0, .ref 0)], [.int (xs (i.toNatClampNeg))], (q_kL S c n))) rfl rfl hx0 ?_
  refine q_Ru_seg (g2 := (39, [(4, .int i), (3, .ref 270), (2, .ref 236), (1, .ref 64), (0, .ref 0)], [.int ((xs (i.toNatClampNeg)) &&& 63)], (q_kL S c n))) 2 (fun _ _ => rfl) ?_
  rw [hv]
  refine q_Ru_seg (g2 := (709, [(4, .int i), (3, .ref 270), (2, .ref 236), (1, .ref 64), (0, .ref 0)], [.int (i + 1), .ref 0, .ref 64], (q_kL S c n))) 6 (fun _ _ => rfl) ?_
  refine q_Ru_rsT (g2 := (710, [(4, .int i), (3, .ref 270), (2, .ref 236), (1, .ref 64), (0, .ref 0)], [.int (xs ((i + 1).toNatClampNeg)), .ref 64], (q_kL S c n))) rfl rfl hx1 ?_
  refine q_Ru_seg (g2 := (711, [(4, .int i), (3, .ref 270), (2, .ref 236), (1, .ref 64), (0, .ref 0)], [.ref 270, .int (xs ((i + 1).toNatClampNeg)), .ref 64], (q_kL S c n))) 1 (fun _ _ => rfl) ?_
  refine q_Ru_call (v := (some (.int r0.2.1))) (h2 := (q_kL (q_pt 172 1 0 206 S r0.1) (c + r0.2.2) (n + 6 * r0.2.2))) rfl rfl ?_ ?_
  · exact (q_emXL rfl (fun _ => rfl) (dzt_X11_64_236 z L xs (q_vw 172 0 206 S) c n (xs ((i + 1).toNatClampNeg)) r0 er0)).le (Nat.le_of_ble_eq_true rfl)
  show q_Ru _ _ _ (714, [(4, .int i), (3, .ref 270), (2, .ref 236), (1, .ref 64), (0, .ref 0)], [.int r0.2.1], (q_kL (q_pt 172 1 0 206 S r0.1) (c + r0.2.2) (n + 6 * r0.2.2))) _
  refine q_Ru_seg (g2 := (722, [(5, .int r0.2.1), (4, .int i), (3, .ref 270), (2, .ref 236), (1, .ref 64), (0, .ref 0)], [.int (i + 1), .ref 0, .ref 236], (q_kL (q_pt 172 1 0 206 S r0.1) (c + r0.2.2) (n + 6 * r0.2.2)))) 6 (fun _ _ => rfl) ?_
  refine q_Ru_rsT (g2 := (723, [(5, .int r0.2.1), (4, .int i), (3, .ref 270), (2, .ref 236), (1, .ref 64), (0, .ref 0)], [.int (xs ((i + 1).toNatClampNeg)), .ref 236], (q_kL (q_pt 172 1 0 206 S r0.1) (c + r0.2.2) (n + 6 * r0.2.2)))) rfl rfl hx1 ?_
  refine q_Ru_call (v := (some (.int r1.2))) (h2 := (q_kL (q_pt 34 0 172 0 (q_pt 172 1 0 206 S r0.1) r1.1) (c + r0.2.2) (n + 6 * r0.2.2))) rfl rfl ?_ ?_
  · exact (q_emML rfl (fun _ => rfl) ((dzt_M236_64 (q_vw 34 172 0 (q_pt 172 1 0 206 S r0.1)) (c + r0.2.2) (n + 6 * r0.2.2) (xs ((i + 1).toNatClampNeg)) r1 er1).tb q_TB0_le)).le (Nat.le_of_ble_eq_true rfl)
  show q_Ru _ _ _ (726, [(5, .int r0.2.1), (4, .int i), (3, .ref 270), (2, .ref 236), (1, .ref 64), (0, .ref 0)], [.int r1.2], (q_kL (q_pt 34 0 172 0 (q_pt 172 1 0 206 S r0.1) r1.1) (c + r0.2.2) (n + 6 * r0.2.2))) _
  refine q_Ru_seg (g2 := (23, [(4, .int (i + 4)), (6, .int r1.2), (5, .int r0.2.1), (3, .ref 270), (2, .ref 236), (1, .ref 64), (0, .ref 0)], [], (q_kL (q_pt 34 0 172 0 (q_pt 172 1 0 206 S r0.1) r1.1) (c + r0.2.2) (n + 6 * r0.2.2)))) 4 (fun _ _ => rfl) ?_
  exact q_Ru_xt (q_xt_mk (q_mn1 0 rfl (q_mn1 3 rfl (q_mn1 4 rfl (q_mn1 5 rfl (q_mn1 6 rfl q_mn0))))) rfl) h
set_option maxHeartbeats 4000000 in
theorem q_lw15 (z L : Nat) (xs : Nat → Int32) (S : q_S) (c n : Nat) (i : Int32) (hx0 : q_in i L = true) (hx1 : q_in (i + 1) L = true) (hx2 : q_in (i + 2) L = true) (hx3 : q_in (i + 3) L = true) (hi : decide (Int32.ofNat L - 4 < i) = false) (hv : xs i.toNatClampNeg &&& 63 = 15) (r0 : q_S × Int32 × Nat) (er0 : dz_X12_64_236 (q_vw 172 0 206 S) = some r0) (r1 : q_S × Int32) (er1 : dz_M237_64 (q_vw 34 172 0 (q_pt 172 1 0 206 S r0.1)) = some r1) {o : q_Out} (h : q_Ru (q_TBs z L xs) 20 376 (23, [(4, .int (i + 4)), (3, .ref 270), (2, .ref 236), (1, .ref 64), (0, .ref 0)], [], (q_kL (q_pt 34 0 172 0 (q_pt 172 1 0 206 S r0.1) r1.1) (c + r0.2.2) (n + 6 * r0.2.2))) o) : q_Ru (q_TBs z L xs) 20 376 (23, [(4, .int i), (3, .ref 270), (2, .ref 236), (1, .ref 64), (0, .ref 0)], [], (q_kL S c n)) o := by
  refine q_Ru_seg (g2 := (29, [(4, .int i), (3, .ref 270), (2, .ref 236), (1, .ref 64), (0, .ref 0)], [.int ((Int32.ofNat L) - 4), .int i], (q_kL S c n))) 5 (fun _ _ => rfl) ?_
  refine q_Ru_rsF (g2 := (32, [(4, .int i), (3, .ref 270), (2, .ref 236), (1, .ref 64), (0, .ref 0)], [], (q_kL S c n))) rfl rfl hi ?_
  refine q_Ru_seg (g2 := (35, [(4, .int i), (3, .ref 270), (2, .ref 236), (1, .ref 64), (0, .ref 0)], [.int i, .ref 0], (q_kL S c n))) 2 (fun _ _ => rfl) ?_
  refine q_Ru_rsT (g2 := (36, [(4, .int i), (3, .ref 270), (2, .ref 236), (1, .ref 64), (0, .ref 0)], [.int (xs (i.toNatClampNeg))], (q_kL S c n))) rfl rfl hx0 ?_
  refine q_Ru_seg (g2 := (39, [(4, .int i), (3, .ref 270), (2, .ref 236), (1, .ref 64), (0, .ref 0)], [.int ((xs (i.toNatClampNeg)) &&& 63)], (q_kL S c n))) 2 (fun _ _ => rfl) ?_
  rw [hv]
  refine q_Ru_seg (g2 := (733, [(4, .int i), (3, .ref 270), (2, .ref 236), (1, .ref 64), (0, .ref 0)], [.ref 270, .ref 64], (q_kL S c n))) 3 (fun _ _ => rfl) ?_
  refine q_Ru_call (v := (some (.int r0.2.1))) (h2 := (q_kL (q_pt 172 1 0 206 S r0.1) (c + r0.2.2) (n + 6 * r0.2.2))) rfl rfl ?_ ?_
  · exact (q_emXL rfl (fun _ => rfl) (dzt_X12_64_236 z L xs (q_vw 172 0 206 S) c n r0 er0)).le (Nat.le_of_ble_eq_true rfl)
  show q_Ru _ _ _ (736, [(4, .int i), (3, .ref 270), (2, .ref 236), (1, .ref 64), (0, .ref 0)], [.int r0.2.1], (q_kL (q_pt 172 1 0 206 S r0.1) (c + r0.2.2) (n + 6 * r0.2.2))) _
  refine q_Ru_seg (g2 := (739, [(5, .int r0.2.1), (4, .int i), (3, .ref 270), (2, .ref 236), (1, .ref 64), (0, .ref 0)], [.ref 236], (q_kL (q_pt 172 1 0 206 S r0.1) (c + r0.2.2) (n + 6 * r0.2.2)))) 2 (fun _ _ => rfl) ?_
  refine q_Ru_call (v := (some (.int r1.2))) (h2 := (q_kL (q_pt 34 0 172 0 (q_pt 172 1 0 206 S r0.1) r1.1) (c + r0.2.2) (n + 6 * r0.2.2))) rfl rfl ?_ ?_
  · exact (q_emML rfl (fun _ => rfl) ((dzt_M237_64 (q_vw 34 172 0 (q_pt 172 1 0 206 S r0.1)) (c + r0.2.2) (n + 6 * r0.2.2) r1 er1).tb q_TB0_le)).le (Nat.le_of_ble_eq_true rfl)
  show q_Ru _ _ _ (742, [(5, .int r0.2.1), (4, .int i), (3, .ref 270), (2, .ref 236), (1, .ref 64), (0, .ref 0)], [.int r1.2], (q_kL (q_pt 34 0 172 0 (q_pt 172 1 0 206 S r0.1) r1.1) (c + r0.2.2) (n + 6 * r0.2.2))) _
  refine q_Ru_seg (g2 := (23, [(4, .int (i + 4)), (6, .int r1.2), (5, .int r0.2.1), (3, .ref 270), (2, .ref 236), (1, .ref 64), (0, .ref 0)], [], (q_kL (q_pt 34 0 172 0 (q_pt 172 1 0 206 S r0.1) r1.1) (c + r0.2.2) (n + 6 * r0.2.2)))) 4 (fun _ _ => rfl) ?_
  exact q_Ru_xt (q_xt_mk (q_mn1 0 rfl (q_mn1 3 rfl (q_mn1 4 rfl (q_mn1 5 rfl (q_mn1 6 rfl q_mn0))))) rfl) h
set_option maxHeartbeats 4000000 in
theorem q_lw16 (z L : Nat) (xs : Nat → Int32) (S : q_S) (c n : Nat) (i : Int32) (hx0 : q_in i L = true) (hx1 : q_in (i + 1) L = true) (hx2 : q_in (i + 2) L = true) (hx3 : q_in (i + 3) L = true) (hi : decide (Int32.ofNat L - 4 < i) = false) (hv : xs i.toNatClampNeg &&& 63 = 16) (r0 : q_S × Int64) (er0 : dz_M238_64 (q_vw 34 172 0 S) = r0) {o : q_Out} (h : q_Ru (q_TBs z L xs) 20 376 (23, [(4, .int (i + 4)), (3, .ref 270), (2, .ref 236), (1, .ref 64), (0, .ref 0)], [], (q_kL (q_pt 34 0 172 0 S r0.1) c n)) o) : q_Ru (q_TBs z L xs) 20 376 (23, [(4, .int i), (3, .ref 270), (2, .ref 236), (1, .ref 64), (0, .ref 0)], [], (q_kL S c n)) o := by
  refine q_Ru_seg (g2 := (29, [(4, .int i), (3, .ref 270), (2, .ref 236), (1, .ref 64), (0, .ref 0)], [.int ((Int32.ofNat L) - 4), .int i], (q_kL S c n))) 5 (fun _ _ => rfl) ?_
  refine q_Ru_rsF (g2 := (32, [(4, .int i), (3, .ref 270), (2, .ref 236), (1, .ref 64), (0, .ref 0)], [], (q_kL S c n))) rfl rfl hi ?_
  refine q_Ru_seg (g2 := (35, [(4, .int i), (3, .ref 270), (2, .ref 236), (1, .ref 64), (0, .ref 0)], [.int i, .ref 0], (q_kL S c n))) 2 (fun _ _ => rfl) ?_
  refine q_Ru_rsT (g2 := (36, [(4, .int i), (3, .ref 270), (2, .ref 236), (1, .ref 64), (0, .ref 0)], [.int (xs (i.toNatClampNeg))], (q_kL S c n))) rfl rfl hx0 ?_
  refine q_Ru_seg (g2 := (39, [(4, .int i), (3, .ref 270), (2, .ref 236), (1, .ref 64), (0, .ref 0)], [.int ((xs (i.toNatClampNeg)) &&& 63)], (q_kL S c n))) 2 (fun _ _ => rfl) ?_
  rw [hv]
  refine q_Ru_seg (g2 := (748, [(4, .int i), (3, .ref 270), (2, .ref 236), (1, .ref 64), (0, .ref 0)], [.ref 64], (q_kL S c n))) 2 (fun _ _ => rfl) ?_
  refine q_Ru_call (v := (some (.long (dz_X44_64 (q_vw 172 0 206 S))))) (h2 := (q_kL S c n)) rfl rfl ?_ ?_
  · exact (q_emXLp rfl (fun _ => rfl) (dzt_X44_64 z L xs (q_vw 172 0 206 S) c n)).le (Nat.le_of_ble_eq_true rfl)
  show q_Ru _ _ _ (751, [(4, .int i), (3, .ref 270), (2, .ref 236), (1, .ref 64), (0, .ref 0)], [.long (dz_X44_64 (q_vw 172 0 206 S))], (q_kL S c n)) _
  refine q_Ru_seg (g2 := (753, [(4, .int i), (3, .ref 270), (2, .ref 236), (1, .ref 64), (0, .ref 0)], [.ref 236], (q_kL S c n))) 2 (fun _ _ => rfl) ?_
  refine q_Ru_call (v := (some (.long r0.2))) (h2 := (q_kL (q_pt 34 0 172 0 S r0.1) c n)) rfl rfl ?_ ?_
  · exact (q_emML rfl (fun _ => rfl) ((q_cE (φ := (q_oKM c n)) er0 (dzt_M238_64 (q_vw 34 172 0 S) c n)).tb q_TB0_le)).le (Nat.le_of_ble_eq_true rfl)
  show q_Ru _ _ _ (756, [(4, .int i), (3, .ref 270), (2, .ref 236), (1, .ref 64), (0, .ref 0)], [.long r0.2], (q_kL (q_pt 34 0 172 0 S r0.1) c n)) _
  refine q_Ru_seg (g2 := (23, [(4, .int (i + 4)), (3, .ref 270), (2, .ref 236), (1, .ref 64), (0, .ref 0)], [], (q_kL (q_pt 34 0 172 0 S r0.1) c n))) 4 (fun _ _ => rfl) ?_
  exact q_Ru_xt (q_xt_mk (q_mn1 0 rfl (q_mn1 1 rfl (q_mn1 2 rfl (q_mn1 3 rfl (q_mn1 4 rfl q_mn0))))) rfl) h
set_option maxHeartbeats 4000000 in
theorem q_lw17 (z L : Nat) (xs : Nat → Int32) (S : q_S) (c n : Nat) (i : Int32) (hx0 : q_in i L = true) (hx1 : q_in (i + 1) L = true) (hx2 : q_in (i + 2) L = true) (hx3 : q_in (i + 3) L = true) (hi : decide (Int32.ofNat L - 4 < i) = false) (hv : xs i.toNatClampNeg &&& 63 = 17) (r0 : Bool) (er0 : dz_X45_64 (q_vw 172 0 206 S) = some r0) (r1 : q_S × Bool) (er1 : dz_M239_64 (q_vw 34 172 0 S) = some r1) {o : q_Out} (h : q_Ru (q_TBs z L xs) 20 376 (23, [(4, .int (i + 4)), (3, .ref 270), (2, .ref 236), (1, .ref 64), (0, .ref 0)], [], (q_kL (q_pt 34 0 172 0 S r1.1) c n)) o) : q_Ru (q_TBs z L xs) 20 376 (23, [(4, .int i), (3, .ref 270), (2, .ref 236), (1, .ref 64), (0, .ref 0)], [], (q_kL S c n)) o := by
  refine q_Ru_seg (g2 := (29, [(4, .int i), (3, .ref 270), (2, .ref 236), (1, .ref 64), (0, .ref 0)], [.int ((Int32.ofNat L) - 4), .int i], (q_kL S c n))) 5 (fun _ _ => rfl) ?_
  refine q_Ru_rsF (g2 := (32, [(4, .int i), (3, .ref 270), (2, .ref 236), (1, .ref 64), (0, .ref 0)], [], (q_kL S c n))) rfl rfl hi ?_
  refine q_Ru_seg (g2 := (35, [(4, .int i), (3, .ref 270), (2, .ref 236), (1, .ref 64), (0, .ref 0)], [.int i, .ref 0], (q_kL S c n))) 2 (fun _ _ => rfl) ?_
  refine q_Ru_rsT (g2 := (36, [(4, .int i), (3, .ref 270), (2, .ref 236), (1, .ref 64), (0, .ref 0)], [.int (xs (i.toNatClampNeg))], (q_kL S c n))) rfl rfl hx0 ?_
  refine q_Ru_seg (g2 := (39, [(4, .int i), (3, .ref 270), (2, .ref 236), (1, .ref 64), (0, .ref 0)], [.int ((xs (i.toNatClampNeg)) &&& 63)], (q_kL S c n))) 2 (fun _ _ => rfl) ?_
  rw [hv]
  refine q_Ru_seg (g2 := (761, [(4, .int i), (3, .ref 270), (2, .ref 236), (1, .ref 64), (0, .ref 0)], [.ref 64], (q_kL S c n))) 2 (fun _ _ => rfl) ?_
  refine q_Ru_call (v := (some (.int (q_b r0)))) (h2 := (q_kL S c n)) rfl rfl ?_ ?_
  · exact (q_emXLp rfl (fun _ => rfl) (dzt_X45_64 z L xs (q_vw 172 0 206 S) c n r0 er0)).le (Nat.le_of_ble_eq_true rfl)
  show q_Ru _ _ _ (764, [(4, .int i), (3, .ref 270), (2, .ref 236), (1, .ref 64), (0, .ref 0)], [.int (q_b r0)], (q_kL S c n)) _
  refine q_Ru_seg (g2 := (766, [(4, .int i), (3, .ref 270), (2, .ref 236), (1, .ref 64), (0, .ref 0)], [.ref 236], (q_kL S c n))) 2 (fun _ _ => rfl) ?_
  refine q_Ru_call (v := (some (.int (q_b r1.2)))) (h2 := (q_kL (q_pt 34 0 172 0 S r1.1) c n)) rfl rfl ?_ ?_
  · exact (q_emML rfl (fun _ => rfl) ((dzt_M239_64 (q_vw 34 172 0 S) c n r1 er1).tb q_TB0_le)).le (Nat.le_of_ble_eq_true rfl)
  show q_Ru _ _ _ (769, [(4, .int i), (3, .ref 270), (2, .ref 236), (1, .ref 64), (0, .ref 0)], [.int (q_b r1.2)], (q_kL (q_pt 34 0 172 0 S r1.1) c n)) _
  refine q_Ru_seg (g2 := (23, [(4, .int (i + 4)), (3, .ref 270), (2, .ref 236), (1, .ref 64), (0, .ref 0)], [], (q_kL (q_pt 34 0 172 0 S r1.1) c n))) 4 (fun _ _ => rfl) ?_
  exact q_Ru_xt (q_xt_mk (q_mn1 0 rfl (q_mn1 1 rfl (q_mn1 2 rfl (q_mn1 3 rfl (q_mn1 4 rfl q_mn0))))) rfl) h
set_option maxHeartbeats 4000000 in
theorem q_lw18 (z L : Nat) (xs : Nat → Int32) (S : q_S) (c n : Nat) (i : Int32) (hx0 : q_in i L = true) (hx1 : q_in (i + 1) L = true) (hx2 : q_in (i + 2) L = true) (hx3 : q_in (i + 3) L = true) (hi : decide (Int32.ofNat L - 4 < i) = false) (hv : xs i.toNatClampNeg &&& 63 = 18) (r0 : q_S × Int32) (er0 : dz_M240_64 (q_vw 34 172 0 S) = r0) {o : q_Out} (h : q_Ru (q_TBs z L xs) 20 376 (23, [(4, .int (i + 4)), (3, .ref 270), (2, .ref 236), (1, .ref 64), (0, .ref 0)], [], (q_kL (q_pt 34 0 172 0 S r0.1) c n)) o) : q_Ru (q_TBs z L xs) 20 376 (23, [(4, .int i), (3, .ref 270), (2, .ref 236), (1, .ref 64), (0, .ref 0)], [], (q_kL S c n)) o := by
  refine q_Ru_seg (g2 := (29, [(4, .int i), (3, .ref 270), (2, .ref 236), (1, .ref 64), (0, .ref 0)], [.int ((Int32.ofNat L) - 4), .int i], (q_kL S c n))) 5 (fun _ _ => rfl) ?_
  refine q_Ru_rsF (g2 := (32, [(4, .int i), (3, .ref 270), (2, .ref 236), (1, .ref 64), (0, .ref 0)], [], (q_kL S c n))) rfl rfl hi ?_
  refine q_Ru_seg (g2 := (35, [(4, .int i), (3, .ref 270), (2, .ref 236), (1, .ref 64), (0, .ref 0)], [.int i, .ref 0], (q_kL S c n))) 2 (fun _ _ => rfl) ?_
  refine q_Ru_rsT (g2 := (36, [(4, .int i), (3, .ref 270), (2, .ref 236), (1, .ref 64), (0, .ref 0)], [.int (xs (i.toNatClampNeg))], (q_kL S c n))) rfl rfl hx0 ?_
  refine q_Ru_seg (g2 := (39, [(4, .int i), (3, .ref 270), (2, .ref 236), (1, .ref 64), (0, .ref 0)], [.int ((xs (i.toNatClampNeg)) &&& 63)], (q_kL S c n))) 2 (fun _ _ => rfl) ?_
  rw [hv]
  refine q_Ru_seg (g2 := (774, [(4, .int i), (3, .ref 270), (2, .ref 236), (1, .ref 64), (0, .ref 0)], [.ref 64], (q_kL S c n))) 2 (fun _ _ => rfl) ?_
  refine q_Ru_call (v := (some (.int (dz_X46_64 (q_vw 172 0 206 S))))) (h2 := (q_kL S c n)) rfl rfl ?_ ?_
  · exact (q_emXLp rfl (fun _ => rfl) (dzt_X46_64 z L xs (q_vw 172 0 206 S) c n)).le (Nat.le_of_ble_eq_true rfl)
  show q_Ru _ _ _ (777, [(4, .int i), (3, .ref 270), (2, .ref 236), (1, .ref 64), (0, .ref 0)], [.int (dz_X46_64 (q_vw 172 0 206 S))], (q_kL S c n)) _
  refine q_Ru_seg (g2 := (779, [(4, .int i), (3, .ref 270), (2, .ref 236), (1, .ref 64), (0, .ref 0)], [.ref 236], (q_kL S c n))) 2 (fun _ _ => rfl) ?_
  refine q_Ru_call (v := (some (.int r0.2))) (h2 := (q_kL (q_pt 34 0 172 0 S r0.1) c n)) rfl rfl ?_ ?_
  · exact (q_emML rfl (fun _ => rfl) ((q_cE (φ := (q_oIM c n)) er0 (dzt_M240_64 (q_vw 34 172 0 S) c n)).tb q_TB0_le)).le (Nat.le_of_ble_eq_true rfl)
  show q_Ru _ _ _ (782, [(4, .int i), (3, .ref 270), (2, .ref 236), (1, .ref 64), (0, .ref 0)], [.int r0.2], (q_kL (q_pt 34 0 172 0 S r0.1) c n)) _
  refine q_Ru_seg (g2 := (23, [(4, .int (i + 4)), (3, .ref 270), (2, .ref 236), (1, .ref 64), (0, .ref 0)], [], (q_kL (q_pt 34 0 172 0 S r0.1) c n))) 4 (fun _ _ => rfl) ?_
  exact q_Ru_xt (q_xt_mk (q_mn1 0 rfl (q_mn1 1 rfl (q_mn1 2 rfl (q_mn1 3 rfl (q_mn1 4 rfl q_mn0))))) rfl) h
set_option maxHeartbeats 4000000 in
theorem q_lw19 (z L : Nat) (xs : Nat → Int32) (S : q_S) (c n : Nat) (i : Int32) (hx0 : q_in i L = true) (hx1 : q_in (i + 1) L = true) (hx2 : q_in (i + 2) L = true) (hx3 : q_in (i + 3) L = true) (hi : decide (Int32.ofNat L - 4 < i) = false) (hv : xs i.toNatClampNeg &&& 63 = 19) (r0 : q_S × Int32) (er0 : dz_M241_64 (q_vw 34 172 0 S) = r0) {o : q_Out} (h : q_Ru (q_TBs z L xs) 20 376 (23, [(4, .int (i + 4)), (3, .ref 270), (2, .ref 236), (1, .ref 64), (0, .ref 0)], [], (q_kL (q_pt 34 0 172 0 S r0.1) c n)) o) : q_Ru (q_TBs z L xs) 20 376 (23, [(4, .int i), (3, .ref 270), (2, .ref 236), (1, .ref 64), (0, .ref 0)], [], (q_kL S c n)) o := by
  refine q_Ru_seg (g2 := (29, [(4, .int i), (3, .ref 270), (2, .ref 236), (1, .ref 64), (0, .ref 0)], [.int ((Int32.ofNat L) - 4), .int i], (q_kL S c n))) 5 (fun _ _ => rfl) ?_
  refine q_Ru_rsF (g2 := (32, [(4, .int i), (3, .ref 270), (2, .ref 236), (1, .ref 64), (0, .ref 0)], [], (q_kL S c n))) rfl rfl hi ?_
  refine q_Ru_seg (g2 := (35, [(4, .int i), (3, .ref 270), (2, .ref 236), (1, .ref 64), (0, .ref 0)], [.int i, .ref 0], (q_kL S c n))) 2 (fun _ _ => rfl) ?_
  refine q_Ru_rsT (g2 := (36, [(4, .int i), (3, .ref 270), (2, .ref 236), (1, .ref 64), (0, .ref 0)], [.int (xs (i.toNatClampNeg))], (q_kL S c n))) rfl rfl hx0 ?_
  refine q_Ru_seg (g2 := (39, [(4, .int i), (3, .ref 270), (2, .ref 236), (1, .ref 64), (0, .ref 0)], [.int ((xs (i.toNatClampNeg)) &&& 63)], (q_kL S c n))) 2 (fun _ _ => rfl) ?_
  rw [hv]
  refine q_Ru_seg (g2 := (787, [(4, .int i), (3, .ref 270), (2, .ref 236), (1, .ref 64), (0, .ref 0)], [.ref 64], (q_kL S c n))) 2 (fun _ _ => rfl) ?_
  refine q_Ru_call (v := (some (.int (dz_X47_64 (q_vw 172 0 206 S))))) (h2 := (q_kL S c n)) rfl rfl ?_ ?_
  · exact (q_emXLp rfl (fun _ => rfl) (dzt_X47_64 z L xs (q_vw 172 0 206 S) c n)).le (Nat.le_of_ble_eq_true rfl)
  show q_Ru _ _ _ (790, [(4, .int i), (3, .ref 270), (2, .ref 236), (1, .ref 64), (0, .ref 0)], [.int (dz_X47_64 (q_vw 172 0 206 S))], (q_kL S c n)) _
  refine q_Ru_seg (g2 := (792, [(4, .int i), (3, .ref 270), (2, .ref 236), (1, .ref 64), (0, .ref 0)], [.ref 236], (q_kL S c n))) 2 (fun _ _ => rfl) ?_
  refine q_Ru_call (v := (some (.int r0.2))) (h2 := (q_kL (q_pt 34 0 172 0 S r0.1) c n)) rfl rfl ?_ ?_
  · exact (q_emML rfl (fun _ => rfl) ((q_cE (φ := (q_oIM c n)) er0 (dzt_M241_64 (q_vw 34 172 0 S) c n)).tb q_TB0_le)).le (Nat.le_of_ble_eq_true rfl)
  show q_Ru _ _ _ (795, [(4, .int i), (3, .ref 270), (2, .ref 236), (1, .ref 64), (0, .ref 0)], [.int r0.2], (q_kL (q_pt 34 0 172 0 S r0.1) c n)) _
  refine q_Ru_seg (g2 := (23, [(4, .int (i + 4)), (3, .ref 270), (2, .ref 236), (1, .ref 64), (0, .ref 0)], [], (q_kL (q_pt 34 0 172 0 S r0.1) c n))) 4 (fun _ _ => rfl) ?_
  exact q_Ru_xt (q_xt_mk (q_mn1 0 rfl (q_mn1 1 rfl (q_mn1 2 rfl (q_mn1 3 rfl (q_mn1 4 rfl q_mn0))))) rfl) h
set_option maxHeartbeats 4000000 in
theorem q_lw20 (z L : Nat) (xs : Nat → Int32) (S : q_S) (c n : Nat) (i : Int32) (hx0 : q_in i L = true) (hx1 : q_in (i + 1) L = true) (hx2 : q_in (i + 2) L = true) (hx3 : q_in (i + 3) L = true) (hi : decide (Int32.ofNat L - 4 < i) = false) (hv : xs i.toNatClampNeg &&& 63 = 20) (r0 : Bool) (er0 : dz_X48_64 (q_vw 172 0 206 S) = some r0) (r1 : q_S × Bool) (er1 : dz_M242_64 (q_vw 34 172 0 S) = some r1) {o : q_Out} (h : q_Ru (q_TBs z L xs) 20 376 (23, [(4, .int (i + 4)), (3, .ref 270), (2, .ref 236), (1, .ref 64), (0, .ref 0)], [], (q_kL (q_pt 34 0 172 0 S r1.1) c n)) o) : q_Ru (q_TBs z L xs) 20 376 (23, [(4, .int i), (3, .ref 270), (2, .ref 236), (1, .ref 64), (0, .ref 0)], [], (q_kL S c n)) o := by
  refine q_Ru_seg (g2 := (29, [(4, .int i), (3, .ref 270), (2, .ref 236), (1, .ref 64), (0, .ref 0)], [.int ((Int32.ofNat L) - 4), .int i], (q_kL S c n))) 5 (fun _ _ => rfl) ?_
  refine q_Ru_rsF (g2 := (32, [(4, .int i), (3, .ref 270), (2, .ref 236), (1, .ref 64), (0, .ref 0)], [], (q_kL S c n))) rfl rfl hi ?_
  refine q_Ru_seg (g2 := (35, [(4, .int i), (3, .ref 270), (2, .ref 236), (1, .ref 64), (0, .ref 0)], [.int i, .ref 0], (q_kL S c n))) 2 (fun _ _ => rfl) ?_
  refine q_Ru_rsT (g2 := (36, [(4, .int i), (3, .ref 270), (2, .ref 236), (1, .ref 64), (0, .ref 0)], [.int (xs (i.toNatClampNeg))], (q_kL S c n))) rfl rfl hx0 ?_
  refine q_Ru_seg (g2 := (39, [(4, .int i), (3, .ref 270), (2, .ref 236), (1, .ref 64), (0, .ref 0)], [.int ((xs (i.toNatClampNeg)) &&& 63)], (q_kL S c n))) 2 (fun _ _ => rfl) ?_
  rw [hv]
  refine q_Ru_seg (g2 := (800, [(4, .int i), (3, .ref 270), (2, .ref 236), (1, .ref 64), (0, .ref 0)], [.ref 64], (q_kL S c n))) 2 (fun _ _ => rfl) ?_
  refine q_Ru_call (v := (some (.int (q_b r0)))) (h2 := (q_kL S c n)) rfl rfl ?_ ?_
  · exact (q_emXLp rfl (fun _ => rfl) (dzt_X48_64 z L xs (q_vw 172 0 206 S) c n r0 er0)).le (Nat.le_of_ble_eq_true rfl)
  show q_Ru _ _ _ (803, [(4, .int i), (3, .ref 270), (2, .ref 236), (1, .ref 64), (0, .ref 0)], [.int (q_b r0)], (q_kL S c n)) _
  refine q_Ru_seg (g2 := (805, [(4, .int i), (3, .ref 270), (2, .ref 236), (1, .ref 64), (0, .ref 0)], [.ref 236], (q_kL S c n))) 2 (fun _ _ => rfl) ?_
  refine q_Ru_call (v := (some (.int (q_b r1.2)))) (h2 := (q_kL (q_pt 34 0 172 0 S r1.1) c n)) rfl rfl ?_ ?_
  · exact (q_emML rfl (fun _ => rfl) ((dzt_M242_64 (q_vw 34 172 0 S) c n r1 er1).tb q_TB0_le)).le (Nat.le_of_ble_eq_true rfl)
  show q_Ru _ _ _ (808, [(4, .int i), (3, .ref 270), (2, .ref 236), (1, .ref 64), (0, .ref 0)], [.int (q_b r1.2)], (q_kL (q_pt 34 0 172 0 S r1.1) c n)) _
  refine q_Ru_seg (g2 := (23, [(4, .int (i + 4)), (3, .ref 270), (2, .ref 236), (1, .ref 64), (0, .ref 0)], [], (q_kL (q_pt 34 0 172 0 S r1.1) c n))) 4 (fun _ _ => rfl) ?_
  exact q_Ru_xt (q_xt_mk (q_mn1 0 rfl (q_mn1 1 rfl (q_mn1 2 rfl (q_mn1 3 rfl (q_mn1 4 rfl q_mn0))))) rfl) h
set_option maxHeartbeats 4000000 in
theorem q_lw21 (z L : Nat) (xs : Nat → Int32) (S : q_S) (c n : Nat) (i : Int32) (hx0 : q_in i L = true) (hx1 : q_in (i + 1) L = true) (hx2 : q_in (i + 2) L = true) (hx3 : q_in (i + 3) L = true) (hi : decide (Int32.ofNat L - 4 < i) = false) (hv : xs i.toNatClampNeg &&& 63 = 21) (r0 : q_S × Int32 × Nat) (er0 : dz_X13_64_236 (q_vw 172 0 206 S) (xs ((i + 1).toNatClampNeg)) = r0) (r1 : q_S × Int32) (er1 : dz_M243_64 (q_vw 34 172 0 (q_pt 172 1 0 206 S r0.1)) (xs ((i + 1).toNatClampNeg)) = some r1) {o : q_Out} (h : q_Ru (q_TBs z L xs) 20 376 (23, [(4, .int (i + 4)), (3, .ref 270), (2, .ref 236), (1, .ref 64), (0, .ref 0)], [], (q_kL (q_pt 34 0 172 0 (q_pt 172 1 0 206 S r0.1) r1.1) (c + r0.2.2) (n + 6 * r0.2.2))) o) : q_Ru (q_TBs z L xs) 20 376 (23, [(4, .int i), (3, .ref 270), (2, .ref 236), (1, .ref 64), (0, .ref 0)], [], (q_kL S c n)) o := by
  refine q_Ru_seg (g2 := (29, [(4, .int i), (3, .ref 270), (2, .ref 236), (1, .ref 64), (0, .ref 0)], [.int ((Int32.ofNat L) - 4), .int i], (q_kL S c n))) 5 (fun _ _ => rfl) ?_
  refine q_Ru_rsF (g2 := (32, [(4, .int i), (3, .ref 270), (2, .ref 236), (1, .ref 64), (0, .ref 0)], [], (q_kL S c n))) rfl rfl hi ?_
  refine q_Ru_seg (g2 := (35, [(4, .int i), (3, .ref 270), (2, .ref 236), (1, .ref 64), (0, .ref 0)], [.int i, .ref 0], (q_kL S c n))) 2 (fun _ _ => rfl) ?_
  refine q_Ru_rsT (g2 := (36, [(4, .int i), (3, .ref 270), (2, .ref 236), (1, .ref 64), (0, .ref 0)], [.int (xs (i.toNatClampNeg))], (q_kL S c n))) rfl rfl hx0 ?_
  refine q_Ru_seg (g2 := (39, [(4, .int i), (3, .ref 270), (2, .ref 236), (1, .ref 64), (0, .ref 0)], [.int ((xs (i.toNatClampNeg)) &&& 63)], (q_kL S c n))) 2 (fun _ _ => rfl) ?_
  rw [hv]
  refine q_Ru_seg (g2 := (818, [(4, .int i), (3, .ref 270), (2, .ref 236), (1, .ref 64), (0, .ref 0)], [.int (i + 1), .ref 0, .ref 64], (q_kL S c n))) 6 (fun _ _ => rfl) ?_
  refine q_Ru_rsT (g2 := (819, [(4, .int i), (3, .ref 270), (2, .ref 236), (1, .ref 64), (0, .ref 0)], [.int (xs ((i + 1).toNatClampNeg)), .ref 64], (q_kL S c n))) rfl rfl hx1 ?_
  refine q_Ru_seg (g2 := (820, [(4, .int i), (3, .ref 270), (2, .ref 236), (1, .ref 64), (0, .ref 0)], [.ref 270, .int (xs ((i + 1).toNatClampNeg)), .ref 64], (q_kL S c n))) 1 (fun _ _ => rfl) ?_
  refine q_Ru_call (v := (some (.int r0.2.1))) (h2 := (q_kL (q_pt 172 1 0 206 S r0.1) (c + r0.2.2) (n + 6 * r0.2.2))) rfl rfl ?_ ?_
  · exact (q_emXL rfl (fun _ => rfl) (q_cE (φ := (q_oEX c n)) er0 (dzt_X13_64_236 z L xs (q_vw 172 0 206 S) c n (xs ((i + 1).toNatClampNeg))))).le (Nat.le_of_ble_eq_true rfl)
  show q_Ru _ _ _ (823, [(4, .int i), (3, .ref 270), (2, .ref 236), (1, .ref 64), (0, .ref 0)], [.int r0.2.1], (q_kL (q_pt 172 1 0 206 S r0.1) (c + r0.2.2) (n + 6 * r0.2.2))) _
  refine q_Ru_seg (g2 := (831, [(5, .int r0.2.1), (4, .int i), (3, .ref 270), (2, .ref 236), (1, .ref 64), (0, .ref 0)], [.int (i + 1), .ref 0, .ref 236], (q_kL (q_pt 172 1 0 206 S r0.1) (c + r0.2.2) (n + 6 * r0.2.2)))) 6 (fun _ _ => rfl) ?_
  refine q_Ru_rsT (g2 := (832, [(5, .int r0.2.1), (4, .int i), (3, .ref 270), (2, .ref 236), (1, .ref 64), (0, .ref 0)], [.int (xs ((i + 1).toNatClampNeg)), .ref 236], (q_kL (q_pt 172 1 0 206 S r0.1) (c + r0.2.2) (n + 6 * r0.2.2)))) rfl rfl hx1 ?_
  refine q_Ru_call (v := (some (.int r1.2))) (h2 := (q_kL (q_pt 34 0 172 0 (q_pt 172 1 0 206 S r0.1) r1.1) (c + r0.2.2) (n + 6 * r0.2.2))) rfl rfl ?_ ?_
  · exact (q_emML rfl (fun _ => rfl) ((dzt_M243_64 (q_vw 34 172 0 (q_pt 172 1 0 206 S r0.1)) (c + r0.2.2) (n + 6 * r0.2.2) (xs ((i + 1).toNatClampNeg)) r1 er1).tb q_TB0_le)).le (Nat.le_of_ble_eq_true rfl)
  show q_Ru _ _ _ (835, [(5, .int r0.2.1), (4, .int i), (3, .ref 270), (2, .ref 236), (1, .ref 64), (0, .ref 0)], [.int r1.2], (q_kL (q_pt 34 0 172 0 (q_pt 172 1 0 206 S r0.1) r1.1) (c + r0.2.2) (n + 6 * r0.2.2))) _
  refine q_Ru_seg (g2 := (23, [(4, .int (i + 4)), (6, .int r1.2), (5, .int r0.2.1), (3, .ref 270), (2, .ref 236), (1, .ref 64), (0, .ref 0)], [], (q_kL (q_pt 34 0 172 0 (q_pt 172 1 0 206 S r0.1) r1.1) (c + r0.2.2) (n + 6 * r0.2.2)))) 4 (fun _ _ => rfl) ?_
  exact q_Ru_xt (q_xt_mk (q_mn1 0 rfl (q_mn1 3 rfl (q_mn1 4 rfl (q_mn1 5 rfl (q_mn1 6 rfl q_mn0))))) rfl) h
set_option maxHeartbeats 4000000 in
theorem q_lw22 (z L : Nat) (xs : Nat → Int32) (S : q_S) (c n : Nat) (i : Int32) (hx0 : q_in i L = true) (hx1 : q_in (i + 1) L = true) (hx2 : q_in (i + 2) L = true) (hx3 : q_in (i + 3) L = true) (hi : decide (Int32.ofNat L - 4 < i) = false) (hv : xs i.toNatClampNeg &&& 63 = 22) (r0 : q_S × Int32 × Nat) (er0 : dz_X14_64_236 (q_vw 172 0 206 S) (xs ((i + 1).toNatClampNeg)) (xs ((i + 2).toNatClampNeg)) = r0) (r1 : q_S × Int32) (er1 : dz_M294_64 (q_vw 34 172 0 (q_pt 172 1 0 206 S r0.1)) (xs ((i + 1).toNatClampNeg)) (xs ((i + 2).toNatClampNeg)) = some r1) {o : q_Out} (h : q_Ru (q_TBs z L xs) 20 376 (23, [(4, .int (i + 4)), (3, .ref 270), (2, .ref 236), (1, .ref 64), (0, .ref 0)], [], (q_kL (q_pt 34 0 172 0 (q_pt 172 1 0 206 S r0.1) r1.1) (c + r0.2.2) (n + 6 * r0.2.2))) o) : q_Ru (q_TBs z L xs) 20 376 (23, [(4, .int i), (3, .ref 270), (2, .ref 236), (1, .ref 64), (0, .ref 0)], [], (q_kL S c n)) o := by
  refine q_Ru_seg (g2 := (29, [(4, .int i), (3, .ref 270), (2, .ref 236), (1, .ref 64), (0, .ref 0)], [.int ((Int32.ofNat L) - 4), .int i], (q_kL S c n))) 5 (fun _ _ => rfl) ?_
  refine q_Ru_rsF (g2 := (32, [(4, .int i), (3, .ref 270), (2, .ref 236), (1, .ref 64), (0, .ref 0)], [], (q_kL S c n))) rfl rfl hi ?_
  refine q_Ru_seg (g2 := (35, [(4, .int i), (3, .ref 270), (2, .ref 236), (1, .ref 64), (0, .ref 0)], [.int i, .ref 0], (q_kL S c n))) 2 (fun _ _ => rfl) ?_
  refine q_Ru_rsT (g2 := (36, [(4, .int i), (3, .ref 270), (2, .ref 236), (1, .ref 64), (0, .ref 0)], [.int (xs (i.toNatClampNeg))], (q_kL S c n))) rfl rfl hx0 ?_
  refine q_Ru_seg (g2 := (39, [(4, .int i), (3, .ref 270), (2, .ref 236), (1, .ref 64), (0, .ref 0)], [.int ((xs (i.toNatClampNeg)) &&& 63)], (q_kL S c n))) 2 (fun _ _ => rfl) ?_
  rw [hv]
  refine q_Ru_seg (g2 := (846, [(4, .int i), (3, .ref 270), (2, .ref 236), (1, .ref 64), (0, .ref 0)], [.int (i + 1), .ref 0, .ref 64], (q_kL S c n))) 6 (fun _ _ => rfl) ?_
  refine q_Ru_rsT (g2 := (847, [(4, .int i), (3, .ref 270), (2, .ref 236), (1, .ref 64), (0, .ref 0)], [.int (xs ((i + 1).toNatClampNeg)), .ref 64], (q_kL S c n))) rfl rfl hx1 ?_
  refine q_Ru_seg (g2 := (852, [(4, .int i), (3, .ref 270), (2, .ref 236), (1, .ref 64), (0, .ref 0)], [.int (i + 2), .ref 0, .int (xs ((i + 1).toNatClampNeg)), .ref 64], (q_kL S c n))) 4 (fun _ _ => rfl) ?_
  refine q_Ru_rsT (g2 := (853, [(4, .int i), (3, .ref 270), (2, .ref 236), (1, .ref 64), (0, .ref 0)], [.int (xs ((i + 2).toNatClampNeg)), .int (xs ((i + 1).toNatClampNeg)), .ref 64], (q_kL S c n))) rfl rfl hx2 ?_
  refine q_Ru_seg (g2 := (854, [(4, .int i), (3, .ref 270), (2, .ref 236), (1, .ref 64), (0, .ref 0)], [.ref 270, .int (xs ((i + 2).toNatClampNeg)), .int (xs ((i + 1).toNatClampNeg)), .ref 64], (q_kL S c n))) 1 (fun _ _ => rfl) ?_
  refine q_Ru_call (v := (some (.int r0.2.1))) (h2 := (q_kL (q_pt 172 1 0 206 S r0.1) (c + r0.2.2) (n + 6 * r0.2.2))) rfl rfl ?_ ?_
  · exact (q_emXL rfl (fun _ => rfl) (q_cE (φ := (q_oEX c n)) er0 (dzt_X14_64_236 z L xs (q_vw 172 0 206 S) c n (xs ((i + 1).toNatClampNeg)) (xs ((i + 2).toNatClampNeg))))).le (Nat.le_of_ble_eq_true rfl)
  show q_Ru _ _ _ (857, [(4, .int i), (3, .ref 270), (2, .ref 236), (1, .ref 64), (0, .ref 0)], [.int r0.2.1], (q_kL (q_pt 172 1 0 206 S r0.1) (c + r0.2.2) (n + 6 * r0.2.2))) _
  refine q_Ru_seg (g2 := (865, [(5, .int r0.2.1), (4, .int i), (3, .ref 270), (2, .ref 236), (1, .ref 64), (0, .ref 0)], [.int (i + 1), .ref 0, .ref 236], (q_kL (q_pt 172 1 0 206 S r0.1) (c + r0.2.2) (n + 6 * r0.2.2)))) 6 (fun _ _ => rfl) ?_
  refine q_Ru_rsT (g2 := (866, [(5, .int r0.2.1), (4, .int i), (3, .ref 270), (2, .ref 236), (1, .ref 64), (0, .ref 0)], [.int (xs ((i + 1).toNatClampNeg)), .ref 236], (q_kL (q_pt 172 1 0 206 S r0.1) (c + r0.2.2) (n + 6 * r0.2.2)))) rfl rfl hx1 ?_
  refine q_Ru_seg (g2 := (871, [(5, .int r0.2.1), (4, .int i), (3, .ref 270), (2, .ref 236), (1, .ref 64), (0, .ref 0)], [.int (i + 2), .ref 0, .int (xs ((i + 1).toNatClampNeg)), .ref 236], (q_kL (q_pt 172 1 0 206 S r0.1) (c + r0.2.2) (n + 6 * r0.2.2)))) 4 (fun _ _ => rfl) ?_
  refine q_Ru_rsT (g2 := (872, [(5, .int r0.2.1), (4, .int i), (3, .ref 270), (2, .ref 236), (1, .ref 64), (0, .ref 0)], [.int (xs ((i + 2).toNatClampNeg)), .int (xs ((i + 1).toNatClampNeg)), .ref 236], (q_kL (q_pt 172 1 0 206 S r0.1) (c + r0.2.2) (n + 6 * r0.2.2)))) rfl rfl hx2 ?_
  refine q_Ru_call (v := (some (.int r1.2))) (h2 := (q_kL (q_pt 34 0 172 0 (q_pt 172 1 0 206 S r0.1) r1.1) (c + r0.2.2) (n + 6 * r0.2.2))) rfl rfl ?_ ?_
  · exact (q_emML rfl (fun _ => rfl) ((dzt_M294_64 (q_vw 34 172 0 (q_pt 172 1 0 206 S r0.1)) (c + r0.2.2) (n + 6 * r0.2.2) (xs ((i + 1).toNatClampNeg)) (xs ((i + 2).toNatClampNeg)) r1 er1).tb q_TB0_le)).le (Nat.le_of_ble_eq_true rfl)
  show q_Ru _ _ _ (875, [(5, .int r0.2.1), (4, .int i), (3, .ref 270), (2, .ref 236), (1, .ref 64), (0, .ref 0)], [.int r1.2], (q_kL (q_pt 34 0 172 0 (q_pt 172 1 0 206 S r0.1) r1.1) (c + r0.2.2) (n + 6 * r0.2.2))) _
  refine q_Ru_seg (g2 := (23, [(4, .int (i + 4)), (6, .int r1.2), (5, .int r0.2.1), (3, .ref 270), (2, .ref 236), (1, .ref 64), (0, .ref 0)], [], (q_kL (q_pt 34 0 172 0 (q_pt 172 1 0 206 S r0.1) r1.1) (c + r0.2.2) (n + 6 * r0.2.2)))) 4 (fun _ _ => rfl) ?_
  exact q_Ru_xt (q_xt_mk (q_mn1 0 rfl (q_mn1 3 rfl (q_mn1 4 rfl (q_mn1 5 rfl (q_mn1 6 rfl q_mn0))))) rfl) h
set_option maxHeartbeats 4000000 in
theorem q_lw23 (z L : Nat) (xs : Nat → Int32) (S : q_S) (c n : Nat) (i : Int32) (hx0 : q_in i L = true) (hx1 : q_in (i + 1) L = true) (hx2 : q_in (i + 2) L = true) (hx3 : q_in (i + 3) L = true) (hi : decide (Int32.ofNat L - 4 < i) = false) (hv : xs i.toNatClampNeg &&& 63 = 23) (r0 : q_S × Int32 × Nat) (er0 : dz_X15_64_236 (q_vw 172 0 206 S) (xs ((i + 1).toNatClampNeg)) (xs ((i + 2).toNatClampNeg)) = some r0) (r1 : q_S × Int32) (er1 : dz_M295_64 (q_vw 34 172 0 (q_pt 172 1 0 206 S r0.1)) (xs ((i + 1).toNatClampNeg)) (xs ((i + 2).toNatClampNeg)) = some r1) {o : q_Out} (h : q_Ru (q_TBs z L xs) 20 376 (23, [(4, .int (i + 4)), (3, .ref 270), (2, .ref 236), (1, .ref 64), (0, .ref 0)], [], (q_kL (q_pt 34 0 172 0 (q_pt 172 1 0 206 S r0.1) r1.1) (c + r0.2.2) (n + 6 * r0.2.2))) o) : q_Ru (q_TBs z L xs) 20 376 (23, [(4, .int i), (3, .ref 270), (2, .ref 236), (1, .ref 64), (0, .ref 0)], [], (q_kL S c n)) o := by
  refine q_Ru_seg (g2 := (29, [(4, .int i), (3, .ref 270), (2, .ref 236), (1, .ref 64), (0, .ref 0)], [.int ((Int32.ofNat L) - 4), .int i], (q_kL S c n))) 5 (fun _ _ => rfl) ?_
  refine q_Ru_rsF (g2 := (32, [(4, .int i), (3, .ref 270), (2, .ref 236), (1, .ref 64), (0, .ref 0)], [], (q_kL S c n))) rfl rfl hi ?_
  refine q_Ru_seg (g2 := (35, [(4, .int i), (3, .ref 270), (2, .ref 236), (1, .ref 64), (0, .ref 0)], [.int i, .ref 0], (q_kL S c n))) 2 (fun _ _ => rfl) ?_
  refine q_Ru_rsT (g2 := (36, [(4, .int i), (3, .ref 270), (2, .ref 236), (1, .ref 64), (0, .ref 0)], [.int (xs (i.toNatClampNeg))], (q_kL S c n))) rfl rfl hx0 ?_
  refine q_Ru_seg (g2 := (39, [(4, .int i), (3, .ref 270), (2, .ref 236), (1, .ref 64), (0, .ref 0)], [.int ((xs (i.toNatClampNeg)) &&& 63)], (q_kL S c n))) 2 (fun _ _ => rfl) ?_
  rw [hv]
  refine q_Ru_seg (g2 := (886, [(4, .int i), (3, .ref 270), (2, .ref 236), (1, .ref 64), (0, .ref 0)], [.int (i + 1), .ref 0, .ref 64], (q_kL S c n))) 6 (fun _ _ => rfl) ?_
  refine q_Ru_rsT (g2 := (887, [(4, .int i), (3, .ref 270), (2, .ref 236), (1, .ref 64), (0, .ref 0)], [.int (xs ((i + 1).toNatClampNeg)), .ref 64], (q_kL S c n))) rfl rfl hx1 ?_
  refine q_Ru_seg (g2 := (892, [(4, .int i), (3, .ref 270), (2, .ref 236), (1, .ref 64), (0, .ref 0)], [.int (i + 2), .ref 0, .int (xs ((i + 1).toNatClampNeg)), .ref 64], (q_kL S c n))) 4 (fun _ _ => rfl) ?_
  refine q_Ru_rsT (g2 := (893, [(4, .int i), (3, .ref 270), (2, .ref 236), (1, .ref 64), (0, .ref 0)], [.int (xs ((i + 2).toNatClampNeg)), .int (xs ((i + 1).toNatClampNeg)), .ref 64], (q_kL S c n))) rfl rfl hx2 ?_
  refine q_Ru_seg (g2 := (894, [(4, .int i), (3, .ref 270), (2, .ref 236), (1, .ref 64), (0, .ref 0)], [.ref 270, .int (xs ((i + 2).toNatClampNeg)), .int (xs ((i + 1).toNatClampNeg)), .ref 64], (q_kL S c n))) 1 (fun _ _ => rfl) ?_
  refine q_Ru_call (v := (some (.int r0.2.1))) (h2 := (q_kL (q_pt 172 1 0 206 S r0.1) (c + r0.2.2) (n + 6 * r0.2.2))) rfl rfl ?_ ?_
  · exact (q_emXL rfl (fun _ => rfl) (dzt_X15_64_236 z L xs (q_vw 172 0 206 S) c n (xs ((i + 1).toNatClampNeg)) (xs ((i + 2).toNatClampNeg)) r0 er0)).le (Nat.le_of_ble_eq_true rfl)
  show q_Ru _ _ _ (897, [(4, .int i), (3, .ref 270), (2, .ref 236), (1, .ref 64), (0, .ref 0)], [.int r0.2.1], (q_kL (q_pt 172 1 0 206 S r0.1) (c + r0.2.2) (n + 6 * r0.2.2))) _
  refine q_Ru_seg (g2 := (905, [(5, .int r0.2.1), (4, .int i), (3, .ref 270), (2, .ref 236), (1, .ref 64), (0, .ref 0)], [.int (i + 1), .ref 0, .ref 236], (q_kL (q_pt 172 1 0 206 S r0.1) (c + r0.2.2) (n + 6 * r0.2.2)))) 6 (fun _ _ => rfl) ?_
  refine q_Ru_rsT (g2 := (906, [(5, .int r0.2.1), (4, .int i), (3, .ref 270), (2, .ref 236), (1, .ref 64), (0, .ref 0)], [.int (xs ((i + 1).toNatClampNeg)), .ref 236], (q_kL (q_pt 172 1 0 206 S r0.1) (c + r0.2.2) (n + 6 * r0.2.2)))) rfl rfl hx1 ?_
  refine q_Ru_seg (g2 := (911, [(5, .int r0.2.1), (4, .int i), (3, .ref 270), (2, .ref 236), (1, .ref 64), (0, .ref 0)], [.int (i + 2), .ref 0, .int (xs ((i + 1).toNatClampNeg)), .ref 236], (q_kL (q_pt 172 1 0 206 S r0.1) (c + r0.2.2) (n + 6 * r0.2.2)))) 4 (fun _ _ => rfl) ?_
  refine q_Ru_rsT (g2 := (912, [(5, .int r0.2.1), (4, .int i), (3, .ref 270), (2, .ref 236), (1, .ref 64), (0, .ref 0)], [.int (xs ((i + 2).toNatClampNeg)), .int (xs ((i + 1).toNatClampNeg)), .ref 236], (q_kL (q_pt 172 1 0 206 S r0.1) (c + r0.2.2) (n + 6 * r0.2.2)))) rfl rfl hx2 ?_
  refine q_Ru_call (v := (some (.int r1.2))) (h2 := (q_kL (q_pt 34 0 172 0 (q_pt 172 1 0 206 S r0.1) r1.1) (c + r0.2.2) (n + 6 * r0.2.2))) rfl rfl ?_ ?_
  · exact (q_emML rfl (fun _ => rfl) ((dzt_M295_64 (q_vw 34 172 0 (q_pt 172 1 0 206 S r0.1)) (c + r0.2.2) (n + 6 * r0.2.2) (xs ((i + 1).toNatClampNeg)) (xs ((i + 2).toNatClampNeg)) r1 er1).tb q_TB0_le)).le (Nat.le_of_ble_eq_true rfl)
  show q_Ru _ _ _ (915, [(5, .int r0.2.1), (4, .int i), (3, .ref 270), (2, .ref 236), (1, .ref 64), (0, .ref 0)], [.int r1.2], (q_kL (q_pt 34 0 172 0 (q_pt 172 1 0 206 S r0.1) r1.1) (c + r0.2.2) (n + 6 * r0.2.2))) _
  refine q_Ru_seg (g2 := (23, [(4, .int (i + 4)), (6, .int r1.2), (5, .int r0.2.1), (3, .ref 270), (2, .ref 236), (1, .ref 64), (0, .ref 0)], [], (q_kL (q_pt 34 0 172 0 (q_pt 172 1 0 206 S r0.1) r1.1) (c + r0.2.2) (n + 6 * r0.2.2)))) 4 (fun _ _ => rfl) ?_
  exact q_Ru_xt (q_xt_mk (q_mn1 0 rfl (q_mn1 3 rfl (q_mn1 4 rfl (q_mn1 5 rfl (q_mn1 6 rfl q_mn0))))) rfl) h
set_option maxHeartbeats 4000000 in
theorem q_lw24 (z L : Nat) (xs : Nat → Int32) (S : q_S) (c n : Nat) (i : Int32) (hx0 : q_in i L = true) (hx1 : q_in (i + 1) L = true) (hx2 : q_in (i + 2) L = true) (hx3 : q_in (i + 3) L = true) (hi : decide (Int32.ofNat L - 4 < i) = false) (hv : xs i.toNatClampNeg &&& 63 = 24) (r0 : q_S × Int32 × Nat) (er0 : dz_X16_64_236 (q_vw 172 0 206 S) (xs ((i + 1).toNatClampNeg)) = r0) (r1 : q_S × Int32) (er1 : dz_M296_64 (q_vw 34 172 0 (q_pt 172 1 0 206 S r0.1)) (xs ((i + 1).toNatClampNeg)) = some r1) {o : q_Out} (h : q_Ru (q_TBs z L xs) 20 376 (23, [(4, .int (i + 4)), (3, .ref 270), (2, .ref 236), (1, .ref 64), (0, .ref 0)], [], (q_kL (q_pt 34 0 172 0 (q_pt 172 1 0 206 S r0.1) r1.1) (c + r0.2.2) (n + 6 * r0.2.2))) o) : q_Ru (q_TBs z L xs) 20 376 (23, [(4, .int i), (3, .ref 270), (2, .ref 236), (1, .ref 64), (0, .ref 0)], [], (q_kL S c n)) o := by
  refine q_Ru_seg (g2 := (29, [(4, .int i), (3, .ref 270), (2, .ref 236), (1, .ref 64), (0, .ref 0)], [.int ((Int32.ofNat L) - 4), .int i], (q_kL S c n))) 5 (fun _ _ => rfl) ?_
  refine q_Ru_rsF (g2 := (32, [(4, .int i), (3, .ref 270), (2, .ref 236), (1, .ref 64), (0, .ref 0)], [], (q_kL S c n))) rfl rfl hi ?_
  refine q_Ru_seg (g2 := (35, [(4, .int i), (3, .ref 270), (2, .ref 236), (1, .ref 64), (0, .ref 0)], [.int i, .ref 0], (q_kL S c n))) 2 (fun _ _ => rfl) ?_
  refine q_Ru_rsT (g2 := (36, [(4, .int i), (3, .ref 270), (2, .ref 236), (1, .ref 64), (0, .ref 0)], [.int (xs (i.toNatClampNeg))], (q_kL S c n))) rfl rfl hx0 ?_
  refine q_Ru_seg (g2 := (39, [(4, .int i), (3, .ref 270), (2, .ref 236), (1, .ref 64), (0, .ref 0)], [.int ((xs (i.toNatClampNeg)) &&& 63)], (q_kL S c n))) 2 (fun _ _ => rfl) ?_
  rw [hv]
  refine q_Ru_seg (g2 := (926, [(4, .int i), (3, .ref 270), (2, .ref 236), (1, .ref 64), (0, .ref 0)], [.int (i + 1), .ref 0, .ref 64], (q_kL S c n))) 6 (fun _ _ => rfl) ?_
  refine q_Ru_rsT (g2 := (927, [(4, .int i), (3, .ref 270), (2, .ref 236), (1, .ref 64), (0, .ref 0)], [.int (xs ((i + 1).toNatClampNeg)), .ref 64], (q_kL S c n))) rfl rfl hx1 ?_
  refine q_Ru_seg (g2 := (928, [(4, .int i), (3, .ref 270), (2, .ref 236), (1, .ref 64), (0, .ref 0)], [.ref 270, .int (xs ((i + 1).toNatClampNeg)), .ref 64], (q_kL S c n))) 1 (fun _ _ => rfl) ?_
  refine q_Ru_call (v := (some (.int r0.2.1))) (h2 := (q_kL (q_pt 172 1 0 206 S r0.1) (c + r0.2.2) (n + 6 * r0.2.2))) rfl rfl ?_ ?_
  · exact (q_emXL rfl (fun _ => rfl) (q_cE (φ := (q_oEX c n)) er0 (dzt_X16_64_236 z L xs (q_vw 172 0 206 S) c n (xs ((i + 1).toNatClampNeg))))).le (Nat.le_of_ble_eq_true rfl)
  show q_Ru _ _ _ (931, [(4, .int i), (3, .ref 270), (2, .ref 236), (1, .ref 64), (0, .ref 0)], [.int r0.2.1], (q_kL (q_pt 172 1 0 206 S r0.1) (c + r0.2.2) (n + 6 * r0.2.2))) _
  refine q_Ru_seg (g2 := (939, [(5, .int r0.2.1), (4, .int i), (3, .ref 270), (2, .ref 236), (1, .ref 64), (0, .ref 0)], [.int (i + 1), .ref 0, .ref 236], (q_kL (q_pt 172 1 0 206 S r0.1) (c + r0.2.2) (n + 6 * r0.2.2)))) 6 (fun _ _ => rfl) ?_
  refine q_Ru_rsT (g2 := (940, [(5, .int r0.2.1), (4, .int i), (3, .ref 270), (2, .ref 236), (1, .ref 64), (0, .ref 0)], [.int (xs ((i + 1).toNatClampNeg)), .ref 236], (q_kL (q_pt 172 1 0 206 S r0.1) (c + r0.2.2) (n + 6 * r0.2.2)))) rfl rfl hx1 ?_
  refine q_Ru_call (v := (some (.int r1.2))) (h2 := (q_kL (q_pt 34 0 172 0 (q_pt 172 1 0 206 S r0.1) r1.1) (c + r0.2.2) (n + 6 * r0.2.2))) rfl rfl ?_ ?_
  · exact (q_emML rfl (fun _ => rfl) ((dzt_M296_64 (q_vw 34 172 0 (q_pt 172 1 0 206 S r0.1)) (c + r0.2.2) (n + 6 * r0.2.2) (xs ((i + 1).toNatClampNeg)) r1 er1).tb q_TB0_le)).le (Nat.le_of_ble_eq_true rfl)
  show q_Ru _ _ _ (943, [(5, .int r0.2.1), (4, .int i), (3, .ref 270), (2, .ref 236), (1, .ref 64), (0, .ref 0)], [.int r1.2], (q_kL (q_pt 34 0 172 0 (q_pt 172 1 0 206 S r0.1) r1.1) (c + r0.2.2) (n + 6 * r0.2.2))) _
  refine q_Ru_seg (g2 := (23, [(4, .int (i + 4)), (6, .int r1.2), (5, .int r0.2.1), (3, .ref 270), (2, .ref 236), (1, .ref 64), (0, .ref 0)], [], (q_kL (q_pt 34 0 172 0 (q_pt 172 1 0 206 S r0.1) r1.1) (c + r0.2.2) (n + 6 * r0.2.2)))) 4 (fun _ _ => rfl) ?_
  exact q_Ru_xt (q_xt_mk (q_mn1 0 rfl (q_mn1 3 rfl (q_mn1 4 rfl (q_mn1 5 rfl (q_mn1 6 rfl q_mn0))))) rfl) h
set_option maxHeartbeats 4000000 in
theorem q_lw25 (z L : Nat) (xs : Nat → Int32) (S : q_S) (c n : Nat) (i : Int32) (hx0 : q_in i L = true) (hx1 : q_in (i + 1) L = true) (hx2 : q_in (i + 2) L = true) (hx3 : q_in (i + 3) L = true) (hi : decide (Int32.ofNat L - 4 < i) = false) (hv : xs i.toNatClampNeg &&& 63 = 25) (r0 : q_S × Int32 × Nat) (er0 : dz_X17_64_236 (q_vw 172 0 206 S) (xs ((i + 1).toNatClampNeg)) = r0) (r1 : q_S × Int32) (er1 : dz_M297_64 (q_vw 34 172 0 (q_pt 172 1 0 206 S r0.1)) (xs ((i + 1).toNatClampNeg)) = some r1) {o : q_Out} (h : q_Ru (q_TBs z L xs) 20 376 (23, [(4, .int (i + 4)), (3, .ref 270), (2, .ref 236), (1, .ref 64), (0, .ref 0)], [], (q_kL (q_pt 34 0 172 0 (q_pt 172 1 0 206 S r0.1) r1.1) (c + r0.2.2) (n + 6 * r0.2.2))) o) : q_Ru (q_TBs z L xs) 20 376 (23, [(4, .int i), (3, .ref 270), (2, .ref 236), (1, .ref 64), (0, .ref 0)], [], (q_kL S c n)) o := by
  refine q_Ru_seg (g2 := (29, [(4, .int i), (3, .ref 270), (2, .ref 236), (1, .ref 64), (0, .ref 0)], [.int ((Int32.ofNat L) - 4), .int i], (q_kL S c n))) 5 (fun _ _ => rfl) ?_
  refine q_Ru_rsF (g2 := (32, [(4, .int i), (3, .ref 270), (2, .ref 236), (1, .ref 64), (0, .ref 0)], [], (q_kL S c n))) rfl rfl hi ?_
  refine q_Ru_seg (g2 := (35, [(4, .int i), (3, .ref 270), (2, .ref 236), (1, .ref 64), (0, .ref 0)], [.int i, .ref 0], (q_kL S c n))) 2 (fun _ _ => rfl) ?_
  refine q_Ru_rsT (g2 := (36, [(4, .int i), (3, .ref 270), (2, .ref 236), (1, .ref 64), (0, .ref 0)], [.int (xs (i.toNatClampNeg))], (q_kL S c n))) rfl rfl hx0 ?_
  refine q_Ru_seg (g2 := (39, [(4, .int i), (3, .ref 270), (2, .ref 236), (1, .ref 64), (0, .ref 0)], [.int ((xs (i.toNatClampNeg)) &&& 63)], (q_kL S c n))) 2 (fun _ _ => rfl) ?_
  rw [hv]
  refine q_Ru_seg (g2 := (954, [(4, .int i), (3, .ref 270), (2, .ref 236), (1, .ref 64), (0, .ref 0)], [.int (i + 1), .ref 0, .ref 64], (q_kL S c n))) 6 (fun _ _ => rfl) ?_
  refine q_Ru_rsT (g2 := (955, [(4, .int i), (3, .ref 270), (2, .ref 236), (1, .ref 64), (0, .ref 0)], [.int (xs ((i + 1).toNatClampNeg)), .ref 64], (q_kL S c n))) rfl rfl hx1 ?_
  refine q_Ru_seg (g2 := (956, [(4, .int i), (3, .ref 270), (2, .ref 236), (1, .ref 64), (0, .ref 0)], [.ref 270, .int (xs ((i + 1).toNatClampNeg)), .ref 64], (q_kL S c n))) 1 (fun _ _ => rfl) ?_
  refine q_Ru_call (v := (some (.int r0.2.1))) (h2 := (q_kL (q_pt 172 1 0 206 S r0.1) (c + r0.2.2) (n + 6 * r0.2.2))) rfl rfl ?_ ?_
  · exact (q_emXL rfl (fun _ => rfl) (q_cE (φ := (q_oEX c n)) er0 (dzt_X17_64_236 z L xs (q_vw 172 0 206 S) c n (xs ((i + 1).toNatClampNeg))))).le (Nat.le_of_ble_eq_true rfl)
  show q_Ru _ _ _ (959, [(4, .int i), (3, .ref 270), (2, .ref 236), (1, .ref 64), (0, .ref 0)], [.int r0.2.1], (q_kL (q_pt 172 1 0 206 S r0.1) (c + r0.2.2) (n + 6 * r0.2.2))) _
  refine q_Ru_seg (g2 := (967, [(5, .int r0.2.1), (4, .int i), (3, .ref 270), (2, .ref 236), (1, .ref 64), (0, .ref 0)], [.int (i + 1), .ref 0, .ref 236], (q_kL (q_pt 172 1 0 206 S r0.1) (c + r0.2.2) (n + 6 * r0.2.2)))) 6 (fun _ _ => rfl) ?_
  refine q_Ru_rsT (g2 := (968, [(5, .int r0.2.1), (4, .int i), (3, .ref 270), (2, .ref 236), (1, .ref 64), (0, .ref 0)], [.int (xs ((i + 1).toNatClampNeg)), .ref 236], (q_kL (q_pt 172 1 0 206 S r0.1) (c + r0.2.2) (n + 6 * r0.2.2)))) rfl rfl hx1 ?_
  refine q_Ru_call (v := (some (.int r1.2))) (h2 := (q_kL (q_pt 34 0 172 0 (q_pt 172 1 0 206 S r0.1) r1.1) (c + r0.2.2) (n + 6 * r0.2.2))) rfl rfl ?_ ?_
  · exact (q_emML rfl (fun _ => rfl) ((dzt_M297_64 (q_vw 34 172 0 (q_pt 172 1 0 206 S r0.1)) (c + r0.2.2) (n + 6 * r0.2.2) (xs ((i + 1).toNatClampNeg)) r1 er1).tb q_TB0_le)).le (Nat.le_of_ble_eq_true rfl)
  show q_Ru _ _ _ (971, [(5, .int r0.2.1), (4, .int i), (3, .ref 270), (2, .ref 236), (1, .ref 64), (0, .ref 0)], [.int r1.2], (q_kL (q_pt 34 0 172 0 (q_pt 172 1 0 206 S r0.1) r1.1) (c + r0.2.2) (n + 6 * r0.2.2))) _
  refine q_Ru_seg (g2 := (23, [(4, .int (i + 4)), (6, .int r1.2), (5, .int r0.2.1), (3, .ref 270), (2, .ref 236), (1, .ref 64), (0, .ref 0)], [], (q_kL (q_pt 34 0 172 0 (q_pt 172 1 0 206 S r0.1) r1.1) (c + r0.2.2) (n + 6 * r0.2.2)))) 4 (fun _ _ => rfl) ?_
  exact q_Ru_xt (q_xt_mk (q_mn1 0 rfl (q_mn1 3 rfl (q_mn1 4 rfl (q_mn1 5 rfl (q_mn1 6 rfl q_mn0))))) rfl) h
set_option maxHeartbeats 4000000 in
theorem q_lw26t (z L : Nat) (xs : Nat → Int32) (S : q_S) (c n : Nat) (i : Int32) (hx0 : q_in i L = true) (hx1 : q_in (i + 1) L = true) (hx2 : q_in (i + 2) L = true) (hx3 : q_in (i + 3) L = true) (hi : decide (Int32.ofNat L - 4 < i) = false) (hv : xs i.toNatClampNeg &&& 63 = 26) (r0 : q_S × Int32 × Nat) (er0 : dz_X18_64_f_236 (q_vw 172 0 206 S) (xs ((i + 1).toNatClampNeg)) (xs ((i + 2).toNatClampNeg)) = some r0) (r1 : q_S × Bool) (er1 : dz_M298_64 (q_vw 34 172 0 (q_pt 172 1 0 206 S r0.1)) (xs ((i + 1).toNatClampNeg)) (xs ((i + 2).toNatClampNeg)) 0 = some r1) (hc0 : decide (xs ((i + 3).toNatClampNeg) = 0) = true) {o : q_Out} (h : q_Ru (q_TBs z L xs) 20 376 (23, [(4, .int (i + 4)), (3, .ref 270), (2, .ref 236), (1, .ref 64), (0, .ref 0)], [], (q_kL (q_pt 34 0 172 0 (q_pt 172 1 0 206 S r0.1) r1.1) (c + r0.2.2) (n + 6 * r0.2.2))) o) : q_Ru (q_TBs z L xs) 20 376 (23, [(4, .int i), (3, .ref 270), (2, .ref 236), (1, .ref 64), (0, .ref 0)], [], (q_kL S c n)) o := by
  refine q_Ru_seg (g2 := (29, [(4, .int i), (3, .ref 270), (2, .ref 236), (1, .ref 64), (0, .ref 0)], [.int ((Int32.ofNat L) - 4), .int i], (q_kL S c n))) 5 (fun _ _ => rfl) ?_
  refine q_Ru_rsF (g2 := (32, [(4, .int i), (3, .ref 270), (2, .ref 236), (1, .ref 64), (0, .ref 0)], [], (q_kL S c n))) rfl rfl hi ?_
  refine q_Ru_seg (g2 := (35, [(4, .int i), (3, .ref 270), (2, .ref 236), (1, .ref 64), (0, .ref 0)], [.int i, .ref 0], (q_kL S c n))) 2 (fun _ _ => rfl) ?_
  refine q_Ru_rsT (g2 := (36, [(4, .int i), (3, .ref 270), (2, .ref 236), (1, .ref 64), (0, .ref 0)], [.int (xs (i.toNatClampNeg))], (q_kL S c n))) rfl rfl hx0 ?_
  refine q_Ru_seg (g2 := (39, [(4, .int i), (3, .ref 270), (2, .ref 236), (1, .ref 64), (0, .ref 0)], [.int ((xs (i.toNatClampNeg)) &&& 63)], (q_kL S c n))) 2 (fun _ _ => rfl) ?_
  rw [hv]
  refine q_Ru_seg (g2 := (982, [(4, .int i), (3, .ref 270), (2, .ref 236), (1, .ref 64), (0, .ref 0)], [.int (i + 1), .ref 0, .ref 64], (q_kL S c n))) 6 (fun _ _ => rfl) ?_
  refine q_Ru_rsT (g2 := (983, [(4, .int i), (3, .ref 270), (2, .ref 236), (1, .ref 64), (0, .ref 0)], [.int (xs ((i + 1).toNatClampNeg)), .ref 64], (q_kL S c n))) rfl rfl hx1 ?_
  refine q_Ru_seg (g2 := (988, [(4, .int i), (3, .ref 270), (2, .ref 236), (1, .ref 64), (0, .ref 0)], [.int (i + 2), .ref 0, .int (xs ((i + 1).toNatClampNeg)), .ref 64], (q_kL S c n))) 4 (fun _ _ => rfl) ?_
  refine q_Ru_rsT (g2 := (989, [(4, .int i), (3, .ref 270), (2, .ref 236), (1, .ref 64), (0, .ref 0)], [.int (xs ((i + 2).toNatClampNeg)), .int (xs ((i + 1).toNatClampNeg)), .ref 64], (q_kL S c n))) rfl rfl hx2 ?_
  refine q_Ru_seg (g2 := (994, [(4, .int i), (3, .ref 270), (2, .ref 236), (1, .ref 64), (0, .ref 0)], [.int (i + 3), .ref 0, .int (xs ((i + 2).toNatClampNeg)), .int (xs ((i + 1).toNatClampNeg)), .ref 64], (q_kL S c n))) 4 (fun _ _ => rfl) ?_
  refine q_Ru_rsT (g2 := (995, [(4, .int i), (3, .ref 270), (2, .ref 236), (1, .ref 64), (0, .ref 0)], [.int (xs ((i + 3).toNatClampNeg)), .int (xs ((i + 2).toNatClampNeg)), .int (xs ((i + 1).toNatClampNeg)), .ref 64], (q_kL S c n))) rfl rfl hx3 ?_
  refine q_Ru_rsT (g2 := (1002, [(4, .int i), (3, .ref 270), (2, .ref 236), (1, .ref 64), (0, .ref 0)], [.int (xs ((i + 2).toNatClampNeg)), .int (xs ((i + 1).toNatClampNeg)), .ref 64], (q_kL S c n))) rfl rfl hc0 ?_
  refine q_Ru_seg (g2 := (1004, [(4, .int i), (3, .ref 270), (2, .ref 236), (1, .ref 64), (0, .ref 0)], [.ref 270, .int 0, .int (xs ((i + 2).toNatClampNeg)), .int (xs ((i + 1).toNatClampNeg)), .ref 64], (q_kL S c n))) 2 (fun _ _ => rfl) ?_
  refine q_Ru_call (v := (some (.int r0.2.1))) (h2 := (q_kL (q_pt 172 1 0 206 S r0.1) (c + r0.2.2) (n + 6 * r0.2.2))) rfl rfl ?_ ?_
  · exact (q_emXL rfl (fun _ => rfl) (dzt_X18_64_f_236 z L xs (q_vw 172 0 206 S) c n (xs ((i + 1).toNatClampNeg)) (xs ((i + 2).toNatClampNeg)) r0 er0)).le (Nat.le_of_ble_eq_true rfl)
  show q_Ru _ _ _ (1007, [(4, .int i), (3, .ref 270), (2, .ref 236), (1, .ref 64), (0, .ref 0)], [.int r0.2.1], (q_kL (q_pt 172 1 0 206 S r0.1) (c + r0.2.2) (n + 6 * r0.2.2))) _
  refine q_Ru_seg (g2 := (1015, [(5, .int r0.2.1), (4, .int i), (3, .ref 270), (2, .ref 236), (1, .ref 64), (0, .ref 0)], [.int (i + 1), .ref 0, .ref 236], (q_kL (q_pt 172 1 0 206 S r0.1) (c + r0.2.2) (n + 6 * r0.2.2)))) 6 (fun _ _ => rfl) ?_
  refine q_Ru_rsT (g2 := (1016, [(5, .int r0.2.1), (4, .int i), (3, .ref 270), (2, .ref 236), (1, .ref 64), (0, .ref 0)], [.int (xs ((i + 1).toNatClampNeg)), .ref 236], (q_kL (q_pt 172 1 0 206 S r0.1) (c + r0.2.2) (n + 6 * r0.2.2)))) rfl rfl hx1 ?_
  refine q_Ru_seg (g2 := (1021, [(5, .int r0.2.1), (4, .int i), (3, .ref 270), (2, .ref 236), (1, .ref 64), (0, .ref 0)], [.int (i + 2), .ref 0, .int (xs ((i + 1).toNatClampNeg)), .ref 236], (q_kL (q_pt 172 1 0 206 S r0.1) (c + r0.2.2) (n + 6 * r0.2.2)))) 4 (fun _ _ => rfl) ?_
  refine q_Ru_rsT (g2 := (1022, [(5, .int r0.2.1), (4, .int i), (3, .ref 270), (2, .ref 236), (1, .ref 64), (0, .ref 0)], [.int (xs ((i + 2).toNatClampNeg)), .int (xs ((i + 1).toNatClampNeg)), .ref 236], (q_kL (q_pt 172 1 0 206 S r0.1) (c + r0.2.2) (n + 6 * r0.2.2)))) rfl rfl hx2 ?_
  refine q_Ru_seg (g2 := (1027, [(5, .int r0.2.1), (4, .int i), (3, .ref 270), (2, .ref 236), (1, .ref 64), (0, .ref 0)], [.int (i + 3), .ref 0, .int (xs ((i + 2).toNatClampNeg)), .int (xs ((i + 1).toNatClampNeg)), .ref 236], (q_kL (q_pt 172 1 0 206 S r0.1) (c + r0.2.2) (n + 6 * r0.2.2)))) 4 (fun _ _ => rfl) ?_
  refine q_Ru_rsT (g2 := (1028, [(5, .int r0.2.1), (4, .int i), (3, .ref 270), (2, .ref 236), (1, .ref 64), (0, .ref 0)], [.int (xs ((i + 3).toNatClampNeg)), .int (xs ((i + 2).toNatClampNeg)), .int (xs ((i + 1).toNatClampNeg)), .ref 236], (q_kL (q_pt 172 1 0 206 S r0.1) (c + r0.2.2) (n + 6 * r0.2.2)))) rfl rfl hx3 ?_
  refine q_Ru_rsT (g2 := (1035, [(5, .int r0.2.1), (4, .int i), (3, .ref 270), (2, .ref 236), (1, .ref 64), (0, .ref 0)], [.int (xs ((i + 2).toNatClampNeg)), .int (xs ((i + 1).toNatClampNeg)), .ref 236], (q_kL (q_pt 172 1 0 206 S r0.1) (c + r0.2.2) (n + 6 * r0.2.2)))) rfl rfl hc0 ?_
  refine q_Ru_seg (g2 := (1036, [(5, .int r0.2.1), (4, .int i), (3, .ref 270), (2, .ref 236), (1, .ref 64), (0, .ref 0)], [.int 0, .int (xs ((i + 2).toNatClampNeg)), .int (xs ((i + 1).toNatClampNeg)), .ref 236], (q_kL (q_pt 172 1 0 206 S r0.1) (c + r0.2.2) (n + 6 * r0.2.2)))) 1 (fun _ _ => rfl) ?_
  refine q_Ru_call (v := (some (.int (q_b r1.2)))) (h2 := (q_kL (q_pt 34 0 172 0 (q_pt 172 1 0 206 S r0.1) r1.1) (c + r0.2.2) (n + 6 * r0.2.2))) rfl rfl ?_ ?_
  · exact (q_emML rfl (fun _ => rfl) ((dzt_M298_64 (q_vw 34 172 0 (q_pt 172 1 0 206 S r0.1)) (c + r0.2.2) (n + 6 * r0.2.2) (xs ((i + 1).toNatClampNeg)) (xs ((i + 2).toNatClampNeg)) 0 r1 er1).tb q_TB0_le)).le (Nat.le_of_ble_eq_true rfl)
  show q_Ru _ _ _ (1039, [(5, .int r0.2.1), (4, .int i), (3, .ref 270), (2, .ref 236), (1, .ref 64), (0, .ref 0)], [.int (q_b r1.2)], (q_kL (q_pt 34 0 172 0 (q_pt 172 1 0 206 S r0.1) r1.1) (c + r0.2.2) (n + 6 * r0.2.2))) _
  refine q_Ru_seg (g2 := (23, [(4, .int (i + 4)), (6, .int (q_b r1.2)), (5, .int r0.2.1), (3, .ref 270), (2, .ref 236), (1, .ref 64), (0, .ref 0)], [], (q_kL (q_pt 34 0 172 0 (q_pt 172 1 0 206 S r0.1) r1.1) (c + r0.2.2) (n + 6 * r0.2.2)))) 4 (fun _ _ => rfl) ?_
  exact q_Ru_xt (q_xt_mk (q_mn1 0 rfl (q_mn1 3 rfl (q_mn1 4 rfl (q_mn1 5 rfl (q_mn1 6 rfl q_mn0))))) rfl) h
set_option maxHeartbeats 4000000 in
theorem q_lw26f (z L : Nat) (xs : Nat → Int32) (S : q_S) (c n : Nat) (i : Int32) (hx0 : q_in i L = true) (hx1 : q_in (i + 1) L = true) (hx2 : q_in (i + 2) L = true) (hx3 : q_in (i + 3) L = true) (hi : decide (Int32.ofNat L - 4 < i) = false) (hv : xs i.toNatClampNeg &&& 63 = 26) (r0 : q_S × Int32 × Nat) (er0 : dz_X18_64_t_236 (q_vw 172 0 206 S) (xs ((i + 1).toNatClampNeg)) (xs ((i + 2).toNatClampNeg)) = some r0) (r1 : q_S × Bool) (er1 : dz_M298_64 (q_vw 34 172 0 (q_pt 172 1 0 206 S r0.1)) (xs ((i + 1).toNatClampNeg)) (xs ((i + 2).toNatClampNeg)) 1 = some r1) (hc0 : decide (xs ((i + 3).toNatClampNeg) = 0) = false) {o : q_Out} (h : q_Ru (q_TBs z L xs) 20 376 (23, [(4, .int (i + 4)), (3, .ref 270), (2, .ref 236), (1, .ref 64), (0, .ref 0)], [], (q_kL (q_pt 34 0 172 0 (q_pt 172 1 0 206 S r0.1) r1.1) (c + r0.2.2) (n + 6 * r0.2.2))) o) : q_Ru (q_TBs z L xs) 20 376 (23, [(4, .int i), (3, .ref 270), (2, .ref 236), (1, .ref 64), (0, .ref 0)], [], (q_kL S c n)) o := by
  refine q_Ru_seg (g2 := (29, [(4, .int i), (3, .ref 270), (2, .ref 236), (1, .ref 64), (0, .ref 0)], [.int ((Int32.ofNat L) - 4), .int i], (q_kL S c n))) 5 (fun _ _ => rfl) ?_
  refine q_Ru_rsF (g2 := (32, [(4, .int i), (3, .ref 270), (2, .ref 236), (1, .ref 64), (0, .ref 0)], [], (q_kL S c n))) rfl rfl hi ?_
  refine q_Ru_seg (g2 := (35, [(4, .int i), (3, .ref 270), (2, .ref 236), (1, .ref 64), (0, .ref 0)], [.int i, .ref 0], (q_kL S c n))) 2 (fun _ _ => rfl) ?_
  refine q_Ru_rsT (g2 := (36, [(4, .int i), (3, .ref 270), (2, .ref 236), (1, .ref 64), (0, .ref 0)], [.int (xs (i.toNatClampNeg))], (q_kL S c n))) rfl rfl hx0 ?_
  refine q_Ru_seg (g2 := (39, [(4, .int i), (3, .ref 270), (2, .ref 236), (1, .ref 64), (0, .ref 0)], [.int ((xs (i.toNatClampNeg)) &&& 63)], (q_kL S c n))) 2 (fun _ _ => rfl) ?_
  rw [hv]
  refine q_Ru_seg (g2 := (982, [(4, .int i), (3, .ref 270), (2, .ref 236), (1, .ref 64), (0, .ref 0)], [.int (i + 1), .ref 0, .ref 64], (q_kL S c n))) 6 (fun _ _ => rfl) ?_
  refine q_Ru_rsT (g2 := (983, [(4, .int i), (3, .ref 270), (2, .ref 236), (1, .ref 64), (0, .ref 0)], [.int (xs ((i + 1).toNatClampNeg)), .ref 64], (q_kL S c n))) rfl rfl hx1 ?_
  refine q_Ru_seg (g2 := (988, [(4, .int i), (3, .ref 270), (2, .ref 236), (1, .ref 64), (0, .ref 0)], [.int (i + 2), .ref 0, .int (xs ((i + 1).toNatClampNeg)), .ref 64], (q_kL S c n))) 4 (fun _ _ => rfl) ?_
  refine q_Ru_rsT (g2 := (989, [(4, .int i), (3, .ref 270), (2, .ref 236), (1, .ref 64), (0, .ref 0)], [.int (xs ((i + 2).toNatClampNeg)), .int (xs ((i + 1).toNatClampNeg)), .ref 64], (q_kL S c n))) rfl rfl hx2 ?_
  refine q_Ru_seg (g2 := (994, [(4, .int i), (3, .ref 270), (2, .ref 236), (1, .ref 64), (0, .ref 0)], [.int (i + 3), .ref 0, .int (xs ((i + 2).toNatClampNeg)), .int (xs ((i + 1).toNatClampNeg)), .ref 64], (q_kL S c n))) 4 (fun _ _ => rfl) ?_
  refine q_Ru_rsT (g2 := (995, [(4, .int i), (3, .ref 270), (2, .ref 236), (1, .ref 64), (0, .ref 0)], [.int (xs ((i + 3).toNatClampNeg)), .int (xs ((i + 2).toNatClampNeg)), .int (xs ((i + 1).toNatClampNeg)), .ref 64], (q_kL S c n))) rfl rfl hx3 ?_
  refine q_Ru_rsF (g2 := (998, [(4, .int i), (3, .ref 270), (2, .ref 236), (1, .ref 64), (0, .ref 0)], [.int (xs ((i + 2).toNatClampNeg)), .int (xs ((i + 1).toNatClampNeg)), .ref 64], (q_kL S c n))) rfl rfl hc0 ?_
  refine q_Ru_seg (g2 := (1004, [(4, .int i), (3, .ref 270), (2, .ref 236), (1, .ref 64), (0, .ref 0)], [.ref 270, .int 1, .int (xs ((i + 2).toNatClampNeg)), .int (xs ((i + 1).toNatClampNeg)), .ref 64], (q_kL S c n))) 3 (fun _ _ => rfl) ?_
  refine q_Ru_call (v := (some (.int r0.2.1))) (h2 := (q_kL (q_pt 172 1 0 206 S r0.1) (c + r0.2.2) (n + 6 * r0.2.2))) rfl rfl ?_ ?_
  · exact (q_emXL rfl (fun _ => rfl) (dzt_X18_64_t_236 z L xs (q_vw 172 0 206 S) c n (xs ((i + 1).toNatClampNeg)) (xs ((i + 2).toNatClampNeg)) r0 er0)).le (Nat.le_of_ble_eq_true rfl)
  show q_Ru _ _ _ (1007, [(4, .int i), (3, .ref 270), (2, .ref 236), (1, .ref 64), (0, .ref 0)], [.int r0.2.1], (q_kL (q_pt 172 1 0 206 S r0.1) (c + r0.2.2) (n + 6 * r0.2.2))) _
  refine q_Ru_seg (g2 := (1015, [(5, .int r0.2.1), (4, .int i), (3, .ref 270), (2, .ref 236), (1, .ref 64), (0, .ref 0)], [.int (i + 1), .ref 0, .ref 236], (q_kL (q_pt 172 1 0 206 S r0.1) (c + r0.2.2) (n + 6 * r0.2.2)))) 6 (fun _ _ => rfl) ?_
  refine q_Ru_rsT (g2 := (1016, [(5, .int r0.2.1), (4, .int i), (3, .ref 270), (2, .ref 236), (1, .ref 64), (0, .ref 0)], [.int (xs ((i + 1).toNatClampNeg)), .ref 236], (q_kL (q_pt 172 1 0 206 S r0.1) (c + r0.2.2) (n + 6 * r0.2.2)))) rfl rfl hx1 ?_
  refine q_Ru_seg (g2 := (1021, [(5, .int r0.2.1), (4, .int i), (3, .ref 270), (2, .ref 236), (1, .ref 64), (0, .ref 0)], [.int (i + 2), .ref 0, .int (xs ((i + 1).toNatClampNeg)), .ref 236], (q_kL (q_pt 172 1 0 206 S r0.1) (c + r0.2.2) (n + 6 * r0.2.2)))) 4 (fun _ _ => rfl) ?_
  refine q_Ru_rsT (g2 := (1022, [(5, .int r0.2.1), (4, .int i), (3, .ref 270), (2, .ref 236), (1, .ref 64), (0, .ref 0)], [.int (xs ((i + 2).toNatClampNeg)), .int (xs ((i + 1).toNatClampNeg)), .ref 236], (q_kL (q_pt 172 1 0 206 S r0.1) (c + r0.2.2) (n + 6 * r0.2.2)))) rfl rfl hx2 ?_
  refine q_Ru_seg (g2 := (1027, [(5, .int r0.2.1), (4, .int i), (3, .ref 270), (2, .ref 236), (1, .ref 64), (0, .ref 0)], [.int (i + 3), .ref 0, .int (xs ((i + 2).toNatClampNeg)), .int (xs ((i + 1).toNatClampNeg)), .ref 236], (q_kL (q_pt 172 1 0 206 S r0.1) (c + r0.2.2) (n + 6 * r0.2.2)))) 4 (fun _ _ => rfl) ?_
  refine q_Ru_rsT (g2 := (1028, [(5, .int r0.2.1), (4, .int i), (3, .ref 270), (2, .ref 236), (1, .ref 64), (0, .ref 0)], [.int (xs ((i + 3).toNatClampNeg)), .int (xs ((i + 2).toNatClampNeg)), .int (xs ((i + 1).toNatClampNeg)), .ref 236], (q_kL (q_pt 172 1 0 206 S r0.1) (c + r0.2.2) (n + 6 * r0.2.2)))) rfl rfl hx3 ?_
  refine q_Ru_rsF (g2 := (1031, [(5, .int r0.2.1), (4, .int i), (3, .ref 270), (2, .ref 236), (1, .ref 64), (0, .ref 0)], [.int (xs ((i + 2).toNatClampNeg)), .int (xs ((i + 1).toNatClampNeg)), .ref 236], (q_kL (q_pt 172 1 0 206 S r0.1) (c + r0.2.2) (n + 6 * r0.2.2)))) rfl rfl hc0 ?_
  refine q_Ru_seg (g2 := (1036, [(5, .int r0.2.1), (4, .int i), (3, .ref 270), (2, .ref 236), (1, .ref 64), (0, .ref 0)], [.int 1, .int (xs ((i + 2).toNatClampNeg)), .int (xs ((i + 1).toNatClampNeg)), .ref 236], (q_kL (q_pt 172 1 0 206 S r0.1) (c + r0.2.2) (n + 6 * r0.2.2)))) 2 (fun _ _ => rfl) ?_
  refine q_Ru_call (v := (some (.int (q_b r1.2)))) (h2 := (q_kL (q_pt 34 0 172 0 (q_pt 172 1 0 206 S r0.1) r1.1) (c + r0.2.2) (n + 6 * r0.2.2))) rfl rfl ?_ ?_
  · exact (q_emML rfl (fun _ => rfl) ((dzt_M298_64 (q_vw 34 172 0 (q_pt 172 1 0 206 S r0.1)) (c + r0.2.2) (n + 6 * r0.2.2) (xs ((i + 1).toNatClampNeg)) (xs ((i + 2).toNatClampNeg)) 1 r1 er1).tb q_TB0_le)).le (Nat.le_of_ble_eq_true rfl)
  show q_Ru _ _ _ (1039, [(5, .int r0.2.1), (4, .int i), (3, .ref 270), (2, .ref 236), (1, .ref 64), (0, .ref 0)], [.int (q_b r1.2)], (q_kL (q_pt 34 0 172 0 (q_pt 172 1 0 206 S r0.1) r1.1) (c + r0.2.2) (n + 6 * r0.2.2))) _
  refine q_Ru_seg (g2 := (23, [(4, .int (i + 4)), (6, .int (q_b r1.2)), (5, .int r0.2.1), (3, .ref 270), (2, .ref 236), (1, .ref 64), (0, .ref 0)], [], (q_kL (q_pt 34 0 172 0 (q_pt 172 1 0 206 S r0.1) r1.1) (c + r0.2.2) (n + 6 * r0.2.2)))) 4 (fun _ _ => rfl) ?_
  exact q_Ru_xt (q_xt_mk (q_mn1 0 rfl (q_mn1 3 rfl (q_mn1 4 rfl (q_mn1 5 rfl (q_mn1 6 rfl q_mn0))))) rfl) h
set_option maxHeartbeats 4000000 in
theorem q_lw27 (z L : Nat) (xs : Nat → Int32) (S : q_S) (c n : Nat) (i : Int32) (hx0 : q_in i L = true) (hx1 : q_in (i + 1) L = true) (hx2 : q_in (i + 2) L = true) (hx3 : q_in (i + 3) L = true) (hi : decide (Int32.ofNat L - 4 < i) = false) (hv : xs i.toNatClampNeg &&& 63 = 27) (r0 : q_S × Int32 × Nat) (er0 : dz_X19_64_236 (q_vw 172 0 206 S) (xs ((i + 1).toNatClampNeg)) = r0) (r1 : q_S × Int32) (er1 : dz_M299_64 (q_vw 34 172 0 (q_pt 172 1 0 206 S r0.1)) (xs ((i + 1).toNatClampNeg)) = some r1) {o : q_Out} (h : q_Ru (q_TBs z L xs) 20 376 (23, [(4, .int (i + 4)), (3, .ref 270), (2, .ref 236), (1, .ref 64), (0, .ref 0)], [], (q_kL (q_pt 34 0 172 0 (q_pt 172 1 0 206 S r0.1) r1.1) (c + r0.2.2) (n + 6 * r0.2.2))) o) : q_Ru (q_TBs z L xs) 20 376 (23, [(4, .int i), (3, .ref 270), (2, .ref 236), (1, .ref 64), (0, .ref 0)], [], (q_kL S c n)) o := by
  refine q_Ru_seg (g2 := (29, [(4, .int i), (3, .ref 270), (2, .ref 236), (1, .ref 64), (0, .ref 0)], [.int ((Int32.ofNat L) - 4), .int i], (q_kL S c n))) 5 (fun _ _ => rfl) ?_
  refine q_Ru_rsF (g2 := (32, [(4, .int i), (3, .ref 270), (2, .ref 236), (1, .ref 64), (0, .ref 0)], [], (q_kL S c n))) rfl rfl hi ?_
  refine q_Ru_seg (g2 := (35, [(4, .int i), (3, .ref 270), (2, .ref 236), (1, .ref 64), (0, .ref 0)], [.int i, .ref 0], (q_kL S c n))) 2 (fun _ _ => rfl) ?_
  refine q_Ru_rsT (g2 := (36, [(4, .int i), (3, .ref 270), (2, .ref 236), (1, .ref 64), (0, .ref 0)], [.int (xs (i.toNatClampNeg))], (q_kL S c n))) rfl rfl hx0 ?_
  refine q_Ru_seg (g2 := (39, [(4, .int i), (3, .ref 270), (2, .ref 236), (1, .ref 64), (0, .ref 0)], [.int ((xs (i.toNatClampNeg)) &&& 63)], (q_kL S c n))) 2 (fun _ _ => rfl) ?_
  rw [hv]
  refine q_Ru_seg (g2 := (1050, [(4, .int i), (3, .ref 270), (2, .ref 236), (1, .ref 64), (0, .ref 0)], [.int (i + 1), .ref 0, .ref 64], (q_kL S c n))) 6 (fun _ _ => rfl) ?_
  refine q_Ru_rsT (g2 := (1051, [(4, .int i), (3, .ref 270), (2, .ref 236), (1, .ref 64), (0, .ref 0)], [.int (xs ((i + 1).toNatClampNeg)), .ref 64], (q_kL S c n))) rfl rfl hx1 ?_
  refine q_Ru_seg (g2 := (1052, [(4, .int i), (3, .ref 270), (2, .ref 236), (1, .ref 64), (0, .ref 0)], [.ref 270, .int (xs ((i + 1).toNatClampNeg)), .ref 64], (q_kL S c n))) 1 (fun _ _ => rfl) ?_
  refine q_Ru_call (v := (some (.int r0.2.1))) (h2 := (q_kL (q_pt 172 1 0 206 S r0.1) (c + r0.2.2) (n + 6 * r0.2.2))) rfl rfl ?_ ?_
  · exact (q_emXL rfl (fun _ => rfl) (q_cE (φ := (q_oEX c n)) er0 (dzt_X19_64_236 z L xs (q_vw 172 0 206 S) c n (xs ((i + 1).toNatClampNeg))))).le (Nat.le_of_ble_eq_true rfl)
  show q_Ru _ _ _ (1055, [(4, .int i), (3, .ref 270), (2, .ref 236), (1, .ref 64), (0, .ref 0)], [.int r0.2.1], (q_kL (q_pt 172 1 0 206 S r0.1) (c + r0.2.2) (n + 6 * r0.2.2))) _
  refine q_Ru_seg (g2 := (1063, [(5, .int r0.2.1), (4, .int i), (3, .ref 270), (2, .ref 236), (1, .ref 64), (0, .ref 0)], [.int (i + 1), .ref 0, .ref 236], (q_kL (q_pt 172 1 0 206 S r0.1) (c + r0.2.2) (n + 6 * r0.2.2)))) 6 (fun _ _ => rfl) ?_
  refine q_Ru_rsT (g2 := (1064, [(5, .int r0.2.1), (4, .int i), (3, .ref 270), (2, .ref 236), (1, .ref 64), (0, .ref 0)], [.int (xs ((i + 1).toNatClampNeg)), .ref 236], (q_kL (q_pt 172 1 0 206 S r0.1) (c + r0.2.2) (n + 6 * r0.2.2)))) rfl rfl hx1 ?_
  refine q_Ru_call (v := (some (.int r1.2))) (h2 := (q_kL (q_pt 34 0 172 0 (q_pt 172 1 0 206 S r0.1) r1.1) (c + r0.2.2) (n + 6 * r0.2.2))) rfl rfl ?_ ?_
  · exact (q_emML rfl (fun _ => rfl) ((dzt_M299_64 (q_vw 34 172 0 (q_pt 172 1 0 206 S r0.1)) (c + r0.2.2) (n + 6 * r0.2.2) (xs ((i + 1).toNatClampNeg)) r1 er1).tb q_TB0_le)).le (Nat.le_of_ble_eq_true rfl)
  show q_Ru _ _ _ (1067, [(5, .int r0.2.1), (4, .int i), (3, .ref 270), (2, .ref 236), (1, .ref 64), (0, .ref 0)], [.int r1.2], (q_kL (q_pt 34 0 172 0 (q_pt 172 1 0 206 S r0.1) r1.1) (c + r0.2.2) (n + 6 * r0.2.2))) _
  refine q_Ru_seg (g2 := (23, [(4, .int (i + 4)), (6, .int r1.2), (5, .int r0.2.1), (3, .ref 270), (2, .ref 236), (1, .ref 64), (0, .ref 0)], [], (q_kL (q_pt 34 0 172 0 (q_pt 172 1 0 206 S r0.1) r1.1) (c + r0.2.2) (n + 6 * r0.2.2)))) 4 (fun _ _ => rfl) ?_
  exact q_Ru_xt (q_xt_mk (q_mn1 0 rfl (q_mn1 3 rfl (q_mn1 4 rfl (q_mn1 5 rfl (q_mn1 6 rfl q_mn0))))) rfl) h
set_option maxHeartbeats 4000000 in
theorem q_lw28 (z L : Nat) (xs : Nat → Int32) (S : q_S) (c n : Nat) (i : Int32) (hx0 : q_in i L = true) (hx1 : q_in (i + 1) L = true) (hx2 : q_in (i + 2) L = true) (hx3 : q_in (i + 3) L = true) (hi : decide (Int32.ofNat L - 4 < i) = false) (hv : xs i.toNatClampNeg &&& 63 = 28) (r0 : q_S × Int32 × Nat) (er0 : dz_X20_64_236 (q_vw 172 0 206 S) (xs ((i + 1).toNatClampNeg)) = some r0) (r1 : q_S × Int32) (er1 : dz_M300_64 (q_vw 34 172 0 (q_pt 172 1 0 206 S r0.1)) (xs ((i + 1).toNatClampNeg)) = r1) {o : q_Out} (h : q_Ru (q_TBs z L xs) 20 376 (23, [(4, .int (i + 4)), (3, .ref 270), (2, .ref 236), (1, .ref 64), (0, .ref 0)], [], (q_kL (q_pt 34 0 172 0 (q_pt 172 1 0 206 S r0.1) r1.1) (c + r0.2.2) (n + 6 * r0.2.2))) o) : q_Ru (q_TBs z L xs) 20 376 (23, [(4, .int i), (3, .ref 270), (2, .ref 236), (1, .ref 64), (0, .ref 0)], [], (q_kL S c n)) o := by
  refine q_Ru_seg (g2 := (29, [(4, .int i), (3, .ref 270), (2, .ref 236), (1, .ref 64), (0, .ref 0)], [.int ((Int32.ofNat L) - 4), .int i], (q_kL S c n))) 5 (fun _ _ => rfl) ?_
  refine q_Ru_rsF (g2 := (32, [(4, .int i), (3, .ref 270), (2, .ref 236), (1, .ref 64), (0, .ref 0)], [], (q_kL S c n))) rfl rfl hi ?_
  refine q_Ru_seg (g2 := (35, [(4, .int i), (3, .ref 270), (2, .ref 236), (1, .ref 64), (0, .ref 0)], [.int i, .ref 0], (q_kL S c n))) 2 (fun _ _ => rfl) ?_
  refine q_Ru_rsT (g2 := (36, [(4, .int i), (3, .ref 270), (2, .ref 236), (1, .ref 64), (0, .ref 0)], [.int (xs (i.toNatClampNeg))], (q_kL S c n))) rfl rfl hx0 ?_
  refine q_Ru_seg (g2 := (39, [(4, .int i), (3, .ref 270), (2, .ref 236), (1, .ref 64), (0, .ref 0)], [.int ((xs (i.toNatClampNeg)) &&& 63)], (q_kL S c n))) 2 (fun _ _ => rfl) ?_
  rw [hv]
  refine q_Ru_seg (g2 := (1078, [(4, .int i), (3, .ref 270), (2, .ref 236), (1, .ref 64), (0, .ref 0)], [.int (i + 1), .ref 0, .ref 64], (q_kL S c n))) 6 (fun _ _ => rfl) ?_
  refine q_Ru_rsT (g2 := (1079, [(4, .int i), (3, .ref 270), (2, .ref 236), (1, .ref 64), (0, .ref 0)], [.int (xs ((i + 1).toNatClampNeg)), .ref 64], (q_kL S c n))) rfl rfl hx1 ?_
  refine q_Ru_seg (g2 := (1080, [(4, .int i), (3, .ref 270), (2, .ref 236), (1, .ref 64), (0, .ref 0)], [.ref 270, .int (xs ((i + 1).toNatClampNeg)), .ref 64], (q_kL S c n))) 1 (fun _ _ => rfl) ?_
  refine q_Ru_call (v := (some (.int r0.2.1))) (h2 := (q_kL (q_pt 172 1 0 206 S r0.1) (c + r0.2.2) (n + 6 * r0.2.2))) rfl rfl ?_ ?_
  · exact (q_emXL rfl (fun _ => rfl) (dzt_X20_64_236 z L xs (q_vw 172 0 206 S) c n (xs ((i + 1).toNatClampNeg)) r0 er0)).le (Nat.le_of_ble_eq_true rfl)
  show q_Ru _ _ _ (1083, [(4, .int i), (3, .ref 270), (2, .ref 236), (1, .ref 64), (0, .ref 0)], [.int r0.2.1], (q_kL (q_pt 172 1 0 206 S r0.1) (c + r0.2.2) (n + 6 * r0.2.2))) _
  refine q_Ru_seg (g2 := (1091, [(5, .int r0.2.1), (4, .int i), (3, .ref 270), (2, .ref 236), (1, .ref 64), (0, .ref 0)], [.int (i + 1), .ref 0, .ref 236], (q_kL (q_pt 172 1 0 206 S r0.1) (c + r0.2.2) (n + 6 * r0.2.2)))) 6 (fun _ _ => rfl) ?_
  refine q_Ru_rsT (g2 := (1092, [(5, .int r0.2.1), (4, .int i), (3, .ref 270), (2, .ref 236), (1, .ref 64), (0, .ref 0)], [.int (xs ((i + 1).toNatClampNeg)), .ref 236], (q_kL (q_pt 172 1 0 206 S r0.1) (c + r0.2.2) (n + 6 * r0.2.2)))) rfl rfl hx1 ?_
  refine q_Ru_call (v := (some (.int r1.2))) (h2 := (q_kL (q_pt 34 0 172 0 (q_pt 172 1 0 206 S r0.1) r1.1) (c + r0.2.2) (n + 6 * r0.2.2))) rfl rfl ?_ ?_
  · exact (q_emML rfl (fun _ => rfl) ((q_cE (φ := (q_oIM (c + r0.2.2) (n + 6 * r0.2.2))) er1 (dzt_M300_64 (q_vw 34 172 0 (q_pt 172 1 0 206 S r0.1)) (c + r0.2.2) (n + 6 * r0.2.2) (xs ((i + 1).toNatClampNeg)))).tb q_TB0_le)).le (Nat.le_of_ble_eq_true rfl)
  show q_Ru _ _ _ (1095, [(5, .int r0.2.1), (4, .int i), (3, .ref 270), (2, .ref 236), (1, .ref 64), (0, .ref 0)], [.int r1.2], (q_kL (q_pt 34 0 172 0 (q_pt 172 1 0 206 S r0.1) r1.1) (c + r0.2.2) (n + 6 * r0.2.2))) _
  refine q_Ru_seg (g2 := (23, [(4, .int (i + 4)), (6, .int r1.2), (5, .int r0.2.1), (3, .ref 270), (2, .ref 236), (1, .ref 64), (0, .ref 0)], [], (q_kL (q_pt 34 0 172 0 (q_pt 172 1 0 206 S r0.1) r1.1) (c + r0.2.2) (n + 6 * r0.2.2)))) 4 (fun _ _ => rfl) ?_
  exact q_Ru_xt (q_xt_mk (q_mn1 0 rfl (q_mn1 3 rfl (q_mn1 4 rfl (q_mn1 5 rfl (q_mn1 6 rfl q_mn0))))) rfl) h
set_option maxHeartbeats 4000000 in
theorem q_lw29 (z L : Nat) (xs : Nat → Int32) (S : q_S) (c n : Nat) (i : Int32) (hx0 : q_in i L = true) (hx1 : q_in (i + 1) L = true) (hx2 : q_in (i + 2) L = true) (hx3 : q_in (i + 3) L = true) (hi : decide (Int32.ofNat L - 4 < i) = false) (hv : xs i.toNatClampNeg &&& 63 = 29) (r0 : q_S × Int32 × Nat) (er0 : dz_X21_64_236 (q_vw 172 0 206 S) (xs ((i + 1).toNatClampNeg)) = some r0) (r1 : q_S × Int32) (er1 : dz_M301_64 (q_vw 34 172 0 (q_pt 172 1 0 206 S r0.1)) (xs ((i + 1).toNatClampNeg)) = some r1) {o : q_Out} (h : q_Ru (q_TBs z L xs) 20 376 (23, [(4, .int (i + 4)), (3, .ref 270), (2, .ref 236), (1, .ref 64), (0, .ref 0)], [], (q_kL (q_pt 34 0 172 0 (q_pt 172 1 0 206 S r0.1) r1.1) (c + r0.2.2) (n + 6 * r0.2.2))) o) : q_Ru (q_TBs z L xs) 20 376 (23, [(4, .int i), (3, .ref 270), (2, .ref 236), (1, .ref 64), (0, .ref 0)], [], (q_kL S c n)) o := by
  refine q_Ru_seg (g2 := (29, [(4, .int i), (3, .ref 270), (2, .ref 236), (1, .ref 64), (0, .ref 0)], [.int ((Int32.ofNat L) - 4), .int i], (q_kL S c n))) 5 (fun _ _ => rfl) ?_
  refine q_Ru_rsF (g2 := (32, [(4, .int i), (3, .ref 270), (2, .ref 236), (1, .ref 64), (0, .ref 0)], [], (q_kL S c n))) rfl rfl hi ?_
  refine q_Ru_seg (g2 := (35, [(4, .int i), (3, .ref 270), (2, .ref 236), (1, .ref 64), (0, .ref 0)], [.int i, .ref 0], (q_kL S c n))) 2 (fun _ _ => rfl) ?_
  refine q_Ru_rsT (g2 := (36, [(4, .int i), (3, .ref 270), (2, .ref 236), (1, .ref 64), (0, .ref 0)], [.int (xs (i.toNatClampNeg))], (q_kL S c n))) rfl rfl hx0 ?_
  refine q_Ru_seg (g2 := (39, [(4, .int i), (3, .ref 270), (2, .ref 236), (1, .ref 64), (0, .ref 0)], [.int ((xs (i.toNatClampNeg)) &&& 63)], (q_kL S c n))) 2 (fun _ _ => rfl) ?_
  rw [hv]
  refine q_Ru_seg (g2 := (1106, [(4, .int i), (3, .ref 270), (2, .ref 236), (1, .ref 64), (0, .ref 0)], [.int (i + 1), .ref 0, .ref 64], (q_kL S c n))) 6 (fun _ _ => rfl) ?_
  refine q_Ru_rsT (g2 := (1107, [(4, .int i), (3, .ref 270), (2, .ref 236), (1, .ref 64), (0, .ref 0)], [.int (xs ((i + 1).toNatClampNeg)), .ref 64], (q_kL S c n))) rfl rfl hx1 ?_
  refine q_Ru_seg (g2 := (1108, [(4, .int i), (3, .ref 270), (2, .ref 236), (1, .ref 64), (0, .ref 0)], [.ref 270, .int (xs ((i + 1).toNatClampNeg)), .ref 64], (q_kL S c n))) 1 (fun _ _ => rfl) ?_
  refine q_Ru_call (v := (some (.int r0.2.1))) (h2 := (q_kL (q_pt 172 1 0 206 S r0.1) (c + r0.2.2) (n + 6 * r0.2.2))) rfl rfl ?_ ?_
  · exact (q_emXL rfl (fun _ => rfl) (dzt_X21_64_236 z L xs (q_vw 172 0 206 S) c n (xs ((i + 1).toNatClampNeg)) r0 er0)).le (Nat.le_of_ble_eq_true rfl)
  show q_Ru _ _ _ (1111, [(4, .int i), (3, .ref 270), (2, .ref 236), (1, .ref 64), (0, .ref 0)], [.int r0.2.1], (q_kL (q_pt 172 1 0 206 S r0.1) (c + r0.2.2) (n + 6 * r0.2.2))) _
  refine q_Ru_seg (g2 := (1119, [(5, .int r0.2.1), (4, .int i), (3, .ref 270), (2, .ref 236), (1, .ref 64), (0, .ref 0)], [.int (i + 1), .ref 0, .ref 236], (q_kL (q_pt 172 1 0 206 S r0.1) (c + r0.2.2) (n + 6 * r0.2.2)))) 6 (fun _ _ => rfl) ?_
  refine q_Ru_rsT (g2 := (1120, [(5, .int r0.2.1), (4, .int i), (3, .ref 270), (2, .ref 236), (1, .ref 64), (0, .ref 0)], [.int (xs ((i + 1).toNatClampNeg)), .ref 236], (q_kL (q_pt 172 1 0 206 S r0.1) (c + r0.2.2) (n + 6 * r0.2.2)))) rfl rfl hx1 ?_
  refine q_Ru_call (v := (some (.int r1.2))) (h2 := (q_kL (q_pt 34 0 172 0 (q_pt 172 1 0 206 S r0.1) r1.1) (c + r0.2.2) (n + 6 * r0.2.2))) rfl rfl ?_ ?_
  · exact (q_emML rfl (fun _ => rfl) ((dzt_M301_64 (q_vw 34 172 0 (q_pt 172 1 0 206 S r0.1)) (c + r0.2.2) (n + 6 * r0.2.2) (xs ((i + 1).toNatClampNeg)) r1 er1).tb q_TB0_le)).le (Nat.le_of_ble_eq_true rfl)
  show q_Ru _ _ _ (1123, [(5, .int r0.2.1), (4, .int i), (3, .ref 270), (2, .ref 236), (1, .ref 64), (0, .ref 0)], [.int r1.2], (q_kL (q_pt 34 0 172 0 (q_pt 172 1 0 206 S r0.1) r1.1) (c + r0.2.2) (n + 6 * r0.2.2))) _
  refine q_Ru_seg (g2 := (23, [(4, .int (i + 4)), (6, .int r1.2), (5, .int r0.2.1), (3, .ref 270), (2, .ref 236), (1, .ref 64), (0, .ref 0)], [], (q_kL (q_pt 34 0 172 0 (q_pt 172 1 0 206 S r0.1) r1.1) (c + r0.2.2) (n + 6 * r0.2.2)))) 4 (fun _ _ => rfl) ?_
  exact q_Ru_xt (q_xt_mk (q_mn1 0 rfl (q_mn1 3 rfl (q_mn1 4 rfl (q_mn1 5 rfl (q_mn1 6 rfl q_mn0))))) rfl) h
set_option maxHeartbeats 4000000 in
theorem q_lw30 (z L : Nat) (xs : Nat → Int32) (S : q_S) (c n : Nat) (i : Int32) (hx0 : q_in i L = true) (hx1 : q_in (i + 1) L = true) (hx2 : q_in (i + 2) L = true) (hx3 : q_in (i + 3) L = true) (hi : decide (Int32.ofNat L - 4 < i) = false) (hv : xs i.toNatClampNeg &&& 63 = 30) (r0 : q_S × Int32) (er0 : dz_X58_64 (q_vw 172 0 206 S) = some r0) (r1 : q_S × Int32) (er1 : dz_M302_64 (q_vw 34 172 0 (q_pt 172 1 0 206 S r0.1)) = r1) {o : q_Out} (h : q_Ru (q_TBs z L xs) 20 376 (23, [(4, .int (i + 4)), (3, .ref 270), (2, .ref 236), (1, .ref 64), (0, .ref 0)], [], (q_kL (q_pt 34 0 172 0 (q_pt 172 1 0 206 S r0.1) r1.1) c n)) o) : q_Ru (q_TBs z L xs) 20 376 (23, [(4, .int i), (3, .ref 270), (2, .ref 236), (1, .ref 64), (0, .ref 0)], [], (q_kL S c n)) o := by
  refine q_Ru_seg (g2 := (29, [(4, .int i), (3, .ref 270), (2, .ref 236), (1, .ref 64), (0, .ref 0)], [.int ((Int32.ofNat L) - 4), .int i], (q_kL S c n))) 5 (fun _ _ => rfl) ?_
  refine q_Ru_rsF (g2 := (32, [(4, .int i), (3, .ref 270), (2, .ref 236), (1, .ref 64), (0, .ref 0)], [], (q_kL S c n))) rfl rfl hi ?_
  refine q_Ru_seg (g2 := (35, [(4, .int i), (3, .ref 270), (2, .ref 236), (1, .ref 64), (0, .ref 0)], [.int i, .ref 0], (q_kL S c n))) 2 (fun _ _ => rfl) ?_
  refine q_Ru_rsT (g2 := (36, [(4, .int i), (3, .ref 270), (2, .ref 236), (1, .ref 64), (0, .ref 0)], [.int (xs (i.toNatClampNeg))], (q_kL S c n))) rfl rfl hx0 ?_
  refine q_Ru_seg (g2 := (39, [(4, .int i), (3, .ref 270), (2, .ref 236), (1, .ref 64), (0, .ref 0)], [.int ((xs (i.toNatClampNeg)) &&& 63)], (q_kL S c n))) 2 (fun _ _ => rfl) ?_
  rw [hv]
  refine q_Ru_seg (g2 := (1129, [(4, .int i), (3, .ref 270), (2, .ref 236), (1, .ref 64), (0, .ref 0)], [.ref 64], (q_kL S c n))) 2 (fun _ _ => rfl) ?_
  refine q_Ru_call (v := (some (.int r0.2))) (h2 := (q_kL (q_pt 172 1 0 206 S r0.1) c n)) rfl rfl ?_ ?_
  · exact (q_emXL rfl (fun _ => rfl) (dzt_X58_64 z L xs (q_vw 172 0 206 S) c n r0 er0)).le (Nat.le_of_ble_eq_true rfl)
  show q_Ru _ _ _ (1132, [(4, .int i), (3, .ref 270), (2, .ref 236), (1, .ref 64), (0, .ref 0)], [.int r0.2], (q_kL (q_pt 172 1 0 206 S r0.1) c n)) _
  refine q_Ru_seg (g2 := (1134, [(4, .int i), (3, .ref 270), (2, .ref 236), (1, .ref 64), (0, .ref 0)], [.ref 236], (q_kL (q_pt 172 1 0 206 S r0.1) c n))) 2 (fun _ _ => rfl) ?_
  refine q_Ru_call (v := (some (.int r1.2))) (h2 := (q_kL (q_pt 34 0 172 0 (q_pt 172 1 0 206 S r0.1) r1.1) c n)) rfl rfl ?_ ?_
  · exact (q_emML rfl (fun _ => rfl) ((q_cE (φ := (q_oIM c n)) er1 (dzt_M302_64 (q_vw 34 172 0 (q_pt 172 1 0 206 S r0.1)) c n)).tb q_TB0_le)).le (Nat.le_of_ble_eq_true rfl)
  show q_Ru _ _ _ (1137, [(4, .int i), (3, .ref 270), (2, .ref 236), (1, .ref 64), (0, .ref 0)], [.int r1.2], (q_kL (q_pt 34 0 172 0 (q_pt 172 1 0 206 S r0.1) r1.1) c n)) _
  refine q_Ru_seg (g2 := (23, [(4, .int (i + 4)), (3, .ref 270), (2, .ref 236), (1, .ref 64), (0, .ref 0)], [], (q_kL (q_pt 34 0 172 0 (q_pt 172 1 0 206 S r0.1) r1.1) c n))) 4 (fun _ _ => rfl) ?_
  exact q_Ru_xt (q_xt_mk (q_mn1 0 rfl (q_mn1 1 rfl (q_mn1 2 rfl (q_mn1 3 rfl (q_mn1 4 rfl q_mn0))))) rfl) h
set_option maxHeartbeats 4000000 in
theorem q_lw31 (z L : Nat) (xs : Nat → Int32) (S : q_S) (c n : Nat) (i : Int32) (hx0 : q_in i L = true) (hx1 : q_in (i + 1) L = true) (hx2 : q_in (i + 2) L = true) (hx3 : q_in (i + 3) L = true) (hi : decide (Int32.ofNat L - 4 < i) = false) (hv : xs i.toNatClampNeg &&& 63 = 31) (r0 : q_S × Int32) (er0 : dz_M303_64 (q_vw 34 172 0 S) = r0) {o : q_Out} (h : q_Ru (q_TBs z L xs) 20 376 (23, [(4, .int (i + 4)), (3, .ref 270), (2, .ref 236), (1, .ref 64), (0, .ref 0)], [], (q_kL (q_pt 34 0 172 0 S r0.1) c n)) o) : q_Ru (q_TBs z L xs) 20 376 (23, [(4, .int i), (3, .ref 270), (2, .ref 236), (1, .ref 64), (0, .ref 0)], [], (q_kL S c n)) o := by
  refine q_Ru_seg (g2 := (29, [(4, .int i), (3, .ref 270), (2, .ref 236), (1, .ref 64), (0, .ref 0)], [.int ((Int32.ofNat L) - 4), .int i], (q_kL S c n))) 5 (fun _ _ => rfl) ?_
  refine q_Ru_rsF (g2 := (32, [(4, .int i), (3, .ref 270), (2, .ref 236), (1, .ref 64), (0, .ref 0)], [], (q_kL S c n))) rfl rfl hi ?_
  refine q_Ru_seg (g2 := (35, [(4, .int i), (3, .ref 270), (2, .ref 236), (1, .ref 64), (0, .ref 0)], [.int i, .ref 0], (q_kL S c n))) 2 (fun _ _ => rfl) ?_
  refine q_Ru_rsT (g2 := (36, [(4, .int i), (3, .ref 270), (2, .ref 236), (1, .ref 64), (0, .ref 0)], [.int (xs (i.toNatClampNeg))], (q_kL S c n))) rfl rfl hx0 ?_
  refine q_Ru_seg (g2 := (39, [(4, .int i), (3, .ref 270), (2, .ref 236), (1, .ref 64), (0, .ref 0)], [.int ((xs (i.toNatClampNeg)) &&& 63)], (q_kL S c n))) 2 (fun _ _ => rfl) ?_
  rw [hv]
  refine q_Ru_seg (g2 := (1142, [(4, .int i), (3, .ref 270), (2, .ref 236), (1, .ref 64), (0, .ref 0)], [.ref 64], (q_kL S c n))) 2 (fun _ _ => rfl) ?_
  refine q_Ru_call (v := (some (.int (dz_X59_64 (q_vw 172 0 206 S))))) (h2 := (q_kL S c n)) rfl rfl ?_ ?_
  · exact (q_emXLp rfl (fun _ => rfl) (dzt_X59_64 z L xs (q_vw 172 0 206 S) c n)).le (Nat.le_of_ble_eq_true rfl)
  show q_Ru _ _ _ (1145, [(4, .int i), (3, .ref 270), (2, .ref 236), (1, .ref 64), (0, .ref 0)], [.int (dz_X59_64 (q_vw 172 0 206 S))], (q_kL S c n)) _
  refine q_Ru_seg (g2 := (1147, [(4, .int i), (3, .ref 270), (2, .ref 236), (1, .ref 64), (0, .ref 0)], [.ref 236], (q_kL S c n))) 2 (fun _ _ => rfl) ?_
  refine q_Ru_call (v := (some (.int r0.2))) (h2 := (q_kL (q_pt 34 0 172 0 S r0.1) c n)) rfl rfl ?_ ?_
  · exact (q_emML rfl (fun _ => rfl) ((q_cE (φ := (q_oIM c n)) er0 (dzt_M303_64 (q_vw 34 172 0 S) c n)).tb q_TB0_le)).le (Nat.le_of_ble_eq_true rfl)
  show q_Ru _ _ _ (1150, [(4, .int i), (3, .ref 270), (2, .ref 236), (1, .ref 64), (0, .ref 0)], [.int r0.2], (q_kL (q_pt 34 0 172 0 S r0.1) c n)) _
  refine q_Ru_seg (g2 := (23, [(4, .int (i + 4)), (3, .ref 270), (2, .ref 236), (1, .ref 64), (0, .ref 0)], [], (q_kL (q_pt 34 0 172 0 S r0.1) c n))) 4 (fun _ _ => rfl) ?_
  exact q_Ru_xt (q_xt_mk (q_mn1 0 rfl (q_mn1 1 rfl (q_mn1 2 rfl (q_mn1 3 rfl (q_mn1 4 rfl q_mn0))))) rfl) h
set_option maxHeartbeats 4000000 in
theorem q_lw32 (z L : Nat) (xs : Nat → Int32) (S : q_S) (c n : Nat) (i : Int32) (hx0 : q_in i L = true) (hx1 : q_in (i + 1) L = true) (hx2 : q_in (i + 2) L = true) (hx3 : q_in (i + 3) L = true) (hi : decide (Int32.ofNat L - 4 < i) = false) (hv : xs i.toNatClampNeg &&& 63 = 32) (r0 : q_S × Int32 × Nat) (er0 : dz_X22_64_236 (q_vw 172 0 206 S) = some r0) (r1 : q_S × Int32) (er1 : dz_M306_64 (q_vw 34 172 0 (q_pt 172 1 0 206 S r0.1)) = some r1) {o : q_Out} (h : q_Ru (q_TBs z L xs) 20 376 (23, [(4, .int (i + 4)), (3, .ref 270), (2, .ref 236), (1, .ref 64), (0, .ref 0)], [], (q_kL (q_pt 34 0 172 0 (q_pt 172 1 0 206 S r0.1) r1.1) (c + r0.2.2) (n + 6 * r0.2.2))) o) : q_Ru (q_TBs z L xs) 20 376 (23, [(4, .int i), (3, .ref 270), (2, .ref 236), (1, .ref 64), (0, .ref 0)], [], (q_kL S c n)) o := by
  refine q_Ru_seg (g2 := (29, [(4, .int i), (3, .ref 270), (2, .ref 236), (1, .ref 64), (0, .ref 0)], [.int ((Int32.ofNat L) - 4), .int i], (q_kL S c n))) 5 (fun _ _ => rfl) ?_
  refine q_Ru_rsF (g2 := (32, [(4, .int i), (3, .ref 270), (2, .ref 236), (1, .ref 64), (0, .ref 0)], [], (q_kL S c n))) rfl rfl hi ?_
  refine q_Ru_seg (g2 := (35, [(4, .int i), (3, .ref 270), (2, .ref 236), (1, .ref 64), (0, .ref 0)], [.int i, .ref 0], (q_kL S c n))) 2 (fun _ _ => rfl) ?_
  refine q_Ru_rsT (g2 := (36, [(4, .int i), (3, .ref 270), (2, .ref 236), (1, .ref 64), (0, .ref 0)], [.int (xs (i.toNatClampNeg))], (q_kL S c n))) rfl rfl hx0 ?_
  refine q_Ru_seg (g2 := (39, [(4, .int i), (3, .ref 270), (2, .ref 236), (1, .ref 64), (0, .ref 0)], [.int ((xs (i.toNatClampNeg)) &&& 63)], (q_kL S c n))) 2 (fun _ _ => rfl) ?_
  rw [hv]
  refine q_Ru_seg (g2 := (1156, [(4, .int i), (3, .ref 270), (2, .ref 236), (1, .ref 64), (0, .ref 0)], [.ref 270, .ref 64], (q_kL S c n))) 3 (fun _ _ => rfl) ?_
  refine q_Ru_call (v := (some (.int r0.2.1))) (h2 := (q_kL (q_pt 172 1 0 206 S r0.1) (c + r0.2.2) (n + 6 * r0.2.2))) rfl rfl ?_ ?_
  · exact (q_emXL rfl (fun _ => rfl) (dzt_X22_64_236 z L xs (q_vw 172 0 206 S) c n r0 er0)).le (Nat.le_of_ble_eq_true rfl)
  show q_Ru _ _ _ (1159, [(4, .int i), (3, .ref 270), (2, .ref 236), (1, .ref 64), (0, .ref 0)], [.int r0.2.1], (q_kL (q_pt 172 1 0 206 S r0.1) (c + r0.2.2) (n + 6 * r0.2.2))) _
  refine q_Ru_seg (g2 := (1162, [(5, .int r0.2.1), (4, .int i), (3, .ref 270), (2, .ref 236), (1, .ref 64), (0, .ref 0)], [.ref 236], (q_kL (q_pt 172 1 0 206 S r0.1) (c + r0.2.2) (n + 6 * r0.2.2)))) 2 (fun _ _ => rfl) ?_
  refine q_Ru_call (v := (some (.int r1.2))) (h2 := (q_kL (q_pt 34 0 172 0 (q_pt 172 1 0 206 S r0.1) r1.1) (c + r0.2.2) (n + 6 * r0.2.2))) rfl rfl ?_ ?_
  · exact (q_emML rfl (fun _ => rfl) ((dzt_M306_64 (q_vw 34 172 0 (q_pt 172 1 0 206 S r0.1)) (c + r0.2.2) (n + 6 * r0.2.2) r1 er1).tb q_TB0_le)).le (Nat.le_of_ble_eq_true rfl)
  show q_Ru _ _ _ (1165, [(5, .int r0.2.1), (4, .int i), (3, .ref 270), (2, .ref 236), (1, .ref 64), (0, .ref 0)], [.int r1.2], (q_kL (q_pt 34 0 172 0 (q_pt 172 1 0 206 S r0.1) r1.1) (c + r0.2.2) (n + 6 * r0.2.2))) _
  refine q_Ru_seg (g2 := (23, [(4, .int (i + 4)), (6, .int r1.2), (5, .int r0.2.1), (3, .ref 270), (2, .ref 236), (1, .ref 64), (0, .ref 0)], [], (q_kL (q_pt 34 0 172 0 (q_pt 172 1 0 206 S r0.1) r1.1) (c + r0.2.2) (n + 6 * r0.2.2)))) 4 (fun _ _ => rfl) ?_
  exact q_Ru_xt (q_xt_mk (q_mn1 0 rfl (q_mn1 3 rfl (q_mn1 4 rfl (q_mn1 5 rfl (q_mn1 6 rfl q_mn0))))) rfl) h
set_option maxHeartbeats 4000000 in
theorem q_lw33 (z L : Nat) (xs : Nat → Int32) (S : q_S) (c n : Nat) (i : Int32) (hx0 : q_in i L = true) (hx1 : q_in (i + 1) L = true) (hx2 : q_in (i + 2) L = true) (hx3 : q_in (i + 3) L = true) (hi : decide (Int32.ofNat L - 4 < i) = false) (hv : xs i.toNatClampNeg &&& 63 = 33) (r0 : q_S × Int32 × Nat) (er0 : dz_X23_64_236 (q_vw 172 0 206 S) (xs ((i + 1).toNatClampNeg)) = some r0) (r1 : q_S × Int32) (er1 : dz_M308_64 (q_vw 34 172 0 (q_pt 172 1 0 206 S r0.1)) (xs ((i + 1).toNatClampNeg)) = some r1) {o : q_Out} (h : q_Ru (q_TBs z L xs) 20 376 (23, [(4, .int (i + 4)), (3, .ref 270), (2, .ref 236), (1, .ref 64), (0, .ref 0)], [], (q_kL (q_pt 34 0 172 0 (q_pt 172 1 0 206 S r0.1) r1.1) (c + r0.2.2) (n + 6 * r0.2.2))) o) : q_Ru (q_TBs z L xs) 20 376 (23, [(4, .int i), (3, .ref 270), (2, .ref 236), (1, .ref 64), (0, .ref 0)], [], (q_kL S c n)) o := by
  refine q_Ru_seg (g2 := (29, [(4, .int i), (3, .ref 270), (2, .ref 236), (1, .ref 64), (0, .ref 0)], [.int ((Int32.ofNat L) - 4), .int i], (q_kL S c n))) 5 (fun _ _ => rfl) ?_
  refine q_Ru_rsF (g2 := (32, [(4, .int i), (3, .ref 270), (2, .ref 236), (1, .ref 64), (0, .ref 0)], [], (q_kL S c n))) rfl rfl hi ?_
  refine q_Ru_seg (g2 := (35, [(4, .int i), (3, .ref 270), (2, .ref 236), (1, .ref 64), (0, .ref 0)], [.int i, .ref 0], (q_kL S c n))) 2 (fun _ _ => rfl) ?_
  refine q_Ru_rsT (g2 := (36, [(4, .int i), (3, .ref 270), (2, .ref 236), (1, .ref 64), (0, .ref 0)], [.int (xs (i.toNatClampNeg))], (q_kL S c n))) rfl rfl hx0 ?_
  refine q_Ru_seg (g2 := (39, [(4, .int i), (3, .ref 270), (2, .ref 236), (1, .ref 64), (0, .ref 0)], [.int ((xs (i.toNatClampNeg)) &&& 63)], (q_kL S c n))) 2 (fun _ _ => rfl) ?_
  rw [hv]
  refine q_Ru_seg (g2 := (1176, [(4, .int i), (3, .ref 270), (2, .ref 236), (1, .ref 64), (0, .ref 0)], [.int (i + 1), .ref 0, .ref 64], (q_kL S c n))) 6 (fun _ _ => rfl) ?_
  refine q_Ru_rsT (g2 := (1177, [(4, .int i), (3, .ref 270), (2, .ref 236), (1, .ref 64), (0, .ref 0)], [.int (xs ((i + 1).toNatClampNeg)), .ref 64], (q_kL S c n))) rfl rfl hx1 ?_
  refine q_Ru_seg (g2 := (1178, [(4, .int i), (3, .ref 270), (2, .ref 236), (1, .ref 64), (0, .ref 0)], [.ref 270, .int (xs ((i + 1).toNatClampNeg)), .ref 64], (q_kL S c n))) 1 (fun _ _ => rfl) ?_
  refine q_Ru_call (v := (some (.int r0.2.1))) (h2 := (q_kL (q_pt 172 1 0 206 S r0.1) (c + r0.2.2) (n + 6 * r0.2.2))) rfl rfl ?_ ?_
  · exact (q_emXL rfl (fun _ => rfl) (dzt_X23_64_236 z L xs (q_vw 172 0 206 S) c n (xs ((i + 1).toNatClampNeg)) r0 er0)).le (Nat.le_of_ble_eq_true rfl)
  show q_Ru _ _ _ (1181, [(4, .int i), (3, .ref 270), (2, .ref 236), (1, .ref 64), (0, .ref 0)], [.int r0.2.1], (q_kL (q_pt 172 1 0 206 S r0.1) (c + r0.2.2) (n + 6 * r0.2.2))) _
  refine q_Ru_seg (g2 := (1189, [(5, .int r0.2.1), (4, .int i), (3, .ref 270), (2, .ref 236), (1, .ref 64), (0, .ref 0)], [.int (i + 1), .ref 0, .ref 236], (q_kL (q_pt 172 1 0 206 S r0.1) (c + r0.2.2) (n + 6 * r0.2.2)))) 6 (fun _ _ => rfl) ?_
  refine q_Ru_rsT (g2 := (1190, [(5, .int r0.2.1), (4, .int i), (3, .ref 270), (2, .ref 236), (1, .ref 64), (0, .ref 0)], [.int (xs ((i + 1).toNatClampNeg)), .ref 236], (q_kL (q_pt 172 1 0 206 S r0.1) (c + r0.2.2) (n + 6 * r0.2.2)))) rfl rfl hx1 ?_
  refine q_Ru_call (v := (some (.int r1.2))) (h2 := (q_kL (q_pt 34 0 172 0 (q_pt 172 1 0 206 S r0.1) r1.1) (c + r0.2.2) (n + 6 * r0.2.2))) rfl rfl ?_ ?_
  · exact (q_emML rfl (fun _ => rfl) ((dzt_M308_64 (q_vw 34 172 0 (q_pt 172 1 0 206 S r0.1)) (c + r0.2.2) (n + 6 * r0.2.2) (xs ((i + 1).toNatClampNeg)) r1 er1).tb q_TB0_le)).le (Nat.le_of_ble_eq_true rfl)
  show q_Ru _ _ _ (1193, [(5, .int r0.2.1), (4, .int i), (3, .ref 270), (2, .ref 236), (1, .ref 64), (0, .ref 0)], [.int r1.2], (q_kL (q_pt 34 0 172 0 (q_pt 172 1 0 206 S r0.1) r1.1) (c + r0.2.2) (n + 6 * r0.2.2))) _
  refine q_Ru_seg (g2 := (23, [(4, .int (i + 4)), (6, .int r1.2), (5, .int r0.2.1), (3, .ref 270), (2, .ref 236), (1, .ref 64), (0, .ref 0)], [], (q_kL (q_pt 34 0 172 0 (q_pt 172 1 0 206 S r0.1) r1.1) (c + r0.2.2) (n + 6 * r0.2.2)))) 4 (fun _ _ => rfl) ?_
  exact q_Ru_xt (q_xt_mk (q_mn1 0 rfl (q_mn1 3 rfl (q_mn1 4 rfl (q_mn1 5 rfl (q_mn1 6 rfl q_mn0))))) rfl) h
set_option maxHeartbeats 4000000 in
theorem q_lw34 (z L : Nat) (xs : Nat → Int32) (S : q_S) (c n : Nat) (i : Int32) (hx0 : q_in i L = true) (hx1 : q_in (i + 1) L = true) (hx2 : q_in (i + 2) L = true) (hx3 : q_in (i + 3) L = true) (hi : decide (Int32.ofNat L - 4 < i) = false) (hv : xs i.toNatClampNeg &&& 63 = 34) (r0 : q_S × Int32 × Nat) (er0 : dz_X24_64_236 (q_vw 172 0 206 S) (xs ((i + 1).toNatClampNeg)) = some r0) (r1 : q_S × Int32) (er1 : dz_M309_64 (q_vw 34 172 0 (q_pt 172 1 0 206 S r0.1)) (xs ((i + 1).toNatClampNeg)) = some r1) {o : q_Out} (h : q_Ru (q_TBs z L xs) 20 376 (23, [(4, .int (i + 4)), (3, .ref 270), (2, .ref 236), (1, .ref 64), (0, .ref 0)], [], (q_kL (q_pt 34 0 172 0 (q_pt 172 1 0 206 S r0.1) r1.1) (c + r0.2.2) (n + 6 * r0.2.2))) o) : q_Ru (q_TBs z L xs) 20 376 (23, [(4, .int i), (3, .ref 270), (2, .ref 236), (1, .ref 64), (0, .ref 0)], [], (q_kL S c n)) o := by
  refine q_Ru_seg (g2 := (29, [(4, .int i), (3, .ref 270), (2, .ref 236), (1, .ref 64), (0, .ref 0)], [.int ((Int32.ofNat L) - 4), .int i], (q_kL S c n))) 5 (fun _ _ => rfl) ?_
  refine q_Ru_rsF (g2 := (32, [(4, .int i), (3, .ref 270), (2, .ref 236), (1, .ref 64), (0, .ref 0)], [], (q_kL S c n))) rfl rfl hi ?_
  refine q_Ru_seg (g2 := (35, [(4, .int i), (3, .ref 270), (2, .ref 236), (1, .ref 64), (0, .ref 0)], [.int i, .ref 0], (q_kL S c n))) 2 (fun _ _ => rfl) ?_
  refine q_Ru_rsT (g2 := (36, [(4, .int i), (3, .ref 270), (2, .ref 236), (1, .ref 64), (0, .ref 0)], [.int (xs (i.toNatClampNeg))], (q_kL S c n))) rfl rfl hx0 ?_
  refine q_Ru_seg (g2 := (39, [(4, .int i), (3, .ref 270), (2, .ref 236), (1, .ref 64), (0, .ref 0)], [.int ((xs (i.toNatClampNeg)) &&& 63)], (q_kL S c n))) 2 (fun _ _ => rfl) ?_
  rw [hv]
  refine q_Ru_seg (g2 := (1204, [(4, .int i), (3, .ref 270), (2, .ref 236), (1, .ref 64), (0, .ref 0)], [.int (i + 1), .ref 0, .ref 64], (q_kL S c n))) 6 (fun _ _ => rfl) ?_
  refine q_Ru_rsT (g2 := (1205, [(4, .int i), (3, .ref 270), (2, .ref 236), (1, .ref 64), (0, .ref 0)], [.int (xs ((i + 1).toNatClampNeg)), .ref 64], (q_kL S c n))) rfl rfl hx1 ?_
  refine q_Ru_seg (g2 := (1206, [(4, .int i), (3, .ref 270), (2, .ref 236), (1, .ref 64), (0, .ref 0)], [.ref 270, .int (xs ((i + 1).toNatClampNeg)), .ref 64], (q_kL S c n))) 1 (fun _ _ => rfl) ?_
  refine q_Ru_call (v := (some (.int r0.2.1))) (h2 := (q_kL (q_pt 172 1 0 206 S r0.1) (c + r0.2.2) (n + 6 * r0.2.2))) rfl rfl ?_ ?_
  · exact (q_emXL rfl (fun _ => rfl) (dzt_X24_64_236 z L xs (q_vw 172 0 206 S) c n (xs ((i + 1).toNatClampNeg)) r0 er0)).le (Nat.le_of_ble_eq_true rfl)
  show q_Ru _ _ _ (1209, [(4, .int i), (3, .ref 270), (2, .ref 236), (1, .ref 64), (0, .ref 0)], [.int r0.2.1], (q_kL (q_pt 172 1 0 206 S r0.1) (c + r0.2.2) (n + 6 * r0.2.2))) _
  refine q_Ru_seg (g2 := (1217, [(5, .int r0.2.1), (4, .int i), (3, .ref 270), (2, .ref 236), (1, .ref 64), (0, .ref 0)], [.int (i + 1), .ref 0, .ref 236], (q_kL (q_pt 172 1 0 206 S r0.1) (c + r0.2.2) (n + 6 * r0.2.2)))) 6 (fun _ _ => rfl) ?_
  refine q_Ru_rsT (g2 := (1218, [(5, .int r0.2.1), (4, .int i), (3, .ref 270), (2, .ref 236), (1, .ref 64), (0, .ref 0)], [.int (xs ((i + 1).toNatClampNeg)), .ref 236], (q_kL (q_pt 172 1 0 206 S r0.1) (c + r0.2.2) (n + 6 * r0.2.2)))) rfl rfl hx1 ?_
  refine q_Ru_call (v := (some (.int r1.2))) (h2 := (q_kL (q_pt 34 0 172 0 (q_pt 172 1 0 206 S r0.1) r1.1) (c + r0.2.2) (n + 6 * r0.2.2))) rfl rfl ?_ ?_
  · exact (q_emML rfl (fun _ => rfl) ((dzt_M309_64 (q_vw 34 172 0 (q_pt 172 1 0 206 S r0.1)) (c + r0.2.2) (n + 6 * r0.2.2) (xs ((i + 1).toNatClampNeg)) r1 er1).tb q_TB0_le)).le (Nat.le_of_ble_eq_true rfl)
  show q_Ru _ _ _ (1221, [(5, .int r0.2.1), (4, .int i), (3, .ref 270), (2, .ref 236), (1, .ref 64), (0, .ref 0)], [.int r1.2], (q_kL (q_pt 34 0 172 0 (q_pt 172 1 0 206 S r0.1) r1.1) (c + r0.2.2) (n + 6 * r0.2.2))) _
  refine q_Ru_seg (g2 := (23, [(4, .int (i + 4)), (6, .int r1.2), (5, .int r0.2.1), (3, .ref 270), (2, .ref 236), (1, .ref 64), (0, .ref 0)], [], (q_kL (q_pt 34 0 172 0 (q_pt 172 1 0 206 S r0.1) r1.1) (c + r0.2.2) (n + 6 * r0.2.2)))) 4 (fun _ _ => rfl) ?_
  exact q_Ru_xt (q_xt_mk (q_mn1 0 rfl (q_mn1 3 rfl (q_mn1 4 rfl (q_mn1 5 rfl (q_mn1 6 rfl q_mn0))))) rfl) h
set_option maxHeartbeats 4000000 in
theorem q_lw35 (z L : Nat) (xs : Nat → Int32) (S : q_S) (c n : Nat) (i : Int32) (hx0 : q_in i L = true) (hx1 : q_in (i + 1) L = true) (hx2 : q_in (i + 2) L = true) (hx3 : q_in (i + 3) L = true) (hi : decide (Int32.ofNat L - 4 < i) = false) (hv : xs i.toNatClampNeg &&& 63 = 35) (r0 : q_S × Int32) (er0 : dz_X63_64 (q_vw 172 0 206 S) = some r0) (r1 : q_S × Int32) (er1 : dz_M310_64 (q_vw 34 172 0 (q_pt 172 1 0 206 S r0.1)) = r1) {o : q_Out} (h : q_Ru (q_TBs z L xs) 20 376 (23, [(4, .int (i + 4)), (3, .ref 270), (2, .ref 236), (1, .ref 64), (0, .ref 0)], [], (q_kL (q_pt 34 0 172 0 (q_pt 172 1 0 206 S r0.1) r1.1) c n)) o) : q_Ru (q_TBs z L xs) 20 376 (23, [(4, .int i), (3, .ref 270), (2, .ref 236), (1, .ref 64), (0, .ref 0)], [], (q_kL S c n)) o := by
  refine q_Ru_seg (g2 := (29, [(4, .int i), (3, .ref 270), (2, .ref 236), (1, .ref 64), (0, .ref 0)], [.int ((Int32.ofNat L) - 4), .int i], (q_kL S c n))) 5 (fun _ _ => rfl) ?_
  refine q_Ru_rsF (g2 := (32, [(4, .int i), (3, .ref 270), (2, .ref 236), (1, .ref 64), (0, .ref 0)], [], (q_kL S c n))) rfl rfl hi ?_
  refine q_Ru_seg (g2 := (35, [(4, .int i), (3, .ref 270), (2, .ref 236), (1, .ref 64), (0, .ref 0)], [.int i, .ref 0], (q_kL S c n))) 2 (fun _ _ => rfl) ?_
  refine q_Ru_rsT (g2 := (36, [(4, .int i), (3, .ref 270), (2, .ref 236), (1, .ref 64), (0, .ref 0)], [.int (xs (i.toNatClampNeg))], (q_kL S c n))) rfl rfl hx0 ?_
  refine q_Ru_seg (g2 := (39, [(4, .int i), (3, .ref 270), (2, .ref 236), (1, .ref 64), (0, .ref 0)], [.int ((xs (i.toNatClampNeg)) &&& 63)], (q_kL S c n))) 2 (fun _ _ => rfl) ?_
  rw [hv]
  refine q_Ru_seg (g2 := (1227, [(4, .int i), (3, .ref 270), (2, .ref 236), (1, .ref 64), (0, .ref 0)], [.ref 64], (q_kL S c n))) 2 (fun _ _ => rfl) ?_
  refine q_Ru_call (v := (some (.int r0.2))) (h2 := (q_kL (q_pt 172 1 0 206 S r0.1) c n)) rfl rfl ?_ ?_
  · exact (q_emXL rfl (fun _ => rfl) (dzt_X63_64 z L xs (q_vw 172 0 206 S) c n r0 er0)).le (Nat.le_of_ble_eq_true rfl)
  show q_Ru _ _ _ (1230, [(4, .int i), (3, .ref 270), (2, .ref 236), (1, .ref 64), (0, .ref 0)], [.int r0.2], (q_kL (q_pt 172 1 0 206 S r0.1) c n)) _
  refine q_Ru_seg (g2 := (1232, [(4, .int i), (3, .ref 270), (2, .ref 236), (1, .ref 64), (0, .ref 0)], [.ref 236], (q_kL (q_pt 172 1 0 206 S r0.1) c n))) 2 (fun _ _ => rfl) ?_
  refine q_Ru_call (v := (some (.int r1.2))) (h2 := (q_kL (q_pt 34 0 172 0 (q_pt 172 1 0 206 S r0.1) r1.1) c n)) rfl rfl ?_ ?_
  · exact (q_emML rfl (fun _ => rfl) ((q_cE (φ := (q_oIM c n)) er1 (dzt_M310_64 (q_vw 34 172 0 (q_pt 172 1 0 206 S r0.1)) c n)).tb q_TB0_le)).le (Nat.le_of_ble_eq_true rfl)
  show q_Ru _ _ _ (1235, [(4, .int i), (3, .ref 270), (2, .ref 236), (1, .ref 64), (0, .ref 0)], [.int r1.2], (q_kL (q_pt 34 0 172 0 (q_pt 172 1 0 206 S r0.1) r1.1) c n)) _
  refine q_Ru_seg (g2 := (23, [(4, .int (i + 4)), (3, .ref 270), (2, .ref 236), (1, .ref 64), (0, .ref 0)], [], (q_kL (q_pt 34 0 172 0 (q_pt 172 1 0 206 S r0.1) r1.1) c n))) 4 (fun _ _ => rfl) ?_
  exact q_Ru_xt (q_xt_mk (q_mn1 0 rfl (q_mn1 1 rfl (q_mn1 2 rfl (q_mn1 3 rfl (q_mn1 4 rfl q_mn0))))) rfl) h
set_option maxHeartbeats 4000000 in
theorem q_lw36 (z L : Nat) (xs : Nat → Int32) (S : q_S) (c n : Nat) (i : Int32) (hx0 : q_in i L = true) (hx1 : q_in (i + 1) L = true) (hx2 : q_in (i + 2) L = true) (hx3 : q_in (i + 3) L = true) (hi : decide (Int32.ofNat L - 4 < i) = false) (hv : xs i.toNatClampNeg &&& 63 = 36) (r0 : q_S × Int32 × Nat) (er0 : dz_X25_64_236 (q_vw 172 0 206 S) = r0) (r1 : q_S × Int32) (er1 : dz_M311_64 (q_vw 34 172 0 (q_pt 172 1 0 206 S r0.1)) = r1) {o : q_Out} (h : q_Ru (q_TBs z L xs) 20 376 (23, [(4, .int (i + 4)), (3, .ref 270), (2, .ref 236), (1, .ref 64), (0, .ref 0)], [], (q_kL (q_pt 34 0 172 0 (q_pt 172 1 0 206 S r0.1) r1.1) (c + r0.2.2) (n + 6 * r0.2.2))) o) : q_Ru (q_TBs z L xs) 20 376 (23, [(4, .int i), (3, .ref 270), (2, .ref 236), (1, .ref 64), (0, .ref 0)], [], (q_kL S c n)) o := by
  refine q_Ru_seg (g2 := (29, [(4, .int i), (3, .ref 270), (2, .ref 236), (1, .ref 64), (0, .ref 0)], [.int ((Int32.ofNat L) - 4), .int i], (q_kL S c n))) 5 (fun _ _ => rfl) ?_
  refine q_Ru_rsF (g2 := (32, [(4, .int i), (3, .ref 270), (2, .ref 236), (1, .ref 64), (0, .ref 0)], [], (q_kL S c n))) rfl rfl hi ?_
  refine q_Ru_seg (g2 := (35, [(4, .int i), (3, .ref 270), (2, .ref 236), (1, .ref 64), (0, .ref 0)], [.int i, .ref 0], (q_kL S c n))) 2 (fun _ _ => rfl) ?_
  refine q_Ru_rsT (g2 := (36, [(4, .int i), (3, .ref 270), (2, .ref 236), (1, .ref 64), (0, .ref 0)], [.int (xs (i.toNatClampNeg))], (q_kL S c n))) rfl rfl hx0 ?_
  refine q_Ru_seg (g2 := (39, [(4, .int i), (3, .ref 270), (2, .ref 236), (1, .ref 64), (0, .ref 0)], [.int ((xs (i.toNatClampNeg)) &&& 63)], (q_kL S c n))) 2 (fun _ _ => rfl) ?_
  rw [hv]
  refine q_Ru_seg (g2 := (1241, [(4, .int i), (3, .ref 270), (2, .ref 236), (1, .ref 64), (0, .ref 0)], [.ref 270, .ref 64], (q_kL S c n))) 3 (fun _ _ => rfl) ?_
  refine q_Ru_call (v := (some (.int r0.2.1))) (h2 := (q_kL (q_pt 172 1 0 206 S r0.1) (c + r0.2.2) (n + 6 * r0.2.2))) rfl rfl ?_ ?_
  · exact (q_emXL rfl (fun _ => rfl) (q_cE (φ := (q_oEX c n)) er0 (dzt_X25_64_236 z L xs (q_vw 172 0 206 S) c n))).le (Nat.le_of_ble_eq_true rfl)
  show q_Ru _ _ _ (1244, [(4, .int i), (3, .ref 270), (2, .ref 236), (1, .ref 64), (0, .ref 0)], [.int r0.2.1], (q_kL (q_pt 172 1 0 206 S r0.1) (c + r0.2.2) (n + 6 * r0.2.2))) _
  refine q_Ru_seg (g2 := (1247, [(5, .int r0.2.1), (4, .int i), (3, .ref 270), (2, .ref 236), (1, .ref 64), (0, .ref 0)], [.ref 236], (q_kL (q_pt 172 1 0 206 S r0.1) (c + r0.2.2) (n + 6 * r0.2.2)))) 2 (fun _ _ => rfl) ?_
  refine q_Ru_call (v := (some (.int r1.2))) (h2 := (q_kL (q_pt 34 0 172 0 (q_pt 172 1 0 206 S r0.1) r1.1) (c + r0.2.2) (n + 6 * r0.2.2))) rfl rfl ?_ ?_
  · exact (q_emML rfl (fun _ => rfl) ((q_cE (φ := (q_oIM (c + r0.2.2) (n + 6 * r0.2.2))) er1 (dzt_M311_64 (q_vw 34 172 0 (q_pt 172 1 0 206 S r0.1)) (c + r0.2.2) (n + 6 * r0.2.2))).tb q_TB0_le)).le (Nat.le_of_ble_eq_true rfl)
  show q_Ru _ _ _ (1250, [(5, .int r0.2.1), (4, .int i), (3, .ref 270), (2, .ref 236), (1, .ref 64), (0, .ref 0)], [.int r1.2], (q_kL (q_pt 34 0 172 0 (q_pt 172 1 0 206 S r0.1) r1.1) (c + r0.2.2) (n + 6 * r0.2.2))) _
  refine q_Ru_seg (g2 := (23, [(4, .int (i + 4)), (6, .int r1.2), (5, .int r0.2.1), (3, .ref 270), (2, .ref 236), (1, .ref 64), (0, .ref 0)], [], (q_kL (q_pt 34 0 172 0 (q_pt 172 1 0 206 S r0.1) r1.1) (c + r0.2.2) (n + 6 * r0.2.2)))) 4 (fun _ _ => rfl) ?_
  exact q_Ru_xt (q_xt_mk (q_mn1 0 rfl (q_mn1 3 rfl (q_mn1 4 rfl (q_mn1 5 rfl (q_mn1 6 rfl q_mn0))))) rfl) h
set_option maxHeartbeats 4000000 in
theorem q_lw37 (z L : Nat) (xs : Nat → Int32) (S : q_S) (c n : Nat) (i : Int32) (hx0 : q_in i L = true) (hx1 : q_in (i + 1) L = true) (hx2 : q_in (i + 2) L = true) (hx3 : q_in (i + 3) L = true) (hi : decide (Int32.ofNat L - 4 < i) = false) (hv : xs i.toNatClampNeg &&& 63 = 37) (r0 : q_S × Int32 × Nat) (er0 : dz_X26_64_236 (q_vw 172 0 206 S) = some r0) (r1 : q_S × Bool) (er1 : dz_M312_64 (q_vw 34 172 0 (q_pt 172 1 0 206 S r0.1)) = r1) {o : q_Out} (h : q_Ru (q_TBs z L xs) 20 376 (23, [(4, .int (i + 4)), (3, .ref 270), (2, .ref 236), (1, .ref 64), (0, .ref 0)], [], (q_kL (q_pt 34 0 172 0 (q_pt 172 1 0 206 S r0.1) r1.1) (c + r0.2.2) (n + 6 * r0.2.2))) o) : q_Ru (q_TBs z L xs) 20 376 (23, [(4, .int i), (3, .ref 270), (2, .ref 236), (1, .ref 64), (0, .ref 0)], [], (q_kL S c n)) o := by
  refine q_Ru_seg (g2 := (29, [(4, .int i), (3, .ref 270), (2, .ref 236), (1, .ref 64), (0, .ref 0)], [.int ((Int32.ofNat L) - 4), .int i], (q_kL S c n))) 5 (fun _ _ => rfl) ?_
  refine q_Ru_rsF (g2 := (32, [(4, .int i), (3, .ref 270), (2, .ref 236), (1, .ref 64), (0, .ref 0)], [], (q_kL S c n))) rfl rfl hi ?_
  refine q_Ru_seg (g2 := (35, [(4, .int i), (3, .ref 270), (2, .ref 236), (1, .ref 64), (0, .ref 0)], [.int i, .ref 0], (q_kL S c n))) 2 (fun _ _ => rfl) ?_
  refine q_Ru_rsT (g2 := (36, [(4, .int i), (3, .ref 270), (2, .ref 236), (1, .ref 64), (0, .ref 0)], [.int (xs (i.toNatClampNeg))], (q_kL S c n))) rfl rfl hx0 ?_
  refine q_Ru_seg (g2 := (39, [(4, .int i), (3, .ref 270), (2, .ref 236), (1, .ref 64), (0, .ref 0)], [.int ((xs (i.toNatClampNeg)) &&& 63)], (q_kL S c n))) 2 (fun _ _ => rfl) ?_
  rw [hv]
  refine q_Ru_seg (g2 := (1257, [(4, .int i), (3, .ref 270), (2, .ref 236), (1, .ref 64), (0, .ref 0)], [.ref 270, .ref 64], (q_kL S c n))) 3 (fun _ _ => rfl) ?_
  refine q_Ru_call (v := (some (.int r0.2.1))) (h2 := (q_kL (q_pt 172 1 0 206 S r0.1) (c + r0.2.2) (n + 6 * r0.2.2))) rfl rfl ?_ ?_
  · exact (q_emXL rfl (fun _ => rfl) (dzt_X26_64_236 z L xs (q_vw 172 0 206 S) c n r0 er0)).le (Nat.le_of_ble_eq_true rfl)
  show q_Ru _ _ _ (1260, [(4, .int i), (3, .ref 270), (2, .ref 236), (1, .ref 64), (0, .ref 0)], [.int r0.2.1], (q_kL (q_pt 172 1 0 206 S r0.1) (c + r0.2.2) (n + 6 * r0.2.2))) _
  refine q_Ru_seg (g2 := (1263, [(5, .int r0.2.1), (4, .int i), (3, .ref 270), (2, .ref 236), (1, .ref 64), (0, .ref 0)], [.ref 236], (q_kL (q_pt 172 1 0 206 S r0.1) (c + r0.2.2) (n + 6 * r0.2.2)))) 2 (fun _ _ => rfl) ?_
  refine q_Ru_call (v := (some (.int (q_b r1.2)))) (h2 := (q_kL (q_pt 34 0 172 0 (q_pt 172 1 0 206 S r0.1) r1.1) (c + r0.2.2) (n + 6 * r0.2.2))) rfl rfl ?_ ?_
  · exact (q_emML rfl (fun _ => rfl) ((q_cE (φ := (q_oJM (c + r0.2.2) (n + 6 * r0.2.2))) er1 (dzt_M312_64 (q_vw 34 172 0 (q_pt 172 1 0 206 S r0.1)) (c + r0.2.2) (n + 6 * r0.2.2))).tb q_TB0_le)).le (Nat.le_of_ble_eq_true rfl)
  show q_Ru _ _ _ (1266, [(5, .int r0.2.1), (4, .int i), (3, .ref 270), (2, .ref 236), (1, .ref 64), (0, .ref 0)], [.int (q_b r1.2)], (q_kL (q_pt 34 0 172 0 (q_pt 172 1 0 206 S r0.1) r1.1) (c + r0.2.2) (n + 6 * r0.2.2))) _
  refine q_Ru_seg (g2 := (23, [(4, .int (i + 4)), (6, .int (q_b r1.2)), (5, .int r0.2.1), (3, .ref 270), (2, .ref 236), (1, .ref 64), (0, .ref 0)], [], (q_kL (q_pt 34 0 172 0 (q_pt 172 1 0 206 S r0.1) r1.1) (c + r0.2.2) (n + 6 * r0.2.2)))) 4 (fun _ _ => rfl) ?_
  exact q_Ru_xt (q_xt_mk (q_mn1 0 rfl (q_mn1 3 rfl (q_mn1 4 rfl (q_mn1 5 rfl (q_mn1 6 rfl q_mn0))))) rfl) h
set_option maxHeartbeats 4000000 in
theorem q_lw38 (z L : Nat) (xs : Nat → Int32) (S : q_S) (c n : Nat) (i : Int32) (hx0 : q_in i L = true) (hx1 : q_in (i + 1) L = true) (hx2 : q_in (i + 2) L = true) (hx3 : q_in (i + 3) L = true) (hi : decide (Int32.ofNat L - 4 < i) = false) (hv : xs i.toNatClampNeg &&& 63 = 38) (r0 : Int32) (er0 : dz_X66_64 (q_vw 172 0 206 S) = some r0) (r1 : q_S × Int32) (er1 : dz_M313_64 (q_vw 34 172 0 S) = some r1) {o : q_Out} (h : q_Ru (q_TBs z L xs) 20 376 (23, [(4, .int (i + 4)), (3, .ref 270), (2, .ref 236), (1, .ref 64), (0, .ref 0)], [], (q_kL (q_pt 34 0 172 0 S r1.1) c n)) o) : q_Ru (q_TBs z L xs) 20 376 (23, [(4, .int i), (3, .ref 270), (2, .ref 236), (1, .ref 64), (0, .ref 0)], [], (q_kL S c n)) o := by
  refine q_Ru_seg (g2 := (29, [(4, .int i), (3, .ref 270), (2, .ref 236), (1, .ref 64), (0, .ref 0)], [.int ((Int32.ofNat L) - 4), .int i], (q_kL S c n))) 5 (fun _ _ => rfl) ?_
  refine q_Ru_rsF (g2 := (32, [(4, .int i), (3, .ref 270), (2, .ref 236), (1, .ref 64), (0, .ref 0)], [], (q_kL S c n))) rfl rfl hi ?_
  refine q_Ru_seg (g2 := (35, [(4, .int i), (3, .ref 270), (2, .ref 236), (1, .ref 64), (0, .ref 0)], [.int i, .ref 0], (q_kL S c n))) 2 (fun _ _ => rfl) ?_
  refine q_Ru_rsT (g2 := (36, [(4, .int i), (3, .ref 270), (2, .ref 236), (1, .ref 64), (0, .ref 0)], [.int (xs (i.toNatClampNeg))], (q_kL S c n))) rfl rfl hx0 ?_
  refine q_Ru_seg (g2 := (39, [(4, .int i), (3, .ref 270), (2, .ref 236), (1, .ref 64), (0, .ref 0)], [.int ((xs (i.toNatClampNeg)) &&& 63)], (q_kL S c n))) 2 (fun _ _ => rfl) ?_
  rw [hv]
  refine q_Ru_seg (g2 := (1272, [(4, .int i), (3, .ref 270), (2, .ref 236), (1, .ref 64), (0, .ref 0)], [.ref 64], (q_kL S c n))) 2 (fun _ _ => rfl) ?_
  refine q_Ru_call (v := (some (.int r0))) (h2 := (q_kL S c n)) rfl rfl ?_ ?_
  · exact (q_emXLp rfl (fun _ => rfl) (dzt_X66_64 z L xs (q_vw 172 0 206 S) c n r0 er0)).le (Nat.le_of_ble_eq_true rfl)
  show q_Ru _ _ _ (1275, [(4, .int i), (3, .ref 270), (2, .ref 236), (1, .ref 64), (0, .ref 0)], [.int r0], (q_kL S c n)) _
  refine q_Ru_seg (g2 := (1277, [(4, .int i), (3, .ref 270), (2, .ref 236), (1, .ref 64), (0, .ref 0)], [.ref 236], (q_kL S c n))) 2 (fun _ _ => rfl) ?_
  refine q_Ru_call (v := (some (.int r1.2))) (h2 := (q_kL (q_pt 34 0 172 0 S r1.1) c n)) rfl rfl ?_ ?_
  · exact (q_emML rfl (fun _ => rfl) ((dzt_M313_64 (q_vw 34 172 0 S) c n r1 er1).tb q_TB0_le)).le (Nat.le_of_ble_eq_true rfl)
  show q_Ru _ _ _ (1280, [(4, .int i), (3, .ref 270), (2, .ref 236), (1, .ref 64), (0, .ref 0)], [.int r1.2], (q_kL (q_pt 34 0 172 0 S r1.1) c n)) _
  refine q_Ru_seg (g2 := (23, [(4, .int (i + 4)), (3, .ref 270), (2, .ref 236), (1, .ref 64), (0, .ref 0)], [], (q_kL (q_pt 34 0 172 0 S r1.1) c n))) 4 (fun _ _ => rfl) ?_
  exact q_Ru_xt (q_xt_mk (q_mn1 0 rfl (q_mn1 1 rfl (q_mn1 2 rfl (q_mn1 3 rfl (q_mn1 4 rfl q_mn0))))) rfl) h
set_option maxHeartbeats 4000000 in
theorem q_lw39 (z L : Nat) (xs : Nat → Int32) (S : q_S) (c n : Nat) (i : Int32) (hx0 : q_in i L = true) (hx1 : q_in (i + 1) L = true) (hx2 : q_in (i + 2) L = true) (hx3 : q_in (i + 3) L = true) (hi : decide (Int32.ofNat L - 4 < i) = false) (hv : xs i.toNatClampNeg &&& 63 = 39) (r0 : q_S × Int64) (er0 : dz_M314_64 (q_vw 34 172 0 S) = r0) {o : q_Out} (h : q_Ru (q_TBs z L xs) 20 376 (23, [(4, .int (i + 4)), (3, .ref 270), (2, .ref 236), (1, .ref 64), (0, .ref 0)], [], (q_kL (q_pt 34 0 172 0 S r0.1) c n)) o) : q_Ru (q_TBs z L xs) 20 376 (23, [(4, .int i), (3, .ref 270), (2, .ref 236), (1, .ref 64), (0, .ref 0)], [], (q_kL S c n)) o := by
  refine q_Ru_seg (g2 := (29, [(4, .int i), (3, .ref 270), (2, .ref 236), (1, .ref 64), (0, .ref 0)], [.int ((Int32.ofNat L) - 4), .int i], (q_kL S c n))) 5 (fun _ _ => rfl) ?_
  refine q_Ru_rsF (g2 := (32, [(4, .int i), (3, .ref 270), (2, .ref 236), (1, .ref 64), (0, .ref 0)], [], (q_kL S c n))) rfl rfl hi ?_
  refine q_Ru_seg (g2 := (35, [(4, .int i), (3, .ref 270), (2, .ref 236), (1, .ref 64), (0, .ref 0)], [.int i, .ref 0], (q_kL S c n))) 2 (fun _ _ => rfl) ?_
  refine q_Ru_rsT (g2 := (36, [(4, .int i), (3, .ref 270), (2, .ref 236), (1, .ref 64), (0, .ref 0)], [.int (xs (i.toNatClampNeg))], (q_kL S c n))) rfl rfl hx0 ?_
  refine q_Ru_seg (g2 := (39, [(4, .int i), (3, .ref 270), (2, .ref 236), (1, .ref 64), (0, .ref 0)], [.int ((xs (i.toNatClampNeg)) &&& 63)], (q_kL S c n))) 2 (fun _ _ => rfl) ?_
  rw [hv]
  refine q_Ru_seg (g2 := (1285, [(4, .int i), (3, .ref 270), (2, .ref 236), (1, .ref 64), (0, .ref 0)], [.ref 64], (q_kL S c n))) 2 (fun _ _ => rfl) ?_
  refine q_Ru_call (v := (some (.long (dz_X67_64 (q_vw 172 0 206 S))))) (h2 := (q_kL S c n)) rfl rfl ?_ ?_
  · exact (q_emXLp rfl (fun _ => rfl) (dzt_X67_64 z L xs (q_vw 172 0 206 S) c n)).le (Nat.le_of_ble_eq_true rfl)
  show q_Ru _ _ _ (1288, [(4, .int i), (3, .ref 270), (2, .ref 236), (1, .ref 64), (0, .ref 0)], [.long (dz_X67_64 (q_vw 172 0 206 S))], (q_kL S c n)) _
  refine q_Ru_seg (g2 := (1290, [(4, .int i), (3, .ref 270), (2, .ref 236), (1, .ref 64), (0, .ref 0)], [.ref 236], (q_kL S c n))) 2 (fun _ _ => rfl) ?_
  refine q_Ru_call (v := (some (.long r0.2))) (h2 := (q_kL (q_pt 34 0 172 0 S r0.1) c n)) rfl rfl ?_ ?_
  · exact (q_emML rfl (fun _ => rfl) ((q_cE (φ := (q_oKM c n)) er0 (dzt_M314_64 (q_vw 34 172 0 S) c n)).tb q_TB0_le)).le (Nat.le_of_ble_eq_true rfl)
  show q_Ru _ _ _ (1293, [(4, .int i), (3, .ref 270), (2, .ref 236), (1, .ref 64), (0, .ref 0)], [.long r0.2], (q_kL (q_pt 34 0 172 0 S r0.1) c n)) _
  refine q_Ru_seg (g2 := (23, [(4, .int (i + 4)), (3, .ref 270), (2, .ref 236), (1, .ref 64), (0, .ref 0)], [], (q_kL (q_pt 34 0 172 0 S r0.1) c n))) 4 (fun _ _ => rfl) ?_
  exact q_Ru_xt (q_xt_mk (q_mn1 0 rfl (q_mn1 1 rfl (q_mn1 2 rfl (q_mn1 3 rfl (q_mn1 4 rfl q_mn0))))) rfl) h
set_option maxHeartbeats 4000000 in
theorem q_lw40 (z L : Nat) (xs : Nat → Int32) (S : q_S) (c n : Nat) (i : Int32) (hx0 : q_in i L = true) (hx1 : q_in (i + 1) L = true) (hx2 : q_in (i + 2) L = true) (hx3 : q_in (i + 3) L = true) (hi : decide (Int32.ofNat L - 4 < i) = false) (hv : xs i.toNatClampNeg &&& 63 = 40) (r0 : UInt32) (er0 : dz_X68_64 (q_vw 172 0 206 S) = some r0) (r1 : q_S × UInt32) (er1 : dz_M315_64 (q_vw 34 172 0 S) = some r1) (hn0 : q_nnd (FP.f2d r0) = true) (hn1 : q_nnd (FP.f2d r1.2) = true) {o : q_Out} (h : q_Ru (q_TBs z L xs) 20 376 (23, [(4, .int (i + 4)), (3, .ref 270), (2, .ref 236), (1, .ref 64), (0, .ref 0)], [], (q_kL (q_pt 34 0 172 0 S r1.1) c n)) o) : q_Ru (q_TBs z L xs) 20 376 (23, [(4, .int i), (3, .ref 270), (2, .ref 236), (1, .ref 64), (0, .ref 0)], [], (q_kL S c n)) o := by
  refine q_Ru_seg (g2 := (29, [(4, .int i), (3, .ref 270), (2, .ref 236), (1, .ref 64), (0, .ref 0)], [.int ((Int32.ofNat L) - 4), .int i], (q_kL S c n))) 5 (fun _ _ => rfl) ?_
  refine q_Ru_rsF (g2 := (32, [(4, .int i), (3, .ref 270), (2, .ref 236), (1, .ref 64), (0, .ref 0)], [], (q_kL S c n))) rfl rfl hi ?_
  refine q_Ru_seg (g2 := (35, [(4, .int i), (3, .ref 270), (2, .ref 236), (1, .ref 64), (0, .ref 0)], [.int i, .ref 0], (q_kL S c n))) 2 (fun _ _ => rfl) ?_
  refine q_Ru_rsT (g2 := (36, [(4, .int i), (3, .ref 270), (2, .ref 236), (1, .ref 64), (0, .ref 0)], [.int (xs (i.toNatClampNeg))], (q_kL S c n))) rfl rfl hx0 ?_
  refine q_Ru_seg (g2 := (39, [(4, .int i), (3, .ref 270), (2, .ref 236), (1, .ref 64), (0, .ref 0)], [.int ((xs (i.toNatClampNeg)) &&& 63)], (q_kL S c n))) 2 (fun _ _ => rfl) ?_
  rw [hv]
  refine q_Ru_seg (g2 := (1298, [(4, .int i), (3, .ref 270), (2, .ref 236), (1, .ref 64), (0, .ref 0)], [.ref 64], (q_kL S c n))) 2 (fun _ _ => rfl) ?_
  refine q_Ru_call (v := (some (.float r0))) (h2 := (q_kL S c n)) rfl rfl ?_ ?_
  · exact (q_emXLp rfl (fun _ => rfl) (dzt_X68_64 z L xs (q_vw 172 0 206 S) c n r0 er0)).le (Nat.le_of_ble_eq_true rfl)
  show q_Ru _ _ _ (1301, [(4, .int i), (3, .ref 270), (2, .ref 236), (1, .ref 64), (0, .ref 0)], [.float r0], (q_kL S c n)) _
  refine q_Ru_st1 (g2 := (1302, [(4, .int i), (3, .ref 270), (2, .ref 236), (1, .ref 64), (0, .ref 0)], [.double (FP.f2d r0)], (q_kL S c n))) rfl (q_f2dv hn0) ?_
  refine q_Ru_seg (g2 := (1305, [(5, .double (FP.f2d r0)), (4, .int i), (3, .ref 270), (2, .ref 236), (1, .ref 64), (0, .ref 0)], [.ref 236], (q_kL S c n))) 2 (fun _ _ => rfl) ?_
  refine q_Ru_call (v := (some (.float r1.2))) (h2 := (q_kL (q_pt 34 0 172 0 S r1.1) c n)) rfl rfl ?_ ?_
  · exact (q_emML rfl (fun _ => rfl) ((dzt_M315_64 (q_vw 34 172 0 S) c n r1 er1).tb q_TB0_le)).le (Nat.le_of_ble_eq_true rfl)
  show q_Ru _ _ _ (1308, [(5, .double (FP.f2d r0)), (4, .int i), (3, .ref 270), (2, .ref 236), (1, .ref 64), (0, .ref 0)], [.float r1.2], (q_kL (q_pt 34 0 172 0 S r1.1) c n)) _
  refine q_Ru_st1 (g2 := (1309, [(5, .double (FP.f2d r0)), (4, .int i), (3, .ref 270), (2, .ref 236), (1, .ref 64), (0, .ref 0)], [.double (FP.f2d r1.2)], (q_kL (q_pt 34 0 172 0 S r1.1) c n))) rfl (q_f2dv hn1) ?_
  refine q_Ru_seg (g2 := (23, [(4, .int (i + 4)), (7, .double (FP.f2d r1.2)), (5, .double (FP.f2d r0)), (3, .ref 270), (2, .ref 236), (1, .ref 64), (0, .ref 0)], [], (q_kL (q_pt 34 0 172 0 S r1.1) c n))) 4 (fun _ _ => rfl) ?_
  exact q_Ru_xt (q_xt_mk (q_mn1 0 rfl (q_mn1 3 rfl (q_mn1 4 rfl (q_mn1 5 rfl (q_mn1 6 rfl q_mn0))))) rfl) h
set_option maxHeartbeats 4000000 in
theorem q_lw41 (z L : Nat) (xs : Nat → Int32) (S : q_S) (c n : Nat) (i : Int32) (hx0 : q_in i L = true) (hx1 : q_in (i + 1) L = true) (hx2 : q_in (i + 2) L = true) (hx3 : q_in (i + 3) L = true) (hi : decide (Int32.ofNat L - 4 < i) = false) (hv : xs i.toNatClampNeg &&& 63 = 41) (r0 : UInt64) (er0 : dz_X69_64 (q_vw 172 0 206 S) = some r0) (r1 : q_S × UInt64) (er1 : dz_M316_64 (q_vw 34 172 0 S) = some r1) {o : q_Out} (h : q_Ru (q_TBs z L xs) 20 376 (23, [(4, .int (i + 4)), (3, .ref 270), (2, .ref 236), (1, .ref 64), (0, .ref 0)], [], (q_kL (q_pt 34 0 172 0 S r1.1) c n)) o) : q_Ru (q_TBs z L xs) 20 376 (23, [(4, .int i), (3, .ref 270), (2, .ref 236), (1, .ref 64), (0, .ref 0)], [], (q_kL S c n)) o := by
  refine q_Ru_seg (g2 := (29, [(4, .int i), (3, .ref 270), (2, .ref 236), (1, .ref 64), (0, .ref 0)], [.int ((Int32.ofNat L) - 4), .int i], (q_kL S c n))) 5 (fun _ _ => rfl) ?_
  refine q_Ru_rsF (g2 := (32, [(4, .int i), (3, .ref 270), (2, .ref 236), (1, .ref 64), (0, .ref 0)], [], (q_kL S c n))) rfl rfl hi ?_
  refine q_Ru_seg (g2 := (35, [(4, .int i), (3, .ref 270), (2, .ref 236), (1, .ref 64), (0, .ref 0)], [.int i, .ref 0], (q_kL S c n))) 2 (fun _ _ => rfl) ?_
  refine q_Ru_rsT (g2 := (36, [(4, .int i), (3, .ref 270), (2, .ref 236), (1, .ref 64), (0, .ref 0)], [.int (xs (i.toNatClampNeg))], (q_kL S c n))) rfl rfl hx0 ?_
  refine q_Ru_seg (g2 := (39, [(4, .int i), (3, .ref 270), (2, .ref 236), (1, .ref 64), (0, .ref 0)], [.int ((xs (i.toNatClampNeg)) &&& 63)], (q_kL S c n))) 2 (fun _ _ => rfl) ?_
  rw [hv]
  refine q_Ru_seg (g2 := (1315, [(4, .int i), (3, .ref 270), (2, .ref 236), (1, .ref 64), (0, .ref 0)], [.ref 64], (q_kL S c n))) 2 (fun _ _ => rfl) ?_
  refine q_Ru_call (v := (some (.double r0))) (h2 := (q_kL S c n)) rfl rfl ?_ ?_
  · exact (q_emXLp rfl (fun _ => rfl) (dzt_X69_64 z L xs (q_vw 172 0 206 S) c n r0 er0)).le (Nat.le_of_ble_eq_true rfl)
  show q_Ru _ _ _ (1318, [(4, .int i), (3, .ref 270), (2, .ref 236), (1, .ref 64), (0, .ref 0)], [.double r0], (q_kL S c n)) _
  refine q_Ru_seg (g2 := (1321, [(5, .double r0), (4, .int i), (3, .ref 270), (2, .ref 236), (1, .ref 64), (0, .ref 0)], [.ref 236], (q_kL S c n))) 2 (fun _ _ => rfl) ?_
  refine q_Ru_call (v := (some (.double r1.2))) (h2 := (q_kL (q_pt 34 0 172 0 S r1.1) c n)) rfl rfl ?_ ?_
  · exact (q_emML rfl (fun _ => rfl) ((dzt_M316_64 (q_vw 34 172 0 S) c n r1 er1).tb q_TB0_le)).le (Nat.le_of_ble_eq_true rfl)
  show q_Ru _ _ _ (1324, [(5, .double r0), (4, .int i), (3, .ref 270), (2, .ref 236), (1, .ref 64), (0, .ref 0)], [.double r1.2], (q_kL (q_pt 34 0 172 0 S r1.1) c n)) _
  refine q_Ru_seg (g2 := (23, [(4, .int (i + 4)), (7, .double r1.2), (5, .double r0), (3, .ref 270), (2, .ref 236), (1, .ref 64), (0, .ref 0)], [], (q_kL (q_pt 34 0 172 0 S r1.1) c n))) 4 (fun _ _ => rfl) ?_
  exact q_Ru_xt (q_xt_mk (q_mn1 0 rfl (q_mn1 3 rfl (q_mn1 4 rfl (q_mn1 5 rfl (q_mn1 6 rfl q_mn0))))) rfl) h
set_option maxHeartbeats 4000000 in
theorem q_lw42 (z L : Nat) (xs : Nat → Int32) (S : q_S) (c n : Nat) (i : Int32) (hx0 : q_in i L = true) (hx1 : q_in (i + 1) L = true) (hx2 : q_in (i + 2) L = true) (hx3 : q_in (i + 3) L = true) (hi : decide (Int32.ofNat L - 4 < i) = false) (hv : xs i.toNatClampNeg &&& 63 = 42) {o : q_Out} (h : q_Ru (q_TBs z L xs) 20 376 (23, [(4, .int (i + 4)), (3, .ref 270), (2, .ref 236), (1, .ref 64), (0, .ref 0)], [], (q_kL S c n)) o) : q_Ru (q_TBs z L xs) 20 376 (23, [(4, .int i), (3, .ref 270), (2, .ref 236), (1, .ref 64), (0, .ref 0)], [], (q_kL S c n)) o := by
  refine q_Ru_seg (g2 := (29, [(4, .int i), (3, .ref 270), (2, .ref 236), (1, .ref 64), (0, .ref 0)], [.int ((Int32.ofNat L) - 4), .int i], (q_kL S c n))) 5 (fun _ _ => rfl) ?_
  refine q_Ru_rsF (g2 := (32, [(4, .int i), (3, .ref 270), (2, .ref 236), (1, .ref 64), (0, .ref 0)], [], (q_kL S c n))) rfl rfl hi ?_
  refine q_Ru_seg (g2 := (35, [(4, .int i), (3, .ref 270), (2, .ref 236), (1, .ref 64), (0, .ref 0)], [.int i, .ref 0], (q_kL S c n))) 2 (fun _ _ => rfl) ?_
  refine q_Ru_rsT (g2 := (36, [(4, .int i), (3, .ref 270), (2, .ref 236), (1, .ref 64), (0, .ref 0)], [.int (xs (i.toNatClampNeg))], (q_kL S c n))) rfl rfl hx0 ?_
  refine q_Ru_seg (g2 := (39, [(4, .int i), (3, .ref 270), (2, .ref 236), (1, .ref 64), (0, .ref 0)], [.int ((xs (i.toNatClampNeg)) &&& 63)], (q_kL S c n))) 2 (fun _ _ => rfl) ?_
  rw [hv]
  refine q_Ru_seg (g2 := (23, [(4, .int (i + 4)), (3, .ref 270), (2, .ref 236), (1, .ref 64), (0, .ref 0)], [], (q_kL S c n))) 3 (fun _ _ => rfl) ?_
  exact q_Ru_xt (q_xt_mk (q_mn1 0 rfl (q_mn1 1 rfl (q_mn1 2 rfl (q_mn1 3 rfl (q_mn1 4 rfl q_mn0))))) rfl) h
