set_option maxHeartbeats 4000000 in
theorem q_m_pass1 (pix smp tr : Nat → Int32) (p left dn ins z : Int32) (y pd : Int64) (col lin p1 p2 : Int32) (hC : (y - y / 24 * 24).toInt32 = col) (hM : (y / 24 - y / 24 / 40 * 40).toInt32 = lin) (c0 : 0 ≤ col.toInt) (c1 : col.toInt ≤ 23) (l0 : 0 ≤ lin.toInt) (l1 : lin.toInt ≤ 39) (a0 : 0 ≤ p.toInt) (a1 : p.toInt ≤ 3839) (b0 : 0 ≤ p1.toInt) (b1 : p1.toInt ≤ 3839) (hp0 : p &&& 4095 = p) (hp1 : (p + 1) &&& 4095 = p1) (hp2 : (p + 2) &&& 4095 = p2) (i0 : 0 ≤ ins.toInt) (i1 : ins.toInt ≤ 1000) (hpic : q_picX lin col = 1) : ∃ pix2 smp2, q_Ca q_TB0 9 235 [.ref 64] (q_cM (q_mA pix smp tr (q_nb p left dn ins) (q_fb z)) q_IM (q_mJ y pd), 34, 31630) (.inl (some (.int 1)), (q_cM (q_mA pix2 smp2 tr (q_nb p left dn ins) (q_fb z)) q_IM (q_mJ (y + 1) (pd + 1)), 34, 31630)) := by
  cases h170 : decide (col = 0) with
  | true =>
    cases h171 : decide (lin = 0) with
    | true =>
      have h172 : decide (lin - 4 < 0) = true := q_tbl1 (fun lin => decide (lin - 4 < 0)) (l := 0) (n := 0) (by decide +kernel) (q_eqlo h171) (q_eqhi h171)
      have h173 : decide (col = 23) = false := q_not_tr (q_tbl1 (fun col => !decide (col = 23)) (l := 0) (n := 0) (by decide +kernel) (q_eqlo h170) (q_eqhi h170))
      refine ⟨pix, smp, ?_⟩
      refine q_Ca_of (Nat.le_of_ble_eq_true rfl) ?_
      refine q_Ru_seg (g2 := (4, [(0, .ref 64)], [.long y], (q_cM (q_mA pix smp tr (q_nb p left dn ins) (q_fb z)) q_IM (q_mJ y pd), 34, 31630))) 2 (fun _ _ => rfl) ?_
      refine q_Ru_seg (g2 := (9, [(0, .ref 64)], [.int ((y - y / 24 * 24).toInt32)], (q_cM (q_mA pix smp tr (q_nb p left dn ins) (q_fb z)) q_IM (q_mJ y pd), 34, 31630))) 3 (fun _ _ => rfl) ?_
      rw [hC]
      refine q_Ru_seg (g2 := (11, [(1, .int col), (0, .ref 64)], [.int col], (q_cM (q_mA pix smp tr (q_nb p left dn ins) (q_fb z)) q_IM (q_mJ y pd), 34, 31630))) 2 (fun _ _ => rfl) ?_
      refine q_Ru_rsF (g2 := (14, [(1, .int col), (0, .ref 64)], [], (q_cM (q_mA pix smp tr (q_nb p left dn ins) (q_fb z)) q_IM (q_mJ y pd), 34, 31630))) rfl rfl (q_d_neT h170) ?_
      refine q_Ru_seg (g2 := (15, [(1, .int col), (0, .ref 64)], [.ref 64], (q_cM (q_mA pix smp tr (q_nb p left dn ins) (q_fb z)) q_IM (q_mJ y pd), 34, 31630))) 1 (fun _ _ => rfl) ?_
      refine q_Ru_call (v := (some (.int lin))) (h2 := (q_cM (q_mA pix smp tr (q_nb p left dn ins) (q_fb z)) q_IM (q_mJ y pd), 34, 31630)) rfl rfl ?_ ?_
      · refine q_Ca_of (Nat.le_of_ble_eq_true rfl) ?_
        refine q_Ru_seg (g2 := (4, [(0, .ref 64)], [.long y], (q_cM (q_mA pix smp tr (q_nb p left dn ins) (q_fb z)) q_IM (q_mJ y pd), 34, 31630))) 2 (fun _ _ => rfl) ?_
        refine q_Ru_seg (g2 := (13, [(0, .ref 64)], [.int (((y / 24) - (y / 24) / 40 * 40).toInt32)], (q_cM (q_mA pix smp tr (q_nb p left dn ins) (q_fb z)) q_IM (q_mJ y pd), 34, 31630))) 5 (fun _ _ => rfl) ?_
        rw [hM]
        exact q_Ru_ret rfl rfl
      show q_Ru _ _ _ (18, [(1, .int col), (0, .ref 64)], [.int lin], (q_cM (q_mA pix smp tr (q_nb p left dn ins) (q_fb z)) q_IM (q_mJ y pd), 34, 31630)) _
      refine q_Ru_seg (g2 := (25, [(1, .int col), (0, .ref 64)], [.int 0, .int lin], (q_cM (q_mA pix smp tr (q_nb p left dn ins) (q_fb z)) q_IM (q_mJ y pd), 34, 31630))) 4 (fun _ _ => rfl) ?_
      refine q_Ru_rsF (g2 := (28, [(1, .int col), (0, .ref 64)], [], (q_cM (q_mA pix smp tr (q_nb p left dn ins) (q_fb z)) q_IM (q_mJ y pd), 34, 31630))) rfl rfl (q_d_neT h171) ?_
      refine q_Ru_seg (g2 := (36, [(1, .int col), (0, .ref 64)], [.int 1, .int 9, .ref 78], (q_cM (q_mA pix smp tr (q_nb p left dn ins) (q_fb z)) q_IM (q_mJ y pd), 34, 31630))) 5 (fun _ _ => rfl) ?_
      refine q_Ru_seg (g2 := (40, [(1, .int col), (0, .ref 64)], [.ref 64], (q_cM (q_uA (q_mA pix smp tr (q_nb p left dn ins) (q_fb z)) 14 (upd (q_nb p left dn ins) 9 1)) q_IM (q_mJ y pd), 34, 31630))) 4 (fun _ _ => rfl) ?_
      have hA : ∀ i, i < 34 → (q_uA (q_mA pix smp tr (q_nb p left dn ins) (q_fb z)) 14 (upd (q_nb p left dn ins) 9 1)) i = (q_mA pix smp tr (q_nb p left dn ins) (q_fb z)) i := by
        intro i hi
        match i, hi with
        | 0, _ => rfl
        | 1, _ => rfl
        | 2, _ => rfl
        | 3, _ => rfl
        | 4, _ => rfl
        | 5, _ => rfl
        | 6, _ => rfl
        | 7, _ => rfl
        | 8, _ => rfl
        | 9, _ => rfl
        | 10, _ => rfl
        | 11, _ => rfl
        | 12, _ => rfl
        | 13, _ => rfl
        | 14, _ => exact (show (upd (q_nb p left dn ins) 9 1) = (q_nb p left dn ins) by simp only [q_upd_upd, q_upd_z, q_nb_4, q_nb_17, q_nb_19, q_nb_20, q_nb_0, q_nb_9, q_nb_18, q_fb_4, q_fb_0])
        | 15, _ => rfl
        | 16, _ => rfl
        | 17, _ => rfl
        | 18, _ => rfl
        | 19, _ => rfl
        | 20, _ => rfl
        | 21, _ => rfl
        | 22, _ => rfl
        | 23, _ => rfl
        | 24, _ => rfl
        | 25, _ => rfl
        | 26, _ => rfl
        | 27, _ => rfl
        | 28, _ => rfl
        | 29, _ => rfl
        | 30, _ => rfl
        | 31, _ => rfl
        | 32, _ => rfl
        | 33, _ => rfl
        | i + 34, hi => exact absurd hi (by omega)
      refine q_Ru_hX (q_cM_A (I := q_IM) (J := (q_mJ y pd)) hA) ?_
      refine q_Ru_call (v := (some (.int 1))) (h2 := (q_cM (q_mA pix smp tr (q_nb p left dn ins) (q_fb z)) q_IM (q_mJ y pd), 34, 31630)) rfl rfl ?_ ?_
      · exact (by have e := q_m_picX pix smp tr p left dn ins z y pd col lin p1 p2 hC hM c0 c1 l0 l1 a0 a1 b0 b1 hp0 hp1 hp2 i0 i1; rw [hpic] at e; exact e.le (Nat.le_of_ble_eq_true rfl))
      show q_Ru _ _ _ (43, [(1, .int col), (0, .ref 64)], [.int 1], (q_cM (q_mA pix smp tr (q_nb p left dn ins) (q_fb z)) q_IM (q_mJ y pd), 34, 31630)) _
      refine q_Ru_seg (g2 := (45, [(2, .int 1), (1, .int col), (0, .ref 64)], [.ref 64], (q_cM (q_mA pix smp tr (q_nb p left dn ins) (q_fb z)) q_IM (q_mJ y pd), 34, 31630))) 2 (fun _ _ => rfl) ?_
      refine q_Ru_call (v := (some (.int (lin - 4)))) (h2 := (q_cM (q_mA pix smp tr (q_nb p left dn ins) (q_fb z)) q_IM (q_mJ y pd), 34, 31630)) rfl rfl ?_ ?_
      · refine q_Ca_of (Nat.le_of_ble_eq_true rfl) ?_
        refine q_Ru_seg (g2 := (1, [(0, .ref 64)], [.ref 64], (q_cM (q_mA pix smp tr (q_nb p left dn ins) (q_fb z)) q_IM (q_mJ y pd), 34, 31630))) 1 (fun _ _ => rfl) ?_
        refine q_Ru_call (v := (some (.int lin))) (h2 := (q_cM (q_mA pix smp tr (q_nb p left dn ins) (q_fb z)) q_IM (q_mJ y pd), 34, 31630)) rfl rfl ?_ ?_
        · refine q_Ca_of (Nat.le_of_ble_eq_true rfl) ?_
          refine q_Ru_seg (g2 := (4, [(0, .ref 64)], [.long y], (q_cM (q_mA pix smp tr (q_nb p left dn ins) (q_fb z)) q_IM (q_mJ y pd), 34, 31630))) 2 (fun _ _ => rfl) ?_
          refine q_Ru_seg (g2 := (13, [(0, .ref 64)], [.int (((y / 24) - (y / 24) / 40 * 40).toInt32)], (q_cM (q_mA pix smp tr (q_nb p left dn ins) (q_fb z)) q_IM (q_mJ y pd), 34, 31630))) 5 (fun _ _ => rfl) ?_
          rw [hM]
          exact q_Ru_ret rfl rfl
        show q_Ru _ _ _ (4, [(0, .ref 64)], [.int lin], (q_cM (q_mA pix smp tr (q_nb p left dn ins) (q_fb z)) q_IM (q_mJ y pd), 34, 31630)) _
        refine q_Ru_seg (g2 := (6, [(0, .ref 64)], [.int (lin - 4)], (q_cM (q_mA pix smp tr (q_nb p left dn ins) (q_fb z)) q_IM (q_mJ y pd), 34, 31630))) 2 (fun _ _ => rfl) ?_
        exact q_Ru_ret rfl rfl
      show q_Ru _ _ _ (48, [(2, .int 1), (1, .int col), (0, .ref 64)], [.int (lin - 4)], (q_cM (q_mA pix smp tr (q_nb p left dn ins) (q_fb z)) q_IM (q_mJ y pd), 34, 31630)) _
      refine q_Ru_seg (g2 := (53, [(3, .int (lin - 4)), (2, .int 1), (1, .int col), (0, .ref 64)], [.int 31, .int 0, .int (lin - 4)], (q_cM (q_mA pix smp tr (q_nb p left dn ins) (q_fb z)) q_IM (q_mJ y pd), 34, 31630))) 4 (fun _ _ => rfl) ?_
      refine q_Ru_call (v := (some (.int 0))) (h2 := (q_cM (q_mA pix smp tr (q_nb p left dn ins) (q_fb z)) q_IM (q_mJ y pd), 34, 31630)) rfl rfl ?_ ?_
      · refine q_Ca_of (Nat.le_of_ble_eq_true rfl) ?_
        refine q_Ru_seg (g2 := (2, [(0, .int (lin - 4)), (1, .int 0), (2, .int 31)], [.int 0, .int (lin - 4)], (q_cM (q_mA pix smp tr (q_nb p left dn ins) (q_fb z)) q_IM (q_mJ y pd), 34, 31630))) 2 (fun _ _ => rfl) ?_
        refine q_Ru_rsT (g2 := (14, [(0, .int (lin - 4)), (1, .int 0), (2, .int 31)], [], (q_cM (q_mA pix smp tr (q_nb p left dn ins) (q_fb z)) q_IM (q_mJ y pd), 34, 31630))) rfl rfl h172 ?_
        refine q_Ru_seg (g2 := (15, [(0, .int (lin - 4)), (1, .int 0), (2, .int 31)], [.int 0], (q_cM (q_mA pix smp tr (q_nb p left dn ins) (q_fb z)) q_IM (q_mJ y pd), 34, 31630))) 1 (fun _ _ => rfl) ?_
        exact q_Ru_ret rfl rfl
      show q_Ru _ _ _ (56, [(3, .int (lin - 4)), (2, .int 1), (1, .int col), (0, .ref 64)], [.int 0], (q_cM (q_mA pix smp tr (q_nb p left dn ins) (q_fb z)) q_IM (q_mJ y pd), 34, 31630)) _
      refine q_Ru_seg (g2 := (92, [(3, .int (lin - 4)), (2, .int 1), (1, .int col), (0, .ref 64)], [.ref 64], (q_cM (q_mA pix smp tr (q_nb p left dn ins) (q_fb z)) q_IM (q_mJ y pd), 34, 31630))) 2 (fun _ _ => rfl) ?_
      refine q_Ru_call (v := none) (h2 := (q_cM (q_mA pix smp tr (q_nb p left dn ins) (q_fb z)) q_IM (q_mJ y pd), 34, 31630)) rfl rfl ?_ ?_
      · exact (q_m_times pix smp tr p left dn ins z y pd col lin p1 p2 hC hM c0 c1 l0 l1 a0 a1 b0 b1 hp0 hp1 hp2 i0 i1  ).le (Nat.le_of_ble_eq_true rfl)
      show q_Ru _ _ _ (95, [(3, .int (lin - 4)), (2, .int 1), (1, .int col), (0, .ref 64)], [], (q_cM (q_mA pix smp tr (q_nb p left dn ins) (q_fb z)) q_IM (q_mJ y pd), 34, 31630)) _
      refine q_Ru_seg (g2 := (96, [(3, .int (lin - 4)), (2, .int 1), (1, .int col), (0, .ref 64)], [.ref 64], (q_cM (q_mA pix smp tr (q_nb p left dn ins) (q_fb z)) q_IM (q_mJ y pd), 34, 31630))) 1 (fun _ _ => rfl) ?_
      refine q_Ru_call (v := none) (h2 := (q_cM (q_mA pix smp tr (q_nb p left dn ins) (q_fb z)) q_IM (q_mJ y pd), 34, 31630)) rfl rfl ?_ ?_
      · exact (q_m_winds pix smp tr p left dn ins z y pd col lin p1 p2 hC hM c0 c1 l0 l1 a0 a1 b0 b1 hp0 hp1 hp2 i0 i1  ).le (Nat.le_of_ble_eq_true rfl)
      show q_Ru _ _ _ (99, [(3, .int (lin - 4)), (2, .int 1), (1, .int col), (0, .ref 64)], [], (q_cM (q_mA pix smp tr (q_nb p left dn ins) (q_fb z)) q_IM (q_mJ y pd), 34, 31630)) _
      refine q_Ru_seg (g2 := (102, [(3, .int (lin - 4)), (2, .int 1), (1, .int col), (0, .ref 64)], [.int 23, .int col], (q_cM (q_mA pix smp tr (q_nb p left dn ins) (q_fb z)) q_IM (q_mJ y pd), 34, 31630))) 2 (fun _ _ => rfl) ?_
      refine q_Ru_rsT (g2 := (109, [(3, .int (lin - 4)), (2, .int 1), (1, .int col), (0, .ref 64)], [], (q_cM (q_mA pix smp tr (q_nb p left dn ins) (q_fb z)) q_IM (q_mJ y pd), 34, 31630))) rfl rfl (q_d_neF h173) ?_
      refine q_Ru_seg (g2 := (122, [(3, .int (lin - 4)), (2, .int 1), (1, .int col), (0, .ref 64)], [.long pd, .ref 64], (q_cM (q_mA pix smp tr (q_nb p left dn ins) (q_fb z)) q_IM (q_mJ y pd), 34, 31630))) 5 (fun _ _ => rfl) ?_
      refine q_Ru_seg (g2 := (140, [(3, .int (lin - 4)), (2, .int 1), (1, .int col), (0, .ref 64)], [.long y, .ref 64], (q_cM (q_mA pix smp tr (q_nb p left dn ins) (q_fb z)) q_IM (q_uI (q_mJ y pd) 0 16 (pd + 1)), 34, 31630))) 9 (fun _ _ => rfl) ?_
      refine q_Ru_seg (g2 := (146, [(3, .int (lin - 4)), (2, .int 1), (1, .int col), (0, .ref 64)], [.int 1], (q_cM (q_mA pix smp tr (q_nb p left dn ins) (q_fb z)) q_IM (q_uI (q_uI (q_mJ y pd) 0 16 (pd + 1)) 0 15 (y + 1)), 34, 31630))) 4 (fun _ _ => rfl) ?_
      exact q_Ru_ret rfl rfl
    | false =>
      cases h174 : decide (lin - 4 < 0) with
      | true =>
        have h175 : decide (col = 23) = false := q_not_tr (q_tbl1 (fun col => !decide (col = 23)) (l := 0) (n := 0) (by decide +kernel) (q_eqlo h170) (q_eqhi h170))
        refine ⟨pix, smp, ?_⟩
        refine q_Ca_of (Nat.le_of_ble_eq_true rfl) ?_
        refine q_Ru_seg (g2 := (4, [(0, .ref 64)], [.long y], (q_cM (q_mA pix smp tr (q_nb p left dn ins) (q_fb z)) q_IM (q_mJ y pd), 34, 31630))) 2 (fun _ _ => rfl) ?_
        refine q_Ru_seg (g2 := (9, [(0, .ref 64)], [.int ((y - y / 24 * 24).toInt32)], (q_cM (q_mA pix smp tr (q_nb p left dn ins) (q_fb z)) q_IM (q_mJ y pd), 34, 31630))) 3 (fun _ _ => rfl) ?_
        rw [hC]
        refine q_Ru_seg (g2 := (11, [(1, .int col), (0, .ref 64)], [.int col], (q_cM (q_mA pix smp tr (q_nb p left dn ins) (q_fb z)) q_IM (q_mJ y pd), 34, 31630))) 2 (fun _ _ => rfl) ?_
        refine q_Ru_rsF (g2 := (14, [(1, .int col), (0, .ref 64)], [], (q_cM (q_mA pix smp tr (q_nb p left dn ins) (q_fb z)) q_IM (q_mJ y pd), 34, 31630))) rfl rfl (q_d_neT h170) ?_
        refine q_Ru_seg (g2 := (15, [(1, .int col), (0, .ref 64)], [.ref 64], (q_cM (q_mA pix smp tr (q_nb p left dn ins) (q_fb z)) q_IM (q_mJ y pd), 34, 31630))) 1 (fun _ _ => rfl) ?_
        refine q_Ru_call (v := (some (.int lin))) (h2 := (q_cM (q_mA pix smp tr (q_nb p left dn ins) (q_fb z)) q_IM (q_mJ y pd), 34, 31630)) rfl rfl ?_ ?_
        · refine q_Ca_of (Nat.le_of_ble_eq_true rfl) ?_
          refine q_Ru_seg (g2 := (4, [(0, .ref 64)], [.long y], (q_cM (q_mA pix smp tr (q_nb p left dn ins) (q_fb z)) q_IM (q_mJ y pd), 34, 31630))) 2 (fun _ _ => rfl) ?_
          refine q_Ru_seg (g2 := (13, [(0, .ref 64)], [.int (((y / 24) - (y / 24) / 40 * 40).toInt32)], (q_cM (q_mA pix smp tr (q_nb p left dn ins) (q_fb z)) q_IM (q_mJ y pd), 34, 31630))) 5 (fun _ _ => rfl) ?_
          rw [hM]
          exact q_Ru_ret rfl rfl
        show q_Ru _ _ _ (18, [(1, .int col), (0, .ref 64)], [.int lin], (q_cM (q_mA pix smp tr (q_nb p left dn ins) (q_fb z)) q_IM (q_mJ y pd), 34, 31630)) _
        refine q_Ru_seg (g2 := (25, [(1, .int col), (0, .ref 64)], [.int 0, .int lin], (q_cM (q_mA pix smp tr (q_nb p left dn ins) (q_fb z)) q_IM (q_mJ y pd), 34, 31630))) 4 (fun _ _ => rfl) ?_
        refine q_Ru_rsT (g2 := (39, [(1, .int col), (0, .ref 64)], [], (q_cM (q_mA pix smp tr (q_nb p left dn ins) (q_fb z)) q_IM (q_mJ y pd), 34, 31630))) rfl rfl (q_d_neF h171) ?_
        refine q_Ru_seg (g2 := (40, [(1, .int col), (0, .ref 64)], [.ref 64], (q_cM (q_mA pix smp tr (q_nb p left dn ins) (q_fb z)) q_IM (q_mJ y pd), 34, 31630))) 1 (fun _ _ => rfl) ?_
        refine q_Ru_call (v := (some (.int 1))) (h2 := (q_cM (q_mA pix smp tr (q_nb p left dn ins) (q_fb z)) q_IM (q_mJ y pd), 34, 31630)) rfl rfl ?_ ?_
        · exact (by have e := q_m_picX pix smp tr p left dn ins z y pd col lin p1 p2 hC hM c0 c1 l0 l1 a0 a1 b0 b1 hp0 hp1 hp2 i0 i1; rw [hpic] at e; exact e.le (Nat.le_of_ble_eq_true rfl))
        show q_Ru _ _ _ (43, [(1, .int col), (0, .ref 64)], [.int 1], (q_cM (q_mA pix smp tr (q_nb p left dn ins) (q_fb z)) q_IM (q_mJ y pd), 34, 31630)) _
        refine q_Ru_seg (g2 := (45, [(2, .int 1), (1, .int col), (0, .ref 64)], [.ref 64], (q_cM (q_mA pix smp tr (q_nb p left dn ins) (q_fb z)) q_IM (q_mJ y pd), 34, 31630))) 2 (fun _ _ => rfl) ?_
        refine q_Ru_call (v := (some (.int (lin - 4)))) (h2 := (q_cM (q_mA pix smp tr (q_nb p left dn ins) (q_fb z)) q_IM (q_mJ y pd), 34, 31630)) rfl rfl ?_ ?_
        · refine q_Ca_of (Nat.le_of_ble_eq_true rfl) ?_
          refine q_Ru_seg (g2 := (1, [(0, .ref 64)], [.ref 64], (q_cM (q_mA pix smp tr (q_nb p left dn ins) (q_fb z)) q_IM (q_mJ y pd), 34, 31630))) 1 (fun _ _ => rfl) ?_
          refine q_Ru_call (v := (some (.int lin))) (h2 := (q_cM (q_mA pix smp tr (q_nb p left dn ins) (q_fb z)) q_IM (q_mJ y pd), 34, 31630)) rfl rfl ?_ ?_
          · refine q_Ca_of (Nat.le_of_ble_eq_true rfl) ?_
            refine q_Ru_seg (g2 := (4, [(0, .ref 64)], [.long y], (q_cM (q_mA pix smp tr (q_nb p left dn ins) (q_fb z)) q_IM (q_mJ y pd), 34, 31630))) 2 (fun _ _ => rfl) ?_
            refine q_Ru_seg (g2 := (13, [(0, .ref 64)], [.int (((y / 24) - (y / 24) / 40 * 40).toInt32)], (q_cM (q_mA pix smp tr (q_nb p left dn ins) (q_fb z)) q_IM (q_mJ y pd), 34, 31630))) 5 (fun _ _ => rfl) ?_
            rw [hM]
            exact q_Ru_ret rfl rfl
          show q_Ru _ _ _ (4, [(0, .ref 64)], [.int lin], (q_cM (q_mA pix smp tr (q_nb p left dn ins) (q_fb z)) q_IM (q_mJ y pd), 34, 31630)) _
          refine q_Ru_seg (g2 := (6, [(0, .ref 64)], [.int (lin - 4)], (q_cM (q_mA pix smp tr (q_nb p left dn ins) (q_fb z)) q_IM (q_mJ y pd), 34, 31630))) 2 (fun _ _ => rfl) ?_
          exact q_Ru_ret rfl rfl
        show q_Ru _ _ _ (48, [(2, .int 1), (1, .int col), (0, .ref 64)], [.int (lin - 4)], (q_cM (q_mA pix smp tr (q_nb p left dn ins) (q_fb z)) q_IM (q_mJ y pd), 34, 31630)) _
        refine q_Ru_seg (g2 := (53, [(3, .int (lin - 4)), (2, .int 1), (1, .int col), (0, .ref 64)], [.int 31, .int 0, .int (lin - 4)], (q_cM (q_mA pix smp tr (q_nb p left dn ins) (q_fb z)) q_IM (q_mJ y pd), 34, 31630))) 4 (fun _ _ => rfl) ?_
        refine q_Ru_call (v := (some (.int 0))) (h2 := (q_cM (q_mA pix smp tr (q_nb p left dn ins) (q_fb z)) q_IM (q_mJ y pd), 34, 31630)) rfl rfl ?_ ?_
        · refine q_Ca_of (Nat.le_of_ble_eq_true rfl) ?_
          refine q_Ru_seg (g2 := (2, [(0, .int (lin - 4)), (1, .int 0), (2, .int 31)], [.int 0, .int (lin - 4)], (q_cM (q_mA pix smp tr (q_nb p left dn ins) (q_fb z)) q_IM (q_mJ y pd), 34, 31630))) 2 (fun _ _ => rfl) ?_
          refine q_Ru_rsT (g2 := (14, [(0, .int (lin - 4)), (1, .int 0), (2, .int 31)], [], (q_cM (q_mA pix smp tr (q_nb p left dn ins) (q_fb z)) q_IM (q_mJ y pd), 34, 31630))) rfl rfl h174 ?_
          refine q_Ru_seg (g2 := (15, [(0, .int (lin - 4)), (1, .int 0), (2, .int 31)], [.int 0], (q_cM (q_mA pix smp tr (q_nb p left dn ins) (q_fb z)) q_IM (q_mJ y pd), 34, 31630))) 1 (fun _ _ => rfl) ?_
          exact q_Ru_ret rfl rfl
        show q_Ru _ _ _ (56, [(3, .int (lin - 4)), (2, .int 1), (1, .int col), (0, .ref 64)], [.int 0], (q_cM (q_mA pix smp tr (q_nb p left dn ins) (q_fb z)) q_IM (q_mJ y pd), 34, 31630)) _
        refine q_Ru_seg (g2 := (92, [(3, .int (lin - 4)), (2, .int 1), (1, .int col), (0, .ref 64)], [.ref 64], (q_cM (q_mA pix smp tr (q_nb p left dn ins) (q_fb z)) q_IM (q_mJ y pd), 34, 31630))) 2 (fun _ _ => rfl) ?_
        refine q_Ru_call (v := none) (h2 := (q_cM (q_mA pix smp tr (q_nb p left dn ins) (q_fb z)) q_IM (q_mJ y pd), 34, 31630)) rfl rfl ?_ ?_
        · exact (q_m_times pix smp tr p left dn ins z y pd col lin p1 p2 hC hM c0 c1 l0 l1 a0 a1 b0 b1 hp0 hp1 hp2 i0 i1  ).le (Nat.le_of_ble_eq_true rfl)
        show q_Ru _ _ _ (95, [(3, .int (lin - 4)), (2, .int 1), (1, .int col), (0, .ref 64)], [], (q_cM (q_mA pix smp tr (q_nb p left dn ins) (q_fb z)) q_IM (q_mJ y pd), 34, 31630)) _
        refine q_Ru_seg (g2 := (96, [(3, .int (lin - 4)), (2, .int 1), (1, .int col), (0, .ref 64)], [.ref 64], (q_cM (q_mA pix smp tr (q_nb p left dn ins) (q_fb z)) q_IM (q_mJ y pd), 34, 31630))) 1 (fun _ _ => rfl) ?_
        refine q_Ru_call (v := none) (h2 := (q_cM (q_mA pix smp tr (q_nb p left dn ins) (q_fb z)) q_IM (q_mJ y pd), 34, 31630)) rfl rfl ?_ ?_
        · exact (q_m_winds pix smp tr p left dn ins z y pd col lin p1 p2 hC hM c0 c1 l0 l1 a0 a1 b0 b1 hp0 hp1 hp2 i0 i1  ).le (Nat.le_of_ble_eq_true rfl)
        show q_Ru _ _ _ (99, [(3, .int (lin - 4)), (2, .int 1), (1, .int col), (0, .ref 64)], [], (q_cM (q_mA pix smp tr (q_nb p left dn ins) (q_fb z)) q_IM (q_mJ y pd), 34, 31630)) _
        refine q_Ru_seg (g2 := (102, [(3, .int (lin - 4)), (2, .int 1), (1, .int col), (0, .ref 64)], [.int 23, .int col], (q_cM (q_mA pix smp tr (q_nb p left dn ins) (q_fb z)) q_IM (q_mJ y pd), 34, 31630))) 2 (fun _ _ => rfl) ?_
        refine q_Ru_rsT (g2 := (109, [(3, .int (lin - 4)), (2, .int 1), (1, .int col), (0, .ref 64)], [], (q_cM (q_mA pix smp tr (q_nb p left dn ins) (q_fb z)) q_IM (q_mJ y pd), 34, 31630))) rfl rfl (q_d_neF h175) ?_
        refine q_Ru_seg (g2 := (122, [(3, .int (lin - 4)), (2, .int 1), (1, .int col), (0, .ref 64)], [.long pd, .ref 64], (q_cM (q_mA pix smp tr (q_nb p left dn ins) (q_fb z)) q_IM (q_mJ y pd), 34, 31630))) 5 (fun _ _ => rfl) ?_
        refine q_Ru_seg (g2 := (140, [(3, .int (lin - 4)), (2, .int 1), (1, .int col), (0, .ref 64)], [.long y, .ref 64], (q_cM (q_mA pix smp tr (q_nb p left dn ins) (q_fb z)) q_IM (q_uI (q_mJ y pd) 0 16 (pd + 1)), 34, 31630))) 9 (fun _ _ => rfl) ?_
        refine q_Ru_seg (g2 := (146, [(3, .int (lin - 4)), (2, .int 1), (1, .int col), (0, .ref 64)], [.int 1], (q_cM (q_mA pix smp tr (q_nb p left dn ins) (q_fb z)) q_IM (q_uI (q_uI (q_mJ y pd) 0 16 (pd + 1)) 0 15 (y + 1)), 34, 31630))) 4 (fun _ _ => rfl) ?_
        exact q_Ru_ret rfl rfl
      | false =>
        cases h176 : decide (31 < lin - 4) with
        | true =>
          have h177 : decide (col = 23) = false := q_not_tr (q_tbl1 (fun col => !decide (col = 23)) (l := 0) (n := 0) (by decide +kernel) (q_eqlo h170) (q_eqhi h170))
          refine ⟨pix, smp, ?_⟩
          refine q_Ca_of (Nat.le_of_ble_eq_true rfl) ?_
          refine q_Ru_seg (g2 := (4, [(0, .ref 64)], [.long y], (q_cM (q_mA pix smp tr (q_nb p left dn ins) (q_fb z)) q_IM (q_mJ y pd), 34, 31630))) 2 (fun _ _ => rfl) ?_
          refine q_Ru_seg (g2 := (9, [(0, .ref 64)], [.int ((y - y / 24 * 24).toInt32)], (q_cM (q_mA pix smp tr (q_nb p left dn ins) (q_fb z)) q_IM (q_mJ y pd), 34, 31630))) 3 (fun _ _ => rfl) ?_
          rw [hC]
          refine q_Ru_seg (g2 := (11, [(1, .int col), (0, .ref 64)], [.int col], (q_cM (q_mA pix smp tr (q_nb p left dn ins) (q_fb z)) q_IM (q_mJ y pd), 34, 31630))) 2 (fun _ _ => rfl) ?_
          refine q_Ru_rsF (g2 := (14, [(1, .int col), (0, .ref 64)], [], (q_cM (q_mA pix smp tr (q_nb p left dn ins) (q_fb z)) q_IM (q_mJ y pd), 34, 31630))) rfl rfl (q_d_neT h170) ?_
          refine q_Ru_seg (g2 := (15, [(1, .int col), (0, .ref 64)], [.ref 64], (q_cM (q_mA pix smp tr (q_nb p left dn ins) (q_fb z)) q_IM (q_mJ y pd), 34, 31630))) 1 (fun _ _ => rfl) ?_
          refine q_Ru_call (v := (some (.int lin))) (h2 := (q_cM (q_mA pix smp tr (q_nb p left dn ins) (q_fb z)) q_IM (q_mJ y pd), 34, 31630)) rfl rfl ?_ ?_
          · refine q_Ca_of (Nat.le_of_ble_eq_true rfl) ?_
            refine q_Ru_seg (g2 := (4, [(0, .ref 64)], [.long y], (q_cM (q_mA pix smp tr (q_nb p left dn ins) (q_fb z)) q_IM (q_mJ y pd), 34, 31630))) 2 (fun _ _ => rfl) ?_
            refine q_Ru_seg (g2 := (13, [(0, .ref 64)], [.int (((y / 24) - (y / 24) / 40 * 40).toInt32)], (q_cM (q_mA pix smp tr (q_nb p left dn ins) (q_fb z)) q_IM (q_mJ y pd), 34, 31630))) 5 (fun _ _ => rfl) ?_
            rw [hM]
            exact q_Ru_ret rfl rfl
          show q_Ru _ _ _ (18, [(1, .int col), (0, .ref 64)], [.int lin], (q_cM (q_mA pix smp tr (q_nb p left dn ins) (q_fb z)) q_IM (q_mJ y pd), 34, 31630)) _
          refine q_Ru_seg (g2 := (25, [(1, .int col), (0, .ref 64)], [.int 0, .int lin], (q_cM (q_mA pix smp tr (q_nb p left dn ins) (q_fb z)) q_IM (q_mJ y pd), 34, 31630))) 4 (fun _ _ => rfl) ?_
          refine q_Ru_rsT (g2 := (39, [(1, .int col), (0, .ref 64)], [], (q_cM (q_mA pix smp tr (q_nb p left dn ins) (q_fb z)) q_IM (q_mJ y pd), 34, 31630))) rfl rfl (q_d_neF h171) ?_
          refine q_Ru_seg (g2 := (40, [(1, .int col), (0, .ref 64)], [.ref 64], (q_cM (q_mA pix smp tr (q_nb p left dn ins) (q_fb z)) q_IM (q_mJ y pd), 34, 31630))) 1 (fun _ _ => rfl) ?_
          refine q_Ru_call (v := (some (.int 1))) (h2 := (q_cM (q_mA pix smp tr (q_nb p left dn ins) (q_fb z)) q_IM (q_mJ y pd), 34, 31630)) rfl rfl ?_ ?_
          · exact (by have e := q_m_picX pix smp tr p left dn ins z y pd col lin p1 p2 hC hM c0 c1 l0 l1 a0 a1 b0 b1 hp0 hp1 hp2 i0 i1; rw [hpic] at e; exact e.le (Nat.le_of_ble_eq_true rfl))
          show q_Ru _ _ _ (43, [(1, .int col), (0, .ref 64)], [.int 1], (q_cM (q_mA pix smp tr (q_nb p left dn ins) (q_fb z)) q_IM (q_mJ y pd), 34, 31630)) _
          refine q_Ru_seg (g2 := (45, [(2, .int 1), (1, .int col), (0, .ref 64)], [.ref 64], (q_cM (q_mA pix smp tr (q_nb p left dn ins) (q_fb z)) q_IM (q_mJ y pd), 34, 31630))) 2 (fun _ _ => rfl) ?_
          refine q_Ru_call (v := (some (.int (lin - 4)))) (h2 := (q_cM (q_mA pix smp tr (q_nb p left dn ins) (q_fb z)) q_IM (q_mJ y pd), 34, 31630)) rfl rfl ?_ ?_
          · refine q_Ca_of (Nat.le_of_ble_eq_true rfl) ?_
            refine q_Ru_seg (g2 := (1, [(0, .ref 64)], [.ref 64], (q_cM (q_mA pix smp tr (q_nb p left dn ins) (q_fb z)) q_IM (q_mJ y pd), 34, 31630))) 1 (fun _ _ => rfl) ?_
            refine q_Ru_call (v := (some (.int lin))) (h2 := (q_cM (q_mA pix smp tr (q_nb p left dn ins) (q_fb z)) q_IM (q_mJ y pd), 34, 31630)) rfl rfl ?_ ?_
            · refine q_Ca_of (Nat.le_of_ble_eq_true rfl) ?_
              refine q_Ru_seg (g2 := (4, [(0, .ref 64)], [.long y], (q_cM (q_mA pix smp tr (q_nb p left dn ins) (q_fb z)) q_IM (q_mJ y pd), 34, 31630))) 2 (fun _ _ => rfl) ?_
              refine q_Ru_seg (g2 := (13, [(0, .ref 64)], [.int (((y / 24) - (y / 24) / 40 * 40).toInt32)], (q_cM (q_mA pix smp tr (q_nb p left dn ins) (q_fb z)) q_IM (q_mJ y pd), 34, 31630))) 5 (fun _ _ => rfl) ?_
              rw [hM]
              exact q_Ru_ret rfl rfl
            show q_Ru _ _ _ (4, [(0, .ref 64)], [.int lin], (q_cM (q_mA pix smp tr (q_nb p left dn ins) (q_fb z)) q_IM (q_mJ y pd), 34, 31630)) _
            refine q_Ru_seg (g2 := (6, [(0, .ref 64)], [.int (lin - 4)], (q_cM (q_mA pix smp tr (q_nb p left dn ins) (q_fb z)) q_IM (q_mJ y pd), 34, 31630))) 2 (fun _ _ => rfl) ?_
            exact q_Ru_ret rfl rfl
          show q_Ru _ _ _ (48, [(2, .int 1), (1, .int col), (0, .ref 64)], [.int (lin - 4)], (q_cM (q_mA pix smp tr (q_nb p left dn ins) (q_fb z)) q_IM (q_mJ y pd), 34, 31630)) _
          refine q_Ru_seg (g2 := (53, [(3, .int (lin - 4)), (2, .int 1), (1, .int col), (0, .ref 64)], [.int 31, .int 0, .int (lin - 4)], (q_cM (q_mA pix smp tr (q_nb p left dn ins) (q_fb z)) q_IM (q_mJ y pd), 34, 31630))) 4 (fun _ _ => rfl) ?_
          refine q_Ru_call (v := (some (.int 0))) (h2 := (q_cM (q_mA pix smp tr (q_nb p left dn ins) (q_fb z)) q_IM (q_mJ y pd), 34, 31630)) rfl rfl ?_ ?_
          · refine q_Ca_of (Nat.le_of_ble_eq_true rfl) ?_
            refine q_Ru_seg (g2 := (2, [(0, .int (lin - 4)), (1, .int 0), (2, .int 31)], [.int 0, .int (lin - 4)], (q_cM (q_mA pix smp tr (q_nb p left dn ins) (q_fb z)) q_IM (q_mJ y pd), 34, 31630))) 2 (fun _ _ => rfl) ?_
            refine q_Ru_rsF (g2 := (5, [(0, .int (lin - 4)), (1, .int 0), (2, .int 31)], [], (q_cM (q_mA pix smp tr (q_nb p left dn ins) (q_fb z)) q_IM (q_mJ y pd), 34, 31630))) rfl rfl h174 ?_
            refine q_Ru_seg (g2 := (7, [(0, .int (lin - 4)), (1, .int 0), (2, .int 31)], [.int 31, .int (lin - 4)], (q_cM (q_mA pix smp tr (q_nb p left dn ins) (q_fb z)) q_IM (q_mJ y pd), 34, 31630))) 2 (fun _ _ => rfl) ?_
            refine q_Ru_rsT (g2 := (14, [(0, .int (lin - 4)), (1, .int 0), (2, .int 31)], [], (q_cM (q_mA pix smp tr (q_nb p left dn ins) (q_fb z)) q_IM (q_mJ y pd), 34, 31630))) rfl rfl h176 ?_
            refine q_Ru_seg (g2 := (15, [(0, .int (lin - 4)), (1, .int 0), (2, .int 31)], [.int 0], (q_cM (q_mA pix smp tr (q_nb p left dn ins) (q_fb z)) q_IM (q_mJ y pd), 34, 31630))) 1 (fun _ _ => rfl) ?_
            exact q_Ru_ret rfl rfl
          show q_Ru _ _ _ (56, [(3, .int (lin - 4)), (2, .int 1), (1, .int col), (0, .ref 64)], [.int 0], (q_cM (q_mA pix smp tr (q_nb p left dn ins) (q_fb z)) q_IM (q_mJ y pd), 34, 31630)) _
          refine q_Ru_seg (g2 := (92, [(3, .int (lin - 4)), (2, .int 1), (1, .int col), (0, .ref 64)], [.ref 64], (q_cM (q_mA pix smp tr (q_nb p left dn ins) (q_fb z)) q_IM (q_mJ y pd), 34, 31630))) 2 (fun _ _ => rfl) ?_
          refine q_Ru_call (v := none) (h2 := (q_cM (q_mA pix smp tr (q_nb p left dn ins) (q_fb z)) q_IM (q_mJ y pd), 34, 31630)) rfl rfl ?_ ?_
          · exact (q_m_times pix smp tr p left dn ins z y pd col lin p1 p2 hC hM c0 c1 l0 l1 a0 a1 b0 b1 hp0 hp1 hp2 i0 i1  ).le (Nat.le_of_ble_eq_true rfl)
          show q_Ru _ _ _ (95, [(3, .int (lin - 4)), (2, .int 1), (1, .int col), (0, .ref 64)], [], (q_cM (q_mA pix smp tr (q_nb p left dn ins) (q_fb z)) q_IM (q_mJ y pd), 34, 31630)) _
          refine q_Ru_seg (g2 := (96, [(3, .int (lin - 4)), (2, .int 1), (1, .int col), (0, .ref 64)], [.ref 64], (q_cM (q_mA pix smp tr (q_nb p left dn ins) (q_fb z)) q_IM (q_mJ y pd), 34, 31630))) 1 (fun _ _ => rfl) ?_
          refine q_Ru_call (v := none) (h2 := (q_cM (q_mA pix smp tr (q_nb p left dn ins) (q_fb z)) q_IM (q_mJ y pd), 34, 31630)) rfl rfl ?_ ?_
          · exact (q_m_winds pix smp tr p left dn ins z y pd col lin p1 p2 hC hM c0 c1 l0 l1 a0 a1 b0 b1 hp0 hp1 hp2 i0 i1  ).le (Nat.le_of_ble_eq_true rfl)
          show q_Ru _ _ _ (99, [(3, .int (lin - 4)), (2, .int 1), (1, .int col), (0, .ref 64)], [], (q_cM (q_mA pix smp tr (q_nb p left dn ins) (q_fb z)) q_IM (q_mJ y pd), 34, 31630)) _
          refine q_Ru_seg (g2 := (102, [(3, .int (lin - 4)), (2, .int 1), (1, .int col), (0, .ref 64)], [.int 23, .int col], (q_cM (q_mA pix smp tr (q_nb p left dn ins) (q_fb z)) q_IM (q_mJ y pd), 34, 31630))) 2 (fun _ _ => rfl) ?_
          refine q_Ru_rsT (g2 := (109, [(3, .int (lin - 4)), (2, .int 1), (1, .int col), (0, .ref 64)], [], (q_cM (q_mA pix smp tr (q_nb p left dn ins) (q_fb z)) q_IM (q_mJ y pd), 34, 31630))) rfl rfl (q_d_neF h177) ?_
          refine q_Ru_seg (g2 := (122, [(3, .int (lin - 4)), (2, .int 1), (1, .int col), (0, .ref 64)], [.long pd, .ref 64], (q_cM (q_mA pix smp tr (q_nb p left dn ins) (q_fb z)) q_IM (q_mJ y pd), 34, 31630))) 5 (fun _ _ => rfl) ?_
          refine q_Ru_seg (g2 := (140, [(3, .int (lin - 4)), (2, .int 1), (1, .int col), (0, .ref 64)], [.long y, .ref 64], (q_cM (q_mA pix smp tr (q_nb p left dn ins) (q_fb z)) q_IM (q_uI (q_mJ y pd) 0 16 (pd + 1)), 34, 31630))) 9 (fun _ _ => rfl) ?_
          refine q_Ru_seg (g2 := (146, [(3, .int (lin - 4)), (2, .int 1), (1, .int col), (0, .ref 64)], [.int 1], (q_cM (q_mA pix smp tr (q_nb p left dn ins) (q_fb z)) q_IM (q_uI (q_uI (q_mJ y pd) 0 16 (pd + 1)) 0 15 (y + 1)), 34, 31630))) 4 (fun _ _ => rfl) ?_
          exact q_Ru_ret rfl rfl
        | false =>
          have h178 : decide (col < 4) = true := q_tbl1 (fun col => decide (col < 4)) (l := 0) (n := 0) (by decide +kernel) (q_eqlo h170) (q_eqhi h170)
          have h179 : decide (col = 23) = false := q_not_tr (q_tbl1 (fun col => !decide (col = 23)) (l := 0) (n := 0) (by decide +kernel) (q_eqlo h170) (q_eqhi h170))
          refine ⟨pix, smp, ?_⟩
          refine q_Ca_of (Nat.le_of_ble_eq_true rfl) ?_
          refine q_Ru_seg (g2 := (4, [(0, .ref 64)], [.long y], (q_cM (q_mA pix smp tr (q_nb p left dn ins) (q_fb z)) q_IM (q_mJ y pd), 34, 31630))) 2 (fun _ _ => rfl) ?_
          refine q_Ru_seg (g2 := (9, [(0, .ref 64)], [.int ((y - y / 24 * 24).toInt32)], (q_cM (q_mA pix smp tr (q_nb p left dn ins) (q_fb z)) q_IM (q_mJ y pd), 34, 31630))) 3 (fun _ _ => rfl) ?_
          rw [hC]
          refine q_Ru_seg (g2 := (11, [(1, .int col), (0, .ref 64)], [.int col], (q_cM (q_mA pix smp tr (q_nb p left dn ins) (q_fb z)) q_IM (q_mJ y pd), 34, 31630))) 2 (fun _ _ => rfl) ?_
          refine q_Ru_rsF (g2 := (14, [(1, .int col), (0, .ref 64)], [], (q_cM (q_mA pix smp tr (q_nb p left dn ins) (q_fb z)) q_IM (q_mJ y pd), 34, 31630))) rfl rfl (q_d_neT h170) ?_
          refine q_Ru_seg (g2 := (15, [(1, .int col), (0, .ref 64)], [.ref 64], (q_cM (q_mA pix smp tr (q_nb p left dn ins) (q_fb z)) q_IM (q_mJ y pd), 34, 31630))) 1 (fun _ _ => rfl) ?_
          refine q_Ru_call (v := (some (.int lin))) (h2 := (q_cM (q_mA pix smp tr (q_nb p left dn ins) (q_fb z)) q_IM (q_mJ y pd), 34, 31630)) rfl rfl ?_ ?_
          · refine q_Ca_of (Nat.le_of_ble_eq_true rfl) ?_
            refine q_Ru_seg (g2 := (4, [(0, .ref 64)], [.long y], (q_cM (q_mA pix smp tr (q_nb p left dn ins) (q_fb z)) q_IM (q_mJ y pd), 34, 31630))) 2 (fun _ _ => rfl) ?_
            refine q_Ru_seg (g2 := (13, [(0, .ref 64)], [.int (((y / 24) - (y / 24) / 40 * 40).toInt32)], (q_cM (q_mA pix smp tr (q_nb p left dn ins) (q_fb z)) q_IM (q_mJ y pd), 34, 31630))) 5 (fun _ _ => rfl) ?_
            rw [hM]
            exact q_Ru_ret rfl rfl
          show q_Ru _ _ _ (18, [(1, .int col), (0, .ref 64)], [.int lin], (q_cM (q_mA pix smp tr (q_nb p left dn ins) (q_fb z)) q_IM (q_mJ y pd), 34, 31630)) _
          refine q_Ru_seg (g2 := (25, [(1, .int col), (0, .ref 64)], [.int 0, .int lin], (q_cM (q_mA pix smp tr (q_nb p left dn ins) (q_fb z)) q_IM (q_mJ y pd), 34, 31630))) 4 (fun _ _ => rfl) ?_
          refine q_Ru_rsT (g2 := (39, [(1, .int col), (0, .ref 64)], [], (q_cM (q_mA pix smp tr (q_nb p left dn ins) (q_fb z)) q_IM (q_mJ y pd), 34, 31630))) rfl rfl (q_d_neF h171) ?_
          refine q_Ru_seg (g2 := (40, [(1, .int col), (0, .ref 64)], [.ref 64], (q_cM (q_mA pix smp tr (q_nb p left dn ins) (q_fb z)) q_IM (q_mJ y pd), 34, 31630))) 1 (fun _ _ => rfl) ?_
          refine q_Ru_call (v := (some (.int 1))) (h2 := (q_cM (q_mA pix smp tr (q_nb p left dn ins) (q_fb z)) q_IM (q_mJ y pd), 34, 31630)) rfl rfl ?_ ?_
          · exact (by have e := q_m_picX pix smp tr p left dn ins z y pd col lin p1 p2 hC hM c0 c1 l0 l1 a0 a1 b0 b1 hp0 hp1 hp2 i0 i1; rw [hpic] at e; exact e.le (Nat.le_of_ble_eq_true rfl))
          show q_Ru _ _ _ (43, [(1, .int col), (0, .ref 64)], [.int 1], (q_cM (q_mA pix smp tr (q_nb p left dn ins) (q_fb z)) q_IM (q_mJ y pd), 34, 31630)) _
          refine q_Ru_seg (g2 := (45, [(2, .int 1), (1, .int col), (0, .ref 64)], [.ref 64], (q_cM (q_mA pix smp tr (q_nb p left dn ins) (q_fb z)) q_IM (q_mJ y pd), 34, 31630))) 2 (fun _ _ => rfl) ?_
          refine q_Ru_call (v := (some (.int (lin - 4)))) (h2 := (q_cM (q_mA pix smp tr (q_nb p left dn ins) (q_fb z)) q_IM (q_mJ y pd), 34, 31630)) rfl rfl ?_ ?_
          · refine q_Ca_of (Nat.le_of_ble_eq_true rfl) ?_
            refine q_Ru_seg (g2 := (1, [(0, .ref 64)], [.ref 64], (q_cM (q_mA pix smp tr (q_nb p left dn ins) (q_fb z)) q_IM (q_mJ y pd), 34, 31630))) 1 (fun _ _ => rfl) ?_
            refine q_Ru_call (v := (some (.int lin))) (h2 := (q_cM (q_mA pix smp tr (q_nb p left dn ins) (q_fb z)) q_IM (q_mJ y pd), 34, 31630)) rfl rfl ?_ ?_
            · refine q_Ca_of (Nat.le_of_ble_eq_true rfl) ?_
              refine q_Ru_seg (g2 := (4, [(0, .ref 64)], [.long y], (q_cM (q_mA pix smp tr (q_nb p left dn ins) (q_fb z)) q_IM (q_mJ y pd), 34, 31630))) 2 (fun _ _ => rfl) ?_
              refine q_Ru_seg (g2 := (13, [(0, .ref 64)], [.int (((y / 24) - (y / 24) / 40 * 40).toInt32)], (q_cM (q_mA pix smp tr (q_nb p left dn ins) (q_fb z)) q_IM (q_mJ y pd), 34, 31630))) 5 (fun _ _ => rfl) ?_
              rw [hM]
              exact q_Ru_ret rfl rfl
            show q_Ru _ _ _ (4, [(0, .ref 64)], [.int lin], (q_cM (q_mA pix smp tr (q_nb p left dn ins) (q_fb z)) q_IM (q_mJ y pd), 34, 31630)) _
            refine q_Ru_seg (g2 := (6, [(0, .ref 64)], [.int (lin - 4)], (q_cM (q_mA pix smp tr (q_nb p left dn ins) (q_fb z)) q_IM (q_mJ y pd), 34, 31630))) 2 (fun _ _ => rfl) ?_
            exact q_Ru_ret rfl rfl
          show q_Ru _ _ _ (48, [(2, .int 1), (1, .int col), (0, .ref 64)], [.int (lin - 4)], (q_cM (q_mA pix smp tr (q_nb p left dn ins) (q_fb z)) q_IM (q_mJ y pd), 34, 31630)) _
          refine q_Ru_seg (g2 := (53, [(3, .int (lin - 4)), (2, .int 1), (1, .int col), (0, .ref 64)], [.int 31, .int 0, .int (lin - 4)], (q_cM (q_mA pix smp tr (q_nb p left dn ins) (q_fb z)) q_IM (q_mJ y pd), 34, 31630))) 4 (fun _ _ => rfl) ?_
          refine q_Ru_call (v := (some (.int 1))) (h2 := (q_cM (q_mA pix smp tr (q_nb p left dn ins) (q_fb z)) q_IM (q_mJ y pd), 34, 31630)) rfl rfl ?_ ?_
          · refine q_Ca_of (Nat.le_of_ble_eq_true rfl) ?_
            refine q_Ru_seg (g2 := (2, [(0, .int (lin - 4)), (1, .int 0), (2, .int 31)], [.int 0, .int (lin - 4)], (q_cM (q_mA pix smp tr (q_nb p left dn ins) (q_fb z)) q_IM (q_mJ y pd), 34, 31630))) 2 (fun _ _ => rfl) ?_
            refine q_Ru_rsF (g2 := (5, [(0, .int (lin - 4)), (1, .int 0), (2, .int 31)], [], (q_cM (q_mA pix smp tr (q_nb p left dn ins) (q_fb z)) q_IM (q_mJ y pd), 34, 31630))) rfl rfl h174 ?_
            refine q_Ru_seg (g2 := (7, [(0, .int (lin - 4)), (1, .int 0), (2, .int 31)], [.int 31, .int (lin - 4)], (q_cM (q_mA pix smp tr (q_nb p left dn ins) (q_fb z)) q_IM (q_mJ y pd), 34, 31630))) 2 (fun _ _ => rfl) ?_
            refine q_Ru_rsF (g2 := (10, [(0, .int (lin - 4)), (1, .int 0), (2, .int 31)], [], (q_cM (q_mA pix smp tr (q_nb p left dn ins) (q_fb z)) q_IM (q_mJ y pd), 34, 31630))) rfl rfl h176 ?_
            refine q_Ru_seg (g2 := (15, [(0, .int (lin - 4)), (1, .int 0), (2, .int 31)], [.int 1], (q_cM (q_mA pix smp tr (q_nb p left dn ins) (q_fb z)) q_IM (q_mJ y pd), 34, 31630))) 2 (fun _ _ => rfl) ?_
            exact q_Ru_ret rfl rfl
          show q_Ru _ _ _ (56, [(3, .int (lin - 4)), (2, .int 1), (1, .int col), (0, .ref 64)], [.int 1], (q_cM (q_mA pix smp tr (q_nb p left dn ins) (q_fb z)) q_IM (q_mJ y pd), 34, 31630)) _
          refine q_Ru_seg (g2 := (63, [(3, .int (lin - 4)), (2, .int 1), (1, .int col), (0, .ref 64)], [.int 19, .int 4, .int col], (q_cM (q_mA pix smp tr (q_nb p left dn ins) (q_fb z)) q_IM (q_mJ y pd), 34, 31630))) 4 (fun _ _ => rfl) ?_
          refine q_Ru_call (v := (some (.int 0))) (h2 := (q_cM (q_mA pix smp tr (q_nb p left dn ins) (q_fb z)) q_IM (q_mJ y pd), 34, 31630)) rfl rfl ?_ ?_
          · refine q_Ca_of (Nat.le_of_ble_eq_true rfl) ?_
            refine q_Ru_seg (g2 := (2, [(0, .int col), (1, .int 4), (2, .int 19)], [.int 4, .int col], (q_cM (q_mA pix smp tr (q_nb p left dn ins) (q_fb z)) q_IM (q_mJ y pd), 34, 31630))) 2 (fun _ _ => rfl) ?_
            refine q_Ru_rsT (g2 := (14, [(0, .int col), (1, .int 4), (2, .int 19)], [], (q_cM (q_mA pix smp tr (q_nb p left dn ins) (q_fb z)) q_IM (q_mJ y pd), 34, 31630))) rfl rfl h178 ?_
            refine q_Ru_seg (g2 := (15, [(0, .int col), (1, .int 4), (2, .int 19)], [.int 0], (q_cM (q_mA pix smp tr (q_nb p left dn ins) (q_fb z)) q_IM (q_mJ y pd), 34, 31630))) 1 (fun _ _ => rfl) ?_
            exact q_Ru_ret rfl rfl
          show q_Ru _ _ _ (66, [(3, .int (lin - 4)), (2, .int 1), (1, .int col), (0, .ref 64)], [.int 0], (q_cM (q_mA pix smp tr (q_nb p left dn ins) (q_fb z)) q_IM (q_mJ y pd), 34, 31630)) _
          refine q_Ru_seg (g2 := (92, [(3, .int (lin - 4)), (2, .int 1), (1, .int col), (0, .ref 64)], [.ref 64], (q_cM (q_mA pix smp tr (q_nb p left dn ins) (q_fb z)) q_IM (q_mJ y pd), 34, 31630))) 2 (fun _ _ => rfl) ?_
          refine q_Ru_call (v := none) (h2 := (q_cM (q_mA pix smp tr (q_nb p left dn ins) (q_fb z)) q_IM (q_mJ y pd), 34, 31630)) rfl rfl ?_ ?_
          · exact (q_m_times pix smp tr p left dn ins z y pd col lin p1 p2 hC hM c0 c1 l0 l1 a0 a1 b0 b1 hp0 hp1 hp2 i0 i1  ).le (Nat.le_of_ble_eq_true rfl)
          show q_Ru _ _ _ (95, [(3, .int (lin - 4)), (2, .int 1), (1, .int col), (0, .ref 64)], [], (q_cM (q_mA pix smp tr (q_nb p left dn ins) (q_fb z)) q_IM (q_mJ y pd), 34, 31630)) _
          refine q_Ru_seg (g2 := (96, [(3, .int (lin - 4)), (2, .int 1), (1, .int col), (0, .ref 64)], [.ref 64], (q_cM (q_mA pix smp tr (q_nb p left dn ins) (q_fb z)) q_IM (q_mJ y pd), 34, 31630))) 1 (fun _ _ => rfl) ?_
          refine q_Ru_call (v := none) (h2 := (q_cM (q_mA pix smp tr (q_nb p left dn ins) (q_fb z)) q_IM (q_mJ y pd), 34, 31630)) rfl rfl ?_ ?_
          · exact (q_m_winds pix smp tr p left dn ins z y pd col lin p1 p2 hC hM c0 c1 l0 l1 a0 a1 b0 b1 hp0 hp1 hp2 i0 i1  ).le (Nat.le_of_ble_eq_true rfl)
          show q_Ru _ _ _ (99, [(3, .int (lin - 4)), (2, .int 1), (1, .int col), (0, .ref 64)], [], (q_cM (q_mA pix smp tr (q_nb p left dn ins) (q_fb z)) q_IM (q_mJ y pd), 34, 31630)) _
          refine q_Ru_seg (g2 := (102, [(3, .int (lin - 4)), (2, .int 1), (1, .int col), (0, .ref 64)], [.int 23, .int col], (q_cM (q_mA pix smp tr (q_nb p left dn ins) (q_fb z)) q_IM (q_mJ y pd), 34, 31630))) 2 (fun _ _ => rfl) ?_
          refine q_Ru_rsT (g2 := (109, [(3, .int (lin - 4)), (2, .int 1), (1, .int col), (0, .ref 64)], [], (q_cM (q_mA pix smp tr (q_nb p left dn ins) (q_fb z)) q_IM (q_mJ y pd), 34, 31630))) rfl rfl (q_d_neF h179) ?_
          refine q_Ru_seg (g2 := (122, [(3, .int (lin - 4)), (2, .int 1), (1, .int col), (0, .ref 64)], [.long pd, .ref 64], (q_cM (q_mA pix smp tr (q_nb p left dn ins) (q_fb z)) q_IM (q_mJ y pd), 34, 31630))) 5 (fun _ _ => rfl) ?_
          refine q_Ru_seg (g2 := (140, [(3, .int (lin - 4)), (2, .int 1), (1, .int col), (0, .ref 64)], [.long y, .ref 64], (q_cM (q_mA pix smp tr (q_nb p left dn ins) (q_fb z)) q_IM (q_uI (q_mJ y pd) 0 16 (pd + 1)), 34, 31630))) 9 (fun _ _ => rfl) ?_
          refine q_Ru_seg (g2 := (146, [(3, .int (lin - 4)), (2, .int 1), (1, .int col), (0, .ref 64)], [.int 1], (q_cM (q_mA pix smp tr (q_nb p left dn ins) (q_fb z)) q_IM (q_uI (q_uI (q_mJ y pd) 0 16 (pd + 1)) 0 15 (y + 1)), 34, 31630))) 4 (fun _ _ => rfl) ?_
          exact q_Ru_ret rfl rfl
  | false =>
    cases h180 : decide (lin - 4 < 0) with
    | true =>
      cases h181 : decide (col = 23) with
      | true =>
        obtain ⟨z62a, p62⟩ := q_m_sample pix smp tr p left dn ins z y pd col lin p1 p2 hC hM c0 c1 l0 l1 a0 a1 b0 b1 hp0 hp1 hp2 i0 i1  
        refine ⟨pix, z62a, ?_⟩
        refine q_Ca_of (Nat.le_of_ble_eq_true rfl) ?_
        refine q_Ru_seg (g2 := (4, [(0, .ref 64)], [.long y], (q_cM (q_mA pix smp tr (q_nb p left dn ins) (q_fb z)) q_IM (q_mJ y pd), 34, 31630))) 2 (fun _ _ => rfl) ?_
        refine q_Ru_seg (g2 := (9, [(0, .ref 64)], [.int ((y - y / 24 * 24).toInt32)], (q_cM (q_mA pix smp tr (q_nb p left dn ins) (q_fb z)) q_IM (q_mJ y pd), 34, 31630))) 3 (fun _ _ => rfl) ?_
        rw [hC]
        refine q_Ru_seg (g2 := (11, [(1, .int col), (0, .ref 64)], [.int col], (q_cM (q_mA pix smp tr (q_nb p left dn ins) (q_fb z)) q_IM (q_mJ y pd), 34, 31630))) 2 (fun _ _ => rfl) ?_
        refine q_Ru_rsT (g2 := (39, [(1, .int col), (0, .ref 64)], [], (q_cM (q_mA pix smp tr (q_nb p left dn ins) (q_fb z)) q_IM (q_mJ y pd), 34, 31630))) rfl rfl (q_d_neF h170) ?_
        refine q_Ru_seg (g2 := (40, [(1, .int col), (0, .ref 64)], [.ref 64], (q_cM (q_mA pix smp tr (q_nb p left dn ins) (q_fb z)) q_IM (q_mJ y pd), 34, 31630))) 1 (fun _ _ => rfl) ?_
        refine q_Ru_call (v := (some (.int 1))) (h2 := (q_cM (q_mA pix smp tr (q_nb p left dn ins) (q_fb z)) q_IM (q_mJ y pd), 34, 31630)) rfl rfl ?_ ?_
        · exact (by have e := q_m_picX pix smp tr p left dn ins z y pd col lin p1 p2 hC hM c0 c1 l0 l1 a0 a1 b0 b1 hp0 hp1 hp2 i0 i1; rw [hpic] at e; exact e.le (Nat.le_of_ble_eq_true rfl))
        show q_Ru _ _ _ (43, [(1, .int col), (0, .ref 64)], [.int 1], (q_cM (q_mA pix smp tr (q_nb p left dn ins) (q_fb z)) q_IM (q_mJ y pd), 34, 31630)) _
        refine q_Ru_seg (g2 := (45, [(2, .int 1), (1, .int col), (0, .ref 64)], [.ref 64], (q_cM (q_mA pix smp tr (q_nb p left dn ins) (q_fb z)) q_IM (q_mJ y pd), 34, 31630))) 2 (fun _ _ => rfl) ?_
        refine q_Ru_call (v := (some (.int (lin - 4)))) (h2 := (q_cM (q_mA pix smp tr (q_nb p left dn ins) (q_fb z)) q_IM (q_mJ y pd), 34, 31630)) rfl rfl ?_ ?_
        · refine q_Ca_of (Nat.le_of_ble_eq_true rfl) ?_
          refine q_Ru_seg (g2 := (1, [(0, .ref 64)], [.ref 64], (q_cM (q_mA pix smp tr (q_nb p left dn ins) (q_fb z)) q_IM (q_mJ y pd), 34, 31630))) 1 (fun _ _ => rfl) ?_
          refine q_Ru_call (v := (some (.int lin))) (h2 := (q_cM (q_mA pix smp tr (q_nb p left dn ins) (q_fb z)) q_IM (q_mJ y pd), 34, 31630)) rfl rfl ?_ ?_
          · refine q_Ca_of (Nat.le_of_ble_eq_true rfl) ?_
            refine q_Ru_seg (g2 := (4, [(0, .ref 64)], [.long y], (q_cM (q_mA pix smp tr (q_nb p left dn ins) (q_fb z)) q_IM (q_mJ y pd), 34, 31630))) 2 (fun _ _ => rfl) ?_
            refine q_Ru_seg (g2 := (13, [(0, .ref 64)], [.int (((y / 24) - (y / 24) / 40 * 40).toInt32)], (q_cM (q_mA pix smp tr (q_nb p left dn ins) (q_fb z)) q_IM (q_mJ y pd), 34, 31630))) 5 (fun _ _ => rfl) ?_
            rw [hM]
            exact q_Ru_ret rfl rfl
          show q_Ru _ _ _ (4, [(0, .ref 64)], [.int lin], (q_cM (q_mA pix smp tr (q_nb p left dn ins) (q_fb z)) q_IM (q_mJ y pd), 34, 31630)) _
          refine q_Ru_seg (g2 := (6, [(0, .ref 64)], [.int (lin - 4)], (q_cM (q_mA pix smp tr (q_nb p left dn ins) (q_fb z)) q_IM (q_mJ y pd), 34, 31630))) 2 (fun _ _ => rfl) ?_
          exact q_Ru_ret rfl rfl
        show q_Ru _ _ _ (48, [(2, .int 1), (1, .int col), (0, .ref 64)], [.int (lin - 4)], (q_cM (q_mA pix smp tr (q_nb p left dn ins) (q_fb z)) q_IM (q_mJ y pd), 34, 31630)) _
        refine q_Ru_seg (g2 := (53, [(3, .int (lin - 4)), (2, .int 1), (1, .int col), (0, .ref 64)], [.int 31, .int 0, .int (lin - 4)], (q_cM (q_mA pix smp tr (q_nb p left dn ins) (q_fb z)) q_IM (q_mJ y pd), 34, 31630))) 4 (fun _ _ => rfl) ?_
        refine q_Ru_call (v := (some (.int 0))) (h2 := (q_cM (q_mA pix smp tr (q_nb p left dn ins) (q_fb z)) q_IM (q_mJ y pd), 34, 31630)) rfl rfl ?_ ?_
        · refine q_Ca_of (Nat.le_of_ble_eq_true rfl) ?_
          refine q_Ru_seg (g2 := (2, [(0, .int (lin - 4)), (1, .int 0), (2, .int 31)], [.int 0, .int (lin - 4)], (q_cM (q_mA pix smp tr (q_nb p left dn ins) (q_fb z)) q_IM (q_mJ y pd), 34, 31630))) 2 (fun _ _ => rfl) ?_
          refine q_Ru_rsT (g2 := (14, [(0, .int (lin - 4)), (1, .int 0), (2, .int 31)], [], (q_cM (q_mA pix smp tr (q_nb p left dn ins) (q_fb z)) q_IM (q_mJ y pd), 34, 31630))) rfl rfl h180 ?_
          refine q_Ru_seg (g2 := (15, [(0, .int (lin - 4)), (1, .int 0), (2, .int 31)], [.int 0], (q_cM (q_mA pix smp tr (q_nb p left dn ins) (q_fb z)) q_IM (q_mJ y pd), 34, 31630))) 1 (fun _ _ => rfl) ?_
          exact q_Ru_ret rfl rfl
        show q_Ru _ _ _ (56, [(3, .int (lin - 4)), (2, .int 1), (1, .int col), (0, .ref 64)], [.int 0], (q_cM (q_mA pix smp tr (q_nb p left dn ins) (q_fb z)) q_IM (q_mJ y pd), 34, 31630)) _
        refine q_Ru_seg (g2 := (92, [(3, .int (lin - 4)), (2, .int 1), (1, .int col), (0, .ref 64)], [.ref 64], (q_cM (q_mA pix smp tr (q_nb p left dn ins) (q_fb z)) q_IM (q_mJ y pd), 34, 31630))) 2 (fun _ _ => rfl) ?_
        refine q_Ru_call (v := none) (h2 := (q_cM (q_mA pix smp tr (q_nb p left dn ins) (q_fb z)) q_IM (q_mJ y pd), 34, 31630)) rfl rfl ?_ ?_
        · exact (q_m_times pix smp tr p left dn ins z y pd col lin p1 p2 hC hM c0 c1 l0 l1 a0 a1 b0 b1 hp0 hp1 hp2 i0 i1  ).le (Nat.le_of_ble_eq_true rfl)
        show q_Ru _ _ _ (95, [(3, .int (lin - 4)), (2, .int 1), (1, .int col), (0, .ref 64)], [], (q_cM (q_mA pix smp tr (q_nb p left dn ins) (q_fb z)) q_IM (q_mJ y pd), 34, 31630)) _
        refine q_Ru_seg (g2 := (96, [(3, .int (lin - 4)), (2, .int 1), (1, .int col), (0, .ref 64)], [.ref 64], (q_cM (q_mA pix smp tr (q_nb p left dn ins) (q_fb z)) q_IM (q_mJ y pd), 34, 31630))) 1 (fun _ _ => rfl) ?_
        refine q_Ru_call (v := none) (h2 := (q_cM (q_mA pix smp tr (q_nb p left dn ins) (q_fb z)) q_IM (q_mJ y pd), 34, 31630)) rfl rfl ?_ ?_
        · exact (q_m_winds pix smp tr p left dn ins z y pd col lin p1 p2 hC hM c0 c1 l0 l1 a0 a1 b0 b1 hp0 hp1 hp2 i0 i1  ).le (Nat.le_of_ble_eq_true rfl)
        show q_Ru _ _ _ (99, [(3, .int (lin - 4)), (2, .int 1), (1, .int col), (0, .ref 64)], [], (q_cM (q_mA pix smp tr (q_nb p left dn ins) (q_fb z)) q_IM (q_mJ y pd), 34, 31630)) _
        refine q_Ru_seg (g2 := (102, [(3, .int (lin - 4)), (2, .int 1), (1, .int col), (0, .ref 64)], [.int 23, .int col], (q_cM (q_mA pix smp tr (q_nb p left dn ins) (q_fb z)) q_IM (q_mJ y pd), 34, 31630))) 2 (fun _ _ => rfl) ?_
        refine q_Ru_rsF (g2 := (105, [(3, .int (lin - 4)), (2, .int 1), (1, .int col), (0, .ref 64)], [], (q_cM (q_mA pix smp tr (q_nb p left dn ins) (q_fb z)) q_IM (q_mJ y pd), 34, 31630))) rfl rfl (q_d_neT h181) ?_
        refine q_Ru_seg (g2 := (106, [(3, .int (lin - 4)), (2, .int 1), (1, .int col), (0, .ref 64)], [.ref 64], (q_cM (q_mA pix smp tr (q_nb p left dn ins) (q_fb z)) q_IM (q_mJ y pd), 34, 31630))) 1 (fun _ _ => rfl) ?_
        refine q_Ru_call (v := none) (h2 := (q_cM (q_mA pix z62a tr (q_nb p left dn ins) (q_fb z)) q_IM (q_mJ y pd), 34, 31630)) rfl rfl ?_ ?_
        · exact p62.le (Nat.le_of_ble_eq_true rfl)
        show q_Ru _ _ _ (109, [(3, .int (lin - 4)), (2, .int 1), (1, .int col), (0, .ref 64)], [], (q_cM (q_mA pix z62a tr (q_nb p left dn ins) (q_fb z)) q_IM (q_mJ y pd), 34, 31630)) _
        refine q_Ru_seg (g2 := (122, [(3, .int (lin - 4)), (2, .int 1), (1, .int col), (0, .ref 64)], [.long pd, .ref 64], (q_cM (q_mA pix z62a tr (q_nb p left dn ins) (q_fb z)) q_IM (q_mJ y pd), 34, 31630))) 5 (fun _ _ => rfl) ?_
        refine q_Ru_seg (g2 := (140, [(3, .int (lin - 4)), (2, .int 1), (1, .int col), (0, .ref 64)], [.long y, .ref 64], (q_cM (q_mA pix z62a tr (q_nb p left dn ins) (q_fb z)) q_IM (q_uI (q_mJ y pd) 0 16 (pd + 1)), 34, 31630))) 9 (fun _ _ => rfl) ?_
        refine q_Ru_seg (g2 := (146, [(3, .int (lin - 4)), (2, .int 1), (1, .int col), (0, .ref 64)], [.int 1], (q_cM (q_mA pix z62a tr (q_nb p left dn ins) (q_fb z)) q_IM (q_uI (q_uI (q_mJ y pd) 0 16 (pd + 1)) 0 15 (y + 1)), 34, 31630))) 4 (fun _ _ => rfl) ?_
        exact q_Ru_ret rfl rfl
      | false =>
        refine ⟨pix, smp, ?_⟩
        refine q_Ca_of (Nat.le_of_ble_eq_true rfl) ?_
        refine q_Ru_seg (g2 := (4, [(0, .ref 64)], [.long y], (q_cM (q_mA pix smp tr (q_nb p left dn ins) (q_fb z)) q_IM (q_mJ y pd), 34, 31630))) 2 (fun _ _ => rfl) ?_
        refine q_Ru_seg (g2 := (9, [(0, .ref 64)], [.int ((y - y / 24 * 24).toInt32)], (q_cM (q_mA pix smp tr (q_nb p left dn ins) (q_fb z)) q_IM (q_mJ y pd), 34, 31630))) 3 (fun _ _ => rfl) ?_
        rw [hC]
        refine q_Ru_seg (g2 := (11, [(1, .int col), (0, .ref 64)], [.int col], (q_cM (q_mA pix smp tr (q_nb p left dn ins) (q_fb z)) q_IM (q_mJ y pd), 34, 31630))) 2 (fun _ _ => rfl) ?_
        refine q_Ru_rsT (g2 := (39, [(1, .int col), (0, .ref 64)], [], (q_cM (q_mA pix smp tr (q_nb p left dn ins) (q_fb z)) q_IM (q_mJ y pd), 34, 31630))) rfl rfl (q_d_neF h170) ?_
        refine q_Ru_seg (g2 := (40, [(1, .int col), (0, .ref 64)], [.ref 64], (q_cM (q_mA pix smp tr (q_nb p left dn ins) (q_fb z)) q_IM (q_mJ y pd), 34, 31630))) 1 (fun _ _ => rfl) ?_
        refine q_Ru_call (v := (some (.int 1))) (h2 := (q_cM (q_mA pix smp tr (q_nb p left dn ins) (q_fb z)) q_IM (q_mJ y pd), 34, 31630)) rfl rfl ?_ ?_
        · exact (by have e := q_m_picX pix smp tr p left dn ins z y pd col lin p1 p2 hC hM c0 c1 l0 l1 a0 a1 b0 b1 hp0 hp1 hp2 i0 i1; rw [hpic] at e; exact e.le (Nat.le_of_ble_eq_true rfl))
        show q_Ru _ _ _ (43, [(1, .int col), (0, .ref 64)], [.int 1], (q_cM (q_mA pix smp tr (q_nb p left dn ins) (q_fb z)) q_IM (q_mJ y pd), 34, 31630)) _
        refine q_Ru_seg (g2 := (45, [(2, .int 1), (1, .int col), (0, .ref 64)], [.ref 64], (q_cM (q_mA pix smp tr (q_nb p left dn ins) (q_fb z)) q_IM (q_mJ y pd), 34, 31630))) 2 (fun _ _ => rfl) ?_
        refine q_Ru_call (v := (some (.int (lin - 4)))) (h2 := (q_cM (q_mA pix smp tr (q_nb p left dn ins) (q_fb z)) q_IM (q_mJ y pd), 34, 31630)) rfl rfl ?_ ?_
        · refine q_Ca_of (Nat.le_of_ble_eq_true rfl) ?_
          refine q_Ru_seg (g2 := (1, [(0, .ref 64)], [.ref 64], (q_cM (q_mA pix smp tr (q_nb p left dn ins) (q_fb z)) q_IM (q_mJ y pd), 34, 31630))) 1 (fun _ _ => rfl) ?_
          refine q_Ru_call (v := (some (.int lin))) (h2 := (q_cM (q_mA pix smp tr (q_nb p left dn ins) (q_fb z)) q_IM (q_mJ y pd), 34, 31630)) rfl rfl ?_ ?_
          · refine q_Ca_of (Nat.le_of_ble_eq_true rfl) ?_
            refine q_Ru_seg (g2 := (4, [(0, .ref 64)], [.long y], (q_cM (q_mA pix smp tr (q_nb p left dn ins) (q_fb z)) q_IM (q_mJ y pd), 34, 31630))) 2 (fun _ _ => rfl) ?_
            refine q_Ru_seg (g2 := (13, [(0, .ref 64)], [.int (((y / 24) - (y / 24) / 40 * 40).toInt32)], (q_cM (q_mA pix smp tr (q_nb p left dn ins) (q_fb z)) q_IM (q_mJ y pd), 34, 31630))) 5 (fun _ _ => rfl) ?_
            rw [hM]
            exact q_Ru_ret rfl rfl
          show q_Ru _ _ _ (4, [(0, .ref 64)], [.int lin], (q_cM (q_mA pix smp tr (q_nb p left dn ins) (q_fb z)) q_IM (q_mJ y pd), 34, 31630)) _
          refine q_Ru_seg (g2 := (6, [(0, .ref 64)], [.int (lin - 4)], (q_cM (q_mA pix smp tr (q_nb p left dn ins) (q_fb z)) q_IM (q_mJ y pd), 34, 31630))) 2 (fun _ _ => rfl) ?_
          exact q_Ru_ret rfl rfl
        show q_Ru _ _ _ (48, [(2, .int 1), (1, .int col), (0, .ref 64)], [.int (lin - 4)], (q_cM (q_mA pix smp tr (q_nb p left dn ins) (q_fb z)) q_IM (q_mJ y pd), 34, 31630)) _
        refine q_Ru_seg (g2 := (53, [(3, .int (lin - 4)), (2, .int 1), (1, .int col), (0, .ref 64)], [.int 31, .int 0, .int (lin - 4)], (q_cM (q_mA pix smp tr (q_nb p left dn ins) (q_fb z)) q_IM (q_mJ y pd), 34, 31630))) 4 (fun _ _ => rfl) ?_
        refine q_Ru_call (v := (some (.int 0))) (h2 := (q_cM (q_mA pix smp tr (q_nb p left dn ins) (q_fb z)) q_IM (q_mJ y pd), 34, 31630)) rfl rfl ?_ ?_
        · refine q_Ca_of (Nat.le_of_ble_eq_true rfl) ?_
          refine q_Ru_seg (g2 := (2, [(0, .int (lin - 4)), (1, .int 0), (2, .int 31)], [.int 0, .int (lin - 4)], (q_cM (q_mA pix smp tr (q_nb p left dn ins) (q_fb z)) q_IM (q_mJ y pd), 34, 31630))) 2 (fun _ _ => rfl) ?_
          refine q_Ru_rsT (g2 := (14, [(0, .int (lin - 4)), (1, .int 0), (2, .int 31)], [], (q_cM (q_mA pix smp tr (q_nb p left dn ins) (q_fb z)) q_IM (q_mJ y pd), 34, 31630))) rfl rfl h180 ?_
          refine q_Ru_seg (g2 := (15, [(0, .int (lin - 4)), (1, .int 0), (2, .int 31)], [.int 0], (q_cM (q_mA pix smp tr (q_nb p left dn ins) (q_fb z)) q_IM (q_mJ y pd), 34, 31630))) 1 (fun _ _ => rfl) ?_
          exact q_Ru_ret rfl rfl
        show q_Ru _ _ _ (56, [(3, .int (lin - 4)), (2, .int 1), (1, .int col), (0, .ref 64)], [.int 0], (q_cM (q_mA pix smp tr (q_nb p left dn ins) (q_fb z)) q_IM (q_mJ y pd), 34, 31630)) _
        refine q_Ru_seg (g2 := (92, [(3, .int (lin - 4)), (2, .int 1), (1, .int col), (0, .ref 64)], [.ref 64], (q_cM (q_mA pix smp tr (q_nb p left dn ins) (q_fb z)) q_IM (q_mJ y pd), 34, 31630))) 2 (fun _ _ => rfl) ?_
        refine q_Ru_call (v := none) (h2 := (q_cM (q_mA pix smp tr (q_nb p left dn ins) (q_fb z)) q_IM (q_mJ y pd), 34, 31630)) rfl rfl ?_ ?_
        · exact (q_m_times pix smp tr p left dn ins z y pd col lin p1 p2 hC hM c0 c1 l0 l1 a0 a1 b0 b1 hp0 hp1 hp2 i0 i1  ).le (Nat.le_of_ble_eq_true rfl)
        show q_Ru _ _ _ (95, [(3, .int (lin - 4)), (2, .int 1), (1, .int col), (0, .ref 64)], [], (q_cM (q_mA pix smp tr (q_nb p left dn ins) (q_fb z)) q_IM (q_mJ y pd), 34, 31630)) _
        refine q_Ru_seg (g2 := (96, [(3, .int (lin - 4)), (2, .int 1), (1, .int col), (0, .ref 64)], [.ref 64], (q_cM (q_mA pix smp tr (q_nb p left dn ins) (q_fb z)) q_IM (q_mJ y pd), 34, 31630))) 1 (fun _ _ => rfl) ?_
        refine q_Ru_call (v := none) (h2 := (q_cM (q_mA pix smp tr (q_nb p left dn ins) (q_fb z)) q_IM (q_mJ y pd), 34, 31630)) rfl rfl ?_ ?_
        · exact (q_m_winds pix smp tr p left dn ins z y pd col lin p1 p2 hC hM c0 c1 l0 l1 a0 a1 b0 b1 hp0 hp1 hp2 i0 i1  ).le (Nat.le_of_ble_eq_true rfl)
        show q_Ru _ _ _ (99, [(3, .int (lin - 4)), (2, .int 1), (1, .int col), (0, .ref 64)], [], (q_cM (q_mA pix smp tr (q_nb p left dn ins) (q_fb z)) q_IM (q_mJ y pd), 34, 31630)) _
        refine q_Ru_seg (g2 := (102, [(3, .int (lin - 4)), (2, .int 1), (1, .int col), (0, .ref 64)], [.int 23, .int col], (q_cM (q_mA pix smp tr (q_nb p left dn ins) (q_fb z)) q_IM (q_mJ y pd), 34, 31630))) 2 (fun _ _ => rfl) ?_
        refine q_Ru_rsT (g2 := (109, [(3, .int (lin - 4)), (2, .int 1), (1, .int col), (0, .ref 64)], [], (q_cM (q_mA pix smp tr (q_nb p left dn ins) (q_fb z)) q_IM (q_mJ y pd), 34, 31630))) rfl rfl (q_d_neF h181) ?_
        refine q_Ru_seg (g2 := (122, [(3, .int (lin - 4)), (2, .int 1), (1, .int col), (0, .ref 64)], [.long pd, .ref 64], (q_cM (q_mA pix smp tr (q_nb p left dn ins) (q_fb z)) q_IM (q_mJ y pd), 34, 31630))) 5 (fun _ _ => rfl) ?_
        refine q_Ru_seg (g2 := (140, [(3, .int (lin - 4)), (2, .int 1), (1, .int col), (0, .ref 64)], [.long y, .ref 64], (q_cM (q_mA pix smp tr (q_nb p left dn ins) (q_fb z)) q_IM (q_uI (q_mJ y pd) 0 16 (pd + 1)), 34, 31630))) 9 (fun _ _ => rfl) ?_
        refine q_Ru_seg (g2 := (146, [(3, .int (lin - 4)), (2, .int 1), (1, .int col), (0, .ref 64)], [.int 1], (q_cM (q_mA pix smp tr (q_nb p left dn ins) (q_fb z)) q_IM (q_uI (q_uI (q_mJ y pd) 0 16 (pd + 1)) 0 15 (y + 1)), 34, 31630))) 4 (fun _ _ => rfl) ?_
        exact q_Ru_ret rfl rfl
    | false =>
      cases h182 : decide (31 < lin - 4) with
      | true =>
        cases h183 : decide (col = 23) with
        | true =>
          obtain ⟨z69a, p69⟩ := q_m_sample pix smp tr p left dn ins z y pd col lin p1 p2 hC hM c0 c1 l0 l1 a0 a1 b0 b1 hp0 hp1 hp2 i0 i1  
          refine ⟨pix, z69a, ?_⟩
          refine q_Ca_of (Nat.le_of_ble_eq_true rfl) ?_
          refine q_Ru_seg (g2 := (4, [(0, .ref 64)], [.long y], (q_cM (q_mA pix smp tr (q_nb p left dn ins) (q_fb z)) q_IM (q_mJ y pd), 34, 31630))) 2 (fun _ _ => rfl) ?_
          refine q_Ru_seg (g2 := (9, [(0, .ref 64)], [.int ((y - y / 24 * 24).toInt32)], (q_cM (q_mA pix smp tr (q_nb p left dn ins) (q_fb z)) q_IM (q_mJ y pd), 34, 31630))) 3 (fun _ _ => rfl) ?_
          rw [hC]
          refine q_Ru_seg (g2 := (11, [(1, .int col), (0, .ref 64)], [.int col], (q_cM (q_mA pix smp tr (q_nb p left dn ins) (q_fb z)) q_IM (q_mJ y pd), 34, 31630))) 2 (fun _ _ => rfl) ?_
          refine q_Ru_rsT (g2 := (39, [(1, .int col), (0, .ref 64)], [], (q_cM (q_mA pix smp tr (q_nb p left dn ins) (q_fb z)) q_IM (q_mJ y pd), 34, 31630))) rfl rfl (q_d_neF h170) ?_
          refine q_Ru_seg (g2 := (40, [(1, .int col), (0, .ref 64)], [.ref 64], (q_cM (q_mA pix smp tr (q_nb p left dn ins) (q_fb z)) q_IM (q_mJ y pd), 34, 31630))) 1 (fun _ _ => rfl) ?_
          refine q_Ru_call (v := (some (.int 1))) (h2 := (q_cM (q_mA pix smp tr (q_nb p left dn ins) (q_fb z)) q_IM (q_mJ y pd), 34, 31630)) rfl rfl ?_ ?_
          · exact (by have e := q_m_picX pix smp tr p left dn ins z y pd col lin p1 p2 hC hM c0 c1 l0 l1 a0 a1 b0 b1 hp0 hp1 hp2 i0 i1; rw [hpic] at e; exact e.le (Nat.le_of_ble_eq_true rfl))
          show q_Ru _ _ _ (43, [(1, .int col), (0, .ref 64)], [.int 1], (q_cM (q_mA pix smp tr (q_nb p left dn ins) (q_fb z)) q_IM (q_mJ y pd), 34, 31630)) _
          refine q_Ru_seg (g2 := (45, [(2, .int 1), (1, .int col), (0, .ref 64)], [.ref 64], (q_cM (q_mA pix smp tr (q_nb p left dn ins) (q_fb z)) q_IM (q_mJ y pd), 34, 31630))) 2 (fun _ _ => rfl) ?_
          refine q_Ru_call (v := (some (.int (lin - 4)))) (h2 := (q_cM (q_mA pix smp tr (q_nb p left dn ins) (q_fb z)) q_IM (q_mJ y pd), 34, 31630)) rfl rfl ?_ ?_
          · refine q_Ca_of (Nat.le_of_ble_eq_true rfl) ?_
            refine q_Ru_seg (g2 := (1, [(0, .ref 64)], [.ref 64], (q_cM (q_mA pix smp tr (q_nb p left dn ins) (q_fb z)) q_IM (q_mJ y pd), 34, 31630))) 1 (fun _ _ => rfl) ?_
            refine q_Ru_call (v := (some (.int lin))) (h2 := (q_cM (q_mA pix smp tr (q_nb p left dn ins) (q_fb z)) q_IM (q_mJ y pd), 34, 31630)) rfl rfl ?_ ?_
            · refine q_Ca_of (Nat.le_of_ble_eq_true rfl) ?_
              refine q_Ru_seg (g2 := (4, [(0, .ref 64)], [.long y], (q_cM (q_mA pix smp tr (q_nb p left dn ins) (q_fb z)) q_IM (q_mJ y pd), 34, 31630))) 2 (fun _ _ => rfl) ?_
              refine q_Ru_seg (g2 := (13, [(0, .ref 64)], [.int (((y / 24) - (y / 24) / 40 * 40).toInt32)], (q_cM (q_mA pix smp tr (q_nb p left dn ins) (q_fb z)) q_IM (q_mJ y pd), 34, 31630))) 5 (fun _ _ => rfl) ?_
              rw [hM]
              exact q_Ru_ret rfl rfl
            show q_Ru _ _ _ (4, [(0, .ref 64)], [.int lin], (q_cM (q_mA pix smp tr (q_nb p left dn ins) (q_fb z)) q_IM (q_mJ y pd), 34, 31630)) _
            refine q_Ru_seg (g2 := (6, [(0, .ref 64)], [.int (lin - 4)], (q_cM (q_mA pix smp tr (q_nb p left dn ins) (q_fb z)) q_IM (q_mJ y pd), 34, 31630))) 2 (fun _ _ => rfl) ?_
            exact q_Ru_ret rfl rfl
          show q_Ru _ _ _ (48, [(2, .int 1), (1, .int col), (0, .ref 64)], [.int (lin - 4)], (q_cM (q_mA pix smp tr (q_nb p left dn ins) (q_fb z)) q_IM (q_mJ y pd), 34, 31630)) _
          refine q_Ru_seg (g2 := (53, [(3, .int (lin - 4)), (2, .int 1), (1, .int col), (0, .ref 64)], [.int 31, .int 0, .int (lin - 4)], (q_cM (q_mA pix smp tr (q_nb p left dn ins) (q_fb z)) q_IM (q_mJ y pd), 34, 31630))) 4 (fun _ _ => rfl) ?_
          refine q_Ru_call (v := (some (.int 0))) (h2 := (q_cM (q_mA pix smp tr (q_nb p left dn ins) (q_fb z)) q_IM (q_mJ y pd), 34, 31630)) rfl rfl ?_ ?_
          · refine q_Ca_of (Nat.le_of_ble_eq_true rfl) ?_
            refine q_Ru_seg (g2 := (2, [(0, .int (lin - 4)), (1, .int 0), (2, .int 31)], [.int 0, .int (lin - 4)], (q_cM (q_mA pix smp tr (q_nb p left dn ins) (q_fb z)) q_IM (q_mJ y pd), 34, 31630))) 2 (fun _ _ => rfl) ?_
            refine q_Ru_rsF (g2 := (5, [(0, .int (lin - 4)), (1, .int 0), (2, .int 31)], [], (q_cM (q_mA pix smp tr (q_nb p left dn ins) (q_fb z)) q_IM (q_mJ y pd), 34, 31630))) rfl rfl h180 ?_
            refine q_Ru_seg (g2 := (7, [(0, .int (lin - 4)), (1, .int 0), (2, .int 31)], [.int 31, .int (lin - 4)], (q_cM (q_mA pix smp tr (q_nb p left dn ins) (q_fb z)) q_IM (q_mJ y pd), 34, 31630))) 2 (fun _ _ => rfl) ?_
            refine q_Ru_rsT (g2 := (14, [(0, .int (lin - 4)), (1, .int 0), (2, .int 31)], [], (q_cM (q_mA pix smp tr (q_nb p left dn ins) (q_fb z)) q_IM (q_mJ y pd), 34, 31630))) rfl rfl h182 ?_
            refine q_Ru_seg (g2 := (15, [(0, .int (lin - 4)), (1, .int 0), (2, .int 31)], [.int 0], (q_cM (q_mA pix smp tr (q_nb p left dn ins) (q_fb z)) q_IM (q_mJ y pd), 34, 31630))) 1 (fun _ _ => rfl) ?_
            exact q_Ru_ret rfl rfl
          show q_Ru _ _ _ (56, [(3, .int (lin - 4)), (2, .int 1), (1, .int col), (0, .ref 64)], [.int 0], (q_cM (q_mA pix smp tr (q_nb p left dn ins) (q_fb z)) q_IM (q_mJ y pd), 34, 31630)) _
          refine q_Ru_seg (g2 := (92, [(3, .int (lin - 4)), (2, .int 1), (1, .int col), (0, .ref 64)], [.ref 64], (q_cM (q_mA pix smp tr (q_nb p left dn ins) (q_fb z)) q_IM (q_mJ y pd), 34, 31630))) 2 (fun _ _ => rfl) ?_
          refine q_Ru_call (v := none) (h2 := (q_cM (q_mA pix smp tr (q_nb p left dn ins) (q_fb z)) q_IM (q_mJ y pd), 34, 31630)) rfl rfl ?_ ?_
          · exact (q_m_times pix smp tr p left dn ins z y pd col lin p1 p2 hC hM c0 c1 l0 l1 a0 a1 b0 b1 hp0 hp1 hp2 i0 i1  ).le (Nat.le_of_ble_eq_true rfl)
          show q_Ru _ _ _ (95, [(3, .int (lin - 4)), (2, .int 1), (1, .int col), (0, .ref 64)], [], (q_cM (q_mA pix smp tr (q_nb p left dn ins) (q_fb z)) q_IM (q_mJ y pd), 34, 31630)) _
          refine q_Ru_seg (g2 := (96, [(3, .int (lin - 4)), (2, .int 1), (1, .int col), (0, .ref 64)], [.ref 64], (q_cM (q_mA pix smp tr (q_nb p left dn ins) (q_fb z)) q_IM (q_mJ y pd), 34, 31630))) 1 (fun _ _ => rfl) ?_
          refine q_Ru_call (v := none) (h2 := (q_cM (q_mA pix smp tr (q_nb p left dn ins) (q_fb z)) q_IM (q_mJ y pd), 34, 31630)) rfl rfl ?_ ?_
          · exact (q_m_winds pix smp tr p left dn ins z y pd col lin p1 p2 hC hM c0 c1 l0 l1 a0 a1 b0 b1 hp0 hp1 hp2 i0 i1  ).le (Nat.le_of_ble_eq_true rfl)
          show q_Ru _ _ _ (99, [(3, .int (lin - 4)), (2, .int 1), (1, .int col), (0, .ref 64)], [], (q_cM (q_mA pix smp tr (q_nb p left dn ins) (q_fb z)) q_IM (q_mJ y pd), 34, 31630)) _
          refine q_Ru_seg (g2 := (102, [(3, .int (lin - 4)), (2, .int 1), (1, .int col), (0, .ref 64)], [.int 23, .int col], (q_cM (q_mA pix smp tr (q_nb p left dn ins) (q_fb z)) q_IM (q_mJ y pd), 34, 31630))) 2 (fun _ _ => rfl) ?_
          refine q_Ru_rsF (g2 := (105, [(3, .int (lin - 4)), (2, .int 1), (1, .int col), (0, .ref 64)], [], (q_cM (q_mA pix smp tr (q_nb p left dn ins) (q_fb z)) q_IM (q_mJ y pd), 34, 31630))) rfl rfl (q_d_neT h183) ?_
          refine q_Ru_seg (g2 := (106, [(3, .int (lin - 4)), (2, .int 1), (1, .int col), (0, .ref 64)], [.ref 64], (q_cM (q_mA pix smp tr (q_nb p left dn ins) (q_fb z)) q_IM (q_mJ y pd), 34, 31630))) 1 (fun _ _ => rfl) ?_
          refine q_Ru_call (v := none) (h2 := (q_cM (q_mA pix z69a tr (q_nb p left dn ins) (q_fb z)) q_IM (q_mJ y pd), 34, 31630)) rfl rfl ?_ ?_
          · exact p69.le (Nat.le_of_ble_eq_true rfl)
          show q_Ru _ _ _ (109, [(3, .int (lin - 4)), (2, .int 1), (1, .int col), (0, .ref 64)], [], (q_cM (q_mA pix z69a tr (q_nb p left dn ins) (q_fb z)) q_IM (q_mJ y pd), 34, 31630)) _
          refine q_Ru_seg (g2 := (122, [(3, .int (lin - 4)), (2, .int 1), (1, .int col), (0, .ref 64)], [.long pd, .ref 64], (q_cM (q_mA pix z69a tr (q_nb p left dn ins) (q_fb z)) q_IM (q_mJ y pd), 34, 31630))) 5 (fun _ _ => rfl) ?_
          refine q_Ru_seg (g2 := (140, [(3, .int (lin - 4)), (2, .int 1), (1, .int col), (0, .ref 64)], [.long y, .ref 64], (q_cM (q_mA pix z69a tr (q_nb p left dn ins) (q_fb z)) q_IM (q_uI (q_mJ y pd) 0 16 (pd + 1)), 34, 31630))) 9 (fun _ _ => rfl) ?_
          refine q_Ru_seg (g2 := (146, [(3, .int (lin - 4)), (2, .int 1), (1, .int col), (0, .ref 64)], [.int 1], (q_cM (q_mA pix z69a tr (q_nb p left dn ins) (q_fb z)) q_IM (q_uI (q_uI (q_mJ y pd) 0 16 (pd + 1)) 0 15 (y + 1)), 34, 31630))) 4 (fun _ _ => rfl) ?_
          exact q_Ru_ret rfl rfl
        | false =>
          refine ⟨pix, smp, ?_⟩
          refine q_Ca_of (Nat.le_of_ble_eq_true rfl) ?_
          refine q_Ru_seg (g2 := (4, [(0, .ref 64)], [.long y], (q_cM (q_mA pix smp tr (q_nb p left dn ins) (q_fb z)) q_IM (q_mJ y pd), 34, 31630))) 2 (fun _ _ => rfl) ?_
          refine q_Ru_seg (g2 := (9, [(0, .ref 64)], [.int ((y - y / 24 * 24).toInt32)], (q_cM (q_mA pix smp tr (q_nb p left dn ins) (q_fb z)) q_IM (q_mJ y pd), 34, 31630))) 3 (fun _ _ => rfl) ?_
          rw [hC]
          refine q_Ru_seg (g2 := (11, [(1, .int col), (0, .ref 64)], [.int col], (q_cM (q_mA pix smp tr (q_nb p left dn ins) (q_fb z)) q_IM (q_mJ y pd), 34, 31630))) 2 (fun _ _ => rfl) ?_
          refine q_Ru_rsT (g2 := (39, [(1, .int col), (0, .ref 64)], [], (q_cM (q_mA pix smp tr (q_nb p left dn ins) (q_fb z)) q_IM (q_mJ y pd), 34, 31630))) rfl rfl (q_d_neF h170) ?_
          refine q_Ru_seg (g2 := (40, [(1, .int col), (0, .ref 64)], [.ref 64], (q_cM (q_mA pix smp tr (q_nb p left dn ins) (q_fb z)) q_IM (q_mJ y pd), 34, 31630))) 1 (fun _ _ => rfl) ?_
          refine q_Ru_call (v := (some (.int 1))) (h2 := (q_cM (q_mA pix smp tr (q_nb p left dn ins) (q_fb z)) q_IM (q_mJ y pd), 34, 31630)) rfl rfl ?_ ?_
          · exact (by have e := q_m_picX pix smp tr p left dn ins z y pd col lin p1 p2 hC hM c0 c1 l0 l1 a0 a1 b0 b1 hp0 hp1 hp2 i0 i1; rw [hpic] at e; exact e.le (Nat.le_of_ble_eq_true rfl))
          show q_Ru _ _ _ (43, [(1, .int col), (0, .ref 64)], [.int 1], (q_cM (q_mA pix smp tr (q_nb p left dn ins) (q_fb z)) q_IM (q_mJ y pd), 34, 31630)) _
          refine q_Ru_seg (g2 := (45, [(2, .int 1), (1, .int col), (0, .ref 64)], [.ref 64], (q_cM (q_mA pix smp tr (q_nb p left dn ins) (q_fb z)) q_IM (q_mJ y pd), 34, 31630))) 2 (fun _ _ => rfl) ?_
          refine q_Ru_call (v := (some (.int (lin - 4)))) (h2 := (q_cM (q_mA pix smp tr (q_nb p left dn ins) (q_fb z)) q_IM (q_mJ y pd), 34, 31630)) rfl rfl ?_ ?_
          · refine q_Ca_of (Nat.le_of_ble_eq_true rfl) ?_
            refine q_Ru_seg (g2 := (1, [(0, .ref 64)], [.ref 64], (q_cM (q_mA pix smp tr (q_nb p left dn ins) (q_fb z)) q_IM (q_mJ y pd), 34, 31630))) 1 (fun _ _ => rfl) ?_
            refine q_Ru_call (v := (some (.int lin))) (h2 := (q_cM (q_mA pix smp tr (q_nb p left dn ins) (q_fb z)) q_IM (q_mJ y pd), 34, 31630)) rfl rfl ?_ ?_
            · refine q_Ca_of (Nat.le_of_ble_eq_true rfl) ?_
              refine q_Ru_seg (g2 := (4, [(0, .ref 64)], [.long y], (q_cM (q_mA pix smp tr (q_nb p left dn ins) (q_fb z)) q_IM (q_mJ y pd), 34, 31630))) 2 (fun _ _ => rfl) ?_
              refine q_Ru_seg (g2 := (13, [(0, .ref 64)], [.int (((y / 24) - (y / 24) / 40 * 40).toInt32)], (q_cM (q_mA pix smp tr (q_nb p left dn ins) (q_fb z)) q_IM (q_mJ y pd), 34, 31630))) 5 (fun _ _ => rfl) ?_
              rw [hM]
              exact q_Ru_ret rfl rfl
            show q_Ru _ _ _ (4, [(0, .ref 64)], [.int lin], (q_cM (q_mA pix smp tr (q_nb p left dn ins) (q_fb z)) q_IM (q_mJ y pd), 34, 31630)) _
            refine q_Ru_seg (g2 := (6, [(0, .ref 64)], [.int (lin - 4)], (q_cM (q_mA pix smp tr (q_nb p left dn ins) (q_fb z)) q_IM (q_mJ y pd), 34, 31630))) 2 (fun _ _ => rfl) ?_
            exact q_Ru_ret rfl rfl
          show q_Ru _ _ _ (48, [(2, .int 1), (1, .int col), (0, .ref 64)], [.int (lin - 4)], (q_cM (q_mA pix smp tr (q_nb p left dn ins) (q_fb z)) q_IM (q_mJ y pd), 34, 31630)) _
          refine q_Ru_seg (g2 := (53, [(3, .int (lin - 4)), (2, .int 1), (1, .int col), (0, .ref 64)], [.int 31, .int 0, .int (lin - 4)], (q_cM (q_mA pix smp tr (q_nb p left dn ins) (q_fb z)) q_IM (q_mJ y pd), 34, 31630))) 4 (fun _ _ => rfl) ?_
          refine q_Ru_call (v := (some (.int 0))) (h2 := (q_cM (q_mA pix smp tr (q_nb p left dn ins) (q_fb z)) q_IM (q_mJ y pd), 34, 31630)) rfl rfl ?_ ?_
          · refine q_Ca_of (Nat.le_of_ble_eq_true rfl) ?_
            refine q_Ru_seg (g2 := (2, [(0, .int (lin - 4)), (1, .int 0), (2, .int 31)], [.int 0, .int (lin - 4)], (q_cM (q_mA pix smp tr (q_nb p left dn ins) (q_fb z)) q_IM (q_mJ y pd), 34, 31630))) 2 (fun _ _ => rfl) ?_
            refine q_Ru_rsF (g2 := (5, [(0, .int (lin - 4)), (1, .int 0), (2, .int 31)], [], (q_cM (q_mA pix smp tr (q_nb p left dn ins) (q_fb z)) q_IM (q_mJ y pd), 34, 31630))) rfl rfl h180 ?_
            refine q_Ru_seg (g2 := (7, [(0, .int (lin - 4)), (1, .int 0), (2, .int 31)], [.int 31, .int (lin - 4)], (q_cM (q_mA pix smp tr (q_nb p left dn ins) (q_fb z)) q_IM (q_mJ y pd), 34, 31630))) 2 (fun _ _ => rfl) ?_
            refine q_Ru_rsT (g2 := (14, [(0, .int (lin - 4)), (1, .int 0), (2, .int 31)], [], (q_cM (q_mA pix smp tr (q_nb p left dn ins) (q_fb z)) q_IM (q_mJ y pd), 34, 31630))) rfl rfl h182 ?_
            refine q_Ru_seg (g2 := (15, [(0, .int (lin - 4)), (1, .int 0), (2, .int 31)], [.int 0], (q_cM (q_mA pix smp tr (q_nb p left dn ins) (q_fb z)) q_IM (q_mJ y pd), 34, 31630))) 1 (fun _ _ => rfl) ?_
            exact q_Ru_ret rfl rfl
          show q_Ru _ _ _ (56, [(3, .int (lin - 4)), (2, .int 1), (1, .int col), (0, .ref 64)], [.int 0], (q_cM (q_mA pix smp tr (q_nb p left dn ins) (q_fb z)) q_IM (q_mJ y pd), 34, 31630)) _
          refine q_Ru_seg (g2 := (92, [(3, .int (lin - 4)), (2, .int 1), (1, .int col), (0, .ref 64)], [.ref 64], (q_cM (q_mA pix smp tr (q_nb p left dn ins) (q_fb z)) q_IM (q_mJ y pd), 34, 31630))) 2 (fun _ _ => rfl) ?_
          refine q_Ru_call (v := none) (h2 := (q_cM (q_mA pix smp tr (q_nb p left dn ins) (q_fb z)) q_IM (q_mJ y pd), 34, 31630)) rfl rfl ?_ ?_
          · exact (q_m_times pix smp tr p left dn ins z y pd col lin p1 p2 hC hM c0 c1 l0 l1 a0 a1 b0 b1 hp0 hp1 hp2 i0 i1  ).le (Nat.le_of_ble_eq_true rfl)
          show q_Ru _ _ _ (95, [(3, .int (lin - 4)), (2, .int 1), (1, .int col), (0, .ref 64)], [], (q_cM (q_mA pix smp tr (q_nb p left dn ins) (q_fb z)) q_IM (q_mJ y pd), 34, 31630)) _
          refine q_Ru_seg (g2 := (96, [(3, .int (lin - 4)), (2, .int 1), (1, .int col), (0, .ref 64)], [.ref 64], (q_cM (q_mA pix smp tr (q_nb p left dn ins) (q_fb z)) q_IM (q_mJ y pd), 34, 31630))) 1 (fun _ _ => rfl) ?_
          refine q_Ru_call (v := none) (h2 := (q_cM (q_mA pix smp tr (q_nb p left dn ins) (q_fb z)) q_IM (q_mJ y pd), 34, 31630)) rfl rfl ?_ ?_
          · exact (q_m_winds pix smp tr p left dn ins z y pd col lin p1 p2 hC hM c0 c1 l0 l1 a0 a1 b0 b1 hp0 hp1 hp2 i0 i1  ).le (Nat.le_of_ble_eq_true rfl)
          show q_Ru _ _ _ (99, [(3, .int (lin - 4)), (2, .int 1), (1, .int col), (0, .ref 64)], [], (q_cM (q_mA pix smp tr (q_nb p left dn ins) (q_fb z)) q_IM (q_mJ y pd), 34, 31630)) _
          refine q_Ru_seg (g2 := (102, [(3, .int (lin - 4)), (2, .int 1), (1, .int col), (0, .ref 64)], [.int 23, .int col], (q_cM (q_mA pix smp tr (q_nb p left dn ins) (q_fb z)) q_IM (q_mJ y pd), 34, 31630))) 2 (fun _ _ => rfl) ?_
          refine q_Ru_rsT (g2 := (109, [(3, .int (lin - 4)), (2, .int 1), (1, .int col), (0, .ref 64)], [], (q_cM (q_mA pix smp tr (q_nb p left dn ins) (q_fb z)) q_IM (q_mJ y pd), 34, 31630))) rfl rfl (q_d_neF h183) ?_
          refine q_Ru_seg (g2 := (122, [(3, .int (lin - 4)), (2, .int 1), (1, .int col), (0, .ref 64)], [.long pd, .ref 64], (q_cM (q_mA pix smp tr (q_nb p left dn ins) (q_fb z)) q_IM (q_mJ y pd), 34, 31630))) 5 (fun _ _ => rfl) ?_
          refine q_Ru_seg (g2 := (140, [(3, .int (lin - 4)), (2, .int 1), (1, .int col), (0, .ref 64)], [.long y, .ref 64], (q_cM (q_mA pix smp tr (q_nb p left dn ins) (q_fb z)) q_IM (q_uI (q_mJ y pd) 0 16 (pd + 1)), 34, 31630))) 9 (fun _ _ => rfl) ?_
          refine q_Ru_seg (g2 := (146, [(3, .int (lin - 4)), (2, .int 1), (1, .int col), (0, .ref 64)], [.int 1], (q_cM (q_mA pix smp tr (q_nb p left dn ins) (q_fb z)) q_IM (q_uI (q_uI (q_mJ y pd) 0 16 (pd + 1)) 0 15 (y + 1)), 34, 31630))) 4 (fun _ _ => rfl) ?_
          exact q_Ru_ret rfl rfl
      | false =>
        cases h184 : decide (col < 4) with
        | true =>
          have h185 : decide (col = 23) = false := q_not_tr (q_tbl1 (fun col => !decide (col = 23)) (l := 0) (n := 3) (by decide +kernel) c0 (q_hi1 h184))
          refine ⟨pix, smp, ?_⟩
          refine q_Ca_of (Nat.le_of_ble_eq_true rfl) ?_
          refine q_Ru_seg (g2 := (4, [(0, .ref 64)], [.long y], (q_cM (q_mA pix smp tr (q_nb p left dn ins) (q_fb z)) q_IM (q_mJ y pd), 34, 31630))) 2 (fun _ _ => rfl) ?_
          refine q_Ru_seg (g2 := (9, [(0, .ref 64)], [.int ((y - y / 24 * 24).toInt32)], (q_cM (q_mA pix smp tr (q_nb p left dn ins) (q_fb z)) q_IM (q_mJ y pd), 34, 31630))) 3 (fun _ _ => rfl) ?_
          rw [hC]
          refine q_Ru_seg (g2 := (11, [(1, .int col), (0, .ref 64)], [.int col], (q_cM (q_mA pix smp tr (q_nb p left dn ins) (q_fb z)) q_IM (q_mJ y pd), 34, 31630))) 2 (fun _ _ => rfl) ?_
          refine q_Ru_rsT (g2 := (39, [(1, .int col), (0, .ref 64)], [], (q_cM (q_mA pix smp tr (q_nb p left dn ins) (q_fb z)) q_IM (q_mJ y pd), 34, 31630))) rfl rfl (q_d_neF h170) ?_
          refine q_Ru_seg (g2 := (40, [(1, .int col), (0, .ref 64)], [.ref 64], (q_cM (q_mA pix smp tr (q_nb p left dn ins) (q_fb z)) q_IM (q_mJ y pd), 34, 31630))) 1 (fun _ _ => rfl) ?_
          refine q_Ru_call (v := (some (.int 1))) (h2 := (q_cM (q_mA pix smp tr (q_nb p left dn ins) (q_fb z)) q_IM (q_mJ y pd), 34, 31630)) rfl rfl ?_ ?_
          · exact (by have e := q_m_picX pix smp tr p left dn ins z y pd col lin p1 p2 hC hM c0 c1 l0 l1 a0 a1 b0 b1 hp0 hp1 hp2 i0 i1; rw [hpic] at e; exact e.le (Nat.le_of_ble_eq_true rfl))
          show q_Ru _ _ _ (43, [(1, .int col), (0, .ref 64)], [.int 1], (q_cM (q_mA pix smp tr (q_nb p left dn ins) (q_fb z)) q_IM (q_mJ y pd), 34, 31630)) _
          refine q_Ru_seg (g2 := (45, [(2, .int 1), (1, .int col), (0, .ref 64)], [.ref 64], (q_cM (q_mA pix smp tr (q_nb p left dn ins) (q_fb z)) q_IM (q_mJ y pd), 34, 31630))) 2 (fun _ _ => rfl) ?_
          refine q_Ru_call (v := (some (.int (lin - 4)))) (h2 := (q_cM (q_mA pix smp tr (q_nb p left dn ins) (q_fb z)) q_IM (q_mJ y pd), 34, 31630)) rfl rfl ?_ ?_
          · refine q_Ca_of (Nat.le_of_ble_eq_true rfl) ?_
            refine q_Ru_seg (g2 := (1, [(0, .ref 64)], [.ref 64], (q_cM (q_mA pix smp tr (q_nb p left dn ins) (q_fb z)) q_IM (q_mJ y pd), 34, 31630))) 1 (fun _ _ => rfl) ?_
            refine q_Ru_call (v := (some (.int lin))) (h2 := (q_cM (q_mA pix smp tr (q_nb p left dn ins) (q_fb z)) q_IM (q_mJ y pd), 34, 31630)) rfl rfl ?_ ?_
            · refine q_Ca_of (Nat.le_of_ble_eq_true rfl) ?_
              refine q_Ru_seg (g2 := (4, [(0, .ref 64)], [.long y], (q_cM (q_mA pix smp tr (q_nb p left dn ins) (q_fb z)) q_IM (q_mJ y pd), 34, 31630))) 2 (fun _ _ => rfl) ?_
              refine q_Ru_seg (g2 := (13, [(0, .ref 64)], [.int (((y / 24) - (y / 24) / 40 * 40).toInt32)], (q_cM (q_mA pix smp tr (q_nb p left dn ins) (q_fb z)) q_IM (q_mJ y pd), 34, 31630))) 5 (fun _ _ => rfl) ?_
              rw [hM]
              exact q_Ru_ret rfl rfl
            show q_Ru _ _ _ (4, [(0, .ref 64)], [.int lin], (q_cM (q_mA pix smp tr (q_nb p left dn ins) (q_fb z)) q_IM (q_mJ y pd), 34, 31630)) _
            refine q_Ru_seg (g2 := (6, [(0, .ref 64)], [.int (lin - 4)], (q_cM (q_mA pix smp tr (q_nb p left dn ins) (q_fb z)) q_IM (q_mJ y pd), 34, 31630))) 2 (fun _ _ => rfl) ?_
            exact q_Ru_ret rfl rfl
          show q_Ru _ _ _ (48, [(2, .int 1), (1, .int col), (0, .ref 64)], [.int (lin - 4)], (q_cM (q_mA pix smp tr (q_nb p left dn ins) (q_fb z)) q_IM (q_mJ y pd), 34, 31630)) _
          refine q_Ru_seg (g2 := (53, [(3, .int (lin - 4)), (2, .int 1), (1, .int col), (0, .ref 64)], [.int 31, .int 0, .int (lin - 4)], (q_cM (q_mA pix smp tr (q_nb p left dn ins) (q_fb z)) q_IM (q_mJ y pd), 34, 31630))) 4 (fun _ _ => rfl) ?_
          refine q_Ru_call (v := (some (.int 1))) (h2 := (q_cM (q_mA pix smp tr (q_nb p left dn ins) (q_fb z)) q_IM (q_mJ y pd), 34, 31630)) rfl rfl ?_ ?_
          · refine q_Ca_of (Nat.le_of_ble_eq_true rfl) ?_
            refine q_Ru_seg (g2 := (2, [(0, .int (lin - 4)), (1, .int 0), (2, .int 31)], [.int 0, .int (lin - 4)], (q_cM (q_mA pix smp tr (q_nb p left dn ins) (q_fb z)) q_IM (q_mJ y pd), 34, 31630))) 2 (fun _ _ => rfl) ?_
            refine q_Ru_rsF (g2 := (5, [(0, .int (lin - 4)), (1, .int 0), (2, .int 31)], [], (q_cM (q_mA pix smp tr (q_nb p left dn ins) (q_fb z)) q_IM (q_mJ y pd), 34, 31630))) rfl rfl h180 ?_
            refine q_Ru_seg (g2 := (7, [(0, .int (lin - 4)), (1, .int 0), (2, .int 31)], [.int 31, .int (lin - 4)], (q_cM (q_mA pix smp tr (q_nb p left dn ins) (q_fb z)) q_IM (q_mJ y pd), 34, 31630))) 2 (fun _ _ => rfl) ?_
            refine q_Ru_rsF (g2 := (10, [(0, .int (lin - 4)), (1, .int 0), (2, .int 31)], [], (q_cM (q_mA pix smp tr (q_nb p left dn ins) (q_fb z)) q_IM (q_mJ y pd), 34, 31630))) rfl rfl h182 ?_
            refine q_Ru_seg (g2 := (15, [(0, .int (lin - 4)), (1, .int 0), (2, .int 31)], [.int 1], (q_cM (q_mA pix smp tr (q_nb p left dn ins) (q_fb z)) q_IM (q_mJ y pd), 34, 31630))) 2 (fun _ _ => rfl) ?_
            exact q_Ru_ret rfl rfl
          show q_Ru _ _ _ (56, [(3, .int (lin - 4)), (2, .int 1), (1, .int col), (0, .ref 64)], [.int 1], (q_cM (q_mA pix smp tr (q_nb p left dn ins) (q_fb z)) q_IM (q_mJ y pd), 34, 31630)) _
          refine q_Ru_seg (g2 := (63, [(3, .int (lin - 4)), (2, .int 1), (1, .int col), (0, .ref 64)], [.int 19, .int 4, .int col], (q_cM (q_mA pix smp tr (q_nb p left dn ins) (q_fb z)) q_IM (q_mJ y pd), 34, 31630))) 4 (fun _ _ => rfl) ?_
          refine q_Ru_call (v := (some (.int 0))) (h2 := (q_cM (q_mA pix smp tr (q_nb p left dn ins) (q_fb z)) q_IM (q_mJ y pd), 34, 31630)) rfl rfl ?_ ?_
          · refine q_Ca_of (Nat.le_of_ble_eq_true rfl) ?_
            refine q_Ru_seg (g2 := (2, [(0, .int col), (1, .int 4), (2, .int 19)], [.int 4, .int col], (q_cM (q_mA pix smp tr (q_nb p left dn ins) (q_fb z)) q_IM (q_mJ y pd), 34, 31630))) 2 (fun _ _ => rfl) ?_
            refine q_Ru_rsT (g2 := (14, [(0, .int col), (1, .int 4), (2, .int 19)], [], (q_cM (q_mA pix smp tr (q_nb p left dn ins) (q_fb z)) q_IM (q_mJ y pd), 34, 31630))) rfl rfl h184 ?_
            refine q_Ru_seg (g2 := (15, [(0, .int col), (1, .int 4), (2, .int 19)], [.int 0], (q_cM (q_mA pix smp tr (q_nb p left dn ins) (q_fb z)) q_IM (q_mJ y pd), 34, 31630))) 1 (fun _ _ => rfl) ?_
            exact q_Ru_ret rfl rfl
          show q_Ru _ _ _ (66, [(3, .int (lin - 4)), (2, .int 1), (1, .int col), (0, .ref 64)], [.int 0], (q_cM (q_mA pix smp tr (q_nb p left dn ins) (q_fb z)) q_IM (q_mJ y pd), 34, 31630)) _
          refine q_Ru_seg (g2 := (92, [(3, .int (lin - 4)), (2, .int 1), (1, .int col), (0, .ref 64)], [.ref 64], (q_cM (q_mA pix smp tr (q_nb p left dn ins) (q_fb z)) q_IM (q_mJ y pd), 34, 31630))) 2 (fun _ _ => rfl) ?_
          refine q_Ru_call (v := none) (h2 := (q_cM (q_mA pix smp tr (q_nb p left dn ins) (q_fb z)) q_IM (q_mJ y pd), 34, 31630)) rfl rfl ?_ ?_
          · exact (q_m_times pix smp tr p left dn ins z y pd col lin p1 p2 hC hM c0 c1 l0 l1 a0 a1 b0 b1 hp0 hp1 hp2 i0 i1  ).le (Nat.le_of_ble_eq_true rfl)
          show q_Ru _ _ _ (95, [(3, .int (lin - 4)), (2, .int 1), (1, .int col), (0, .ref 64)], [], (q_cM (q_mA pix smp tr (q_nb p left dn ins) (q_fb z)) q_IM (q_mJ y pd), 34, 31630)) _
          refine q_Ru_seg (g2 := (96, [(3, .int (lin - 4)), (2, .int 1), (1, .int col), (0, .ref 64)], [.ref 64], (q_cM (q_mA pix smp tr (q_nb p left dn ins) (q_fb z)) q_IM (q_mJ y pd), 34, 31630))) 1 (fun _ _ => rfl) ?_
          refine q_Ru_call (v := none) (h2 := (q_cM (q_mA pix smp tr (q_nb p left dn ins) (q_fb z)) q_IM (q_mJ y pd), 34, 31630)) rfl rfl ?_ ?_
          · exact (q_m_winds pix smp tr p left dn ins z y pd col lin p1 p2 hC hM c0 c1 l0 l1 a0 a1 b0 b1 hp0 hp1 hp2 i0 i1  ).le (Nat.le_of_ble_eq_true rfl)
          show q_Ru _ _ _ (99, [(3, .int (lin - 4)), (2, .int 1), (1, .int col), (0, .ref 64)], [], (q_cM (q_mA pix smp tr (q_nb p left dn ins) (q_fb z)) q_IM (q_mJ y pd), 34, 31630)) _
          refine q_Ru_seg (g2 := (102, [(3, .int (lin - 4)), (2, .int 1), (1, .int col), (0, .ref 64)], [.int 23, .int col], (q_cM (q_mA pix smp tr (q_nb p left dn ins) (q_fb z)) q_IM (q_mJ y pd), 34, 31630))) 2 (fun _ _ => rfl) ?_
          refine q_Ru_rsT (g2 := (109, [(3, .int (lin - 4)), (2, .int 1), (1, .int col), (0, .ref 64)], [], (q_cM (q_mA pix smp tr (q_nb p left dn ins) (q_fb z)) q_IM (q_mJ y pd), 34, 31630))) rfl rfl (q_d_neF h185) ?_
          refine q_Ru_seg (g2 := (122, [(3, .int (lin - 4)), (2, .int 1), (1, .int col), (0, .ref 64)], [.long pd, .ref 64], (q_cM (q_mA pix smp tr (q_nb p left dn ins) (q_fb z)) q_IM (q_mJ y pd), 34, 31630))) 5 (fun _ _ => rfl) ?_
          refine q_Ru_seg (g2 := (140, [(3, .int (lin - 4)), (2, .int 1), (1, .int col), (0, .ref 64)], [.long y, .ref 64], (q_cM (q_mA pix smp tr (q_nb p left dn ins) (q_fb z)) q_IM (q_uI (q_mJ y pd) 0 16 (pd + 1)), 34, 31630))) 9 (fun _ _ => rfl) ?_
          refine q_Ru_seg (g2 := (146, [(3, .int (lin - 4)), (2, .int 1), (1, .int col), (0, .ref 64)], [.int 1], (q_cM (q_mA pix smp tr (q_nb p left dn ins) (q_fb z)) q_IM (q_uI (q_uI (q_mJ y pd) 0 16 (pd + 1)) 0 15 (y + 1)), 34, 31630))) 4 (fun _ _ => rfl) ?_
          exact q_Ru_ret rfl rfl
        | false =>
          cases h186 : decide (19 < col) with
          | true =>
            cases h187 : decide (col = 23) with
            | true =>
              obtain ⟨z80a, p80⟩ := q_m_sample pix smp tr p left dn ins z y pd col lin p1 p2 hC hM c0 c1 l0 l1 a0 a1 b0 b1 hp0 hp1 hp2 i0 i1  
              refine ⟨pix, z80a, ?_⟩
              refine q_Ca_of (Nat.le_of_ble_eq_true rfl) ?_
              refine q_Ru_seg (g2 := (4, [(0, .ref 64)], [.long y], (q_cM (q_mA pix smp tr (q_nb p left dn ins) (q_fb z)) q_IM (q_mJ y pd), 34, 31630))) 2 (fun _ _ => rfl) ?_
              refine q_Ru_seg (g2 := (9, [(0, .ref 64)], [.int ((y - y / 24 * 24).toInt32)], (q_cM (q_mA pix smp tr (q_nb p left dn ins) (q_fb z)) q_IM (q_mJ y pd), 34, 31630))) 3 (fun _ _ => rfl) ?_
              rw [hC]
              refine q_Ru_seg (g2 := (11, [(1, .int col), (0, .ref 64)], [.int col], (q_cM (q_mA pix smp tr (q_nb p left dn ins) (q_fb z)) q_IM (q_mJ y pd), 34, 31630))) 2 (fun _ _ => rfl) ?_
              refine q_Ru_rsT (g2 := (39, [(1, .int col), (0, .ref 64)], [], (q_cM (q_mA pix smp tr (q_nb p left dn ins) (q_fb z)) q_IM (q_mJ y pd), 34, 31630))) rfl rfl (q_d_neF h170) ?_
              refine q_Ru_seg (g2 := (40, [(1, .int col), (0, .ref 64)], [.ref 64], (q_cM (q_mA pix smp tr (q_nb p left dn ins) (q_fb z)) q_IM (q_mJ y pd), 34, 31630))) 1 (fun _ _ => rfl) ?_
              refine q_Ru_call (v := (some (.int 1))) (h2 := (q_cM (q_mA pix smp tr (q_nb p left dn ins) (q_fb z)) q_IM (q_mJ y pd), 34, 31630)) rfl rfl ?_ ?_
              · exact (by have e := q_m_picX pix smp tr p left dn ins z y pd col lin p1 p2 hC hM c0 c1 l0 l1 a0 a1 b0 b1 hp0 hp1 hp2 i0 i1; rw [hpic] at e; exact e.le (Nat.le_of_ble_eq_true rfl))
              show q_Ru _ _ _ (43, [(1, .int col), (0, .ref 64)], [.int 1], (q_cM (q_mA pix smp tr (q_nb p left dn ins) (q_fb z)) q_IM (q_mJ y pd), 34, 31630)) _
              refine q_Ru_seg (g2 := (45, [(2, .int 1), (1, .int col), (0, .ref 64)], [.ref 64], (q_cM (q_mA pix smp tr (q_nb p left dn ins) (q_fb z)) q_IM (q_mJ y pd), 34, 31630))) 2 (fun _ _ => rfl) ?_
              refine q_Ru_call (v := (some (.int (lin - 4)))) (h2 := (q_cM (q_mA pix smp tr (q_nb p left dn ins) (q_fb z)) q_IM (q_mJ y pd), 34, 31630)) rfl rfl ?_ ?_
              · refine q_Ca_of (Nat.le_of_ble_eq_true rfl) ?_
                refine q_Ru_seg (g2 := (1, [(0, .ref 64)], [.ref 64], (q_cM (q_mA pix smp tr (q_nb p left dn ins) (q_fb z)) q_IM (q_mJ y pd), 34, 31630))) 1 (fun _ _ => rfl) ?_
                refine q_Ru_call (v := (some (.int lin))) (h2 := (q_cM (q_mA pix smp tr (q_nb p left dn ins) (q_fb z)) q_IM (q_mJ y pd), 34, 31630)) rfl rfl ?_ ?_
                · refine q_Ca_of (Nat.le_of_ble_eq_true rfl) ?_
                  refine q_Ru_seg (g2 := (4, [(0, .ref 64)], [.long y], (q_cM (q_mA pix smp tr (q_nb p left dn ins) (q_fb z)) q_IM (q_mJ y pd), 34, 31630))) 2 (fun _ _ => rfl) ?_
                  refine q_Ru_seg (g2 := (13, [(0, .ref 64)], [.int (((y / 24) - (y / 24) / 40 * 40).toInt32)], (q_cM (q_mA pix smp tr (q_nb p left dn ins) (q_fb z)) q_IM (q_mJ y pd), 34, 31630))) 5 (fun _ _ => rfl) ?_
                  rw [hM]
                  exact q_Ru_ret rfl rfl
                show q_Ru _ _ _ (4, [(0, .ref 64)], [.int lin], (q_cM (q_mA pix smp tr (q_nb p left dn ins) (q_fb z)) q_IM (q_mJ y pd), 34, 31630)) _
                refine q_Ru_seg (g2 := (6, [(0, .ref 64)], [.int (lin - 4)], (q_cM (q_mA pix smp tr (q_nb p left dn ins) (q_fb z)) q_IM (q_mJ y pd), 34, 31630))) 2 (fun _ _ => rfl) ?_
                exact q_Ru_ret rfl rfl
              show q_Ru _ _ _ (48, [(2, .int 1), (1, .int col), (0, .ref 64)], [.int (lin - 4)], (q_cM (q_mA pix smp tr (q_nb p left dn ins) (q_fb z)) q_IM (q_mJ y pd), 34, 31630)) _
              refine q_Ru_seg (g2 := (53, [(3, .int (lin - 4)), (2, .int 1), (1, .int col), (0, .ref 64)], [.int 31, .int 0, .int (lin - 4)], (q_cM (q_mA pix smp tr (q_nb p left dn ins) (q_fb z)) q_IM (q_mJ y pd), 34, 31630))) 4 (fun _ _ => rfl) ?_
              refine q_Ru_call (v := (some (.int 1))) (h2 := (q_cM (q_mA pix smp tr (q_nb p left dn ins) (q_fb z)) q_IM (q_mJ y pd), 34, 31630)) rfl rfl ?_ ?_
              · refine q_Ca_of (Nat.le_of_ble_eq_true rfl) ?_
                refine q_Ru_seg (g2 := (2, [(0, .int (lin - 4)), (1, .int 0), (2, .int 31)], [.int 0, .int (lin - 4)], (q_cM (q_mA pix smp tr (q_nb p left dn ins) (q_fb z)) q_IM (q_mJ y pd), 34, 31630))) 2 (fun _ _ => rfl) ?_
                refine q_Ru_rsF (g2 := (5, [(0, .int (lin - 4)), (1, .int 0), (2, .int 31)], [], (q_cM (q_mA pix smp tr (q_nb p left dn ins) (q_fb z)) q_IM (q_mJ y pd), 34, 31630))) rfl rfl h180 ?_
                refine q_Ru_seg (g2 := (7, [(0, .int (lin - 4)), (1, .int 0), (2, .int 31)], [.int 31, .int (lin - 4)], (q_cM (q_mA pix smp tr (q_nb p left dn ins) (q_fb z)) q_IM (q_mJ y pd), 34, 31630))) 2 (fun _ _ => rfl) ?_
                refine q_Ru_rsF (g2 := (10, [(0, .int (lin - 4)), (1, .int 0), (2, .int 31)], [], (q_cM (q_mA pix smp tr (q_nb p left dn ins) (q_fb z)) q_IM (q_mJ y pd), 34, 31630))) rfl rfl h182 ?_
                refine q_Ru_seg (g2 := (15, [(0, .int (lin - 4)), (1, .int 0), (2, .int 31)], [.int 1], (q_cM (q_mA pix smp tr (q_nb p left dn ins) (q_fb z)) q_IM (q_mJ y pd), 34, 31630))) 2 (fun _ _ => rfl) ?_
                exact q_Ru_ret rfl rfl
              show q_Ru _ _ _ (56, [(3, .int (lin - 4)), (2, .int 1), (1, .int col), (0, .ref 64)], [.int 1], (q_cM (q_mA pix smp tr (q_nb p left dn ins) (q_fb z)) q_IM (q_mJ y pd), 34, 31630)) _
              refine q_Ru_seg (g2 := (63, [(3, .int (lin - 4)), (2, .int 1), (1, .int col), (0, .ref 64)], [.int 19, .int 4, .int col], (q_cM (q_mA pix smp tr (q_nb p left dn ins) (q_fb z)) q_IM (q_mJ y pd), 34, 31630))) 4 (fun _ _ => rfl) ?_
              refine q_Ru_call (v := (some (.int 0))) (h2 := (q_cM (q_mA pix smp tr (q_nb p left dn ins) (q_fb z)) q_IM (q_mJ y pd), 34, 31630)) rfl rfl ?_ ?_
              · refine q_Ca_of (Nat.le_of_ble_eq_true rfl) ?_
                refine q_Ru_seg (g2 := (2, [(0, .int col), (1, .int 4), (2, .int 19)], [.int 4, .int col], (q_cM (q_mA pix smp tr (q_nb p left dn ins) (q_fb z)) q_IM (q_mJ y pd), 34, 31630))) 2 (fun _ _ => rfl) ?_
                refine q_Ru_rsF (g2 := (5, [(0, .int col), (1, .int 4), (2, .int 19)], [], (q_cM (q_mA pix smp tr (q_nb p left dn ins) (q_fb z)) q_IM (q_mJ y pd), 34, 31630))) rfl rfl h184 ?_
                refine q_Ru_seg (g2 := (7, [(0, .int col), (1, .int 4), (2, .int 19)], [.int 19, .int col], (q_cM (q_mA pix smp tr (q_nb p left dn ins) (q_fb z)) q_IM (q_mJ y pd), 34, 31630))) 2 (fun _ _ => rfl) ?_
                refine q_Ru_rsT (g2 := (14, [(0, .int col), (1, .int 4), (2, .int 19)], [], (q_cM (q_mA pix smp tr (q_nb p left dn ins) (q_fb z)) q_IM (q_mJ y pd), 34, 31630))) rfl rfl h186 ?_
                refine q_Ru_seg (g2 := (15, [(0, .int col), (1, .int 4), (2, .int 19)], [.int 0], (q_cM (q_mA pix smp tr (q_nb p left dn ins) (q_fb z)) q_IM (q_mJ y pd), 34, 31630))) 1 (fun _ _ => rfl) ?_
                exact q_Ru_ret rfl rfl
              show q_Ru _ _ _ (66, [(3, .int (lin - 4)), (2, .int 1), (1, .int col), (0, .ref 64)], [.int 0], (q_cM (q_mA pix smp tr (q_nb p left dn ins) (q_fb z)) q_IM (q_mJ y pd), 34, 31630)) _
              refine q_Ru_seg (g2 := (92, [(3, .int (lin - 4)), (2, .int 1), (1, .int col), (0, .ref 64)], [.ref 64], (q_cM (q_mA pix smp tr (q_nb p left dn ins) (q_fb z)) q_IM (q_mJ y pd), 34, 31630))) 2 (fun _ _ => rfl) ?_
              refine q_Ru_call (v := none) (h2 := (q_cM (q_mA pix smp tr (q_nb p left dn ins) (q_fb z)) q_IM (q_mJ y pd), 34, 31630)) rfl rfl ?_ ?_
              · exact (q_m_times pix smp tr p left dn ins z y pd col lin p1 p2 hC hM c0 c1 l0 l1 a0 a1 b0 b1 hp0 hp1 hp2 i0 i1  ).le (Nat.le_of_ble_eq_true rfl)
              show q_Ru _ _ _ (95, [(3, .int (lin - 4)), (2, .int 1), (1, .int col), (0, .ref 64)], [], (q_cM (q_mA pix smp tr (q_nb p left dn ins) (q_fb z)) q_IM (q_mJ y pd), 34, 31630)) _
              refine q_Ru_seg (g2 := (96, [(3, .int (lin - 4)), (2, .int 1), (1, .int col), (0, .ref 64)], [.ref 64], (q_cM (q_mA pix smp tr (q_nb p left dn ins) (q_fb z)) q_IM (q_mJ y pd), 34, 31630))) 1 (fun _ _ => rfl) ?_
              refine q_Ru_call (v := none) (h2 := (q_cM (q_mA pix smp tr (q_nb p left dn ins) (q_fb z)) q_IM (q_mJ y pd), 34, 31630)) rfl rfl ?_ ?_
              · exact (q_m_winds pix smp tr p left dn ins z y pd col lin p1 p2 hC hM c0 c1 l0 l1 a0 a1 b0 b1 hp0 hp1 hp2 i0 i1  ).le (Nat.le_of_ble_eq_true rfl)
              show q_Ru _ _ _ (99, [(3, .int (lin - 4)), (2, .int 1), (1, .int col), (0, .ref 64)], [], (q_cM (q_mA pix smp tr (q_nb p left dn ins) (q_fb z)) q_IM (q_mJ y pd), 34, 31630)) _
              refine q_Ru_seg (g2 := (102, [(3, .int (lin - 4)), (2, .int 1), (1, .int col), (0, .ref 64)], [.int 23, .int col], (q_cM (q_mA pix smp tr (q_nb p left dn ins) (q_fb z)) q_IM (q_mJ y pd), 34, 31630))) 2 (fun _ _ => rfl) ?_
              refine q_Ru_rsF (g2 := (105, [(3, .int (lin - 4)), (2, .int 1), (1, .int col), (0, .ref 64)], [], (q_cM (q_mA pix smp tr (q_nb p left dn ins) (q_fb z)) q_IM (q_mJ y pd), 34, 31630))) rfl rfl (q_d_neT h187) ?_
              refine q_Ru_seg (g2 := (106, [(3, .int (lin - 4)), (2, .int 1), (1, .int col), (0, .ref 64)], [.ref 64], (q_cM (q_mA pix smp tr (q_nb p left dn ins) (q_fb z)) q_IM (q_mJ y pd), 34, 31630))) 1 (fun _ _ => rfl) ?_
              refine q_Ru_call (v := none) (h2 := (q_cM (q_mA pix z80a tr (q_nb p left dn ins) (q_fb z)) q_IM (q_mJ y pd), 34, 31630)) rfl rfl ?_ ?_
              · exact p80.le (Nat.le_of_ble_eq_true rfl)
              show q_Ru _ _ _ (109, [(3, .int (lin - 4)), (2, .int 1), (1, .int col), (0, .ref 64)], [], (q_cM (q_mA pix z80a tr (q_nb p left dn ins) (q_fb z)) q_IM (q_mJ y pd), 34, 31630)) _
              refine q_Ru_seg (g2 := (122, [(3, .int (lin - 4)), (2, .int 1), (1, .int col), (0, .ref 64)], [.long pd, .ref 64], (q_cM (q_mA pix z80a tr (q_nb p left dn ins) (q_fb z)) q_IM (q_mJ y pd), 34, 31630))) 5 (fun _ _ => rfl) ?_
              refine q_Ru_seg (g2 := (140, [(3, .int (lin - 4)), (2, .int 1), (1, .int col), (0, .ref 64)], [.long y, .ref 64], (q_cM (q_mA pix z80a tr (q_nb p left dn ins) (q_fb z)) q_IM (q_uI (q_mJ y pd) 0 16 (pd + 1)), 34, 31630))) 9 (fun _ _ => rfl) ?_
              refine q_Ru_seg (g2 := (146, [(3, .int (lin - 4)), (2, .int 1), (1, .int col), (0, .ref 64)], [.int 1], (q_cM (q_mA pix z80a tr (q_nb p left dn ins) (q_fb z)) q_IM (q_uI (q_uI (q_mJ y pd) 0 16 (pd + 1)) 0 15 (y + 1)), 34, 31630))) 4 (fun _ _ => rfl) ?_
              exact q_Ru_ret rfl rfl
            | false =>
              refine ⟨pix, smp, ?_⟩
              refine q_Ca_of (Nat.le_of_ble_eq_true rfl) ?_
              refine q_Ru_seg (g2 := (4, [(0, .ref 64)], [.long y], (q_cM (q_mA pix smp tr (q_nb p left dn ins) (q_fb z)) q_IM (q_mJ y pd), 34, 31630))) 2 (fun _ _ => rfl) ?_
              refine q_Ru_seg (g2 := (9, [(0, .ref 64)], [.int ((y - y / 24 * 24).toInt32)], (q_cM (q_mA pix smp tr (q_nb p left dn ins) (q_fb z)) q_IM (q_mJ y pd), 34, 31630))) 3 (fun _ _ => rfl) ?_
              rw [hC]
              refine q_Ru_seg (g2 := (11, [(1, .int col), (0, .ref 64)], [.int col], (q_cM (q_mA pix smp tr (q_nb p left dn ins) (q_fb z)) q_IM (q_mJ y pd), 34, 31630))) 2 (fun _ _ => rfl) ?_
              refine q_Ru_rsT (g2 := (39, [(1, .int col), (0, .ref 64)], [], (q_cM (q_mA pix smp tr (q_nb p left dn ins) (q_fb z)) q_IM (q_mJ y pd), 34, 31630))) rfl rfl (q_d_neF h170) ?_
              refine q_Ru_seg (g2 := (40, [(1, .int col), (0, .ref 64)], [.ref 64], (q_cM (q_mA pix smp tr (q_nb p left dn ins) (q_fb z)) q_IM (q_mJ y pd), 34, 31630))) 1 (fun _ _ => rfl) ?_
              refine q_Ru_call (v := (some (.int 1))) (h2 := (q_cM (q_mA pix smp tr (q_nb p left dn ins) (q_fb z)) q_IM (q_mJ y pd), 34, 31630)) rfl rfl ?_ ?_
              · exact (by have e := q_m_picX pix smp tr p left dn ins z y pd col lin p1 p2 hC hM c0 c1 l0 l1 a0 a1 b0 b1 hp0 hp1 hp2 i0 i1; rw [hpic] at e; exact e.le (Nat.le_of_ble_eq_true rfl))
              show q_Ru _ _ _ (43, [(1, .int col), (0, .ref 64)], [.int 1], (q_cM (q_mA pix smp tr (q_nb p left dn ins) (q_fb z)) q_IM (q_mJ y pd), 34, 31630)) _
              refine q_Ru_seg (g2 := (45, [(2, .int 1), (1, .int col), (0, .ref 64)], [.ref 64], (q_cM (q_mA pix smp tr (q_nb p left dn ins) (q_fb z)) q_IM (q_mJ y pd), 34, 31630))) 2 (fun _ _ => rfl) ?_
              refine q_Ru_call (v := (some (.int (lin - 4)))) (h2 := (q_cM (q_mA pix smp tr (q_nb p left dn ins) (q_fb z)) q_IM (q_mJ y pd), 34, 31630)) rfl rfl ?_ ?_
              · refine q_Ca_of (Nat.le_of_ble_eq_true rfl) ?_
                refine q_Ru_seg (g2 := (1, [(0, .ref 64)], [.ref 64], (q_cM (q_mA pix smp tr (q_nb p left dn ins) (q_fb z)) q_IM (q_mJ y pd), 34, 31630))) 1 (fun _ _ => rfl) ?_
                refine q_Ru_call (v := (some (.int lin))) (h2 := (q_cM (q_mA pix smp tr (q_nb p left dn ins) (q_fb z)) q_IM (q_mJ y pd), 34, 31630)) rfl rfl ?_ ?_
                · refine q_Ca_of (Nat.le_of_ble_eq_true rfl) ?_
                  refine q_Ru_seg (g2 := (4, [(0, .ref 64)], [.long y], (q_cM (q_mA pix smp tr (q_nb p left dn ins) (q_fb z)) q_IM (q_mJ y pd), 34, 31630))) 2 (fun _ _ => rfl) ?_
                  refine q_Ru_seg (g2 := (13, [(0, .ref 64)], [.int (((y / 24) - (y / 24) / 40 * 40).toInt32)], (q_cM (q_mA pix smp tr (q_nb p left dn ins) (q_fb z)) q_IM (q_mJ y pd), 34, 31630))) 5 (fun _ _ => rfl) ?_
                  rw [hM]
                  exact q_Ru_ret rfl rfl
                show q_Ru _ _ _ (4, [(0, .ref 64)], [.int lin], (q_cM (q_mA pix smp tr (q_nb p left dn ins) (q_fb z)) q_IM (q_mJ y pd), 34, 31630)) _
                refine q_Ru_seg (g2 := (6, [(0, .ref 64)], [.int (lin - 4)], (q_cM (q_mA pix smp tr (q_nb p left dn ins) (q_fb z)) q_IM (q_mJ y pd), 34, 31630))) 2 (fun _ _ => rfl) ?_
                exact q_Ru_ret rfl rfl
              show q_Ru _ _ _ (48, [(2, .int 1), (1, .int col), (0, .ref 64)], [.int (lin - 4)], (q_cM (q_mA pix smp tr (q_nb p left dn ins) (q_fb z)) q_IM (q_mJ y pd), 34, 31630)) _
              refine q_Ru_seg (g2 := (53, [(3, .int (lin - 4)), (2, .int 1), (1, .int col), (0, .ref 64)], [.int 31, .int 0, .int (lin - 4)], (q_cM (q_mA pix smp tr (q_nb p left dn ins) (q_fb z)) q_IM (q_mJ y pd), 34, 31630))) 4 (fun _ _ => rfl) ?_
              refine q_Ru_call (v := (some (.int 1))) (h2 := (q_cM (q_mA pix smp tr (q_nb p left dn ins) (q_fb z)) q_IM (q_mJ y pd), 34, 31630)) rfl rfl ?_ ?_
              · refine q_Ca_of (Nat.le_of_ble_eq_true rfl) ?_
                refine q_Ru_seg (g2 := (2, [(0, .int (lin - 4)), (1, .int 0), (2, .int 31)], [.int 0, .int (lin - 4)], (q_cM (q_mA pix smp tr (q_nb p left dn ins) (q_fb z)) q_IM (q_mJ y pd), 34, 31630))) 2 (fun _ _ => rfl) ?_
                refine q_Ru_rsF (g2 := (5, [(0, .int (lin - 4)), (1, .int 0), (2, .int 31)], [], (q_cM (q_mA pix smp tr (q_nb p left dn ins) (q_fb z)) q_IM (q_mJ y pd), 34, 31630))) rfl rfl h180 ?_
                refine q_Ru_seg (g2 := (7, [(0, .int (lin - 4)), (1, .int 0), (2, .int 31)], [.int 31, .int (lin - 4)], (q_cM (q_mA pix smp tr (q_nb p left dn ins) (q_fb z)) q_IM (q_mJ y pd), 34, 31630))) 2 (fun _ _ => rfl) ?_
                refine q_Ru_rsF (g2 := (10, [(0, .int (lin - 4)), (1, .int 0), (2, .int 31)], [], (q_cM (q_mA pix smp tr (q_nb p left dn ins) (q_fb z)) q_IM (q_mJ y pd), 34, 31630))) rfl rfl h182 ?_
                refine q_Ru_seg (g2 := (15, [(0, .int (lin - 4)), (1, .int 0), (2, .int 31)], [.int 1], (q_cM (q_mA pix smp tr (q_nb p left dn ins) (q_fb z)) q_IM (q_mJ y pd), 34, 31630))) 2 (fun _ _ => rfl) ?_
                exact q_Ru_ret rfl rfl
              show q_Ru _ _ _ (56, [(3, .int (lin - 4)), (2, .int 1), (1, .int col), (0, .ref 64)], [.int 1], (q_cM (q_mA pix smp tr (q_nb p left dn ins) (q_fb z)) q_IM (q_mJ y pd), 34, 31630)) _
              refine q_Ru_seg (g2 := (63, [(3, .int (lin - 4)), (2, .int 1), (1, .int col), (0, .ref 64)], [.int 19, .int 4, .int col], (q_cM (q_mA pix smp tr (q_nb p left dn ins) (q_fb z)) q_IM (q_mJ y pd), 34, 31630))) 4 (fun _ _ => rfl) ?_
              refine q_Ru_call (v := (some (.int 0))) (h2 := (q_cM (q_mA pix smp tr (q_nb p left dn ins) (q_fb z)) q_IM (q_mJ y pd), 34, 31630)) rfl rfl ?_ ?_
              · refine q_Ca_of (Nat.le_of_ble_eq_true rfl) ?_
                refine q_Ru_seg (g2 := (2, [(0, .int col), (1, .int 4), (2, .int 19)], [.int 4, .int col], (q_cM (q_mA pix smp tr (q_nb p left dn ins) (q_fb z)) q_IM (q_mJ y pd), 34, 31630))) 2 (fun _ _ => rfl) ?_
                refine q_Ru_rsF (g2 := (5, [(0, .int col), (1, .int 4), (2, .int 19)], [], (q_cM (q_mA pix smp tr (q_nb p left dn ins) (q_fb z)) q_IM (q_mJ y pd), 34, 31630))) rfl rfl h184 ?_
                refine q_Ru_seg (g2 := (7, [(0, .int col), (1, .int 4), (2, .int 19)], [.int 19, .int col], (q_cM (q_mA pix smp tr (q_nb p left dn ins) (q_fb z)) q_IM (q_mJ y pd), 34, 31630))) 2 (fun _ _ => rfl) ?_
                refine q_Ru_rsT (g2 := (14, [(0, .int col), (1, .int 4), (2, .int 19)], [], (q_cM (q_mA pix smp tr (q_nb p left dn ins) (q_fb z)) q_IM (q_mJ y pd), 34, 31630))) rfl rfl h186 ?_
                refine q_Ru_seg (g2 := (15, [(0, .int col), (1, .int 4), (2, .int 19)], [.int 0], (q_cM (q_mA pix smp tr (q_nb p left dn ins) (q_fb z)) q_IM (q_mJ y pd), 34, 31630))) 1 (fun _ _ => rfl) ?_
                exact q_Ru_ret rfl rfl
              show q_Ru _ _ _ (66, [(3, .int (lin - 4)), (2, .int 1), (1, .int col), (0, .ref 64)], [.int 0], (q_cM (q_mA pix smp tr (q_nb p left dn ins) (q_fb z)) q_IM (q_mJ y pd), 34, 31630)) _
              refine q_Ru_seg (g2 := (92, [(3, .int (lin - 4)), (2, .int 1), (1, .int col), (0, .ref 64)], [.ref 64], (q_cM (q_mA pix smp tr (q_nb p left dn ins) (q_fb z)) q_IM (q_mJ y pd), 34, 31630))) 2 (fun _ _ => rfl) ?_
              refine q_Ru_call (v := none) (h2 := (q_cM (q_mA pix smp tr (q_nb p left dn ins) (q_fb z)) q_IM (q_mJ y pd), 34, 31630)) rfl rfl ?_ ?_
              · exact (q_m_times pix smp tr p left dn ins z y pd col lin p1 p2 hC hM c0 c1 l0 l1 a0 a1 b0 b1 hp0 hp1 hp2 i0 i1  ).le (Nat.le_of_ble_eq_true rfl)
              show q_Ru _ _ _ (95, [(3, .int (lin - 4)), (2, .int 1), (1, .int col), (0, .ref 64)], [], (q_cM (q_mA pix smp tr (q_nb p left dn ins) (q_fb z)) q_IM (q_mJ y pd), 34, 31630)) _
              refine q_Ru_seg (g2 := (96, [(3, .int (lin - 4)), (2, .int 1), (1, .int col), (0, .ref 64)], [.ref 64], (q_cM (q_mA pix smp tr (q_nb p left dn ins) (q_fb z)) q_IM (q_mJ y pd), 34, 31630))) 1 (fun _ _ => rfl) ?_
              refine q_Ru_call (v := none) (h2 := (q_cM (q_mA pix smp tr (q_nb p left dn ins) (q_fb z)) q_IM (q_mJ y pd), 34, 31630)) rfl rfl ?_ ?_
              · exact (q_m_winds pix smp tr p left dn ins z y pd col lin p1 p2 hC hM c0 c1 l0 l1 a0 a1 b0 b1 hp0 hp1 hp2 i0 i1  ).le (Nat.le_of_ble_eq_true rfl)
              show q_Ru _ _ _ (99, [(3, .int (lin - 4)), (2, .int 1), (1, .int col), (0, .ref 64)], [], (q_cM (q_mA pix smp tr (q_nb p left dn ins) (q_fb z)) q_IM (q_mJ y pd), 34, 31630)) _
              refine q_Ru_seg (g2 := (102, [(3, .int (lin - 4)), (2, .int 1), (1, .int col), (0, .ref 64)], [.int 23, .int col], (q_cM (q_mA pix smp tr (q_nb p left dn ins) (q_fb z)) q_IM (q_mJ y pd), 34, 31630))) 2 (fun _ _ => rfl) ?_
              refine q_Ru_rsT (g2 := (109, [(3, .int (lin - 4)), (2, .int 1), (1, .int col), (0, .ref 64)], [], (q_cM (q_mA pix smp tr (q_nb p left dn ins) (q_fb z)) q_IM (q_mJ y pd), 34, 31630))) rfl rfl (q_d_neF h187) ?_
              refine q_Ru_seg (g2 := (122, [(3, .int (lin - 4)), (2, .int 1), (1, .int col), (0, .ref 64)], [.long pd, .ref 64], (q_cM (q_mA pix smp tr (q_nb p left dn ins) (q_fb z)) q_IM (q_mJ y pd), 34, 31630))) 5 (fun _ _ => rfl) ?_
              refine q_Ru_seg (g2 := (140, [(3, .int (lin - 4)), (2, .int 1), (1, .int col), (0, .ref 64)], [.long y, .ref 64], (q_cM (q_mA pix smp tr (q_nb p left dn ins) (q_fb z)) q_IM (q_uI (q_mJ y pd) 0 16 (pd + 1)), 34, 31630))) 9 (fun _ _ => rfl) ?_
              refine q_Ru_seg (g2 := (146, [(3, .int (lin - 4)), (2, .int 1), (1, .int col), (0, .ref 64)], [.int 1], (q_cM (q_mA pix smp tr (q_nb p left dn ins) (q_fb z)) q_IM (q_uI (q_uI (q_mJ y pd) 0 16 (pd + 1)) 0 15 (y + 1)), 34, 31630))) 4 (fun _ _ => rfl) ?_
              exact q_Ru_ret rfl rfl
          | false =>
            have h188 : decide (col = 23) = false := q_not_tr (q_tbl1 (fun col => !decide (col = 23)) (l := 4) (n := 15) (by decide +kernel) (q_lo1 h184) (q_hi2 h186))
            obtain ⟨x87, p87⟩ := q_m_draws pix smp tr p left dn ins z y pd ((2 * col) - 8) (lin - 4) (of_decide_eq_true (q_tbl1 (fun col => decide (0 ≤ ((2 * col) - 8).toInt ∧ ((2 * col) - 8).toInt ≤ 31)) (l := 4) (n := 15) (by decide +kernel) (q_lo1 h184) (q_hi2 h186))).1 (of_decide_eq_true (q_tbl1 (fun col => decide (0 ≤ ((2 * col) - 8).toInt ∧ ((2 * col) - 8).toInt ≤ 31)) (l := 4) (n := 15) (by decide +kernel) (q_lo1 h184) (q_hi2 h186))).2 (of_decide_eq_true (q_tbl1 (fun lin => decide (0 ≤ (lin - 4).toInt ∧ (lin - 4).toInt ≤ 31)) (l := 4) (n := 31) (by decide +kernel) (q_sub_lo 4 (q_lo1 h180) l0 l1) (q_sub_hi 35 (q_hi2 h182) (q_sub_lo 4 (q_lo1 h180) l0 l1) l1))).1 (of_decide_eq_true (q_tbl1 (fun lin => decide (0 ≤ (lin - 4).toInt ∧ (lin - 4).toInt ≤ 31)) (l := 4) (n := 31) (by decide +kernel) (q_sub_lo 4 (q_lo1 h180) l0 l1) (q_sub_hi 35 (q_hi2 h182) (q_sub_lo 4 (q_lo1 h180) l0 l1) l1))).2
            obtain ⟨x88, p88⟩ := q_m_draws x87 smp tr p left dn ins z y pd ((2 * col) - 7) (lin - 4) (of_decide_eq_true (q_tbl1 (fun col => decide (0 ≤ ((2 * col) - 7).toInt ∧ ((2 * col) - 7).toInt ≤ 31)) (l := 4) (n := 15) (by decide +kernel) (q_lo1 h184) (q_hi2 h186))).1 (of_decide_eq_true (q_tbl1 (fun col => decide (0 ≤ ((2 * col) - 7).toInt ∧ ((2 * col) - 7).toInt ≤ 31)) (l := 4) (n := 15) (by decide +kernel) (q_lo1 h184) (q_hi2 h186))).2 (of_decide_eq_true (q_tbl1 (fun lin => decide (0 ≤ (lin - 4).toInt ∧ (lin - 4).toInt ≤ 31)) (l := 4) (n := 31) (by decide +kernel) (q_sub_lo 4 (q_lo1 h180) l0 l1) (q_sub_hi 35 (q_hi2 h182) (q_sub_lo 4 (q_lo1 h180) l0 l1) l1))).1 (of_decide_eq_true (q_tbl1 (fun lin => decide (0 ≤ (lin - 4).toInt ∧ (lin - 4).toInt ≤ 31)) (l := 4) (n := 31) (by decide +kernel) (q_sub_lo 4 (q_lo1 h180) l0 l1) (q_sub_hi 35 (q_hi2 h182) (q_sub_lo 4 (q_lo1 h180) l0 l1) l1))).2
            refine ⟨x88, smp, ?_⟩
            refine q_Ca_of (Nat.le_of_ble_eq_true rfl) ?_
            refine q_Ru_seg (g2 := (4, [(0, .ref 64)], [.long y], (q_cM (q_mA pix smp tr (q_nb p left dn ins) (q_fb z)) q_IM (q_mJ y pd), 34, 31630))) 2 (fun _ _ => rfl) ?_
            refine q_Ru_seg (g2 := (9, [(0, .ref 64)], [.int ((y - y / 24 * 24).toInt32)], (q_cM (q_mA pix smp tr (q_nb p left dn ins) (q_fb z)) q_IM (q_mJ y pd), 34, 31630))) 3 (fun _ _ => rfl) ?_
            rw [hC]
            refine q_Ru_seg (g2 := (11, [(1, .int col), (0, .ref 64)], [.int col], (q_cM (q_mA pix smp tr (q_nb p left dn ins) (q_fb z)) q_IM (q_mJ y pd), 34, 31630))) 2 (fun _ _ => rfl) ?_
            refine q_Ru_rsT (g2 := (39, [(1, .int col), (0, .ref 64)], [], (q_cM (q_mA pix smp tr (q_nb p left dn ins) (q_fb z)) q_IM (q_mJ y pd), 34, 31630))) rfl rfl (q_d_neF h170) ?_
            refine q_Ru_seg (g2 := (40, [(1, .int col), (0, .ref 64)], [.ref 64], (q_cM (q_mA pix smp tr (q_nb p left dn ins) (q_fb z)) q_IM (q_mJ y pd), 34, 31630))) 1 (fun _ _ => rfl) ?_
            refine q_Ru_call (v := (some (.int 1))) (h2 := (q_cM (q_mA pix smp tr (q_nb p left dn ins) (q_fb z)) q_IM (q_mJ y pd), 34, 31630)) rfl rfl ?_ ?_
            · exact (by have e := q_m_picX pix smp tr p left dn ins z y pd col lin p1 p2 hC hM c0 c1 l0 l1 a0 a1 b0 b1 hp0 hp1 hp2 i0 i1; rw [hpic] at e; exact e.le (Nat.le_of_ble_eq_true rfl))
            show q_Ru _ _ _ (43, [(1, .int col), (0, .ref 64)], [.int 1], (q_cM (q_mA pix smp tr (q_nb p left dn ins) (q_fb z)) q_IM (q_mJ y pd), 34, 31630)) _
            refine q_Ru_seg (g2 := (45, [(2, .int 1), (1, .int col), (0, .ref 64)], [.ref 64], (q_cM (q_mA pix smp tr (q_nb p left dn ins) (q_fb z)) q_IM (q_mJ y pd), 34, 31630))) 2 (fun _ _ => rfl) ?_
            refine q_Ru_call (v := (some (.int (lin - 4)))) (h2 := (q_cM (q_mA pix smp tr (q_nb p left dn ins) (q_fb z)) q_IM (q_mJ y pd), 34, 31630)) rfl rfl ?_ ?_
            · refine q_Ca_of (Nat.le_of_ble_eq_true rfl) ?_
              refine q_Ru_seg (g2 := (1, [(0, .ref 64)], [.ref 64], (q_cM (q_mA pix smp tr (q_nb p left dn ins) (q_fb z)) q_IM (q_mJ y pd), 34, 31630))) 1 (fun _ _ => rfl) ?_
              refine q_Ru_call (v := (some (.int lin))) (h2 := (q_cM (q_mA pix smp tr (q_nb p left dn ins) (q_fb z)) q_IM (q_mJ y pd), 34, 31630)) rfl rfl ?_ ?_
              · refine q_Ca_of (Nat.le_of_ble_eq_true rfl) ?_
                refine q_Ru_seg (g2 := (4, [(0, .ref 64)], [.long y], (q_cM (q_mA pix smp tr (q_nb p left dn ins) (q_fb z)) q_IM (q_mJ y pd), 34, 31630))) 2 (fun _ _ => rfl) ?_
                refine q_Ru_seg (g2 := (13, [(0, .ref 64)], [.int (((y / 24) - (y / 24) / 40 * 40).toInt32)], (q_cM (q_mA pix smp tr (q_nb p left dn ins) (q_fb z)) q_IM (q_mJ y pd), 34, 31630))) 5 (fun _ _ => rfl) ?_
                rw [hM]
                exact q_Ru_ret rfl rfl
              show q_Ru _ _ _ (4, [(0, .ref 64)], [.int lin], (q_cM (q_mA pix smp tr (q_nb p left dn ins) (q_fb z)) q_IM (q_mJ y pd), 34, 31630)) _
              refine q_Ru_seg (g2 := (6, [(0, .ref 64)], [.int (lin - 4)], (q_cM (q_mA pix smp tr (q_nb p left dn ins) (q_fb z)) q_IM (q_mJ y pd), 34, 31630))) 2 (fun _ _ => rfl) ?_
              exact q_Ru_ret rfl rfl
            show q_Ru _ _ _ (48, [(2, .int 1), (1, .int col), (0, .ref 64)], [.int (lin - 4)], (q_cM (q_mA pix smp tr (q_nb p left dn ins) (q_fb z)) q_IM (q_mJ y pd), 34, 31630)) _
            refine q_Ru_seg (g2 := (53, [(3, .int (lin - 4)), (2, .int 1), (1, .int col), (0, .ref 64)], [.int 31, .int 0, .int (lin - 4)], (q_cM (q_mA pix smp tr (q_nb p left dn ins) (q_fb z)) q_IM (q_mJ y pd), 34, 31630))) 4 (fun _ _ => rfl) ?_
            refine q_Ru_call (v := (some (.int 1))) (h2 := (q_cM (q_mA pix smp tr (q_nb p left dn ins) (q_fb z)) q_IM (q_mJ y pd), 34, 31630)) rfl rfl ?_ ?_
            · refine q_Ca_of (Nat.le_of_ble_eq_true rfl) ?_
              refine q_Ru_seg (g2 := (2, [(0, .int (lin - 4)), (1, .int 0), (2, .int 31)], [.int 0, .int (lin - 4)], (q_cM (q_mA pix smp tr (q_nb p left dn ins) (q_fb z)) q_IM (q_mJ y pd), 34, 31630))) 2 (fun _ _ => rfl) ?_
              refine q_Ru_rsF (g2 := (5, [(0, .int (lin - 4)), (1, .int 0), (2, .int 31)], [], (q_cM (q_mA pix smp tr (q_nb p left dn ins) (q_fb z)) q_IM (q_mJ y pd), 34, 31630))) rfl rfl h180 ?_
              refine q_Ru_seg (g2 := (7, [(0, .int (lin - 4)), (1, .int 0), (2, .int 31)], [.int 31, .int (lin - 4)], (q_cM (q_mA pix smp tr (q_nb p left dn ins) (q_fb z)) q_IM (q_mJ y pd), 34, 31630))) 2 (fun _ _ => rfl) ?_
              refine q_Ru_rsF (g2 := (10, [(0, .int (lin - 4)), (1, .int 0), (2, .int 31)], [], (q_cM (q_mA pix smp tr (q_nb p left dn ins) (q_fb z)) q_IM (q_mJ y pd), 34, 31630))) rfl rfl h182 ?_
              refine q_Ru_seg (g2 := (15, [(0, .int (lin - 4)), (1, .int 0), (2, .int 31)], [.int 1], (q_cM (q_mA pix smp tr (q_nb p left dn ins) (q_fb z)) q_IM (q_mJ y pd), 34, 31630))) 2 (fun _ _ => rfl) ?_
              exact q_Ru_ret rfl rfl
            show q_Ru _ _ _ (56, [(3, .int (lin - 4)), (2, .int 1), (1, .int col), (0, .ref 64)], [.int 1], (q_cM (q_mA pix smp tr (q_nb p left dn ins) (q_fb z)) q_IM (q_mJ y pd), 34, 31630)) _
            refine q_Ru_seg (g2 := (63, [(3, .int (lin - 4)), (2, .int 1), (1, .int col), (0, .ref 64)], [.int 19, .int 4, .int col], (q_cM (q_mA pix smp tr (q_nb p left dn ins) (q_fb z)) q_IM (q_mJ y pd), 34, 31630))) 4 (fun _ _ => rfl) ?_
            refine q_Ru_call (v := (some (.int 1))) (h2 := (q_cM (q_mA pix smp tr (q_nb p left dn ins) (q_fb z)) q_IM (q_mJ y pd), 34, 31630)) rfl rfl ?_ ?_
            · refine q_Ca_of (Nat.le_of_ble_eq_true rfl) ?_
              refine q_Ru_seg (g2 := (2, [(0, .int col), (1, .int 4), (2, .int 19)], [.int 4, .int col], (q_cM (q_mA pix smp tr (q_nb p left dn ins) (q_fb z)) q_IM (q_mJ y pd), 34, 31630))) 2 (fun _ _ => rfl) ?_
              refine q_Ru_rsF (g2 := (5, [(0, .int col), (1, .int 4), (2, .int 19)], [], (q_cM (q_mA pix smp tr (q_nb p left dn ins) (q_fb z)) q_IM (q_mJ y pd), 34, 31630))) rfl rfl h184 ?_
              refine q_Ru_seg (g2 := (7, [(0, .int col), (1, .int 4), (2, .int 19)], [.int 19, .int col], (q_cM (q_mA pix smp tr (q_nb p left dn ins) (q_fb z)) q_IM (q_mJ y pd), 34, 31630))) 2 (fun _ _ => rfl) ?_
              refine q_Ru_rsF (g2 := (10, [(0, .int col), (1, .int 4), (2, .int 19)], [], (q_cM (q_mA pix smp tr (q_nb p left dn ins) (q_fb z)) q_IM (q_mJ y pd), 34, 31630))) rfl rfl h186 ?_
              refine q_Ru_seg (g2 := (15, [(0, .int col), (1, .int 4), (2, .int 19)], [.int 1], (q_cM (q_mA pix smp tr (q_nb p left dn ins) (q_fb z)) q_IM (q_mJ y pd), 34, 31630))) 2 (fun _ _ => rfl) ?_
              exact q_Ru_ret rfl rfl
            show q_Ru _ _ _ (66, [(3, .int (lin - 4)), (2, .int 1), (1, .int col), (0, .ref 64)], [.int 1], (q_cM (q_mA pix smp tr (q_nb p left dn ins) (q_fb z)) q_IM (q_mJ y pd), 34, 31630)) _
            refine q_Ru_seg (g2 := (77, [(3, .int (lin - 4)), (2, .int 1), (1, .int col), (0, .ref 64)], [.int (lin - 4), .int ((2 * col) - 8), .ref 64], (q_cM (q_mA pix smp tr (q_nb p left dn ins) (q_fb z)) q_IM (q_mJ y pd), 34, 31630))) 8 (fun _ _ => rfl) ?_
            refine q_Ru_call (v := none) (h2 := (q_cM (q_mA x87 smp tr (q_nb p left dn ins) (q_fb z)) q_IM (q_mJ y pd), 34, 31630)) rfl rfl ?_ ?_
            · exact p87.le (Nat.le_of_ble_eq_true rfl)
            show q_Ru _ _ _ (80, [(3, .int (lin - 4)), (2, .int 1), (1, .int col), (0, .ref 64)], [], (q_cM (q_mA x87 smp tr (q_nb p left dn ins) (q_fb z)) q_IM (q_mJ y pd), 34, 31630)) _
            refine q_Ru_seg (g2 := (88, [(3, .int (lin - 4)), (2, .int 1), (1, .int col), (0, .ref 64)], [.int (lin - 4), .int ((2 * col) - 7), .ref 64], (q_cM (q_mA x87 smp tr (q_nb p left dn ins) (q_fb z)) q_IM (q_mJ y pd), 34, 31630))) 7 (fun _ _ => rfl) ?_
            refine q_Ru_call (v := none) (h2 := (q_cM (q_mA x88 smp tr (q_nb p left dn ins) (q_fb z)) q_IM (q_mJ y pd), 34, 31630)) rfl rfl ?_ ?_
            · exact p88.le (Nat.le_of_ble_eq_true rfl)
            show q_Ru _ _ _ (91, [(3, .int (lin - 4)), (2, .int 1), (1, .int col), (0, .ref 64)], [], (q_cM (q_mA x88 smp tr (q_nb p left dn ins) (q_fb z)) q_IM (q_mJ y pd), 34, 31630)) _
            refine q_Ru_seg (g2 := (92, [(3, .int (lin - 4)), (2, .int 1), (1, .int col), (0, .ref 64)], [.ref 64], (q_cM (q_mA x88 smp tr (q_nb p left dn ins) (q_fb z)) q_IM (q_mJ y pd), 34, 31630))) 1 (fun _ _ => rfl) ?_
            refine q_Ru_call (v := none) (h2 := (q_cM (q_mA x88 smp tr (q_nb p left dn ins) (q_fb z)) q_IM (q_mJ y pd), 34, 31630)) rfl rfl ?_ ?_
            · exact (q_m_times x88 smp tr p left dn ins z y pd col lin p1 p2 hC hM c0 c1 l0 l1 a0 a1 b0 b1 hp0 hp1 hp2 i0 i1  ).le (Nat.le_of_ble_eq_true rfl)
            show q_Ru _ _ _ (95, [(3, .int (lin - 4)), (2, .int 1), (1, .int col), (0, .ref 64)], [], (q_cM (q_mA x88 smp tr (q_nb p left dn ins) (q_fb z)) q_IM (q_mJ y pd), 34, 31630)) _
            refine q_Ru_seg (g2 := (96, [(3, .int (lin - 4)), (2, .int 1), (1, .int col), (0, .ref 64)], [.ref 64], (q_cM (q_mA x88 smp tr (q_nb p left dn ins) (q_fb z)) q_IM (q_mJ y pd), 34, 31630))) 1 (fun _ _ => rfl) ?_
            refine q_Ru_call (v := none) (h2 := (q_cM (q_mA x88 smp tr (q_nb p left dn ins) (q_fb z)) q_IM (q_mJ y pd), 34, 31630)) rfl rfl ?_ ?_
            · exact (q_m_winds x88 smp tr p left dn ins z y pd col lin p1 p2 hC hM c0 c1 l0 l1 a0 a1 b0 b1 hp0 hp1 hp2 i0 i1  ).le (Nat.le_of_ble_eq_true rfl)
            show q_Ru _ _ _ (99, [(3, .int (lin - 4)), (2, .int 1), (1, .int col), (0, .ref 64)], [], (q_cM (q_mA x88 smp tr (q_nb p left dn ins) (q_fb z)) q_IM (q_mJ y pd), 34, 31630)) _
            refine q_Ru_seg (g2 := (102, [(3, .int (lin - 4)), (2, .int 1), (1, .int col), (0, .ref 64)], [.int 23, .int col], (q_cM (q_mA x88 smp tr (q_nb p left dn ins) (q_fb z)) q_IM (q_mJ y pd), 34, 31630))) 2 (fun _ _ => rfl) ?_
            refine q_Ru_rsT (g2 := (109, [(3, .int (lin - 4)), (2, .int 1), (1, .int col), (0, .ref 64)], [], (q_cM (q_mA x88 smp tr (q_nb p left dn ins) (q_fb z)) q_IM (q_mJ y pd), 34, 31630))) rfl rfl (q_d_neF h188) ?_
            refine q_Ru_seg (g2 := (122, [(3, .int (lin - 4)), (2, .int 1), (1, .int col), (0, .ref 64)], [.long pd, .ref 64], (q_cM (q_mA x88 smp tr (q_nb p left dn ins) (q_fb z)) q_IM (q_mJ y pd), 34, 31630))) 5 (fun _ _ => rfl) ?_
            refine q_Ru_seg (g2 := (140, [(3, .int (lin - 4)), (2, .int 1), (1, .int col), (0, .ref 64)], [.long y, .ref 64], (q_cM (q_mA x88 smp tr (q_nb p left dn ins) (q_fb z)) q_IM (q_uI (q_mJ y pd) 0 16 (pd + 1)), 34, 31630))) 9 (fun _ _ => rfl) ?_
            refine q_Ru_seg (g2 := (146, [(3, .int (lin - 4)), (2, .int 1), (1, .int col), (0, .ref 64)], [.int 1], (q_cM (q_mA x88 smp tr (q_nb p left dn ins) (q_fb z)) q_IM (q_uI (q_uI (q_mJ y pd) 0 16 (pd + 1)) 0 15 (y + 1)), 34, 31630))) 4 (fun _ _ => rfl) ?_
            exact q_Ru_ret rfl rfl
set_option maxHeartbeats 4000000 in
theorem q_m_pass00 (pix smp tr : Nat → Int32) (p dn ins z : Int32) (y pd : Int64) (col lin p1 p2 : Int32) (hC : (y - y / 24 * 24).toInt32 = col) (hM : (y / 24 - y / 24 / 40 * 40).toInt32 = lin) (c0 : 0 ≤ col.toInt) (c1 : col.toInt ≤ 23) (l0 : 0 ≤ lin.toInt) (l1 : lin.toInt ≤ 39) (a0 : 0 ≤ p.toInt) (a1 : p.toInt ≤ 3839) (b0 : 0 ≤ p1.toInt) (b1 : p1.toInt ≤ 3839) (hp0 : p &&& 4095 = p) (hp1 : (p + 1) &&& 4095 = p1) (hp2 : (p + 2) &&& 4095 = p2) (i0 : 0 ≤ ins.toInt) (i1 : ins.toInt ≤ 1000) (hpic : q_picX lin col = 0) : ∃ pix2 smp2, q_Ca q_TB0 9 235 [.ref 64] (q_cM (q_mA pix smp tr (q_nb p 0 dn ins) (q_fb z)) q_IM (q_mJ y pd), 34, 31630) (.inl (some (.int 0)), (q_cM (q_mA pix2 smp2 tr (q_nb p 1 dn ins) (q_fb z)) q_IM (q_mJ (y + 1) (pd + 0)), 34, 31630)) := by
  cases h189 : decide (col = 0) with
  | true =>
    cases h190 : decide (lin = 0) with
    | true =>
      have h191 : decide (lin - 4 < 0) = true := q_tbl1 (fun lin => decide (lin - 4 < 0)) (l := 0) (n := 0) (by decide +kernel) (q_eqlo h190) (q_eqhi h190)
      have h192 : decide (col = 23) = false := q_not_tr (q_tbl1 (fun col => !decide (col = 23)) (l := 0) (n := 0) (by decide +kernel) (q_eqlo h189) (q_eqhi h189))
      refine ⟨pix, smp, ?_⟩
      refine q_Ca_of (Nat.le_of_ble_eq_true rfl) ?_
      refine q_Ru_seg (g2 := (4, [(0, .ref 64)], [.long y], (q_cM (q_mA pix smp tr (q_nb p 0 dn ins) (q_fb z)) q_IM (q_mJ y pd), 34, 31630))) 2 (fun _ _ => rfl) ?_
      refine q_Ru_seg (g2 := (9, [(0, .ref 64)], [.int ((y - y / 24 * 24).toInt32)], (q_cM (q_mA pix smp tr (q_nb p 0 dn ins) (q_fb z)) q_IM (q_mJ y pd), 34, 31630))) 3 (fun _ _ => rfl) ?_
      rw [hC]
      refine q_Ru_seg (g2 := (11, [(1, .int col), (0, .ref 64)], [.int col], (q_cM (q_mA pix smp tr (q_nb p 0 dn ins) (q_fb z)) q_IM (q_mJ y pd), 34, 31630))) 2 (fun _ _ => rfl) ?_
      refine q_Ru_rsF (g2 := (14, [(1, .int col), (0, .ref 64)], [], (q_cM (q_mA pix smp tr (q_nb p 0 dn ins) (q_fb z)) q_IM (q_mJ y pd), 34, 31630))) rfl rfl (q_d_neT h189) ?_
      refine q_Ru_seg (g2 := (15, [(1, .int col), (0, .ref 64)], [.ref 64], (q_cM (q_mA pix smp tr (q_nb p 0 dn ins) (q_fb z)) q_IM (q_mJ y pd), 34, 31630))) 1 (fun _ _ => rfl) ?_
      refine q_Ru_call (v := (some (.int lin))) (h2 := (q_cM (q_mA pix smp tr (q_nb p 0 dn ins) (q_fb z)) q_IM (q_mJ y pd), 34, 31630)) rfl rfl ?_ ?_
      · refine q_Ca_of (Nat.le_of_ble_eq_true rfl) ?_
        refine q_Ru_seg (g2 := (4, [(0, .ref 64)], [.long y], (q_cM (q_mA pix smp tr (q_nb p 0 dn ins) (q_fb z)) q_IM (q_mJ y pd), 34, 31630))) 2 (fun _ _ => rfl) ?_
        refine q_Ru_seg (g2 := (13, [(0, .ref 64)], [.int (((y / 24) - (y / 24) / 40 * 40).toInt32)], (q_cM (q_mA pix smp tr (q_nb p 0 dn ins) (q_fb z)) q_IM (q_mJ y pd), 34, 31630))) 5 (fun _ _ => rfl) ?_
        rw [hM]
        exact q_Ru_ret rfl rfl
      show q_Ru _ _ _ (18, [(1, .int col), (0, .ref 64)], [.int lin], (q_cM (q_mA pix smp tr (q_nb p 0 dn ins) (q_fb z)) q_IM (q_mJ y pd), 34, 31630)) _
      refine q_Ru_seg (g2 := (25, [(1, .int col), (0, .ref 64)], [.int 0, .int lin], (q_cM (q_mA pix smp tr (q_nb p 0 dn ins) (q_fb z)) q_IM (q_mJ y pd), 34, 31630))) 4 (fun _ _ => rfl) ?_
      refine q_Ru_rsF (g2 := (28, [(1, .int col), (0, .ref 64)], [], (q_cM (q_mA pix smp tr (q_nb p 0 dn ins) (q_fb z)) q_IM (q_mJ y pd), 34, 31630))) rfl rfl (q_d_neT h190) ?_
      refine q_Ru_seg (g2 := (36, [(1, .int col), (0, .ref 64)], [.int 1, .int 9, .ref 78], (q_cM (q_mA pix smp tr (q_nb p 0 dn ins) (q_fb z)) q_IM (q_mJ y pd), 34, 31630))) 5 (fun _ _ => rfl) ?_
      refine q_Ru_seg (g2 := (40, [(1, .int col), (0, .ref 64)], [.ref 64], (q_cM (q_uA (q_mA pix smp tr (q_nb p 0 dn ins) (q_fb z)) 14 (upd (q_nb p 0 dn ins) 9 1)) q_IM (q_mJ y pd), 34, 31630))) 4 (fun _ _ => rfl) ?_
      have hA : ∀ i, i < 34 → (q_uA (q_mA pix smp tr (q_nb p 0 dn ins) (q_fb z)) 14 (upd (q_nb p 0 dn ins) 9 1)) i = (q_mA pix smp tr (q_nb p 0 dn ins) (q_fb z)) i := by
        intro i hi
        match i, hi with
        | 0, _ => rfl
        | 1, _ => rfl
        | 2, _ => rfl
        | 3, _ => rfl
        | 4, _ => rfl
        | 5, _ => rfl
        | 6, _ => rfl
        | 7, _ => rfl
        | 8, _ => rfl
        | 9, _ => rfl
        | 10, _ => rfl
        | 11, _ => rfl
        | 12, _ => rfl
        | 13, _ => rfl
        | 14, _ => exact (show (upd (q_nb p 0 dn ins) 9 1) = (q_nb p 0 dn ins) by simp only [q_upd_upd, q_upd_z, q_nb_4, q_nb_17, q_nb_19, q_nb_20, q_nb_0, q_nb_9, q_nb_18, q_fb_4, q_fb_0])
        | 15, _ => rfl
        | 16, _ => rfl
        | 17, _ => rfl
        | 18, _ => rfl
        | 19, _ => rfl
        | 20, _ => rfl
        | 21, _ => rfl
        | 22, _ => rfl
        | 23, _ => rfl
        | 24, _ => rfl
        | 25, _ => rfl
        | 26, _ => rfl
        | 27, _ => rfl
        | 28, _ => rfl
        | 29, _ => rfl
        | 30, _ => rfl
        | 31, _ => rfl
        | 32, _ => rfl
        | 33, _ => rfl
        | i + 34, hi => exact absurd hi (by omega)
      refine q_Ru_hX (q_cM_A (I := q_IM) (J := (q_mJ y pd)) hA) ?_
      refine q_Ru_call (v := (some (.int 0))) (h2 := (q_cM (q_mA pix smp tr (q_nb p 0 dn ins) (q_fb z)) q_IM (q_mJ y pd), 34, 31630)) rfl rfl ?_ ?_
      · exact (by have e := q_m_picX pix smp tr p 0 dn ins z y pd col lin p1 p2 hC hM c0 c1 l0 l1 a0 a1 b0 b1 hp0 hp1 hp2 i0 i1; rw [hpic] at e; exact e.le (Nat.le_of_ble_eq_true rfl))
      show q_Ru _ _ _ (43, [(1, .int col), (0, .ref 64)], [.int 0], (q_cM (q_mA pix smp tr (q_nb p 0 dn ins) (q_fb z)) q_IM (q_mJ y pd), 34, 31630)) _
      refine q_Ru_seg (g2 := (45, [(2, .int 0), (1, .int col), (0, .ref 64)], [.ref 64], (q_cM (q_mA pix smp tr (q_nb p 0 dn ins) (q_fb z)) q_IM (q_mJ y pd), 34, 31630))) 2 (fun _ _ => rfl) ?_
      refine q_Ru_call (v := (some (.int (lin - 4)))) (h2 := (q_cM (q_mA pix smp tr (q_nb p 0 dn ins) (q_fb z)) q_IM (q_mJ y pd), 34, 31630)) rfl rfl ?_ ?_
      · refine q_Ca_of (Nat.le_of_ble_eq_true rfl) ?_
        refine q_Ru_seg (g2 := (1, [(0, .ref 64)], [.ref 64], (q_cM (q_mA pix smp tr (q_nb p 0 dn ins) (q_fb z)) q_IM (q_mJ y pd), 34, 31630))) 1 (fun _ _ => rfl) ?_
        refine q_Ru_call (v := (some (.int lin))) (h2 := (q_cM (q_mA pix smp tr (q_nb p 0 dn ins) (q_fb z)) q_IM (q_mJ y pd), 34, 31630)) rfl rfl ?_ ?_
        · refine q_Ca_of (Nat.le_of_ble_eq_true rfl) ?_
          refine q_Ru_seg (g2 := (4, [(0, .ref 64)], [.long y], (q_cM (q_mA pix smp tr (q_nb p 0 dn ins) (q_fb z)) q_IM (q_mJ y pd), 34, 31630))) 2 (fun _ _ => rfl) ?_
          refine q_Ru_seg (g2 := (13, [(0, .ref 64)], [.int (((y / 24) - (y / 24) / 40 * 40).toInt32)], (q_cM (q_mA pix smp tr (q_nb p 0 dn ins) (q_fb z)) q_IM (q_mJ y pd), 34, 31630))) 5 (fun _ _ => rfl) ?_
          rw [hM]
          exact q_Ru_ret rfl rfl
        show q_Ru _ _ _ (4, [(0, .ref 64)], [.int lin], (q_cM (q_mA pix smp tr (q_nb p 0 dn ins) (q_fb z)) q_IM (q_mJ y pd), 34, 31630)) _
        refine q_Ru_seg (g2 := (6, [(0, .ref 64)], [.int (lin - 4)], (q_cM (q_mA pix smp tr (q_nb p 0 dn ins) (q_fb z)) q_IM (q_mJ y pd), 34, 31630))) 2 (fun _ _ => rfl) ?_
        exact q_Ru_ret rfl rfl
      show q_Ru _ _ _ (48, [(2, .int 0), (1, .int col), (0, .ref 64)], [.int (lin - 4)], (q_cM (q_mA pix smp tr (q_nb p 0 dn ins) (q_fb z)) q_IM (q_mJ y pd), 34, 31630)) _
      refine q_Ru_seg (g2 := (53, [(3, .int (lin - 4)), (2, .int 0), (1, .int col), (0, .ref 64)], [.int 31, .int 0, .int (lin - 4)], (q_cM (q_mA pix smp tr (q_nb p 0 dn ins) (q_fb z)) q_IM (q_mJ y pd), 34, 31630))) 4 (fun _ _ => rfl) ?_
      refine q_Ru_call (v := (some (.int 0))) (h2 := (q_cM (q_mA pix smp tr (q_nb p 0 dn ins) (q_fb z)) q_IM (q_mJ y pd), 34, 31630)) rfl rfl ?_ ?_
      · refine q_Ca_of (Nat.le_of_ble_eq_true rfl) ?_
        refine q_Ru_seg (g2 := (2, [(0, .int (lin - 4)), (1, .int 0), (2, .int 31)], [.int 0, .int (lin - 4)], (q_cM (q_mA pix smp tr (q_nb p 0 dn ins) (q_fb z)) q_IM (q_mJ y pd), 34, 31630))) 2 (fun _ _ => rfl) ?_
        refine q_Ru_rsT (g2 := (14, [(0, .int (lin - 4)), (1, .int 0), (2, .int 31)], [], (q_cM (q_mA pix smp tr (q_nb p 0 dn ins) (q_fb z)) q_IM (q_mJ y pd), 34, 31630))) rfl rfl h191 ?_
        refine q_Ru_seg (g2 := (15, [(0, .int (lin - 4)), (1, .int 0), (2, .int 31)], [.int 0], (q_cM (q_mA pix smp tr (q_nb p 0 dn ins) (q_fb z)) q_IM (q_mJ y pd), 34, 31630))) 1 (fun _ _ => rfl) ?_
        exact q_Ru_ret rfl rfl
      show q_Ru _ _ _ (56, [(3, .int (lin - 4)), (2, .int 0), (1, .int col), (0, .ref 64)], [.int 0], (q_cM (q_mA pix smp tr (q_nb p 0 dn ins) (q_fb z)) q_IM (q_mJ y pd), 34, 31630)) _
      refine q_Ru_seg (g2 := (92, [(3, .int (lin - 4)), (2, .int 0), (1, .int col), (0, .ref 64)], [.ref 64], (q_cM (q_mA pix smp tr (q_nb p 0 dn ins) (q_fb z)) q_IM (q_mJ y pd), 34, 31630))) 2 (fun _ _ => rfl) ?_
      refine q_Ru_call (v := none) (h2 := (q_cM (q_mA pix smp tr (q_nb p 0 dn ins) (q_fb z)) q_IM (q_mJ y pd), 34, 31630)) rfl rfl ?_ ?_
      · exact (q_m_times pix smp tr p 0 dn ins z y pd col lin p1 p2 hC hM c0 c1 l0 l1 a0 a1 b0 b1 hp0 hp1 hp2 i0 i1  ).le (Nat.le_of_ble_eq_true rfl)
      show q_Ru _ _ _ (95, [(3, .int (lin - 4)), (2, .int 0), (1, .int col), (0, .ref 64)], [], (q_cM (q_mA pix smp tr (q_nb p 0 dn ins) (q_fb z)) q_IM (q_mJ y pd), 34, 31630)) _
      refine q_Ru_seg (g2 := (96, [(3, .int (lin - 4)), (2, .int 0), (1, .int col), (0, .ref 64)], [.ref 64], (q_cM (q_mA pix smp tr (q_nb p 0 dn ins) (q_fb z)) q_IM (q_mJ y pd), 34, 31630))) 1 (fun _ _ => rfl) ?_
      refine q_Ru_call (v := none) (h2 := (q_cM (q_mA pix smp tr (q_nb p 0 dn ins) (q_fb z)) q_IM (q_mJ y pd), 34, 31630)) rfl rfl ?_ ?_
      · exact (q_m_winds pix smp tr p 0 dn ins z y pd col lin p1 p2 hC hM c0 c1 l0 l1 a0 a1 b0 b1 hp0 hp1 hp2 i0 i1  ).le (Nat.le_of_ble_eq_true rfl)
      show q_Ru _ _ _ (99, [(3, .int (lin - 4)), (2, .int 0), (1, .int col), (0, .ref 64)], [], (q_cM (q_mA pix smp tr (q_nb p 0 dn ins) (q_fb z)) q_IM (q_mJ y pd), 34, 31630)) _
      refine q_Ru_seg (g2 := (102, [(3, .int (lin - 4)), (2, .int 0), (1, .int col), (0, .ref 64)], [.int 23, .int col], (q_cM (q_mA pix smp tr (q_nb p 0 dn ins) (q_fb z)) q_IM (q_mJ y pd), 34, 31630))) 2 (fun _ _ => rfl) ?_
      refine q_Ru_rsT (g2 := (109, [(3, .int (lin - 4)), (2, .int 0), (1, .int col), (0, .ref 64)], [], (q_cM (q_mA pix smp tr (q_nb p 0 dn ins) (q_fb z)) q_IM (q_mJ y pd), 34, 31630))) rfl rfl (q_d_neF h192) ?_
      refine q_Ru_seg (g2 := (114, [(3, .int (lin - 4)), (2, .int 0), (1, .int col), (0, .ref 64)], [.ref 64], (q_cM (q_mA pix smp tr (q_nb p 0 dn ins) (q_fb z)) q_IM (q_mJ y pd), 34, 31630))) 3 (fun _ _ => rfl) ?_
      refine q_Ru_call (v := none) (h2 := (q_cM (q_mA pix smp tr (q_nb p 1 dn ins) (q_fb z)) q_IM (q_mJ y pd), 34, 31630)) rfl rfl ?_ ?_
      · exact (q_m_go0 pix smp tr p dn ins z y pd col lin p1 p2 hC hM c0 c1 l0 l1 a0 a1 b0 b1 hp0 hp1 hp2 i0 i1  ).le (Nat.le_of_ble_eq_true rfl)
      show q_Ru _ _ _ (117, [(3, .int (lin - 4)), (2, .int 0), (1, .int col), (0, .ref 64)], [], (q_cM (q_mA pix smp tr (q_nb p 1 dn ins) (q_fb z)) q_IM (q_mJ y pd), 34, 31630)) _
      refine q_Ru_seg (g2 := (122, [(3, .int (lin - 4)), (2, .int 0), (1, .int col), (0, .ref 64)], [.long pd, .ref 64], (q_cM (q_mA pix smp tr (q_nb p 1 dn ins) (q_fb z)) q_IM (q_mJ y pd), 34, 31630))) 3 (fun _ _ => rfl) ?_
      refine q_Ru_seg (g2 := (140, [(3, .int (lin - 4)), (2, .int 0), (1, .int col), (0, .ref 64)], [.long y, .ref 64], (q_cM (q_mA pix smp tr (q_nb p 1 dn ins) (q_fb z)) q_IM (q_uI (q_mJ y pd) 0 16 (pd + 0)), 34, 31630))) 8 (fun _ _ => rfl) ?_
      refine q_Ru_seg (g2 := (146, [(3, .int (lin - 4)), (2, .int 0), (1, .int col), (0, .ref 64)], [.int 0], (q_cM (q_mA pix smp tr (q_nb p 1 dn ins) (q_fb z)) q_IM (q_uI (q_uI (q_mJ y pd) 0 16 (pd + 0)) 0 15 (y + 1)), 34, 31630))) 4 (fun _ _ => rfl) ?_
      exact q_Ru_ret rfl rfl
    | false =>
      cases h193 : decide (lin - 4 < 0) with
      | true =>
        have h194 : decide (col = 23) = false := q_not_tr (q_tbl1 (fun col => !decide (col = 23)) (l := 0) (n := 0) (by decide +kernel) (q_eqlo h189) (q_eqhi h189))
        refine ⟨pix, smp, ?_⟩
        refine q_Ca_of (Nat.le_of_ble_eq_true rfl) ?_
        refine q_Ru_seg (g2 := (4, [(0, .ref 64)], [.long y], (q_cM (q_mA pix smp tr (q_nb p 0 dn ins) (q_fb z)) q_IM (q_mJ y pd), 34, 31630))) 2 (fun _ _ => rfl) ?_
        refine q_Ru_seg (g2 := (9, [(0, .ref 64)], [.int ((y - y / 24 * 24).toInt32)], (q_cM (q_mA pix smp tr (q_nb p 0 dn ins) (q_fb z)) q_IM (q_mJ y pd), 34, 31630))) 3 (fun _ _ => rfl) ?_
        rw [hC]
        refine q_Ru_seg (g2 := (11, [(1, .int col), (0, .ref 64)], [.int col], (q_cM (q_mA pix smp tr (q_nb p 0 dn ins) (q_fb z)) q_IM (q_mJ y pd), 34, 31630))) 2 (fun _ _ => rfl) ?_
        refine q_Ru_rsF (g2 := (14, [(1, .int col), (0, .ref 64)], [], (q_cM (q_mA pix smp tr (q_nb p 0 dn ins) (q_fb z)) q_IM (q_mJ y pd), 34, 31630))) rfl rfl (q_d_neT h189) ?_
        refine q_Ru_seg (g2 := (15, [(1, .int col), (0, .ref 64)], [.ref 64], (q_cM (q_mA pix smp tr (q_nb p 0 dn ins) (q_fb z)) q_IM (q_mJ y pd), 34, 31630))) 1 (fun _ _ => rfl) ?_
        refine q_Ru_call (v := (some (.int lin))) (h2 := (q_cM (q_mA pix smp tr (q_nb p 0 dn ins) (q_fb z)) q_IM (q_mJ y pd), 34, 31630)) rfl rfl ?_ ?_
        · refine q_Ca_of (Nat.le_of_ble_eq_true rfl) ?_
          refine q_Ru_seg (g2 := (4, [(0, .ref 64)], [.long y], (q_cM (q_mA pix smp tr (q_nb p 0 dn ins) (q_fb z)) q_IM (q_mJ y pd), 34, 31630))) 2 (fun _ _ => rfl) ?_
          refine q_Ru_seg (g2 := (13, [(0, .ref 64)], [.int (((y / 24) - (y / 24) / 40 * 40).toInt32)], (q_cM (q_mA pix smp tr (q_nb p 0 dn ins) (q_fb z)) q_IM (q_mJ y pd), 34, 31630))) 5 (fun _ _ => rfl) ?_
          rw [hM]
          exact q_Ru_ret rfl rfl
        show q_Ru _ _ _ (18, [(1, .int col), (0, .ref 64)], [.int lin], (q_cM (q_mA pix smp tr (q_nb p 0 dn ins) (q_fb z)) q_IM (q_mJ y pd), 34, 31630)) _
        refine q_Ru_seg (g2 := (25, [(1, .int col), (0, .ref 64)], [.int 0, .int lin], (q_cM (q_mA pix smp tr (q_nb p 0 dn ins) (q_fb z)) q_IM (q_mJ y pd), 34, 31630))) 4 (fun _ _ => rfl) ?_
        refine q_Ru_rsT (g2 := (39, [(1, .int col), (0, .ref 64)], [], (q_cM (q_mA pix smp tr (q_nb p 0 dn ins) (q_fb z)) q_IM (q_mJ y pd), 34, 31630))) rfl rfl (q_d_neF h190) ?_
        refine q_Ru_seg (g2 := (40, [(1, .int col), (0, .ref 64)], [.ref 64], (q_cM (q_mA pix smp tr (q_nb p 0 dn ins) (q_fb z)) q_IM (q_mJ y pd), 34, 31630))) 1 (fun _ _ => rfl) ?_
        refine q_Ru_call (v := (some (.int 0))) (h2 := (q_cM (q_mA pix smp tr (q_nb p 0 dn ins) (q_fb z)) q_IM (q_mJ y pd), 34, 31630)) rfl rfl ?_ ?_
        · exact (by have e := q_m_picX pix smp tr p 0 dn ins z y pd col lin p1 p2 hC hM c0 c1 l0 l1 a0 a1 b0 b1 hp0 hp1 hp2 i0 i1; rw [hpic] at e; exact e.le (Nat.le_of_ble_eq_true rfl))
        show q_Ru _ _ _ (43, [(1, .int col), (0, .ref 64)], [.int 0], (q_cM (q_mA pix smp tr (q_nb p 0 dn ins) (q_fb z)) q_IM (q_mJ y pd), 34, 31630)) _
        refine q_Ru_seg (g2 := (45, [(2, .int 0), (1, .int col), (0, .ref 64)], [.ref 64], (q_cM (q_mA pix smp tr (q_nb p 0 dn ins) (q_fb z)) q_IM (q_mJ y pd), 34, 31630))) 2 (fun _ _ => rfl) ?_
        refine q_Ru_call (v := (some (.int (lin - 4)))) (h2 := (q_cM (q_mA pix smp tr (q_nb p 0 dn ins) (q_fb z)) q_IM (q_mJ y pd), 34, 31630)) rfl rfl ?_ ?_
        · refine q_Ca_of (Nat.le_of_ble_eq_true rfl) ?_
          refine q_Ru_seg (g2 := (1, [(0, .ref 64)], [.ref 64], (q_cM (q_mA pix smp tr (q_nb p 0 dn ins) (q_fb z)) q_IM (q_mJ y pd), 34, 31630))) 1 (fun _ _ => rfl) ?_
          refine q_Ru_call (v := (some (.int lin))) (h2 := (q_cM (q_mA pix smp tr (q_nb p 0 dn ins) (q_fb z)) q_IM (q_mJ y pd), 34, 31630)) rfl rfl ?_ ?_
          · refine q_Ca_of (Nat.le_of_ble_eq_true rfl) ?_
            refine q_Ru_seg (g2 := (4, [(0, .ref 64)], [.long y], (q_cM (q_mA pix smp tr (q_nb p 0 dn ins) (q_fb z)) q_IM (q_mJ y pd), 34, 31630))) 2 (fun _ _ => rfl) ?_
            refine q_Ru_seg (g2 := (13, [(0, .ref 64)], [.int (((y / 24) - (y / 24) / 40 * 40).toInt32)], (q_cM (q_mA pix smp tr (q_nb p 0 dn ins) (q_fb z)) q_IM (q_mJ y pd), 34, 31630))) 5 (fun _ _ => rfl) ?_
            rw [hM]
            exact q_Ru_ret rfl rfl
          show q_Ru _ _ _ (4, [(0, .ref 64)], [.int lin], (q_cM (q_mA pix smp tr (q_nb p 0 dn ins) (q_fb z)) q_IM (q_mJ y pd), 34, 31630)) _
          refine q_Ru_seg (g2 := (6, [(0, .ref 64)], [.int (lin - 4)], (q_cM (q_mA pix smp tr (q_nb p 0 dn ins) (q_fb z)) q_IM (q_mJ y pd), 34, 31630))) 2 (fun _ _ => rfl) ?_
          exact q_Ru_ret rfl rfl
        show q_Ru _ _ _ (48, [(2, .int 0), (1, .int col), (0, .ref 64)], [.int (lin - 4)], (q_cM (q_mA pix smp tr (q_nb p 0 dn ins) (q_fb z)) q_IM (q_mJ y pd), 34, 31630)) _
        refine q_Ru_seg (g2 := (53, [(3, .int (lin - 4)), (2, .int 0), (1, .int col), (0, .ref 64)], [.int 31, .int 0, .int (lin - 4)], (q_cM (q_mA pix smp tr (q_nb p 0 dn ins) (q_fb z)) q_IM (q_mJ y pd), 34, 31630))) 4 (fun _ _ => rfl) ?_
        refine q_Ru_call (v := (some (.int 0))) (h2 := (q_cM (q_mA pix smp tr (q_nb p 0 dn ins) (q_fb z)) q_IM (q_mJ y pd), 34, 31630)) rfl rfl ?_ ?_
        · refine q_Ca_of (Nat.le_of_ble_eq_true rfl) ?_
          refine q_Ru_seg (g2 := (2, [(0, .int (lin - 4)), (1, .int 0), (2, .int 31)], [.int 0, .int (lin - 4)], (q_cM (q_mA pix smp tr (q_nb p 0 dn ins) (q_fb z)) q_IM (q_mJ y pd), 34, 31630))) 2 (fun _ _ => rfl) ?_
          refine q_Ru_rsT (g2 := (14, [(0, .int (lin - 4)), (1, .int 0), (2, .int 31)], [], (q_cM (q_mA pix smp tr (q_nb p 0 dn ins) (q_fb z)) q_IM (q_mJ y pd), 34, 31630))) rfl rfl h193 ?_
          refine q_Ru_seg (g2 := (15, [(0, .int (lin - 4)), (1, .int 0), (2, .int 31)], [.int 0], (q_cM (q_mA pix smp tr (q_nb p 0 dn ins) (q_fb z)) q_IM (q_mJ y pd), 34, 31630))) 1 (fun _ _ => rfl) ?_
          exact q_Ru_ret rfl rfl
        show q_Ru _ _ _ (56, [(3, .int (lin - 4)), (2, .int 0), (1, .int col), (0, .ref 64)], [.int 0], (q_cM (q_mA pix smp tr (q_nb p 0 dn ins) (q_fb z)) q_IM (q_mJ y pd), 34, 31630)) _
        refine q_Ru_seg (g2 := (92, [(3, .int (lin - 4)), (2, .int 0), (1, .int col), (0, .ref 64)], [.ref 64], (q_cM (q_mA pix smp tr (q_nb p 0 dn ins) (q_fb z)) q_IM (q_mJ y pd), 34, 31630))) 2 (fun _ _ => rfl) ?_
        refine q_Ru_call (v := none) (h2 := (q_cM (q_mA pix smp tr (q_nb p 0 dn ins) (q_fb z)) q_IM (q_mJ y pd), 34, 31630)) rfl rfl ?_ ?_
        · exact (q_m_times pix smp tr p 0 dn ins z y pd col lin p1 p2 hC hM c0 c1 l0 l1 a0 a1 b0 b1 hp0 hp1 hp2 i0 i1  ).le (Nat.le_of_ble_eq_true rfl)
        show q_Ru _ _ _ (95, [(3, .int (lin - 4)), (2, .int 0), (1, .int col), (0, .ref 64)], [], (q_cM (q_mA pix smp tr (q_nb p 0 dn ins) (q_fb z)) q_IM (q_mJ y pd), 34, 31630)) _
        refine q_Ru_seg (g2 := (96, [(3, .int (lin - 4)), (2, .int 0), (1, .int col), (0, .ref 64)], [.ref 64], (q_cM (q_mA pix smp tr (q_nb p 0 dn ins) (q_fb z)) q_IM (q_mJ y pd), 34, 31630))) 1 (fun _ _ => rfl) ?_
        refine q_Ru_call (v := none) (h2 := (q_cM (q_mA pix smp tr (q_nb p 0 dn ins) (q_fb z)) q_IM (q_mJ y pd), 34, 31630)) rfl rfl ?_ ?_
        · exact (q_m_winds pix smp tr p 0 dn ins z y pd col lin p1 p2 hC hM c0 c1 l0 l1 a0 a1 b0 b1 hp0 hp1 hp2 i0 i1  ).le (Nat.le_of_ble_eq_true rfl)
        show q_Ru _ _ _ (99, [(3, .int (lin - 4)), (2, .int 0), (1, .int col), (0, .ref 64)], [], (q_cM (q_mA pix smp tr (q_nb p 0 dn ins) (q_fb z)) q_IM (q_mJ y pd), 34, 31630)) _
        refine q_Ru_seg (g2 := (102, [(3, .int (lin - 4)), (2, .int 0), (1, .int col), (0, .ref 64)], [.int 23, .int col], (q_cM (q_mA pix smp tr (q_nb p 0 dn ins) (q_fb z)) q_IM (q_mJ y pd), 34, 31630))) 2 (fun _ _ => rfl) ?_
        refine q_Ru_rsT (g2 := (109, [(3, .int (lin - 4)), (2, .int 0), (1, .int col), (0, .ref 64)], [], (q_cM (q_mA pix smp tr (q_nb p 0 dn ins) (q_fb z)) q_IM (q_mJ y pd), 34, 31630))) rfl rfl (q_d_neF h194) ?_
        refine q_Ru_seg (g2 := (114, [(3, .int (lin - 4)), (2, .int 0), (1, .int col), (0, .ref 64)], [.ref 64], (q_cM (q_mA pix smp tr (q_nb p 0 dn ins) (q_fb z)) q_IM (q_mJ y pd), 34, 31630))) 3 (fun _ _ => rfl) ?_
        refine q_Ru_call (v := none) (h2 := (q_cM (q_mA pix smp tr (q_nb p 1 dn ins) (q_fb z)) q_IM (q_mJ y pd), 34, 31630)) rfl rfl ?_ ?_
        · exact (q_m_go0 pix smp tr p dn ins z y pd col lin p1 p2 hC hM c0 c1 l0 l1 a0 a1 b0 b1 hp0 hp1 hp2 i0 i1  ).le (Nat.le_of_ble_eq_true rfl)
        show q_Ru _ _ _ (117, [(3, .int (lin - 4)), (2, .int 0), (1, .int col), (0, .ref 64)], [], (q_cM (q_mA pix smp tr (q_nb p 1 dn ins) (q_fb z)) q_IM (q_mJ y pd), 34, 31630)) _
        refine q_Ru_seg (g2 := (122, [(3, .int (lin - 4)), (2, .int 0), (1, .int col), (0, .ref 64)], [.long pd, .ref 64], (q_cM (q_mA pix smp tr (q_nb p 1 dn ins) (q_fb z)) q_IM (q_mJ y pd), 34, 31630))) 3 (fun _ _ => rfl) ?_
        refine q_Ru_seg (g2 := (140, [(3, .int (lin - 4)), (2, .int 0), (1, .int col), (0, .ref 64)], [.long y, .ref 64], (q_cM (q_mA pix smp tr (q_nb p 1 dn ins) (q_fb z)) q_IM (q_uI (q_mJ y pd) 0 16 (pd + 0)), 34, 31630))) 8 (fun _ _ => rfl) ?_
        refine q_Ru_seg (g2 := (146, [(3, .int (lin - 4)), (2, .int 0), (1, .int col), (0, .ref 64)], [.int 0], (q_cM (q_mA pix smp tr (q_nb p 1 dn ins) (q_fb z)) q_IM (q_uI (q_uI (q_mJ y pd) 0 16 (pd + 0)) 0 15 (y + 1)), 34, 31630))) 4 (fun _ _ => rfl) ?_
        exact q_Ru_ret rfl rfl
      | false =>
        cases h195 : decide (31 < lin - 4) with
        | true =>
          have h196 : decide (col = 23) = false := q_not_tr (q_tbl1 (fun col => !decide (col = 23)) (l := 0) (n := 0) (by decide +kernel) (q_eqlo h189) (q_eqhi h189))
          refine ⟨pix, smp, ?_⟩
          refine q_Ca_of (Nat.le_of_ble_eq_true rfl) ?_
          refine q_Ru_seg (g2 := (4, [(0, .ref 64)], [.long y], (q_cM (q_mA pix smp tr (q_nb p 0 dn ins) (q_fb z)) q_IM (q_mJ y pd), 34, 31630))) 2 (fun _ _ => rfl) ?_
          refine q_Ru_seg (g2 := (9, [(0, .ref 64)], [.int ((y - y / 24 * 24).toInt32)], (q_cM (q_mA pix smp tr (q_nb p 0 dn ins) (q_fb z)) q_IM (q_mJ y pd), 34, 31630))) 3 (fun _ _ => rfl) ?_
          rw [hC]
          refine q_Ru_seg (g2 := (11, [(1, .int col), (0, .ref 64)], [.int col], (q_cM (q_mA pix smp tr (q_nb p 0 dn ins) (q_fb z)) q_IM (q_mJ y pd), 34, 31630))) 2 (fun _ _ => rfl) ?_
          refine q_Ru_rsF (g2 := (14, [(1, .int col), (0, .ref 64)], [], (q_cM (q_mA pix smp tr (q_nb p 0 dn ins) (q_fb z)) q_IM (q_mJ y pd), 34, 31630))) rfl rfl (q_d_neT h189) ?_
          refine q_Ru_seg (g2 := (15, [(1, .int col), (0, .ref 64)], [.ref 64], (q_cM (q_mA pix smp tr (q_nb p 0 dn ins) (q_fb z)) q_IM (q_mJ y pd), 34, 31630))) 1 (fun _ _ => rfl) ?_
          refine q_Ru_call (v := (some (.int lin))) (h2 := (q_cM (q_mA pix smp tr (q_nb p 0 dn ins) (q_fb z)) q_IM (q_mJ y pd), 34, 31630)) rfl rfl ?_ ?_
          · refine q_Ca_of (Nat.le_of_ble_eq_true rfl) ?_
            refine q_Ru_seg (g2 := (4, [(0, .ref 64)], [.long y], (q_cM (q_mA pix smp tr (q_nb p 0 dn ins) (q_fb z)) q_IM (q_mJ y pd), 34, 31630))) 2 (fun _ _ => rfl) ?_
            refine q_Ru_seg (g2 := (13, [(0, .ref 64)], [.int (((y / 24) - (y / 24) / 40 * 40).toInt32)], (q_cM (q_mA pix smp tr (q_nb p 0 dn ins) (q_fb z)) q_IM (q_mJ y pd), 34, 31630))) 5 (fun _ _ => rfl) ?_
            rw [hM]
            exact q_Ru_ret rfl rfl
          show q_Ru _ _ _ (18, [(1, .int col), (0, .ref 64)], [.int lin], (q_cM (q_mA pix smp tr (q_nb p 0 dn ins) (q_fb z)) q_IM (q_mJ y pd), 34, 31630)) _
          refine q_Ru_seg (g2 := (25, [(1, .int col), (0, .ref 64)], [.int 0, .int lin], (q_cM (q_mA pix smp tr (q_nb p 0 dn ins) (q_fb z)) q_IM (q_mJ y pd), 34, 31630))) 4 (fun _ _ => rfl) ?_
          refine q_Ru_rsT (g2 := (39, [(1, .int col), (0, .ref 64)], [], (q_cM (q_mA pix smp tr (q_nb p 0 dn ins) (q_fb z)) q_IM (q_mJ y pd), 34, 31630))) rfl rfl (q_d_neF h190) ?_
          refine q_Ru_seg (g2 := (40, [(1, .int col), (0, .ref 64)], [.ref 64], (q_cM (q_mA pix smp tr (q_nb p 0 dn ins) (q_fb z)) q_IM (q_mJ y pd), 34, 31630))) 1 (fun _ _ => rfl) ?_
          refine q_Ru_call (v := (some (.int 0))) (h2 := (q_cM (q_mA pix smp tr (q_nb p 0 dn ins) (q_fb z)) q_IM (q_mJ y pd), 34, 31630)) rfl rfl ?_ ?_
          · exact (by have e := q_m_picX pix smp tr p 0 dn ins z y pd col lin p1 p2 hC hM c0 c1 l0 l1 a0 a1 b0 b1 hp0 hp1 hp2 i0 i1; rw [hpic] at e; exact e.le (Nat.le_of_ble_eq_true rfl))
          show q_Ru _ _ _ (43, [(1, .int col), (0, .ref 64)], [.int 0], (q_cM (q_mA pix smp tr (q_nb p 0 dn ins) (q_fb z)) q_IM (q_mJ y pd), 34, 31630)) _
          refine q_Ru_seg (g2 := (45, [(2, .int 0), (1, .int col), (0, .ref 64)], [.ref 64], (q_cM (q_mA pix smp tr (q_nb p 0 dn ins) (q_fb z)) q_IM (q_mJ y pd), 34, 31630))) 2 (fun _ _ => rfl) ?_
          refine q_Ru_call (v := (some (.int (lin - 4)))) (h2 := (q_cM (q_mA pix smp tr (q_nb p 0 dn ins) (q_fb z)) q_IM (q_mJ y pd), 34, 31630)) rfl rfl ?_ ?_
          · refine q_Ca_of (Nat.le_of_ble_eq_true rfl) ?_
            refine q_Ru_seg (g2 := (1, [(0, .ref 64)], [.ref 64], (q_cM (q_mA pix smp tr (q_nb p 0 dn ins) (q_fb z)) q_IM (q_mJ y pd), 34, 31630))) 1 (fun _ _ => rfl) ?_
            refine q_Ru_call (v := (some (.int lin))) (h2 := (q_cM (q_mA pix smp tr (q_nb p 0 dn ins) (q_fb z)) q_IM (q_mJ y pd), 34, 31630)) rfl rfl ?_ ?_
            · refine q_Ca_of (Nat.le_of_ble_eq_true rfl) ?_
              refine q_Ru_seg (g2 := (4, [(0, .ref 64)], [.long y], (q_cM (q_mA pix smp tr (q_nb p 0 dn ins) (q_fb z)) q_IM (q_mJ y pd), 34, 31630))) 2 (fun _ _ => rfl) ?_
              refine q_Ru_seg (g2 := (13, [(0, .ref 64)], [.int (((y / 24) - (y / 24) / 40 * 40).toInt32)], (q_cM (q_mA pix smp tr (q_nb p 0 dn ins) (q_fb z)) q_IM (q_mJ y pd), 34, 31630))) 5 (fun _ _ => rfl) ?_
              rw [hM]
              exact q_Ru_ret rfl rfl
            show q_Ru _ _ _ (4, [(0, .ref 64)], [.int lin], (q_cM (q_mA pix smp tr (q_nb p 0 dn ins) (q_fb z)) q_IM (q_mJ y pd), 34, 31630)) _
            refine q_Ru_seg (g2 := (6, [(0, .ref 64)], [.int (lin - 4)], (q_cM (q_mA pix smp tr (q_nb p 0 dn ins) (q_fb z)) q_IM (q_mJ y pd), 34, 31630))) 2 (fun _ _ => rfl) ?_
            exact q_Ru_ret rfl rfl
          show q_Ru _ _ _ (48, [(2, .int 0), (1, .int col), (0, .ref 64)], [.int (lin - 4)], (q_cM (q_mA pix smp tr (q_nb p 0 dn ins) (q_fb z)) q_IM (q_mJ y pd), 34, 31630)) _
          refine q_Ru_seg (g2 := (53, [(3, .int (lin - 4)), (2, .int 0), (1, .int col), (0, .ref 64)], [.int 31, .int 0, .int (lin - 4)], (q_cM (q_mA pix smp tr (q_nb p 0 dn ins) (q_fb z)) q_IM (q_mJ y pd), 34, 31630))) 4 (fun _ _ => rfl) ?_
          refine q_Ru_call (v := (some (.int 0))) (h2 := (q_cM (q_mA pix smp tr (q_nb p 0 dn ins) (q_fb z)) q_IM (q_mJ y pd), 34, 31630)) rfl rfl ?_ ?_
          · refine q_Ca_of (Nat.le_of_ble_eq_true rfl) ?_
            refine q_Ru_seg (g2 := (2, [(0, .int (lin - 4)), (1, .int 0), (2, .int 31)], [.int 0, .int (lin - 4)], (q_cM (q_mA pix smp tr (q_nb p 0 dn ins) (q_fb z)) q_IM (q_mJ y pd), 34, 31630))) 2 (fun _ _ => rfl) ?_
            refine q_Ru_rsF (g2 := (5, [(0, .int (lin - 4)), (1, .int 0), (2, .int 31)], [], (q_cM (q_mA pix smp tr (q_nb p 0 dn ins) (q_fb z)) q_IM (q_mJ y pd), 34, 31630))) rfl rfl h193 ?_
            refine q_Ru_seg (g2 := (7, [(0, .int (lin - 4)), (1, .int 0), (2, .int 31)], [.int 31, .int (lin - 4)], (q_cM (q_mA pix smp tr (q_nb p 0 dn ins) (q_fb z)) q_IM (q_mJ y pd), 34, 31630))) 2 (fun _ _ => rfl) ?_
            refine q_Ru_rsT (g2 := (14, [(0, .int (lin - 4)), (1, .int 0), (2, .int 31)], [], (q_cM (q_mA pix smp tr (q_nb p 0 dn ins) (q_fb z)) q_IM (q_mJ y pd), 34, 31630))) rfl rfl h195 ?_
            refine q_Ru_seg (g2 := (15, [(0, .int (lin - 4)), (1, .int 0), (2, .int 31)], [.int 0], (q_cM (q_mA pix smp tr (q_nb p 0 dn ins) (q_fb z)) q_IM (q_mJ y pd), 34, 31630))) 1 (fun _ _ => rfl) ?_
            exact q_Ru_ret rfl rfl
          show q_Ru _ _ _ (56, [(3, .int (lin - 4)), (2, .int 0), (1, .int col), (0, .ref 64)], [.int 0], (q_cM (q_mA pix smp tr (q_nb p 0 dn ins) (q_fb z)) q_IM (q_mJ y pd), 34, 31630)) _
          refine q_Ru_seg (g2 := (92, [(3, .int (lin - 4)), (2, .int 0), (1, .int col), (0, .ref 64)], [.ref 64], (q_cM (q_mA pix smp tr (q_nb p 0 dn ins) (q_fb z)) q_IM (q_mJ y pd), 34, 31630))) 2 (fun _ _ => rfl) ?_
          refine q_Ru_call (v := none) (h2 := (q_cM (q_mA pix smp tr (q_nb p 0 dn ins) (q_fb z)) q_IM (q_mJ y pd), 34, 31630)) rfl rfl ?_ ?_
          · exact (q_m_times pix smp tr p 0 dn ins z y pd col lin p1 p2 hC hM c0 c1 l0 l1 a0 a1 b0 b1 hp0 hp1 hp2 i0 i1  ).le (Nat.le_of_ble_eq_true rfl)
          show q_Ru _ _ _ (95, [(3, .int (lin - 4)), (2, .int 0), (1, .int col), (0, .ref 64)], [], (q_cM (q_mA pix smp tr (q_nb p 0 dn ins) (q_fb z)) q_IM (q_mJ y pd), 34, 31630)) _
          refine q_Ru_seg (g2 := (96, [(3, .int (lin - 4)), (2, .int 0), (1, .int col), (0, .ref 64)], [.ref 64], (q_cM (q_mA pix smp tr (q_nb p 0 dn ins) (q_fb z)) q_IM (q_mJ y pd), 34, 31630))) 1 (fun _ _ => rfl) ?_
          refine q_Ru_call (v := none) (h2 := (q_cM (q_mA pix smp tr (q_nb p 0 dn ins) (q_fb z)) q_IM (q_mJ y pd), 34, 31630)) rfl rfl ?_ ?_
          · exact (q_m_winds pix smp tr p 0 dn ins z y pd col lin p1 p2 hC hM c0 c1 l0 l1 a0 a1 b0 b1 hp0 hp1 hp2 i0 i1  ).le (Nat.le_of_ble_eq_true rfl)
          show q_Ru _ _ _ (99, [(3, .int (lin - 4)), (2, .int 0), (1, .int col), (0, .ref 64)], [], (q_cM (q_mA pix smp tr (q_nb p 0 dn ins) (q_fb z)) q_IM (q_mJ y pd), 34, 31630)) _
          refine q_Ru_seg (g2 := (102, [(3, .int (lin - 4)), (2, .int 0), (1, .int col), (0, .ref 64)], [.int 23, .int col], (q_cM (q_mA pix smp tr (q_nb p 0 dn ins) (q_fb z)) q_IM (q_mJ y pd), 34, 31630))) 2 (fun _ _ => rfl) ?_
          refine q_Ru_rsT (g2 := (109, [(3, .int (lin - 4)), (2, .int 0), (1, .int col), (0, .ref 64)], [], (q_cM (q_mA pix smp tr (q_nb p 0 dn ins) (q_fb z)) q_IM (q_mJ y pd), 34, 31630))) rfl rfl (q_d_neF h196) ?_
          refine q_Ru_seg (g2 := (114, [(3, .int (lin - 4)), (2, .int 0), (1, .int col), (0, .ref 64)], [.ref 64], (q_cM (q_mA pix smp tr (q_nb p 0 dn ins) (q_fb z)) q_IM (q_mJ y pd), 34, 31630))) 3 (fun _ _ => rfl) ?_
          refine q_Ru_call (v := none) (h2 := (q_cM (q_mA pix smp tr (q_nb p 1 dn ins) (q_fb z)) q_IM (q_mJ y pd), 34, 31630)) rfl rfl ?_ ?_
          · exact (q_m_go0 pix smp tr p dn ins z y pd col lin p1 p2 hC hM c0 c1 l0 l1 a0 a1 b0 b1 hp0 hp1 hp2 i0 i1  ).le (Nat.le_of_ble_eq_true rfl)
          show q_Ru _ _ _ (117, [(3, .int (lin - 4)), (2, .int 0), (1, .int col), (0, .ref 64)], [], (q_cM (q_mA pix smp tr (q_nb p 1 dn ins) (q_fb z)) q_IM (q_mJ y pd), 34, 31630)) _
          refine q_Ru_seg (g2 := (122, [(3, .int (lin - 4)), (2, .int 0), (1, .int col), (0, .ref 64)], [.long pd, .ref 64], (q_cM (q_mA pix smp tr (q_nb p 1 dn ins) (q_fb z)) q_IM (q_mJ y pd), 34, 31630))) 3 (fun _ _ => rfl) ?_
          refine q_Ru_seg (g2 := (140, [(3, .int (lin - 4)), (2, .int 0), (1, .int col), (0, .ref 64)], [.long y, .ref 64], (q_cM (q_mA pix smp tr (q_nb p 1 dn ins) (q_fb z)) q_IM (q_uI (q_mJ y pd) 0 16 (pd + 0)), 34, 31630))) 8 (fun _ _ => rfl) ?_
          refine q_Ru_seg (g2 := (146, [(3, .int (lin - 4)), (2, .int 0), (1, .int col), (0, .ref 64)], [.int 0], (q_cM (q_mA pix smp tr (q_nb p 1 dn ins) (q_fb z)) q_IM (q_uI (q_uI (q_mJ y pd) 0 16 (pd + 0)) 0 15 (y + 1)), 34, 31630))) 4 (fun _ _ => rfl) ?_
          exact q_Ru_ret rfl rfl
        | false =>
          have h197 : decide (col < 4) = true := q_tbl1 (fun col => decide (col < 4)) (l := 0) (n := 0) (by decide +kernel) (q_eqlo h189) (q_eqhi h189)
          have h198 : decide (col = 23) = false := q_not_tr (q_tbl1 (fun col => !decide (col = 23)) (l := 0) (n := 0) (by decide +kernel) (q_eqlo h189) (q_eqhi h189))
          refine ⟨pix, smp, ?_⟩
          refine q_Ca_of (Nat.le_of_ble_eq_true rfl) ?_
          refine q_Ru_seg (g2 := (4, [(0, .ref 64)], [.long y], (q_cM (q_mA pix smp tr (q_nb p 0 dn ins) (q_fb z)) q_IM (q_mJ y pd), 34, 31630))) 2 (fun _ _ => rfl) ?_
          refine q_Ru_seg (g2 := (9, [(0, .ref 64)], [.int ((y - y / 24 * 24).toInt32)], (q_cM (q_mA pix smp tr (q_nb p 0 dn ins) (q_fb z)) q_IM (q_mJ y pd), 34, 31630))) 3 (fun _ _ => rfl) ?_
          rw [hC]
          refine q_Ru_seg (g2 := (11, [(1, .int col), (0, .ref 64)], [.int col], (q_cM (q_mA pix smp tr (q_nb p 0 dn ins) (q_fb z)) q_IM (q_mJ y pd), 34, 31630))) 2 (fun _ _ => rfl) ?_
          refine q_Ru_rsF (g2 := (14, [(1, .int col), (0, .ref 64)], [], (q_cM (q_mA pix smp tr (q_nb p 0 dn ins) (q_fb z)) q_IM (q_mJ y pd), 34, 31630))) rfl rfl (q_d_neT h189) ?_
          refine q_Ru_seg (g2 := (15, [(1, .int col), (0, .ref 64)], [.ref 64], (q_cM (q_mA pix smp tr (q_nb p 0 dn ins) (q_fb z)) q_IM (q_mJ y pd), 34, 31630))) 1 (fun _ _ => rfl) ?_
          refine q_Ru_call (v := (some (.int lin))) (h2 := (q_cM (q_mA pix smp tr (q_nb p 0 dn ins) (q_fb z)) q_IM (q_mJ y pd), 34, 31630)) rfl rfl ?_ ?_
          · refine q_Ca_of (Nat.le_of_ble_eq_true rfl) ?_
            refine q_Ru_seg (g2 := (4, [(0, .ref 64)], [.long y], (q_cM (q_mA pix smp tr (q_nb p 0 dn ins) (q_fb z)) q_IM (q_mJ y pd), 34, 31630))) 2 (fun _ _ => rfl) ?_
            refine q_Ru_seg (g2 := (13, [(0, .ref 64)], [.int (((y / 24) - (y / 24) / 40 * 40).toInt32)], (q_cM (q_mA pix smp tr (q_nb p 0 dn ins) (q_fb z)) q_IM (q_mJ y pd), 34, 31630))) 5 (fun _ _ => rfl) ?_
            rw [hM]
            exact q_Ru_ret rfl rfl
          show q_Ru _ _ _ (18, [(1, .int col), (0, .ref 64)], [.int lin], (q_cM (q_mA pix smp tr (q_nb p 0 dn ins) (q_fb z)) q_IM (q_mJ y pd), 34, 31630)) _
          refine q_Ru_seg (g2 := (25, [(1, .int col), (0, .ref 64)], [.int 0, .int lin], (q_cM (q_mA pix smp tr (q_nb p 0 dn ins) (q_fb z)) q_IM (q_mJ y pd), 34, 31630))) 4 (fun _ _ => rfl) ?_
          refine q_Ru_rsT (g2 := (39, [(1, .int col), (0, .ref 64)], [], (q_cM (q_mA pix smp tr (q_nb p 0 dn ins) (q_fb z)) q_IM (q_mJ y pd), 34, 31630))) rfl rfl (q_d_neF h190) ?_
          refine q_Ru_seg (g2 := (40, [(1, .int col), (0, .ref 64)], [.ref 64], (q_cM (q_mA pix smp tr (q_nb p 0 dn ins) (q_fb z)) q_IM (q_mJ y pd), 34, 31630))) 1 (fun _ _ => rfl) ?_
          refine q_Ru_call (v := (some (.int 0))) (h2 := (q_cM (q_mA pix smp tr (q_nb p 0 dn ins) (q_fb z)) q_IM (q_mJ y pd), 34, 31630)) rfl rfl ?_ ?_
          · exact (by have e := q_m_picX pix smp tr p 0 dn ins z y pd col lin p1 p2 hC hM c0 c1 l0 l1 a0 a1 b0 b1 hp0 hp1 hp2 i0 i1; rw [hpic] at e; exact e.le (Nat.le_of_ble_eq_true rfl))
          show q_Ru _ _ _ (43, [(1, .int col), (0, .ref 64)], [.int 0], (q_cM (q_mA pix smp tr (q_nb p 0 dn ins) (q_fb z)) q_IM (q_mJ y pd), 34, 31630)) _
          refine q_Ru_seg (g2 := (45, [(2, .int 0), (1, .int col), (0, .ref 64)], [.ref 64], (q_cM (q_mA pix smp tr (q_nb p 0 dn ins) (q_fb z)) q_IM (q_mJ y pd), 34, 31630))) 2 (fun _ _ => rfl) ?_
          refine q_Ru_call (v := (some (.int (lin - 4)))) (h2 := (q_cM (q_mA pix smp tr (q_nb p 0 dn ins) (q_fb z)) q_IM (q_mJ y pd), 34, 31630)) rfl rfl ?_ ?_
          · refine q_Ca_of (Nat.le_of_ble_eq_true rfl) ?_
            refine q_Ru_seg (g2 := (1, [(0, .ref 64)], [.ref 64], (q_cM (q_mA pix smp tr (q_nb p 0 dn ins) (q_fb z)) q_IM (q_mJ y pd), 34, 31630))) 1 (fun _ _ => rfl) ?_
            refine q_Ru_call (v := (some (.int lin))) (h2 := (q_cM (q_mA pix smp tr (q_nb p 0 dn ins) (q_fb z)) q_IM (q_mJ y pd), 34, 31630)) rfl rfl ?_ ?_
            · refine q_Ca_of (Nat.le_of_ble_eq_true rfl) ?_
              refine q_Ru_seg (g2 := (4, [(0, .ref 64)], [.long y], (q_cM (q_mA pix smp tr (q_nb p 0 dn ins) (q_fb z)) q_IM (q_mJ y pd), 34, 31630))) 2 (fun _ _ => rfl) ?_
              refine q_Ru_seg (g2 := (13, [(0, .ref 64)], [.int (((y / 24) - (y / 24) / 40 * 40).toInt32)], (q_cM (q_mA pix smp tr (q_nb p 0 dn ins) (q_fb z)) q_IM (q_mJ y pd), 34, 31630))) 5 (fun _ _ => rfl) ?_
              rw [hM]
              exact q_Ru_ret rfl rfl
            show q_Ru _ _ _ (4, [(0, .ref 64)], [.int lin], (q_cM (q_mA pix smp tr (q_nb p 0 dn ins) (q_fb z)) q_IM (q_mJ y pd), 34, 31630)) _
            refine q_Ru_seg (g2 := (6, [(0, .ref 64)], [.int (lin - 4)], (q_cM (q_mA pix smp tr (q_nb p 0 dn ins) (q_fb z)) q_IM (q_mJ y pd), 34, 31630))) 2 (fun _ _ => rfl) ?_
            exact q_Ru_ret rfl rfl
          show q_Ru _ _ _ (48, [(2, .int 0), (1, .int col), (0, .ref 64)], [.int (lin - 4)], (q_cM (q_mA pix smp tr (q_nb p 0 dn ins) (q_fb z)) q_IM (q_mJ y pd), 34, 31630)) _
          refine q_Ru_seg (g2 := (53, [(3, .int (lin - 4)), (2, .int 0), (1, .int col), (0, .ref 64)], [.int 31, .int 0, .int (lin - 4)], (q_cM (q_mA pix smp tr (q_nb p 0 dn ins) (q_fb z)) q_IM (q_mJ y pd), 34, 31630))) 4 (fun _ _ => rfl) ?_
          refine q_Ru_call (v := (some (.int 1))) (h2 := (q_cM (q_mA pix smp tr (q_nb p 0 dn ins) (q_fb z)) q_IM (q_mJ y pd), 34, 31630)) rfl rfl ?_ ?_
          · refine q_Ca_of (Nat.le_of_ble_eq_true rfl) ?_
            refine q_Ru_seg (g2 := (2, [(0, .int (lin - 4)), (1, .int 0), (2, .int 31)], [.int 0, .int (lin - 4)], (q_cM (q_mA pix smp tr (q_nb p 0 dn ins) (q_fb z)) q_IM (q_mJ y pd), 34, 31630))) 2 (fun _ _ => rfl) ?_
            refine q_Ru_rsF (g2 := (5, [(0, .int (lin - 4)), (1, .int 0), (2, .int 31)], [], (q_cM (q_mA pix smp tr (q_nb p 0 dn ins) (q_fb z)) q_IM (q_mJ y pd), 34, 31630))) rfl rfl h193 ?_
            refine q_Ru_seg (g2 := (7, [(0, .int (lin - 4)), (1, .int 0), (2, .int 31)], [.int 31, .int (lin - 4)], (q_cM (q_mA pix smp tr (q_nb p 0 dn ins) (q_fb z)) q_IM (q_mJ y pd), 34, 31630))) 2 (fun _ _ => rfl) ?_
            refine q_Ru_rsF (g2 := (10, [(0, .int (lin - 4)), (1, .int 0), (2, .int 31)], [], (q_cM (q_mA pix smp tr (q_nb p 0 dn ins) (q_fb z)) q_IM (q_mJ y pd), 34, 31630))) rfl rfl h195 ?_
            refine q_Ru_seg (g2 := (15, [(0, .int (lin - 4)), (1, .int 0), (2, .int 31)], [.int 1], (q_cM (q_mA pix smp tr (q_nb p 0 dn ins) (q_fb z)) q_IM (q_mJ y pd), 34, 31630))) 2 (fun _ _ => rfl) ?_
            exact q_Ru_ret rfl rfl
          show q_Ru _ _ _ (56, [(3, .int (lin - 4)), (2, .int 0), (1, .int col), (0, .ref 64)], [.int 1], (q_cM (q_mA pix smp tr (q_nb p 0 dn ins) (q_fb z)) q_IM (q_mJ y pd), 34, 31630)) _
          refine q_Ru_seg (g2 := (63, [(3, .int (lin - 4)), (2, .int 0), (1, .int col), (0, .ref 64)], [.int 19, .int 4, .int col], (q_cM (q_mA pix smp tr (q_nb p 0 dn ins) (q_fb z)) q_IM (q_mJ y pd), 34, 31630))) 4 (fun _ _ => rfl) ?_
          refine q_Ru_call (v := (some (.int 0))) (h2 := (q_cM (q_mA pix smp tr (q_nb p 0 dn ins) (q_fb z)) q_IM (q_mJ y pd), 34, 31630)) rfl rfl ?_ ?_
          · refine q_Ca_of (Nat.le_of_ble_eq_true rfl) ?_
            refine q_Ru_seg (g2 := (2, [(0, .int col), (1, .int 4), (2, .int 19)], [.int 4, .int col], (q_cM (q_mA pix smp tr (q_nb p 0 dn ins) (q_fb z)) q_IM (q_mJ y pd), 34, 31630))) 2 (fun _ _ => rfl) ?_
            refine q_Ru_rsT (g2 := (14, [(0, .int col), (1, .int 4), (2, .int 19)], [], (q_cM (q_mA pix smp tr (q_nb p 0 dn ins) (q_fb z)) q_IM (q_mJ y pd), 34, 31630))) rfl rfl h197 ?_
            refine q_Ru_seg (g2 := (15, [(0, .int col), (1, .int 4), (2, .int 19)], [.int 0], (q_cM (q_mA pix smp tr (q_nb p 0 dn ins) (q_fb z)) q_IM (q_mJ y pd), 34, 31630))) 1 (fun _ _ => rfl) ?_
            exact q_Ru_ret rfl rfl
          show q_Ru _ _ _ (66, [(3, .int (lin - 4)), (2, .int 0), (1, .int col), (0, .ref 64)], [.int 0], (q_cM (q_mA pix smp tr (q_nb p 0 dn ins) (q_fb z)) q_IM (q_mJ y pd), 34, 31630)) _
          refine q_Ru_seg (g2 := (92, [(3, .int (lin - 4)), (2, .int 0), (1, .int col), (0, .ref 64)], [.ref 64], (q_cM (q_mA pix smp tr (q_nb p 0 dn ins) (q_fb z)) q_IM (q_mJ y pd), 34, 31630))) 2 (fun _ _ => rfl) ?_
          refine q_Ru_call (v := none) (h2 := (q_cM (q_mA pix smp tr (q_nb p 0 dn ins) (q_fb z)) q_IM (q_mJ y pd), 34, 31630)) rfl rfl ?_ ?_
          · exact (q_m_times pix smp tr p 0 dn ins z y pd col lin p1 p2 hC hM c0 c1 l0 l1 a0 a1 b0 b1 hp0 hp1 hp2 i0 i1  ).le (Nat.le_of_ble_eq_true rfl)
          show q_Ru _ _ _ (95, [(3, .int (lin - 4)), (2, .int 0), (1, .int col), (0, .ref 64)], [], (q_cM (q_mA pix smp tr (q_nb p 0 dn ins) (q_fb z)) q_IM (q_mJ y pd), 34, 31630)) _
          refine q_Ru_seg (g2 := (96, [(3, .int (lin - 4)), (2, .int 0), (1, .int col), (0, .ref 64)], [.ref 64], (q_cM (q_mA pix smp tr (q_nb p 0 dn ins) (q_fb z)) q_IM (q_mJ y pd), 34, 31630))) 1 (fun _ _ => rfl) ?_
          refine q_Ru_call (v := none) (h2 := (q_cM (q_mA pix smp tr (q_nb p 0 dn ins) (q_fb z)) q_IM (q_mJ y pd), 34, 31630)) rfl rfl ?_ ?_
          · exact (q_m_winds pix smp tr p 0 dn ins z y pd col lin p1 p2 hC hM c0 c1 l0 l1 a0 a1 b0 b1 hp0 hp1 hp2 i0 i1  ).le (Nat.le_of_ble_eq_true rfl)
          show q_Ru _ _ _ (99, [(3, .int (lin - 4)), (2, .int 0), (1, .int col), (0, .ref 64)], [], (q_cM (q_mA pix smp tr (q_nb p 0 dn ins) (q_fb z)) q_IM (q_mJ y pd), 34, 31630)) _
          refine q_Ru_seg (g2 := (102, [(3, .int (lin - 4)), (2, .int 0), (1, .int col), (0, .ref 64)], [.int 23, .int col], (q_cM (q_mA pix smp tr (q_nb p 0 dn ins) (q_fb z)) q_IM (q_mJ y pd), 34, 31630))) 2 (fun _ _ => rfl) ?_
          refine q_Ru_rsT (g2 := (109, [(3, .int (lin - 4)), (2, .int 0), (1, .int col), (0, .ref 64)], [], (q_cM (q_mA pix smp tr (q_nb p 0 dn ins) (q_fb z)) q_IM (q_mJ y pd), 34, 31630))) rfl rfl (q_d_neF h198) ?_
          refine q_Ru_seg (g2 := (114, [(3, .int (lin - 4)), (2, .int 0), (1, .int col), (0, .ref 64)], [.ref 64], (q_cM (q_mA pix smp tr (q_nb p 0 dn ins) (q_fb z)) q_IM (q_mJ y pd), 34, 31630))) 3 (fun _ _ => rfl) ?_
          refine q_Ru_call (v := none) (h2 := (q_cM (q_mA pix smp tr (q_nb p 1 dn ins) (q_fb z)) q_IM (q_mJ y pd), 34, 31630)) rfl rfl ?_ ?_
          · exact (q_m_go0 pix smp tr p dn ins z y pd col lin p1 p2 hC hM c0 c1 l0 l1 a0 a1 b0 b1 hp0 hp1 hp2 i0 i1  ).le (Nat.le_of_ble_eq_true rfl)
          show q_Ru _ _ _ (117, [(3, .int (lin - 4)), (2, .int 0), (1, .int col), (0, .ref 64)], [], (q_cM (q_mA pix smp tr (q_nb p 1 dn ins) (q_fb z)) q_IM (q_mJ y pd), 34, 31630)) _
          refine q_Ru_seg (g2 := (122, [(3, .int (lin - 4)), (2, .int 0), (1, .int col), (0, .ref 64)], [.long pd, .ref 64], (q_cM (q_mA pix smp tr (q_nb p 1 dn ins) (q_fb z)) q_IM (q_mJ y pd), 34, 31630))) 3 (fun _ _ => rfl) ?_
          refine q_Ru_seg (g2 := (140, [(3, .int (lin - 4)), (2, .int 0), (1, .int col), (0, .ref 64)], [.long y, .ref 64], (q_cM (q_mA pix smp tr (q_nb p 1 dn ins) (q_fb z)) q_IM (q_uI (q_mJ y pd) 0 16 (pd + 0)), 34, 31630))) 8 (fun _ _ => rfl) ?_
          refine q_Ru_seg (g2 := (146, [(3, .int (lin - 4)), (2, .int 0), (1, .int col), (0, .ref 64)], [.int 0], (q_cM (q_mA pix smp tr (q_nb p 1 dn ins) (q_fb z)) q_IM (q_uI (q_uI (q_mJ y pd) 0 16 (pd + 0)) 0 15 (y + 1)), 34, 31630))) 4 (fun _ _ => rfl) ?_
          exact q_Ru_ret rfl rfl
  | false =>
    cases h199 : decide (lin - 4 < 0) with
    | true =>
      cases h200 : decide (col = 23) with
      | true =>
        obtain ⟨z115a, p115⟩ := q_m_sample pix smp tr p 0 dn ins z y pd col lin p1 p2 hC hM c0 c1 l0 l1 a0 a1 b0 b1 hp0 hp1 hp2 i0 i1  
        refine ⟨pix, z115a, ?_⟩
        refine q_Ca_of (Nat.le_of_ble_eq_true rfl) ?_
        refine q_Ru_seg (g2 := (4, [(0, .ref 64)], [.long y], (q_cM (q_mA pix smp tr (q_nb p 0 dn ins) (q_fb z)) q_IM (q_mJ y pd), 34, 31630))) 2 (fun _ _ => rfl) ?_
        refine q_Ru_seg (g2 := (9, [(0, .ref 64)], [.int ((y - y / 24 * 24).toInt32)], (q_cM (q_mA pix smp tr (q_nb p 0 dn ins) (q_fb z)) q_IM (q_mJ y pd), 34, 31630))) 3 (fun _ _ => rfl) ?_
        rw [hC]
        refine q_Ru_seg (g2 := (11, [(1, .int col), (0, .ref 64)], [.int col], (q_cM (q_mA pix smp tr (q_nb p 0 dn ins) (q_fb z)) q_IM (q_mJ y pd), 34, 31630))) 2 (fun _ _ => rfl) ?_
        refine q_Ru_rsT (g2 := (39, [(1, .int col), (0, .ref 64)], [], (q_cM (q_mA pix smp tr (q_nb p 0 dn ins) (q_fb z)) q_IM (q_mJ y pd), 34, 31630))) rfl rfl (q_d_neF h189) ?_
        refine q_Ru_seg (g2 := (40, [(1, .int col), (0, .ref 64)], [.ref 64], (q_cM (q_mA pix smp tr (q_nb p 0 dn ins) (q_fb z)) q_IM (q_mJ y pd), 34, 31630))) 1 (fun _ _ => rfl) ?_
        refine q_Ru_call (v := (some (.int 0))) (h2 := (q_cM (q_mA pix smp tr (q_nb p 0 dn ins) (q_fb z)) q_IM (q_mJ y pd), 34, 31630)) rfl rfl ?_ ?_
        · exact (by have e := q_m_picX pix smp tr p 0 dn ins z y pd col lin p1 p2 hC hM c0 c1 l0 l1 a0 a1 b0 b1 hp0 hp1 hp2 i0 i1; rw [hpic] at e; exact e.le (Nat.le_of_ble_eq_true rfl))
        show q_Ru _ _ _ (43, [(1, .int col), (0, .ref 64)], [.int 0], (q_cM (q_mA pix smp tr (q_nb p 0 dn ins) (q_fb z)) q_IM (q_mJ y pd), 34, 31630)) _
        refine q_Ru_seg (g2 := (45, [(2, .int 0), (1, .int col), (0, .ref 64)], [.ref 64], (q_cM (q_mA pix smp tr (q_nb p 0 dn ins) (q_fb z)) q_IM (q_mJ y pd), 34, 31630))) 2 (fun _ _ => rfl) ?_
        refine q_Ru_call (v := (some (.int (lin - 4)))) (h2 := (q_cM (q_mA pix smp tr (q_nb p 0 dn ins) (q_fb z)) q_IM (q_mJ y pd), 34, 31630)) rfl rfl ?_ ?_
        · refine q_Ca_of (Nat.le_of_ble_eq_true rfl) ?_
          refine q_Ru_seg (g2 := (1, [(0, .ref 64)], [.ref 64], (q_cM (q_mA pix smp tr (q_nb p 0 dn ins) (q_fb z)) q_IM (q_mJ y pd), 34, 31630))) 1 (fun _ _ => rfl) ?_
          refine q_Ru_call (v := (some (.int lin))) (h2 := (q_cM (q_mA pix smp tr (q_nb p 0 dn ins) (q_fb z)) q_IM (q_mJ y pd), 34, 31630)) rfl rfl ?_ ?_
          · refine q_Ca_of (Nat.le_of_ble_eq_true rfl) ?_
            refine q_Ru_seg (g2 := (4, [(0, .ref 64)], [.long y], (q_cM (q_mA pix smp tr (q_nb p 0 dn ins) (q_fb z)) q_IM (q_mJ y pd), 34, 31630))) 2 (fun _ _ => rfl) ?_
            refine q_Ru_seg (g2 := (13, [(0, .ref 64)], [.int (((y / 24) - (y / 24) / 40 * 40).toInt32)], (q_cM (q_mA pix smp tr (q_nb p 0 dn ins) (q_fb z)) q_IM (q_mJ y pd), 34, 31630))) 5 (fun _ _ => rfl) ?_
            rw [hM]
            exact q_Ru_ret rfl rfl
          show q_Ru _ _ _ (4, [(0, .ref 64)], [.int lin], (q_cM (q_mA pix smp tr (q_nb p 0 dn ins) (q_fb z)) q_IM (q_mJ y pd), 34, 31630)) _
          refine q_Ru_seg (g2 := (6, [(0, .ref 64)], [.int (lin - 4)], (q_cM (q_mA pix smp tr (q_nb p 0 dn ins) (q_fb z)) q_IM (q_mJ y pd), 34, 31630))) 2 (fun _ _ => rfl) ?_
          exact q_Ru_ret rfl rfl
        show q_Ru _ _ _ (48, [(2, .int 0), (1, .int col), (0, .ref 64)], [.int (lin - 4)], (q_cM (q_mA pix smp tr (q_nb p 0 dn ins) (q_fb z)) q_IM (q_mJ y pd), 34, 31630)) _
        refine q_Ru_seg (g2 := (53, [(3, .int (lin - 4)), (2, .int 0), (1, .int col), (0, .ref 64)], [.int 31, .int 0, .int (lin - 4)], (q_cM (q_mA pix smp tr (q_nb p 0 dn ins) (q_fb z)) q_IM (q_mJ y pd), 34, 31630))) 4 (fun _ _ => rfl) ?_
        refine q_Ru_call (v := (some (.int 0))) (h2 := (q_cM (q_mA pix smp tr (q_nb p 0 dn ins) (q_fb z)) q_IM (q_mJ y pd), 34, 31630)) rfl rfl ?_ ?_
        · refine q_Ca_of (Nat.le_of_ble_eq_true rfl) ?_
          refine q_Ru_seg (g2 := (2, [(0, .int (lin - 4)), (1, .int 0), (2, .int 31)], [.int 0, .int (lin - 4)], (q_cM (q_mA pix smp tr (q_nb p 0 dn ins) (q_fb z)) q_IM (q_mJ y pd), 34, 31630))) 2 (fun _ _ => rfl) ?_
          refine q_Ru_rsT (g2 := (14, [(0, .int (lin - 4)), (1, .int 0), (2, .int 31)], [], (q_cM (q_mA pix smp tr (q_nb p 0 dn ins) (q_fb z)) q_IM (q_mJ y pd), 34, 31630))) rfl rfl h199 ?_
          refine q_Ru_seg (g2 := (15, [(0, .int (lin - 4)), (1, .int 0), (2, .int 31)], [.int 0], (q_cM (q_mA pix smp tr (q_nb p 0 dn ins) (q_fb z)) q_IM (q_mJ y pd), 34, 31630))) 1 (fun _ _ => rfl) ?_
          exact q_Ru_ret rfl rfl
        show q_Ru _ _ _ (56, [(3, .int (lin - 4)), (2, .int 0), (1, .int col), (0, .ref 64)], [.int 0], (q_cM (q_mA pix smp tr (q_nb p 0 dn ins) (q_fb z)) q_IM (q_mJ y pd), 34, 31630)) _
        refine q_Ru_seg (g2 := (92, [(3, .int (lin - 4)), (2, .int 0), (1, .int col), (0, .ref 64)], [.ref 64], (q_cM (q_mA pix smp tr (q_nb p 0 dn ins) (q_fb z)) q_IM (q_mJ y pd), 34, 31630))) 2 (fun _ _ => rfl) ?_
        refine q_Ru_call (v := none) (h2 := (q_cM (q_mA pix smp tr (q_nb p 0 dn ins) (q_fb z)) q_IM (q_mJ y pd), 34, 31630)) rfl rfl ?_ ?_
        · exact (q_m_times pix smp tr p 0 dn ins z y pd col lin p1 p2 hC hM c0 c1 l0 l1 a0 a1 b0 b1 hp0 hp1 hp2 i0 i1  ).le (Nat.le_of_ble_eq_true rfl)
        show q_Ru _ _ _ (95, [(3, .int (lin - 4)), (2, .int 0), (1, .int col), (0, .ref 64)], [], (q_cM (q_mA pix smp tr (q_nb p 0 dn ins) (q_fb z)) q_IM (q_mJ y pd), 34, 31630)) _
        refine q_Ru_seg (g2 := (96, [(3, .int (lin - 4)), (2, .int 0), (1, .int col), (0, .ref 64)], [.ref 64], (q_cM (q_mA pix smp tr (q_nb p 0 dn ins) (q_fb z)) q_IM (q_mJ y pd), 34, 31630))) 1 (fun _ _ => rfl) ?_
        refine q_Ru_call (v := none) (h2 := (q_cM (q_mA pix smp tr (q_nb p 0 dn ins) (q_fb z)) q_IM (q_mJ y pd), 34, 31630)) rfl rfl ?_ ?_
        · exact (q_m_winds pix smp tr p 0 dn ins z y pd col lin p1 p2 hC hM c0 c1 l0 l1 a0 a1 b0 b1 hp0 hp1 hp2 i0 i1  ).le (Nat.le_of_ble_eq_true rfl)
        show q_Ru _ _ _ (99, [(3, .int (lin - 4)), (2, .int 0), (1, .int col), (0, .ref 64)], [], (q_cM (q_mA pix smp tr (q_nb p 0 dn ins) (q_fb z)) q_IM (q_mJ y pd), 34, 31630)) _
        refine q_Ru_seg (g2 := (102, [(3, .int (lin - 4)), (2, .int 0), (1, .int col), (0, .ref 64)], [.int 23, .int col], (q_cM (q_mA pix smp tr (q_nb p 0 dn ins) (q_fb z)) q_IM (q_mJ y pd), 34, 31630))) 2 (fun _ _ => rfl) ?_
        refine q_Ru_rsF (g2 := (105, [(3, .int (lin - 4)), (2, .int 0), (1, .int col), (0, .ref 64)], [], (q_cM (q_mA pix smp tr (q_nb p 0 dn ins) (q_fb z)) q_IM (q_mJ y pd), 34, 31630))) rfl rfl (q_d_neT h200) ?_
        refine q_Ru_seg (g2 := (106, [(3, .int (lin - 4)), (2, .int 0), (1, .int col), (0, .ref 64)], [.ref 64], (q_cM (q_mA pix smp tr (q_nb p 0 dn ins) (q_fb z)) q_IM (q_mJ y pd), 34, 31630))) 1 (fun _ _ => rfl) ?_
        refine q_Ru_call (v := none) (h2 := (q_cM (q_mA pix z115a tr (q_nb p 0 dn ins) (q_fb z)) q_IM (q_mJ y pd), 34, 31630)) rfl rfl ?_ ?_
        · exact p115.le (Nat.le_of_ble_eq_true rfl)
        show q_Ru _ _ _ (109, [(3, .int (lin - 4)), (2, .int 0), (1, .int col), (0, .ref 64)], [], (q_cM (q_mA pix z115a tr (q_nb p 0 dn ins) (q_fb z)) q_IM (q_mJ y pd), 34, 31630)) _
        refine q_Ru_seg (g2 := (114, [(3, .int (lin - 4)), (2, .int 0), (1, .int col), (0, .ref 64)], [.ref 64], (q_cM (q_mA pix z115a tr (q_nb p 0 dn ins) (q_fb z)) q_IM (q_mJ y pd), 34, 31630))) 3 (fun _ _ => rfl) ?_
        refine q_Ru_call (v := none) (h2 := (q_cM (q_mA pix z115a tr (q_nb p 1 dn ins) (q_fb z)) q_IM (q_mJ y pd), 34, 31630)) rfl rfl ?_ ?_
        · exact (q_m_go0 pix z115a tr p dn ins z y pd col lin p1 p2 hC hM c0 c1 l0 l1 a0 a1 b0 b1 hp0 hp1 hp2 i0 i1  ).le (Nat.le_of_ble_eq_true rfl)
        show q_Ru _ _ _ (117, [(3, .int (lin - 4)), (2, .int 0), (1, .int col), (0, .ref 64)], [], (q_cM (q_mA pix z115a tr (q_nb p 1 dn ins) (q_fb z)) q_IM (q_mJ y pd), 34, 31630)) _
        refine q_Ru_seg (g2 := (122, [(3, .int (lin - 4)), (2, .int 0), (1, .int col), (0, .ref 64)], [.long pd, .ref 64], (q_cM (q_mA pix z115a tr (q_nb p 1 dn ins) (q_fb z)) q_IM (q_mJ y pd), 34, 31630))) 3 (fun _ _ => rfl) ?_
        refine q_Ru_seg (g2 := (140, [(3, .int (lin - 4)), (2, .int 0), (1, .int col), (0, .ref 64)], [.long y, .ref 64], (q_cM (q_mA pix z115a tr (q_nb p 1 dn ins) (q_fb z)) q_IM (q_uI (q_mJ y pd) 0 16 (pd + 0)), 34, 31630))) 8 (fun _ _ => rfl) ?_
        refine q_Ru_seg (g2 := (146, [(3, .int (lin - 4)), (2, .int 0), (1, .int col), (0, .ref 64)], [.int 0], (q_cM (q_mA pix z115a tr (q_nb p 1 dn ins) (q_fb z)) q_IM (q_uI (q_uI (q_mJ y pd) 0 16 (pd + 0)) 0 15 (y + 1)), 34, 31630))) 4 (fun _ _ => rfl) ?_
        exact q_Ru_ret rfl rfl
      | false =>
        refine ⟨pix, smp, ?_⟩
        refine q_Ca_of (Nat.le_of_ble_eq_true rfl) ?_
        refine q_Ru_seg (g2 := (4, [(0, .ref 64)], [.long y], (q_cM (q_mA pix smp tr (q_nb p 0 dn ins) (q_fb z)) q_IM (q_mJ y pd), 34, 31630))) 2 (fun _ _ => rfl) ?_
        refine q_Ru_seg (g2 := (9, [(0, .ref 64)], [.int ((y - y / 24 * 24).toInt32)], (q_cM (q_mA pix smp tr (q_nb p 0 dn ins) (q_fb z)) q_IM (q_mJ y pd), 34, 31630))) 3 (fun _ _ => rfl) ?_
        rw [hC]
        refine q_Ru_seg (g2 := (11, [(1, .int col), (0, .ref 64)], [.int col], (q_cM (q_mA pix smp tr (q_nb p 0 dn ins) (q_fb z)) q_IM (q_mJ y pd), 34, 31630))) 2 (fun _ _ => rfl) ?_
        refine q_Ru_rsT (g2 := (39, [(1, .int col), (0, .ref 64)], [], (q_cM (q_mA pix smp tr (q_nb p 0 dn ins) (q_fb z)) q_IM (q_mJ y pd), 34, 31630))) rfl rfl (q_d_neF h189) ?_
        refine q_Ru_seg (g2 := (40, [(1, .int col), (0, .ref 64)], [.ref 64], (q_cM (q_mA pix smp tr (q_nb p 0 dn ins) (q_fb z)) q_IM (q_mJ y pd), 34, 31630))) 1 (fun _ _ => rfl) ?_
        refine q_Ru_call (v := (some (.int 0))) (h2 := (q_cM (q_mA pix smp tr (q_nb p 0 dn ins) (q_fb z)) q_IM (q_mJ y pd), 34, 31630)) rfl rfl ?_ ?_
        · exact (by have e := q_m_picX pix smp tr p 0 dn ins z y pd col lin p1 p2 hC hM c0 c1 l0 l1 a0 a1 b0 b1 hp0 hp1 hp2 i0 i1; rw [hpic] at e; exact e.le (Nat.le_of_ble_eq_true rfl))
        show q_Ru _ _ _ (43, [(1, .int col), (0, .ref 64)], [.int 0], (q_cM (q_mA pix smp tr (q_nb p 0 dn ins) (q_fb z)) q_IM (q_mJ y pd), 34, 31630)) _
        refine q_Ru_seg (g2 := (45, [(2, .int 0), (1, .int col), (0, .ref 64)], [.ref 64], (q_cM (q_mA pix smp tr (q_nb p 0 dn ins) (q_fb z)) q_IM (q_mJ y pd), 34, 31630))) 2 (fun _ _ => rfl) ?_
        refine q_Ru_call (v := (some (.int (lin - 4)))) (h2 := (q_cM (q_mA pix smp tr (q_nb p 0 dn ins) (q_fb z)) q_IM (q_mJ y pd), 34, 31630)) rfl rfl ?_ ?_
        · refine q_Ca_of (Nat.le_of_ble_eq_true rfl) ?_
          refine q_Ru_seg (g2 := (1, [(0, .ref 64)], [.ref 64], (q_cM (q_mA pix smp tr (q_nb p 0 dn ins) (q_fb z)) q_IM (q_mJ y pd), 34, 31630))) 1 (fun _ _ => rfl) ?_
          refine q_Ru_call (v := (some (.int lin))) (h2 := (q_cM (q_mA pix smp tr (q_nb p 0 dn ins) (q_fb z)) q_IM (q_mJ y pd), 34, 31630)) rfl rfl ?_ ?_
          · refine q_Ca_of (Nat.le_of_ble_eq_true rfl) ?_
            refine q_Ru_seg (g2 := (4, [(0, .ref 64)], [.long y], (q_cM (q_mA pix smp tr (q_nb p 0 dn ins) (q_fb z)) q_IM (q_mJ y pd), 34, 31630))) 2 (fun _ _ => rfl) ?_
            refine q_Ru_seg (g2 := (13, [(0, .ref 64)], [.int (((y / 24) - (y / 24) / 40 * 40).toInt32)], (q_cM (q_mA pix smp tr (q_nb p 0 dn ins) (q_fb z)) q_IM (q_mJ y pd), 34, 31630))) 5 (fun _ _ => rfl) ?_
            rw [hM]
            exact q_Ru_ret rfl rfl
          show q_Ru _ _ _ (4, [(0, .ref 64)], [.int lin], (q_cM (q_mA pix smp tr (q_nb p 0 dn ins) (q_fb z)) q_IM (q_mJ y pd), 34, 31630)) _
          refine q_Ru_seg (g2 := (6, [(0, .ref 64)], [.int (lin - 4)], (q_cM (q_mA pix smp tr (q_nb p 0 dn ins) (q_fb z)) q_IM (q_mJ y pd), 34, 31630))) 2 (fun _ _ => rfl) ?_
          exact q_Ru_ret rfl rfl
        show q_Ru _ _ _ (48, [(2, .int 0), (1, .int col), (0, .ref 64)], [.int (lin - 4)], (q_cM (q_mA pix smp tr (q_nb p 0 dn ins) (q_fb z)) q_IM (q_mJ y pd), 34, 31630)) _
        refine q_Ru_seg (g2 := (53, [(3, .int (lin - 4)), (2, .int 0), (1, .int col), (0, .ref 64)], [.int 31, .int 0, .int (lin - 4)], (q_cM (q_mA pix smp tr (q_nb p 0 dn ins) (q_fb z)) q_IM (q_mJ y pd), 34, 31630))) 4 (fun _ _ => rfl) ?_
        refine q_Ru_call (v := (some (.int 0))) (h2 := (q_cM (q_mA pix smp tr (q_nb p 0 dn ins) (q_fb z)) q_IM (q_mJ y pd), 34, 31630)) rfl rfl ?_ ?_
        · refine q_Ca_of (Nat.le_of_ble_eq_true rfl) ?_
          refine q_Ru_seg (g2 := (2, [(0, .int (lin - 4)), (1, .int 0), (2, .int 31)], [.int 0, .int (lin - 4)], (q_cM (q_mA pix smp tr (q_nb p 0 dn ins) (q_fb z)) q_IM (q_mJ y pd), 34, 31630))) 2 (fun _ _ => rfl) ?_
          refine q_Ru_rsT (g2 := (14, [(0, .int (lin - 4)), (1, .int 0), (2, .int 31)], [], (q_cM (q_mA pix smp tr (q_nb p 0 dn ins) (q_fb z)) q_IM (q_mJ y pd), 34, 31630))) rfl rfl h199 ?_
          refine q_Ru_seg (g2 := (15, [(0, .int (lin - 4)), (1, .int 0), (2, .int 31)], [.int 0], (q_cM (q_mA pix smp tr (q_nb p 0 dn ins) (q_fb z)) q_IM (q_mJ y pd), 34, 31630))) 1 (fun _ _ => rfl) ?_
          exact q_Ru_ret rfl rfl
        show q_Ru _ _ _ (56, [(3, .int (lin - 4)), (2, .int 0), (1, .int col), (0, .ref 64)], [.int 0], (q_cM (q_mA pix smp tr (q_nb p 0 dn ins) (q_fb z)) q_IM (q_mJ y pd), 34, 31630)) _
        refine q_Ru_seg (g2 := (92, [(3, .int (lin - 4)), (2, .int 0), (1, .int col), (0, .ref 64)], [.ref 64], (q_cM (q_mA pix smp tr (q_nb p 0 dn ins) (q_fb z)) q_IM (q_mJ y pd), 34, 31630))) 2 (fun _ _ => rfl) ?_
        refine q_Ru_call (v := none) (h2 := (q_cM (q_mA pix smp tr (q_nb p 0 dn ins) (q_fb z)) q_IM (q_mJ y pd), 34, 31630)) rfl rfl ?_ ?_
        · exact (q_m_times pix smp tr p 0 dn ins z y pd col lin p1 p2 hC hM c0 c1 l0 l1 a0 a1 b0 b1 hp0 hp1 hp2 i0 i1  ).le (Nat.le_of_ble_eq_true rfl)
        show q_Ru _ _ _ (95, [(3, .int (lin - 4)), (2, .int 0), (1, .int col), (0, .ref 64)], [], (q_cM (q_mA pix smp tr (q_nb p 0 dn ins) (q_fb z)) q_IM (q_mJ y pd), 34, 31630)) _
        refine q_Ru_seg (g2 := (96, [(3, .int (lin - 4)), (2, .int 0), (1, .int col), (0, .ref 64)], [.ref 64], (q_cM (q_mA pix smp tr (q_nb p 0 dn ins) (q_fb z)) q_IM (q_mJ y pd), 34, 31630))) 1 (fun _ _ => rfl) ?_
        refine q_Ru_call (v := none) (h2 := (q_cM (q_mA pix smp tr (q_nb p 0 dn ins) (q_fb z)) q_IM (q_mJ y pd), 34, 31630)) rfl rfl ?_ ?_
        · exact (q_m_winds pix smp tr p 0 dn ins z y pd col lin p1 p2 hC hM c0 c1 l0 l1 a0 a1 b0 b1 hp0 hp1 hp2 i0 i1  ).le (Nat.le_of_ble_eq_true rfl)
        show q_Ru _ _ _ (99, [(3, .int (lin - 4)), (2, .int 0), (1, .int col), (0, .ref 64)], [], (q_cM (q_mA pix smp tr (q_nb p 0 dn ins) (q_fb z)) q_IM (q_mJ y pd), 34, 31630)) _
        refine q_Ru_seg (g2 := (102, [(3, .int (lin - 4)), (2, .int 0), (1, .int col), (0, .ref 64)], [.int 23, .int col], (q_cM (q_mA pix smp tr (q_nb p 0 dn ins) (q_fb z)) q_IM (q_mJ y pd), 34, 31630))) 2 (fun _ _ => rfl) ?_
        refine q_Ru_rsT (g2 := (109, [(3, .int (lin - 4)), (2, .int 0), (1, .int col), (0, .ref 64)], [], (q_cM (q_mA pix smp tr (q_nb p 0 dn ins) (q_fb z)) q_IM (q_mJ y pd), 34, 31630))) rfl rfl (q_d_neF h200) ?_
        refine q_Ru_seg (g2 := (114, [(3, .int (lin - 4)), (2, .int 0), (1, .int col), (0, .ref 64)], [.ref 64], (q_cM (q_mA pix smp tr (q_nb p 0 dn ins) (q_fb z)) q_IM (q_mJ y pd), 34, 31630))) 3 (fun _ _ => rfl) ?_
        refine q_Ru_call (v := none) (h2 := (q_cM (q_mA pix smp tr (q_nb p 1 dn ins) (q_fb z)) q_IM (q_mJ y pd), 34, 31630)) rfl rfl ?_ ?_
        · exact (q_m_go0 pix smp tr p dn ins z y pd col lin p1 p2 hC hM c0 c1 l0 l1 a0 a1 b0 b1 hp0 hp1 hp2 i0 i1  ).le (Nat.le_of_ble_eq_true rfl)
        show q_Ru _ _ _ (117, [(3, .int (lin - 4)), (2, .int 0), (1, .int col), (0, .ref 64)], [], (q_cM (q_mA pix smp tr (q_nb p 1 dn ins) (q_fb z)) q_IM (q_mJ y pd), 34, 31630)) _
        refine q_Ru_seg (g2 := (122, [(3, .int (lin - 4)), (2, .int 0), (1, .int col), (0, .ref 64)], [.long pd, .ref 64], (q_cM (q_mA pix smp tr (q_nb p 1 dn ins) (q_fb z)) q_IM (q_mJ y pd), 34, 31630))) 3 (fun _ _ => rfl) ?_
        refine q_Ru_seg (g2 := (140, [(3, .int (lin - 4)), (2, .int 0), (1, .int col), (0, .ref 64)], [.long y, .ref 64], (q_cM (q_mA pix smp tr (q_nb p 1 dn ins) (q_fb z)) q_IM (q_uI (q_mJ y pd) 0 16 (pd + 0)), 34, 31630))) 8 (fun _ _ => rfl) ?_
        refine q_Ru_seg (g2 := (146, [(3, .int (lin - 4)), (2, .int 0), (1, .int col), (0, .ref 64)], [.int 0], (q_cM (q_mA pix smp tr (q_nb p 1 dn ins) (q_fb z)) q_IM (q_uI (q_uI (q_mJ y pd) 0 16 (pd + 0)) 0 15 (y + 1)), 34, 31630))) 4 (fun _ _ => rfl) ?_
        exact q_Ru_ret rfl rfl
    | false =>
      cases h201 : decide (31 < lin - 4) with
      | true =>
        cases h202 : decide (col = 23) with
        | true =>
          obtain ⟨z124a, p124⟩ := q_m_sample pix smp tr p 0 dn ins z y pd col lin p1 p2 hC hM c0 c1 l0 l1 a0 a1 b0 b1 hp0 hp1 hp2 i0 i1  
          refine ⟨pix, z124a, ?_⟩
          refine q_Ca_of (Nat.le_of_ble_eq_true rfl) ?_
          refine q_Ru_seg (g2 := (4, [(0, .ref 64)], [.long y], (q_cM (q_mA pix smp tr (q_nb p 0 dn ins) (q_fb z)) q_IM (q_mJ y pd), 34, 31630))) 2 (fun _ _ => rfl) ?_
          refine q_Ru_seg (g2 := (9, [(0, .ref 64)], [.int ((y - y / 24 * 24).toInt32)], (q_cM (q_mA pix smp tr (q_nb p 0 dn ins) (q_fb z)) q_IM (q_mJ y pd), 34, 31630))) 3 (fun _ _ => rfl) ?_
          rw [hC]
          refine q_Ru_seg (g2 := (11, [(1, .int col), (0, .ref 64)], [.int col], (q_cM (q_mA pix smp tr (q_nb p 0 dn ins) (q_fb z)) q_IM (q_mJ y pd), 34, 31630))) 2 (fun _ _ => rfl) ?_
          refine q_Ru_rsT (g2 := (39, [(1, .int col), (0, .ref 64)], [], (q_cM (q_mA pix smp tr (q_nb p 0 dn ins) (q_fb z)) q_IM (q_mJ y pd), 34, 31630))) rfl rfl (q_d_neF h189) ?_
          refine q_Ru_seg (g2 := (40, [(1, .int col), (0, .ref 64)], [.ref 64], (q_cM (q_mA pix smp tr (q_nb p 0 dn ins) (q_fb z)) q_IM (q_mJ y pd), 34, 31630))) 1 (fun _ _ => rfl) ?_
          refine q_Ru_call (v := (some (.int 0))) (h2 := (q_cM (q_mA pix smp tr (q_nb p 0 dn ins) (q_fb z)) q_IM (q_mJ y pd), 34, 31630)) rfl rfl ?_ ?_
          · exact (by have e := q_m_picX pix smp tr p 0 dn ins z y pd col lin p1 p2 hC hM c0 c1 l0 l1 a0 a1 b0 b1 hp0 hp1 hp2 i0 i1; rw [hpic] at e; exact e.le (Nat.le_of_ble_eq_true rfl))
          show q_Ru _ _ _ (43, [(1, .int col), (0, .ref 64)], [.int 0], (q_cM (q_mA pix smp tr (q_nb p 0 dn ins) (q_fb z)) q_IM (q_mJ y pd), 34, 31630)) _
          refine q_Ru_seg (g2 := (45, [(2, .int 0), (1, .int col), (0, .ref 64)], [.ref 64], (q_cM (q_mA pix smp tr (q_nb p 0 dn ins) (q_fb z)) q_IM (q_mJ y pd), 34, 31630))) 2 (fun _ _ => rfl) ?_
          refine q_Ru_call (v := (some (.int (lin - 4)))) (h2 := (q_cM (q_mA pix smp tr (q_nb p 0 dn ins) (q_fb z)) q_IM (q_mJ y pd), 34, 31630)) rfl rfl ?_ ?_
          · refine q_Ca_of (Nat.le_of_ble_eq_true rfl) ?_
            refine q_Ru_seg (g2 := (1, [(0, .ref 64)], [.ref 64], (q_cM (q_mA pix smp tr (q_nb p 0 dn ins) (q_fb z)) q_IM (q_mJ y pd), 34, 31630))) 1 (fun _ _ => rfl) ?_
            refine q_Ru_call (v := (some (.int lin))) (h2 := (q_cM (q_mA pix smp tr (q_nb p 0 dn ins) (q_fb z)) q_IM (q_mJ y pd), 34, 31630)) rfl rfl ?_ ?_
            · refine q_Ca_of (Nat.le_of_ble_eq_true rfl) ?_
              refine q_Ru_seg (g2 := (4, [(0, .ref 64)], [.long y], (q_cM (q_mA pix smp tr (q_nb p 0 dn ins) (q_fb z)) q_IM (q_mJ y pd), 34, 31630))) 2 (fun _ _ => rfl) ?_
              refine q_Ru_seg (g2 := (13, [(0, .ref 64)], [.int (((y / 24) - (y / 24) / 40 * 40).toInt32)], (q_cM (q_mA pix smp tr (q_nb p 0 dn ins) (q_fb z)) q_IM (q_mJ y pd), 34, 31630))) 5 (fun _ _ => rfl) ?_
              rw [hM]
              exact q_Ru_ret rfl rfl
            show q_Ru _ _ _ (4, [(0, .ref 64)], [.int lin], (q_cM (q_mA pix smp tr (q_nb p 0 dn ins) (q_fb z)) q_IM (q_mJ y pd), 34, 31630)) _
            refine q_Ru_seg (g2 := (6, [(0, .ref 64)], [.int (lin - 4)], (q_cM (q_mA pix smp tr (q_nb p 0 dn ins) (q_fb z)) q_IM (q_mJ y pd), 34, 31630))) 2 (fun _ _ => rfl) ?_
            exact q_Ru_ret rfl rfl
          show q_Ru _ _ _ (48, [(2, .int 0), (1, .int col), (0, .ref 64)], [.int (lin - 4)], (q_cM (q_mA pix smp tr (q_nb p 0 dn ins) (q_fb z)) q_IM (q_mJ y pd), 34, 31630)) _
          refine q_Ru_seg (g2 := (53, [(3, .int (lin - 4)), (2, .int 0), (1, .int col), (0, .ref 64)], [.int 31, .int 0, .int (lin - 4)], (q_cM (q_mA pix smp tr (q_nb p 0 dn ins) (q_fb z)) q_IM (q_mJ y pd), 34, 31630))) 4 (fun _ _ => rfl) ?_
          refine q_Ru_call (v := (some (.int 0))) (h2 := (q_cM (q_mA pix smp tr (q_nb p 0 dn ins) (q_fb z)) q_IM (q_mJ y pd), 34, 31630)) rfl rfl ?_ ?_
          · refine q_Ca_of (Nat.le_of_ble_eq_true rfl) ?_
            refine q_Ru_seg (g2 := (2, [(0, .int (lin - 4)), (1, .int 0), (2, .int 31)], [.int 0, .int (lin - 4)], (q_cM (q_mA pix smp tr (q_nb p 0 dn ins) (q_fb z)) q_IM (q_mJ y pd), 34, 31630))) 2 (fun _ _ => rfl) ?_
            refine q_Ru_rsF (g2 := (5, [(0, .int (lin - 4)), (1, .int 0), (2, .int 31)], [], (q_cM (q_mA pix smp tr (q_nb p 0 dn ins) (q_fb z)) q_IM (q_mJ y pd), 34, 31630))) rfl rfl h199 ?_
            refine q_Ru_seg (g2 := (7, [(0, .int (lin - 4)), (1, .int 0), (2, .int 31)], [.int 31, .int (lin - 4)], (q_cM (q_mA pix smp tr (q_nb p 0 dn ins) (q_fb z)) q_IM (q_mJ y pd), 34, 31630))) 2 (fun _ _ => rfl) ?_
            refine q_Ru_rsT (g2 := (14, [(0, .int (lin - 4)), (1, .int 0), (2, .int 31)], [], (q_cM (q_mA pix smp tr (q_nb p 0 dn ins) (q_fb z)) q_IM (q_mJ y pd), 34, 31630))) rfl rfl h201 ?_
            refine q_Ru_seg (g2 := (15, [(0, .int (lin - 4)), (1, .int 0), (2, .int 31)], [.int 0], (q_cM (q_mA pix smp tr (q_nb p 0 dn ins) (q_fb z)) q_IM (q_mJ y pd), 34, 31630))) 1 (fun _ _ => rfl) ?_
            exact q_Ru_ret rfl rfl
          show q_Ru _ _ _ (56, [(3, .int (lin - 4)), (2, .int 0), (1, .int col), (0, .ref 64)], [.int 0], (q_cM (q_mA pix smp tr (q_nb p 0 dn ins) (q_fb z)) q_IM (q_mJ y pd), 34, 31630)) _
          refine q_Ru_seg (g2 := (92, [(3, .int (lin - 4)), (2, .int 0), (1, .int col), (0, .ref 64)], [.ref 64], (q_cM (q_mA pix smp tr (q_nb p 0 dn ins) (q_fb z)) q_IM (q_mJ y pd), 34, 31630))) 2 (fun _ _ => rfl) ?_
          refine q_Ru_call (v := none) (h2 := (q_cM (q_mA pix smp tr (q_nb p 0 dn ins) (q_fb z)) q_IM (q_mJ y pd), 34, 31630)) rfl rfl ?_ ?_
          · exact (q_m_times pix smp tr p 0 dn ins z y pd col lin p1 p2 hC hM c0 c1 l0 l1 a0 a1 b0 b1 hp0 hp1 hp2 i0 i1  ).le (Nat.le_of_ble_eq_true rfl)
          show q_Ru _ _ _ (95, [(3, .int (lin - 4)), (2, .int 0), (1, .int col), (0, .ref 64)], [], (q_cM (q_mA pix smp tr (q_nb p 0 dn ins) (q_fb z)) q_IM (q_mJ y pd), 34, 31630)) _
          refine q_Ru_seg (g2 := (96, [(3, .int (lin - 4)), (2, .int 0), (1, .int col), (0, .ref 64)], [.ref 64], (q_cM (q_mA pix smp tr (q_nb p 0 dn ins) (q_fb z)) q_IM (q_mJ y pd), 34, 31630))) 1 (fun _ _ => rfl) ?_
          refine q_Ru_call (v := none) (h2 := (q_cM (q_mA pix smp tr (q_nb p 0 dn ins) (q_fb z)) q_IM (q_mJ y pd), 34, 31630)) rfl rfl ?_ ?_
          · exact (q_m_winds pix smp tr p 0 dn ins z y pd col lin p1 p2 hC hM c0 c1 l0 l1 a0 a1 b0 b1 hp0 hp1 hp2 i0 i1  ).le (Nat.le_of_ble_eq_true rfl)
          show q_Ru _ _ _ (99, [(3, .int (lin - 4)), (2, .int 0), (1, .int col), (0, .ref 64)], [], (q_cM (q_mA pix smp tr (q_nb p 0 dn ins) (q_fb z)) q_IM (q_mJ y pd), 34, 31630)) _
          refine q_Ru_seg (g2 := (102, [(3, .int (lin - 4)), (2, .int 0), (1, .int col), (0, .ref 64)], [.int 23, .int col], (q_cM (q_mA pix smp tr (q_nb p 0 dn ins) (q_fb z)) q_IM (q_mJ y pd), 34, 31630))) 2 (fun _ _ => rfl) ?_
          refine q_Ru_rsF (g2 := (105, [(3, .int (lin - 4)), (2, .int 0), (1, .int col), (0, .ref 64)], [], (q_cM (q_mA pix smp tr (q_nb p 0 dn ins) (q_fb z)) q_IM (q_mJ y pd), 34, 31630))) rfl rfl (q_d_neT h202) ?_
          refine q_Ru_seg (g2 := (106, [(3, .int (lin - 4)), (2, .int 0), (1, .int col), (0, .ref 64)], [.ref 64], (q_cM (q_mA pix smp tr (q_nb p 0 dn ins) (q_fb z)) q_IM (q_mJ y pd), 34, 31630))) 1 (fun _ _ => rfl) ?_
          refine q_Ru_call (v := none) (h2 := (q_cM (q_mA pix z124a tr (q_nb p 0 dn ins) (q_fb z)) q_IM (q_mJ y pd), 34, 31630)) rfl rfl ?_ ?_
          · exact p124.le (Nat.le_of_ble_eq_true rfl)
          show q_Ru _ _ _ (109, [(3, .int (lin - 4)), (2, .int 0), (1, .int col), (0, .ref 64)], [], (q_cM (q_mA pix z124a tr (q_nb p 0 dn ins) (q_fb z)) q_IM (q_mJ y pd), 34, 31630)) _
          refine q_Ru_seg (g2 := (114, [(3, .int (lin - 4)), (2, .int 0), (1, .int col), (0, .ref 64)], [.ref 64], (q_cM (q_mA pix z124a tr (q_nb p 0 dn ins) (q_fb z)) q_IM (q_mJ y pd), 34, 31630))) 3 (fun _ _ => rfl) ?_
          refine q_Ru_call (v := none) (h2 := (q_cM (q_mA pix z124a tr (q_nb p 1 dn ins) (q_fb z)) q_IM (q_mJ y pd), 34, 31630)) rfl rfl ?_ ?_
          · exact (q_m_go0 pix z124a tr p dn ins z y pd col lin p1 p2 hC hM c0 c1 l0 l1 a0 a1 b0 b1 hp0 hp1 hp2 i0 i1  ).le (Nat.le_of_ble_eq_true rfl)
          show q_Ru _ _ _ (117, [(3, .int (lin - 4)), (2, .int 0), (1, .int col), (0, .ref 64)], [], (q_cM (q_mA pix z124a tr (q_nb p 1 dn ins) (q_fb z)) q_IM (q_mJ y pd), 34, 31630)) _
          refine q_Ru_seg (g2 := (122, [(3, .int (lin - 4)), (2, .int 0), (1, .int col), (0, .ref 64)], [.long pd, .ref 64], (q_cM (q_mA pix z124a tr (q_nb p 1 dn ins) (q_fb z)) q_IM (q_mJ y pd), 34, 31630))) 3 (fun _ _ => rfl) ?_
          refine q_Ru_seg (g2 := (140, [(3, .int (lin - 4)), (2, .int 0), (1, .int col), (0, .ref 64)], [.long y, .ref 64], (q_cM (q_mA pix z124a tr (q_nb p 1 dn ins) (q_fb z)) q_IM (q_uI (q_mJ y pd) 0 16 (pd + 0)), 34, 31630))) 8 (fun _ _ => rfl) ?_
          refine q_Ru_seg (g2 := (146, [(3, .int (lin - 4)), (2, .int 0), (1, .int col), (0, .ref 64)], [.int 0], (q_cM (q_mA pix z124a tr (q_nb p 1 dn ins) (q_fb z)) q_IM (q_uI (q_uI (q_mJ y pd) 0 16 (pd + 0)) 0 15 (y + 1)), 34, 31630))) 4 (fun _ _ => rfl) ?_
          exact q_Ru_ret rfl rfl
        | false =>
          refine ⟨pix, smp, ?_⟩
          refine q_Ca_of (Nat.le_of_ble_eq_true rfl) ?_
          refine q_Ru_seg (g2 := (4, [(0, .ref 64)], [.long y], (q_cM (q_mA pix smp tr (q_nb p 0 dn ins) (q_fb z)) q_IM (q_mJ y pd), 34, 31630))) 2 (fun _ _ => rfl) ?_
          refine q_Ru_seg (g2 := (9, [(0, .ref 64)], [.int ((y - y / 24 * 24).toInt32)], (q_cM (q_mA pix smp tr (q_nb p 0 dn ins) (q_fb z)) q_IM (q_mJ y pd), 34, 31630))) 3 (fun _ _ => rfl) ?_
          rw [hC]
          refine q_Ru_seg (g2 := (11, [(1, .int col), (0, .ref 64)], [.int col], (q_cM (q_mA pix smp tr (q_nb p 0 dn ins) (q_fb z)) q_IM (q_mJ y pd), 34, 31630))) 2 (fun _ _ => rfl) ?_
          refine q_Ru_rsT (g2 := (39, [(1, .int col), (0, .ref 64)], [], (q_cM (q_mA pix smp tr (q_nb p 0 dn ins) (q_fb z)) q_IM (q_mJ y pd), 34, 31630))) rfl rfl (q_d_neF h189) ?_
          refine q_Ru_seg (g2 := (40, [(1, .int col), (0, .ref 64)], [.ref 64], (q_cM (q_mA pix smp tr (q_nb p 0 dn ins) (q_fb z)) q_IM (q_mJ y pd), 34, 31630))) 1 (fun _ _ => rfl) ?_
          refine q_Ru_call (v := (some (.int 0))) (h2 := (q_cM (q_mA pix smp tr (q_nb p 0 dn ins) (q_fb z)) q_IM (q_mJ y pd), 34, 31630)) rfl rfl ?_ ?_
          · exact (by have e := q_m_picX pix smp tr p 0 dn ins z y pd col lin p1 p2 hC hM c0 c1 l0 l1 a0 a1 b0 b1 hp0 hp1 hp2 i0 i1; rw [hpic] at e; exact e.le (Nat.le_of_ble_eq_true rfl))
          show q_Ru _ _ _ (43, [(1, .int col), (0, .ref 64)], [.int 0], (q_cM (q_mA pix smp tr (q_nb p 0 dn ins) (q_fb z)) q_IM (q_mJ y pd), 34, 31630)) _
          refine q_Ru_seg (g2 := (45, [(2, .int 0), (1, .int col), (0, .ref 64)], [.ref 64], (q_cM (q_mA pix smp tr (q_nb p 0 dn ins) (q_fb z)) q_IM (q_mJ y pd), 34, 31630))) 2 (fun _ _ => rfl) ?_
          refine q_Ru_call (v := (some (.int (lin - 4)))) (h2 := (q_cM (q_mA pix smp tr (q_nb p 0 dn ins) (q_fb z)) q_IM (q_mJ y pd), 34, 31630)) rfl rfl ?_ ?_
          · refine q_Ca_of (Nat.le_of_ble_eq_true rfl) ?_
            refine q_Ru_seg (g2 := (1, [(0, .ref 64)], [.ref 64], (q_cM (q_mA pix smp tr (q_nb p 0 dn ins) (q_fb z)) q_IM (q_mJ y pd), 34, 31630))) 1 (fun _ _ => rfl) ?_
            refine q_Ru_call (v := (some (.int lin))) (h2 := (q_cM (q_mA pix smp tr (q_nb p 0 dn ins) (q_fb z)) q_IM (q_mJ y pd), 34, 31630)) rfl rfl ?_ ?_
            · refine q_Ca_of (Nat.le_of_ble_eq_true rfl) ?_
              refine q_Ru_seg (g2 := (4, [(0, .ref 64)], [.long y], (q_cM (q_mA pix smp tr (q_nb p 0 dn ins) (q_fb z)) q_IM (q_mJ y pd), 34, 31630))) 2 (fun _ _ => rfl) ?_
              refine q_Ru_seg (g2 := (13, [(0, .ref 64)], [.int (((y / 24) - (y / 24) / 40 * 40).toInt32)], (q_cM (q_mA pix smp tr (q_nb p 0 dn ins) (q_fb z)) q_IM (q_mJ y pd), 34, 31630))) 5 (fun _ _ => rfl) ?_
              rw [hM]
              exact q_Ru_ret rfl rfl
            show q_Ru _ _ _ (4, [(0, .ref 64)], [.int lin], (q_cM (q_mA pix smp tr (q_nb p 0 dn ins) (q_fb z)) q_IM (q_mJ y pd), 34, 31630)) _
            refine q_Ru_seg (g2 := (6, [(0, .ref 64)], [.int (lin - 4)], (q_cM (q_mA pix smp tr (q_nb p 0 dn ins) (q_fb z)) q_IM (q_mJ y pd), 34, 31630))) 2 (fun _ _ => rfl) ?_
            exact q_Ru_ret rfl rfl
          show q_Ru _ _ _ (48, [(2, .int 0), (1, .int col), (0, .ref 64)], [.int (lin - 4)], (q_cM (q_mA pix smp tr (q_nb p 0 dn ins) (q_fb z)) q_IM (q_mJ y pd), 34, 31630)) _
          refine q_Ru_seg (g2 := (53, [(3, .int (lin - 4)), (2, .int 0), (1, .int col), (0, .ref 64)], [.int 31, .int 0, .int (lin - 4)], (q_cM (q_mA pix smp tr (q_nb p 0 dn ins) (q_fb z)) q_IM (q_mJ y pd), 34, 31630))) 4 (fun _ _ => rfl) ?_
          refine q_Ru_call (v := (some (.int 0))) (h2 := (q_cM (q_mA pix smp tr (q_nb p 0 dn ins) (q_fb z)) q_IM (q_mJ y pd), 34, 31630)) rfl rfl ?_ ?_
          · refine q_Ca_of (Nat.le_of_ble_eq_true rfl) ?_
            refine q_Ru_seg (g2 := (2, [(0, .int (lin - 4)), (1, .int 0), (2, .int 31)], [.int 0, .int (lin - 4)], (q_cM (q_mA pix smp tr (q_nb p 0 dn ins) (q_fb z)) q_IM (q_mJ y pd), 34, 31630))) 2 (fun _ _ => rfl) ?_
            refine q_Ru_rsF (g2 := (5, [(0, .int (lin - 4)), (1, .int 0), (2, .int 31)], [], (q_cM (q_mA pix smp tr (q_nb p 0 dn ins) (q_fb z)) q_IM (q_mJ y pd), 34, 31630))) rfl rfl h199 ?_
            refine q_Ru_seg (g2 := (7, [(0, .int (lin - 4)), (1, .int 0), (2, .int 31)], [.int 31, .int (lin - 4)], (q_cM (q_mA pix smp tr (q_nb p 0 dn ins) (q_fb z)) q_IM (q_mJ y pd), 34, 31630))) 2 (fun _ _ => rfl) ?_
            refine q_Ru_rsT (g2 := (14, [(0, .int (lin - 4)), (1, .int 0), (2, .int 31)], [], (q_cM (q_mA pix smp tr (q_nb p 0 dn ins) (q_fb z)) q_IM (q_mJ y pd), 34, 31630))) rfl rfl h201 ?_
            refine q_Ru_seg (g2 := (15, [(0, .int (lin - 4)), (1, .int 0), (2, .int 31)], [.int 0], (q_cM (q_mA pix smp tr (q_nb p 0 dn ins) (q_fb z)) q_IM (q_mJ y pd), 34, 31630))) 1 (fun _ _ => rfl) ?_
            exact q_Ru_ret rfl rfl
          show q_Ru _ _ _ (56, [(3, .int (lin - 4)), (2, .int 0), (1, .int col), (0, .ref 64)], [.int 0], (q_cM (q_mA pix smp tr (q_nb p 0 dn ins) (q_fb z)) q_IM (q_mJ y pd), 34, 31630)) _
          refine q_Ru_seg (g2 := (92, [(3, .int (lin - 4)), (2, .int 0), (1, .int col), (0, .ref 64)], [.ref 64], (q_cM (q_mA pix smp tr (q_nb p 0 dn ins) (q_fb z)) q_IM (q_mJ y pd), 34, 31630))) 2 (fun _ _ => rfl) ?_
          refine q_Ru_call (v := none) (h2 := (q_cM (q_mA pix smp tr (q_nb p 0 dn ins) (q_fb z)) q_IM (q_mJ y pd), 34, 31630)) rfl rfl ?_ ?_
          · exact (q_m_times pix smp tr p 0 dn ins z y pd col lin p1 p2 hC hM c0 c1 l0 l1 a0 a1 b0 b1 hp0 hp1 hp2 i0 i1  ).le (Nat.le_of_ble_eq_true rfl)
          show q_Ru _ _ _ (95, [(3, .int (lin - 4)), (2, .int 0), (1, .int col), (0, .ref 64)], [], (q_cM (q_mA pix smp tr (q_nb p 0 dn ins) (q_fb z)) q_IM (q_mJ y pd), 34, 31630)) _
          refine q_Ru_seg (g2 := (96, [(3, .int (lin - 4)), (2, .int 0), (1, .int col), (0, .ref 64)], [.ref 64], (q_cM (q_mA pix smp tr (q_nb p 0 dn ins) (q_fb z)) q_IM (q_mJ y pd), 34, 31630))) 1 (fun _ _ => rfl) ?_
          refine q_Ru_call (v := none) (h2 := (q_cM (q_mA pix smp tr (q_nb p 0 dn ins) (q_fb z)) q_IM (q_mJ y pd), 34, 31630)) rfl rfl ?_ ?_
          · exact (q_m_winds pix smp tr p 0 dn ins z y pd col lin p1 p2 hC hM c0 c1 l0 l1 a0 a1 b0 b1 hp0 hp1 hp2 i0 i1  ).le (Nat.le_of_ble_eq_true rfl)
          show q_Ru _ _ _ (99, [(3, .int (lin - 4)), (2, .int 0), (1, .int col), (0, .ref 64)], [], (q_cM (q_mA pix smp tr (q_nb p 0 dn ins) (q_fb z)) q_IM (q_mJ y pd), 34, 31630)) _
          refine q_Ru_seg (g2 := (102, [(3, .int (lin - 4)), (2, .int 0), (1, .int col), (0, .ref 64)], [.int 23, .int col], (q_cM (q_mA pix smp tr (q_nb p 0 dn ins) (q_fb z)) q_IM (q_mJ y pd), 34, 31630))) 2 (fun _ _ => rfl) ?_
          refine q_Ru_rsT (g2 := (109, [(3, .int (lin - 4)), (2, .int 0), (1, .int col), (0, .ref 64)], [], (q_cM (q_mA pix smp tr (q_nb p 0 dn ins) (q_fb z)) q_IM (q_mJ y pd), 34, 31630))) rfl rfl (q_d_neF h202) ?_
          refine q_Ru_seg (g2 := (114, [(3, .int (lin - 4)), (2, .int 0), (1, .int col), (0, .ref 64)], [.ref 64], (q_cM (q_mA pix smp tr (q_nb p 0 dn ins) (q_fb z)) q_IM (q_mJ y pd), 34, 31630))) 3 (fun _ _ => rfl) ?_
          refine q_Ru_call (v := none) (h2 := (q_cM (q_mA pix smp tr (q_nb p 1 dn ins) (q_fb z)) q_IM (q_mJ y pd), 34, 31630)) rfl rfl ?_ ?_
          · exact (q_m_go0 pix smp tr p dn ins z y pd col lin p1 p2 hC hM c0 c1 l0 l1 a0 a1 b0 b1 hp0 hp1 hp2 i0 i1  ).le (Nat.le_of_ble_eq_true rfl)
          show q_Ru _ _ _ (117, [(3, .int (lin - 4)), (2, .int 0), (1, .int col), (0, .ref 64)], [], (q_cM (q_mA pix smp tr (q_nb p 1 dn ins) (q_fb z)) q_IM (q_mJ y pd), 34, 31630)) _
          refine q_Ru_seg (g2 := (122, [(3, .int (lin - 4)), (2, .int 0), (1, .int col), (0, .ref 64)], [.long pd, .ref 64], (q_cM (q_mA pix smp tr (q_nb p 1 dn ins) (q_fb z)) q_IM (q_mJ y pd), 34, 31630))) 3 (fun _ _ => rfl) ?_
          refine q_Ru_seg (g2 := (140, [(3, .int (lin - 4)), (2, .int 0), (1, .int col), (0, .ref 64)], [.long y, .ref 64], (q_cM (q_mA pix smp tr (q_nb p 1 dn ins) (q_fb z)) q_IM (q_uI (q_mJ y pd) 0 16 (pd + 0)), 34, 31630))) 8 (fun _ _ => rfl) ?_
          refine q_Ru_seg (g2 := (146, [(3, .int (lin - 4)), (2, .int 0), (1, .int col), (0, .ref 64)], [.int 0], (q_cM (q_mA pix smp tr (q_nb p 1 dn ins) (q_fb z)) q_IM (q_uI (q_uI (q_mJ y pd) 0 16 (pd + 0)) 0 15 (y + 1)), 34, 31630))) 4 (fun _ _ => rfl) ?_
          exact q_Ru_ret rfl rfl
      | false =>
        cases h203 : decide (col < 4) with
        | true =>
          have h204 : decide (col = 23) = false := q_not_tr (q_tbl1 (fun col => !decide (col = 23)) (l := 0) (n := 3) (by decide +kernel) c0 (q_hi1 h203))
          refine ⟨pix, smp, ?_⟩
          refine q_Ca_of (Nat.le_of_ble_eq_true rfl) ?_
          refine q_Ru_seg (g2 := (4, [(0, .ref 64)], [.long y], (q_cM (q_mA pix smp tr (q_nb p 0 dn ins) (q_fb z)) q_IM (q_mJ y pd), 34, 31630))) 2 (fun _ _ => rfl) ?_
          refine q_Ru_seg (g2 := (9, [(0, .ref 64)], [.int ((y - y / 24 * 24).toInt32)], (q_cM (q_mA pix smp tr (q_nb p 0 dn ins) (q_fb z)) q_IM (q_mJ y pd), 34, 31630))) 3 (fun _ _ => rfl) ?_
          rw [hC]
          refine q_Ru_seg (g2 := (11, [(1, .int col), (0, .ref 64)], [.int col], (q_cM (q_mA pix smp tr (q_nb p 0 dn ins) (q_fb z)) q_IM (q_mJ y pd), 34, 31630))) 2 (fun _ _ => rfl) ?_
          refine q_Ru_rsT (g2 := (39, [(1, .int col), (0, .ref 64)], [], (q_cM (q_mA pix smp tr (q_nb p 0 dn ins) (q_fb z)) q_IM (q_mJ y pd), 34, 31630))) rfl rfl (q_d_neF h189) ?_
          refine q_Ru_seg (g2 := (40, [(1, .int col), (0, .ref 64)], [.ref 64], (q_cM (q_mA pix smp tr (q_nb p 0 dn ins) (q_fb z)) q_IM (q_mJ y pd), 34, 31630))) 1 (fun _ _ => rfl) ?_
          refine q_Ru_call (v := (some (.int 0))) (h2 := (q_cM (q_mA pix smp tr (q_nb p 0 dn ins) (q_fb z)) q_IM (q_mJ y pd), 34, 31630)) rfl rfl ?_ ?_
          · exact (by have e := q_m_picX pix smp tr p 0 dn ins z y pd col lin p1 p2 hC hM c0 c1 l0 l1 a0 a1 b0 b1 hp0 hp1 hp2 i0 i1; rw [hpic] at e; exact e.le (Nat.le_of_ble_eq_true rfl))
          show q_Ru _ _ _ (43, [(1, .int col), (0, .ref 64)], [.int 0], (q_cM (q_mA pix smp tr (q_nb p 0 dn ins) (q_fb z)) q_IM (q_mJ y pd), 34, 31630)) _
          refine q_Ru_seg (g2 := (45, [(2, .int 0), (1, .int col), (0, .ref 64)], [.ref 64], (q_cM (q_mA pix smp tr (q_nb p 0 dn ins) (q_fb z)) q_IM (q_mJ y pd), 34, 31630))) 2 (fun _ _ => rfl) ?_
          refine q_Ru_call (v := (some (.int (lin - 4)))) (h2 := (q_cM (q_mA pix smp tr (q_nb p 0 dn ins) (q_fb z)) q_IM (q_mJ y pd), 34, 31630)) rfl rfl ?_ ?_
          · refine q_Ca_of (Nat.le_of_ble_eq_true rfl) ?_
            refine q_Ru_seg (g2 := (1, [(0, .ref 64)], [.ref 64], (q_cM (q_mA pix smp tr (q_nb p 0 dn ins) (q_fb z)) q_IM (q_mJ y pd), 34, 31630))) 1 (fun _ _ => rfl) ?_
            refine q_Ru_call (v := (some (.int lin))) (h2 := (q_cM (q_mA pix smp tr (q_nb p 0 dn ins) (q_fb z)) q_IM (q_mJ y pd), 34, 31630)) rfl rfl ?_ ?_
            · refine q_Ca_of (Nat.le_of_ble_eq_true rfl) ?_
              refine q_Ru_seg (g2 := (4, [(0, .ref 64)], [.long y], (q_cM (q_mA pix smp tr (q_nb p 0 dn ins) (q_fb z)) q_IM (q_mJ y pd), 34, 31630))) 2 (fun _ _ => rfl) ?_
              refine q_Ru_seg (g2 := (13, [(0, .ref 64)], [.int (((y / 24) - (y / 24) / 40 * 40).toInt32)], (q_cM (q_mA pix smp tr (q_nb p 0 dn ins) (q_fb z)) q_IM (q_mJ y pd), 34, 31630))) 5 (fun _ _ => rfl) ?_
              rw [hM]
              exact q_Ru_ret rfl rfl
            show q_Ru _ _ _ (4, [(0, .ref 64)], [.int lin], (q_cM (q_mA pix smp tr (q_nb p 0 dn ins) (q_fb z)) q_IM (q_mJ y pd), 34, 31630)) _
            refine q_Ru_seg (g2 := (6, [(0, .ref 64)], [.int (lin - 4)], (q_cM (q_mA pix smp tr (q_nb p 0 dn ins) (q_fb z)) q_IM (q_mJ y pd), 34, 31630))) 2 (fun _ _ => rfl) ?_
            exact q_Ru_ret rfl rfl
          show q_Ru _ _ _ (48, [(2, .int 0), (1, .int col), (0, .ref 64)], [.int (lin - 4)], (q_cM (q_mA pix smp tr (q_nb p 0 dn ins) (q_fb z)) q_IM (q_mJ y pd), 34, 31630)) _
          refine q_Ru_seg (g2 := (53, [(3, .int (lin - 4)), (2, .int 0), (1, .int col), (0, .ref 64)], [.int 31, .int 0, .int (lin - 4)], (q_cM (q_mA pix smp tr (q_nb p 0 dn ins) (q_fb z)) q_IM (q_mJ y pd), 34, 31630))) 4 (fun _ _ => rfl) ?_
          refine q_Ru_call (v := (some (.int 1))) (h2 := (q_cM (q_mA pix smp tr (q_nb p 0 dn ins) (q_fb z)) q_IM (q_mJ y pd), 34, 31630)) rfl rfl ?_ ?_
          · refine q_Ca_of (Nat.le_of_ble_eq_true rfl) ?_
            refine q_Ru_seg (g2 := (2, [(0, .int (lin - 4)), (1, .int 0), (2, .int 31)], [.int 0, .int (lin - 4)], (q_cM (q_mA pix smp tr (q_nb p 0 dn ins) (q_fb z)) q_IM (q_mJ y pd), 34, 31630))) 2 (fun _ _ => rfl) ?_
            refine q_Ru_rsF (g2 := (5, [(0, .int (lin - 4)), (1, .int 0), (2, .int 31)], [], (q_cM (q_mA pix smp tr (q_nb p 0 dn ins) (q_fb z)) q_IM (q_mJ y pd), 34, 31630))) rfl rfl h199 ?_
            refine q_Ru_seg (g2 := (7, [(0, .int (lin - 4)), (1, .int 0), (2, .int 31)], [.int 31, .int (lin - 4)], (q_cM (q_mA pix smp tr (q_nb p 0 dn ins) (q_fb z)) q_IM (q_mJ y pd), 34, 31630))) 2 (fun _ _ => rfl) ?_
            refine q_Ru_rsF (g2 := (10, [(0, .int (lin - 4)), (1, .int 0), (2, .int 31)], [], (q_cM (q_mA pix smp tr (q_nb p 0 dn ins) (q_fb z)) q_IM (q_mJ y pd), 34, 31630))) rfl rfl h201 ?_
            refine q_Ru_seg (g2 := (15, [(0, .int (lin - 4)), (1, .int 0), (2, .int 31)], [.int 1], (q_cM (q_mA pix smp tr (q_nb p 0 dn ins) (q_fb z)) q_IM (q_mJ y pd), 34, 31630))) 2 (fun _ _ => rfl) ?_
            exact q_Ru_ret rfl rfl
          show q_Ru _ _ _ (56, [(3, .int (lin - 4)), (2, .int 0), (1, .int col), (0, .ref 64)], [.int 1], (q_cM (q_mA pix smp tr (q_nb p 0 dn ins) (q_fb z)) q_IM (q_mJ y pd), 34, 31630)) _
          refine q_Ru_seg (g2 := (63, [(3, .int (lin - 4)), (2, .int 0), (1, .int col), (0, .ref 64)], [.int 19, .int 4, .int col], (q_cM (q_mA pix smp tr (q_nb p 0 dn ins) (q_fb z)) q_IM (q_mJ y pd), 34, 31630))) 4 (fun _ _ => rfl) ?_
          refine q_Ru_call (v := (some (.int 0))) (h2 := (q_cM (q_mA pix smp tr (q_nb p 0 dn ins) (q_fb z)) q_IM (q_mJ y pd), 34, 31630)) rfl rfl ?_ ?_
          · refine q_Ca_of (Nat.le_of_ble_eq_true rfl) ?_
            refine q_Ru_seg (g2 := (2, [(0, .int col), (1, .int 4), (2, .int 19)], [.int 4, .int col], (q_cM (q_mA pix smp tr (q_nb p 0 dn ins) (q_fb z)) q_IM (q_mJ y pd), 34, 31630))) 2 (fun _ _ => rfl) ?_
            refine q_Ru_rsT (g2 := (14, [(0, .int col), (1, .int 4), (2, .int 19)], [], (q_cM (q_mA pix smp tr (q_nb p 0 dn ins) (q_fb z)) q_IM (q_mJ y pd), 34, 31630))) rfl rfl h203 ?_
            refine q_Ru_seg (g2 := (15, [(0, .int col), (1, .int 4), (2, .int 19)], [.int 0], (q_cM (q_mA pix smp tr (q_nb p 0 dn ins) (q_fb z)) q_IM (q_mJ y pd), 34, 31630))) 1 (fun _ _ => rfl) ?_
            exact q_Ru_ret rfl rfl
          show q_Ru _ _ _ (66, [(3, .int (lin - 4)), (2, .int 0), (1, .int col), (0, .ref 64)], [.int 0], (q_cM (q_mA pix smp tr (q_nb p 0 dn ins) (q_fb z)) q_IM (q_mJ y pd), 34, 31630)) _
          refine q_Ru_seg (g2 := (92, [(3, .int (lin - 4)), (2, .int 0), (1, .int col), (0, .ref 64)], [.ref 64], (q_cM (q_mA pix smp tr (q_nb p 0 dn ins) (q_fb z)) q_IM (q_mJ y pd), 34, 31630))) 2 (fun _ _ => rfl) ?_
          refine q_Ru_call (v := none) (h2 := (q_cM (q_mA pix smp tr (q_nb p 0 dn ins) (q_fb z)) q_IM (q_mJ y pd), 34, 31630)) rfl rfl ?_ ?_
          · exact (q_m_times pix smp tr p 0 dn ins z y pd col lin p1 p2 hC hM c0 c1 l0 l1 a0 a1 b0 b1 hp0 hp1 hp2 i0 i1  ).le (Nat.le_of_ble_eq_true rfl)
          show q_Ru _ _ _ (95, [(3, .int (lin - 4)), (2, .int 0), (1, .int col), (0, .ref 64)], [], (q_cM (q_mA pix smp tr (q_nb p 0 dn ins) (q_fb z)) q_IM (q_mJ y pd), 34, 31630)) _
          refine q_Ru_seg (g2 := (96, [(3, .int (lin - 4)), (2, .int 0), (1, .int col), (0, .ref 64)], [.ref 64], (q_cM (q_mA pix smp tr (q_nb p 0 dn ins) (q_fb z)) q_IM (q_mJ y pd), 34, 31630))) 1 (fun _ _ => rfl) ?_
          refine q_Ru_call (v := none) (h2 := (q_cM (q_mA pix smp tr (q_nb p 0 dn ins) (q_fb z)) q_IM (q_mJ y pd), 34, 31630)) rfl rfl ?_ ?_
          · exact (q_m_winds pix smp tr p 0 dn ins z y pd col lin p1 p2 hC hM c0 c1 l0 l1 a0 a1 b0 b1 hp0 hp1 hp2 i0 i1  ).le (Nat.le_of_ble_eq_true rfl)
          show q_Ru _ _ _ (99, [(3, .int (lin - 4)), (2, .int 0), (1, .int col), (0, .ref 64)], [], (q_cM (q_mA pix smp tr (q_nb p 0 dn ins) (q_fb z)) q_IM (q_mJ y pd), 34, 31630)) _
          refine q_Ru_seg (g2 := (102, [(3, .int (lin - 4)), (2, .int 0), (1, .int col), (0, .ref 64)], [.int 23, .int col], (q_cM (q_mA pix smp tr (q_nb p 0 dn ins) (q_fb z)) q_IM (q_mJ y pd), 34, 31630))) 2 (fun _ _ => rfl) ?_
          refine q_Ru_rsT (g2 := (109, [(3, .int (lin - 4)), (2, .int 0), (1, .int col), (0, .ref 64)], [], (q_cM (q_mA pix smp tr (q_nb p 0 dn ins) (q_fb z)) q_IM (q_mJ y pd), 34, 31630))) rfl rfl (q_d_neF h204) ?_
          refine q_Ru_seg (g2 := (114, [(3, .int (lin - 4)), (2, .int 0), (1, .int col), (0, .ref 64)], [.ref 64], (q_cM (q_mA pix smp tr (q_nb p 0 dn ins) (q_fb z)) q_IM (q_mJ y pd), 34, 31630))) 3 (fun _ _ => rfl) ?_
          refine q_Ru_call (v := none) (h2 := (q_cM (q_mA pix smp tr (q_nb p 1 dn ins) (q_fb z)) q_IM (q_mJ y pd), 34, 31630)) rfl rfl ?_ ?_
          · exact (q_m_go0 pix smp tr p dn ins z y pd col lin p1 p2 hC hM c0 c1 l0 l1 a0 a1 b0 b1 hp0 hp1 hp2 i0 i1  ).le (Nat.le_of_ble_eq_true rfl)
          show q_Ru _ _ _ (117, [(3, .int (lin - 4)), (2, .int 0), (1, .int col), (0, .ref 64)], [], (q_cM (q_mA pix smp tr (q_nb p 1 dn ins) (q_fb z)) q_IM (q_mJ y pd), 34, 31630)) _
          refine q_Ru_seg (g2 := (122, [(3, .int (lin - 4)), (2, .int 0), (1, .int col), (0, .ref 64)], [.long pd, .ref 64], (q_cM (q_mA pix smp tr (q_nb p 1 dn ins) (q_fb z)) q_IM (q_mJ y pd), 34, 31630))) 3 (fun _ _ => rfl) ?_
          refine q_Ru_seg (g2 := (140, [(3, .int (lin - 4)), (2, .int 0), (1, .int col), (0, .ref 64)], [.long y, .ref 64], (q_cM (q_mA pix smp tr (q_nb p 1 dn ins) (q_fb z)) q_IM (q_uI (q_mJ y pd) 0 16 (pd + 0)), 34, 31630))) 8 (fun _ _ => rfl) ?_
          refine q_Ru_seg (g2 := (146, [(3, .int (lin - 4)), (2, .int 0), (1, .int col), (0, .ref 64)], [.int 0], (q_cM (q_mA pix smp tr (q_nb p 1 dn ins) (q_fb z)) q_IM (q_uI (q_uI (q_mJ y pd) 0 16 (pd + 0)) 0 15 (y + 1)), 34, 31630))) 4 (fun _ _ => rfl) ?_
          exact q_Ru_ret rfl rfl
        | false =>
          cases h205 : decide (19 < col) with
          | true =>
            cases h206 : decide (col = 23) with
            | true =>
              obtain ⟨z138a, p138⟩ := q_m_sample pix smp tr p 0 dn ins z y pd col lin p1 p2 hC hM c0 c1 l0 l1 a0 a1 b0 b1 hp0 hp1 hp2 i0 i1  
              refine ⟨pix, z138a, ?_⟩
              refine q_Ca_of (Nat.le_of_ble_eq_true rfl) ?_
              refine q_Ru_seg (g2 := (4, [(0, .ref 64)], [.long y], (q_cM (q_mA pix smp tr (q_nb p 0 dn ins) (q_fb z)) q_IM (q_mJ y pd), 34, 31630))) 2 (fun _ _ => rfl) ?_
              refine q_Ru_seg (g2 := (9, [(0, .ref 64)], [.int ((y - y / 24 * 24).toInt32)], (q_cM (q_mA pix smp tr (q_nb p 0 dn ins) (q_fb z)) q_IM (q_mJ y pd), 34, 31630))) 3 (fun _ _ => rfl) ?_
              rw [hC]
              refine q_Ru_seg (g2 := (11, [(1, .int col), (0, .ref 64)], [.int col], (q_cM (q_mA pix smp tr (q_nb p 0 dn ins) (q_fb z)) q_IM (q_mJ y pd), 34, 31630))) 2 (fun _ _ => rfl) ?_
              refine q_Ru_rsT (g2 := (39, [(1, .int col), (0, .ref 64)], [], (q_cM (q_mA pix smp tr (q_nb p 0 dn ins) (q_fb z)) q_IM (q_mJ y pd), 34, 31630))) rfl rfl (q_d_neF h189) ?_
              refine q_Ru_seg (g2 := (40, [(1, .int col), (0, .ref 64)], [.ref 64], (q_cM (q_mA pix smp tr (q_nb p 0 dn ins) (q_fb z)) q_IM (q_mJ y pd), 34, 31630))) 1 (fun _ _ => rfl) ?_
              refine q_Ru_call (v := (some (.int 0))) (h2 := (q_cM (q_mA pix smp tr (q_nb p 0 dn ins) (q_fb z)) q_IM (q_mJ y pd), 34, 31630)) rfl rfl ?_ ?_
              · exact (by have e := q_m_picX pix smp tr p 0 dn ins z y pd col lin p1 p2 hC hM c0 c1 l0 l1 a0 a1 b0 b1 hp0 hp1 hp2 i0 i1; rw [hpic] at e; exact e.le (Nat.le_of_ble_eq_true rfl))
              show q_Ru _ _ _ (43, [(1, .int col), (0, .ref 64)], [.int 0], (q_cM (q_mA pix smp tr (q_nb p 0 dn ins) (q_fb z)) q_IM (q_mJ y pd), 34, 31630)) _
              refine q_Ru_seg (g2 := (45, [(2, .int 0), (1, .int col), (0, .ref 64)], [.ref 64], (q_cM (q_mA pix smp tr (q_nb p 0 dn ins) (q_fb z)) q_IM (q_mJ y pd), 34, 31630))) 2 (fun _ _ => rfl) ?_
              refine q_Ru_call (v := (some (.int (lin - 4)))) (h2 := (q_cM (q_mA pix smp tr (q_nb p 0 dn ins) (q_fb z)) q_IM (q_mJ y pd), 34, 31630)) rfl rfl ?_ ?_
              · refine q_Ca_of (Nat.le_of_ble_eq_true rfl) ?_
                refine q_Ru_seg (g2 := (1, [(0, .ref 64)], [.ref 64], (q_cM (q_mA pix smp tr (q_nb p 0 dn ins) (q_fb z)) q_IM (q_mJ y pd), 34, 31630))) 1 (fun _ _ => rfl) ?_
                refine q_Ru_call (v := (some (.int lin))) (h2 := (q_cM (q_mA pix smp tr (q_nb p 0 dn ins) (q_fb z)) q_IM (q_mJ y pd), 34, 31630)) rfl rfl ?_ ?_
                · refine q_Ca_of (Nat.le_of_ble_eq_true rfl) ?_
                  refine q_Ru_seg (g2 := (4, [(0, .ref 64)], [.long y], (q_cM (q_mA pix smp tr (q_nb p 0 dn ins) (q_fb z)) q_IM (q_mJ y pd), 34, 31630))) 2 (fun _ _ => rfl) ?_
                  refine q_Ru_seg (g2 := (13, [(0, .ref 64)], [.int (((y / 24) - (y / 24) / 40 * 40).toInt32)], (q_cM (q_mA pix smp tr (q_nb p 0 dn ins) (q_fb z)) q_IM (q_mJ y pd), 34, 31630))) 5 (fun _ _ => rfl) ?_
                  rw [hM]
                  exact q_Ru_ret rfl rfl
                show q_Ru _ _ _ (4, [(0, .ref 64)], [.int lin], (q_cM (q_mA pix smp tr (q_nb p 0 dn ins) (q_fb z)) q_IM (q_mJ y pd), 34, 31630)) _
                refine q_Ru_seg (g2 := (6, [(0, .ref 64)], [.int (lin - 4)], (q_cM (q_mA pix smp tr (q_nb p 0 dn ins) (q_fb z)) q_IM (q_mJ y pd), 34, 31630))) 2 (fun _ _ => rfl) ?_
                exact q_Ru_ret rfl rfl
              show q_Ru _ _ _ (48, [(2, .int 0), (1, .int col), (0, .ref 64)], [.int (lin - 4)], (q_cM (q_mA pix smp tr (q_nb p 0 dn ins) (q_fb z)) q_IM (q_mJ y pd), 34, 31630)) _
              refine q_Ru_seg (g2 := (53, [(3, .int (lin - 4)), (2, .int 0), (1, .int col), (0, .ref 64)], [.int 31, .int 0, .int (lin - 4)], (q_cM (q_mA pix smp tr (q_nb p 0 dn ins) (q_fb z)) q_IM (q_mJ y pd), 34, 31630))) 4 (fun _ _ => rfl) ?_
              refine q_Ru_call (v := (some (.int 1))) (h2 := (q_cM (q_mA pix smp tr (q_nb p 0 dn ins) (q_fb z)) q_IM (q_mJ y pd), 34, 31630)) rfl rfl ?_ ?_
              · refine q_Ca_of (Nat.le_of_ble_eq_true rfl) ?_
                refine q_Ru_seg (g2 := (2, [(0, .int (lin - 4)), (1, .int 0), (2, .int 31)], [.int 0, .int (lin - 4)], (q_cM (q_mA pix smp tr (q_nb p 0 dn ins) (q_fb z)) q_IM (q_mJ y pd), 34, 31630))) 2 (fun _ _ => rfl) ?_
                refine q_Ru_rsF (g2 := (5, [(0, .int (lin - 4)), (1, .int 0), (2, .int 31)], [], (q_cM (q_mA pix smp tr (q_nb p 0 dn ins) (q_fb z)) q_IM (q_mJ y pd), 34, 31630))) rfl rfl h199 ?_
                refine q_Ru_seg (g2 := (7, [(0, .int (lin - 4)), (1, .int 0), (2, .int 31)], [.int 31, .int (lin - 4)], (q_cM (q_mA pix smp tr (q_nb p 0 dn ins) (q_fb z)) q_IM (q_mJ y pd), 34, 31630))) 2 (fun _ _ => rfl) ?_
                refine q_Ru_rsF (g2 := (10, [(0, .int (lin - 4)), (1, .int 0), (2, .int 31)], [], (q_cM (q_mA pix smp tr (q_nb p 0 dn ins) (q_fb z)) q_IM (q_mJ y pd), 34, 31630))) rfl rfl h201 ?_
                refine q_Ru_seg (g2 := (15, [(0, .int (lin - 4)), (1, .int 0), (2, .int 31)], [.int 1], (q_cM (q_mA pix smp tr (q_nb p 0 dn ins) (q_fb z)) q_IM (q_mJ y pd), 34, 31630))) 2 (fun _ _ => rfl) ?_
                exact q_Ru_ret rfl rfl
              show q_Ru _ _ _ (56, [(3, .int (lin - 4)), (2, .int 0), (1, .int col), (0, .ref 64)], [.int 1], (q_cM (q_mA pix smp tr (q_nb p 0 dn ins) (q_fb z)) q_IM (q_mJ y pd), 34, 31630)) _
              refine q_Ru_seg (g2 := (63, [(3, .int (lin - 4)), (2, .int 0), (1, .int col), (0, .ref 64)], [.int 19, .int 4, .int col], (q_cM (q_mA pix smp tr (q_nb p 0 dn ins) (q_fb z)) q_IM (q_mJ y pd), 34, 31630))) 4 (fun _ _ => rfl) ?_
              refine q_Ru_call (v := (some (.int 0))) (h2 := (q_cM (q_mA pix smp tr (q_nb p 0 dn ins) (q_fb z)) q_IM (q_mJ y pd), 34, 31630)) rfl rfl ?_ ?_
              · refine q_Ca_of (Nat.le_of_ble_eq_true rfl) ?_
                refine q_Ru_seg (g2 := (2, [(0, .int col), (1, .int 4), (2, .int 19)], [.int 4, .int col], (q_cM (q_mA pix smp tr (q_nb p 0 dn ins) (q_fb z)) q_IM (q_mJ y pd), 34, 31630))) 2 (fun _ _ => rfl) ?_
                refine q_Ru_rsF (g2 := (5, [(0, .int col), (1, .int 4), (2, .int 19)], [], (q_cM (q_mA pix smp tr (q_nb p 0 dn ins) (q_fb z)) q_IM (q_mJ y pd), 34, 31630))) rfl rfl h203 ?_
                refine q_Ru_seg (g2 := (7, [(0, .int col), (1, .int 4), (2, .int 19)], [.int 19, .int col], (q_cM (q_mA pix smp tr (q_nb p 0 dn ins) (q_fb z)) q_IM (q_mJ y pd), 34, 31630))) 2 (fun _ _ => rfl) ?_
                refine q_Ru_rsT (g2 := (14, [(0, .int col), (1, .int 4), (2, .int 19)], [], (q_cM (q_mA pix smp tr (q_nb p 0 dn ins) (q_fb z)) q_IM (q_mJ y pd), 34, 31630))) rfl rfl h205 ?_
                refine q_Ru_seg (g2 := (15, [(0, .int col), (1, .int 4), (2, .int 19)], [.int 0], (q_cM (q_mA pix smp tr (q_nb p 0 dn ins) (q_fb z)) q_IM (q_mJ y pd), 34, 31630))) 1 (fun _ _ => rfl) ?_
                exact q_Ru_ret rfl rfl
              show q_Ru _ _ _ (66, [(3, .int (lin - 4)), (2, .int 0), (1, .int col), (0, .ref 64)], [.int 0], (q_cM (q_mA pix smp tr (q_nb p 0 dn ins) (q_fb z)) q_IM (q_mJ y pd), 34, 31630)) _
              refine q_Ru_seg (g2 := (92, [(3, .int (lin - 4)), (2, .int 0), (1, .int col), (0, .ref 64)], [.ref 64], (q_cM (q_mA pix smp tr (q_nb p 0 dn ins) (q_fb z)) q_IM (q_mJ y pd), 34, 31630))) 2 (fun _ _ => rfl) ?_
              refine q_Ru_call (v := none) (h2 := (q_cM (q_mA pix smp tr (q_nb p 0 dn ins) (q_fb z)) q_IM (q_mJ y pd), 34, 31630)) rfl rfl ?_ ?_
              · exact (q_m_times pix smp tr p 0 dn ins z y pd col lin p1 p2 hC hM c0 c1 l0 l1 a0 a1 b0 b1 hp0 hp1 hp2 i0 i1  ).le (Nat.le_of_ble_eq_true rfl)
              show q_Ru _ _ _ (95, [(3, .int (lin - 4)), (2, .int 0), (1, .int col), (0, .ref 64)], [], (q_cM (q_mA pix smp tr (q_nb p 0 dn ins) (q_fb z)) q_IM (q_mJ y pd), 34, 31630)) _
              refine q_Ru_seg (g2 := (96, [(3, .int (lin - 4)), (2, .int 0), (1, .int col), (0, .ref 64)], [.ref 64], (q_cM (q_mA pix smp tr (q_nb p 0 dn ins) (q_fb z)) q_IM (q_mJ y pd), 34, 31630))) 1 (fun _ _ => rfl) ?_
              refine q_Ru_call (v := none) (h2 := (q_cM (q_mA pix smp tr (q_nb p 0 dn ins) (q_fb z)) q_IM (q_mJ y pd), 34, 31630)) rfl rfl ?_ ?_
              · exact (q_m_winds pix smp tr p 0 dn ins z y pd col lin p1 p2 hC hM c0 c1 l0 l1 a0 a1 b0 b1 hp0 hp1 hp2 i0 i1  ).le (Nat.le_of_ble_eq_true rfl)
              show q_Ru _ _ _ (99, [(3, .int (lin - 4)), (2, .int 0), (1, .int col), (0, .ref 64)], [], (q_cM (q_mA pix smp tr (q_nb p 0 dn ins) (q_fb z)) q_IM (q_mJ y pd), 34, 31630)) _
              refine q_Ru_seg (g2 := (102, [(3, .int (lin - 4)), (2, .int 0), (1, .int col), (0, .ref 64)], [.int 23, .int col], (q_cM (q_mA pix smp tr (q_nb p 0 dn ins) (q_fb z)) q_IM (q_mJ y pd), 34, 31630))) 2 (fun _ _ => rfl) ?_
              refine q_Ru_rsF (g2 := (105, [(3, .int (lin - 4)), (2, .int 0), (1, .int col), (0, .ref 64)], [], (q_cM (q_mA pix smp tr (q_nb p 0 dn ins) (q_fb z)) q_IM (q_mJ y pd), 34, 31630))) rfl rfl (q_d_neT h206) ?_
              refine q_Ru_seg (g2 := (106, [(3, .int (lin - 4)), (2, .int 0), (1, .int col), (0, .ref 64)], [.ref 64], (q_cM (q_mA pix smp tr (q_nb p 0 dn ins) (q_fb z)) q_IM (q_mJ y pd), 34, 31630))) 1 (fun _ _ => rfl) ?_
              refine q_Ru_call (v := none) (h2 := (q_cM (q_mA pix z138a tr (q_nb p 0 dn ins) (q_fb z)) q_IM (q_mJ y pd), 34, 31630)) rfl rfl ?_ ?_
              · exact p138.le (Nat.le_of_ble_eq_true rfl)
              show q_Ru _ _ _ (109, [(3, .int (lin - 4)), (2, .int 0), (1, .int col), (0, .ref 64)], [], (q_cM (q_mA pix z138a tr (q_nb p 0 dn ins) (q_fb z)) q_IM (q_mJ y pd), 34, 31630)) _
              refine q_Ru_seg (g2 := (114, [(3, .int (lin - 4)), (2, .int 0), (1, .int col), (0, .ref 64)], [.ref 64], (q_cM (q_mA pix z138a tr (q_nb p 0 dn ins) (q_fb z)) q_IM (q_mJ y pd), 34, 31630))) 3 (fun _ _ => rfl) ?_
              refine q_Ru_call (v := none) (h2 := (q_cM (q_mA pix z138a tr (q_nb p 1 dn ins) (q_fb z)) q_IM (q_mJ y pd), 34, 31630)) rfl rfl ?_ ?_
              · exact (q_m_go0 pix z138a tr p dn ins z y pd col lin p1 p2 hC hM c0 c1 l0 l1 a0 a1 b0 b1 hp0 hp1 hp2 i0 i1  ).le (Nat.le_of_ble_eq_true rfl)
              show q_Ru _ _ _ (117, [(3, .int (lin - 4)), (2, .int 0), (1, .int col), (0, .ref 64)], [], (q_cM (q_mA pix z138a tr (q_nb p 1 dn ins) (q_fb z)) q_IM (q_mJ y pd), 34, 31630)) _
              refine q_Ru_seg (g2 := (122, [(3, .int (lin - 4)), (2, .int 0), (1, .int col), (0, .ref 64)], [.long pd, .ref 64], (q_cM (q_mA pix z138a tr (q_nb p 1 dn ins) (q_fb z)) q_IM (q_mJ y pd), 34, 31630))) 3 (fun _ _ => rfl) ?_
              refine q_Ru_seg (g2 := (140, [(3, .int (lin - 4)), (2, .int 0), (1, .int col), (0, .ref 64)], [.long y, .ref 64], (q_cM (q_mA pix z138a tr (q_nb p 1 dn ins) (q_fb z)) q_IM (q_uI (q_mJ y pd) 0 16 (pd + 0)), 34, 31630))) 8 (fun _ _ => rfl) ?_
              refine q_Ru_seg (g2 := (146, [(3, .int (lin - 4)), (2, .int 0), (1, .int col), (0, .ref 64)], [.int 0], (q_cM (q_mA pix z138a tr (q_nb p 1 dn ins) (q_fb z)) q_IM (q_uI (q_uI (q_mJ y pd) 0 16 (pd + 0)) 0 15 (y + 1)), 34, 31630))) 4 (fun _ _ => rfl) ?_
              exact q_Ru_ret rfl rfl
            | false =>
              refine ⟨pix, smp, ?_⟩
              refine q_Ca_of (Nat.le_of_ble_eq_true rfl) ?_
              refine q_Ru_seg (g2 := (4, [(0, .ref 64)], [.long y], (q_cM (q_mA pix smp tr (q_nb p 0 dn ins) (q_fb z)) q_IM (q_mJ y pd), 34, 31630))) 2 (fun _ _ => rfl) ?_
              refine q_Ru_seg (g2 := (9, [(0, .ref 64)], [.int ((y - y / 24 * 24).toInt32)], (q_cM (q_mA pix smp tr (q_nb p 0 dn ins) (q_fb z)) q_IM (q_mJ y pd), 34, 31630))) 3 (fun _ _ => rfl) ?_
              rw [hC]
              refine q_Ru_seg (g2 := (11, [(1, .int col), (0, .ref 64)], [.int col], (q_cM (q_mA pix smp tr (q_nb p 0 dn ins) (q_fb z)) q_IM (q_mJ y pd), 34, 31630))) 2 (fun _ _ => rfl) ?_
              refine q_Ru_rsT (g2 := (39, [(1, .int col), (0, .ref 64)], [], (q_cM (q_mA pix smp tr (q_nb p 0 dn ins) (q_fb z)) q_IM (q_mJ y pd), 34, 31630))) rfl rfl (q_d_neF h189) ?_
              refine q_Ru_seg (g2 := (40, [(1, .int col), (0, .ref 64)], [.ref 64], (q_cM (q_mA pix smp tr (q_nb p 0 dn ins) (q_fb z)) q_IM (q_mJ y pd), 34, 31630))) 1 (fun _ _ => rfl) ?_
              refine q_Ru_call (v := (some (.int 0))) (h2 := (q_cM (q_mA pix smp tr (q_nb p 0 dn ins) (q_fb z)) q_IM (q_mJ y pd), 34, 31630)) rfl rfl ?_ ?_
              · exact (by have e := q_m_picX pix smp tr p 0 dn ins z y pd col lin p1 p2 hC hM c0 c1 l0 l1 a0 a1 b0 b1 hp0 hp1 hp2 i0 i1; rw [hpic] at e; exact e.le (Nat.le_of_ble_eq_true rfl))
              show q_Ru _ _ _ (43, [(1, .int col), (0, .ref 64)], [.int 0], (q_cM (q_mA pix smp tr (q_nb p 0 dn ins) (q_fb z)) q_IM (q_mJ y pd), 34, 31630)) _
              refine q_Ru_seg (g2 := (45, [(2, .int 0), (1, .int col), (0, .ref 64)], [.ref 64], (q_cM (q_mA pix smp tr (q_nb p 0 dn ins) (q_fb z)) q_IM (q_mJ y pd), 34, 31630))) 2 (fun _ _ => rfl) ?_
              refine q_Ru_call (v := (some (.int (lin - 4)))) (h2 := (q_cM (q_mA pix smp tr (q_nb p 0 dn ins) (q_fb z)) q_IM (q_mJ y pd), 34, 31630)) rfl rfl ?_ ?_
              · refine q_Ca_of (Nat.le_of_ble_eq_true rfl) ?_
                refine q_Ru_seg (g2 := (1, [(0, .ref 64)], [.ref 64], (q_cM (q_mA pix smp tr (q_nb p 0 dn ins) (q_fb z)) q_IM (q_mJ y pd), 34, 31630))) 1 (fun _ _ => rfl) ?_
                refine q_Ru_call (v := (some (.int lin))) (h2 := (q_cM (q_mA pix smp tr (q_nb p 0 dn ins) (q_fb z)) q_IM (q_mJ y pd), 34, 31630)) rfl rfl ?_ ?_
                · refine q_Ca_of (Nat.le_of_ble_eq_true rfl) ?_
                  refine q_Ru_seg (g2 := (4, [(0, .ref 64)], [.long y], (q_cM (q_mA pix smp tr (q_nb p 0 dn ins) (q_fb z)) q_IM (q_mJ y pd), 34, 31630))) 2 (fun _ _ => rfl) ?_
                  refine q_Ru_seg (g2 := (13, [(0, .ref 64)], [.int (((y / 24) - (y / 24) / 40 * 40).toInt32)], (q_cM (q_mA pix smp tr (q_nb p 0 dn ins) (q_fb z)) q_IM (q_mJ y pd), 34, 31630))) 5 (fun _ _ => rfl) ?_
                  rw [hM]
                  exact q_Ru_ret rfl rfl
                show q_Ru _ _ _ (4, [(0, .ref 64)], [.int lin], (q_cM (q_mA pix smp tr (q_nb p 0 dn ins) (q_fb z)) q_IM (q_mJ y pd), 34, 31630)) _
                refine q_Ru_seg (g2 := (6, [(0, .ref 64)], [.int (lin - 4)], (q_cM (q_mA pix smp tr (q_nb p 0 dn ins) (q_fb z)) q_IM (q_mJ y pd), 34, 31630))) 2 (fun _ _ => rfl) ?_
                exact q_Ru_ret rfl rfl
              show q_Ru _ _ _ (48, [(2, .int 0), (1, .int col), (0, .ref 64)], [.int (lin - 4)], (q_cM (q_mA pix smp tr (q_nb p 0 dn ins) (q_fb z)) q_IM (q_mJ y pd), 34, 31630)) _
              refine q_Ru_seg (g2 := (53, [(3, .int (lin - 4)), (2, .int 0), (1, .int col), (0, .ref 64)], [.int 31, .int 0, .int (lin - 4)], (q_cM (q_mA pix smp tr (q_nb p 0 dn ins) (q_fb z)) q_IM (q_mJ y pd), 34, 31630))) 4 (fun _ _ => rfl) ?_
              refine q_Ru_call (v := (some (.int 1))) (h2 := (q_cM (q_mA pix smp tr (q_nb p 0 dn ins) (q_fb z)) q_IM (q_mJ y pd), 34, 31630)) rfl rfl ?_ ?_
              · refine q_Ca_of (Nat.le_of_ble_eq_true rfl) ?_
                refine q_Ru_seg (g2 := (2, [(0, .int (lin - 4)), (1, .int 0), (2, .int 31)], [.int 0, .int (lin - 4)], (q_cM (q_mA pix smp tr (q_nb p 0 dn ins) (q_fb z)) q_IM (q_mJ y pd), 34, 31630))) 2 (fun _ _ => rfl) ?_
                refine q_Ru_rsF (g2 := (5, [(0, .int (lin - 4)), (1, .int 0), (2, .int 31)], [], (q_cM (q_mA pix smp tr (q_nb p 0 dn ins) (q_fb z)) q_IM (q_mJ y pd), 34, 31630))) rfl rfl h199 ?_
                refine q_Ru_seg (g2 := (7, [(0, .int (lin - 4)), (1, .int 0), (2, .int 31)], [.int 31, .int (lin - 4)], (q_cM (q_mA pix smp tr (q_nb p 0 dn ins) (q_fb z)) q_IM (q_mJ y pd), 34, 31630))) 2 (fun _ _ => rfl) ?_
                refine q_Ru_rsF (g2 := (10, [(0, .int (lin - 4)), (1, .int 0), (2, .int 31)], [], (q_cM (q_mA pix smp tr (q_nb p 0 dn ins) (q_fb z)) q_IM (q_mJ y pd), 34, 31630))) rfl rfl h201 ?_
                refine q_Ru_seg (g2 := (15, [(0, .int (lin - 4)), (1, .int 0), (2, .int 31)], [.int 1], (q_cM (q_mA pix smp tr (q_nb p 0 dn ins) (q_fb z)) q_IM (q_mJ y pd), 34, 31630))) 2 (fun _ _ => rfl) ?_
                exact q_Ru_ret rfl rfl
              show q_Ru _ _ _ (56, [(3, .int (lin - 4)), (2, .int 0), (1, .int col), (0, .ref 64)], [.int 1], (q_cM (q_mA pix smp tr (q_nb p 0 dn ins) (q_fb z)) q_IM (q_mJ y pd), 34, 31630)) _
              refine q_Ru_seg (g2 := (63, [(3, .int (lin - 4)), (2, .int 0), (1, .int col), (0, .ref 64)], [.int 19, .int 4, .int col], (q_cM (q_mA pix smp tr (q_nb p 0 dn ins) (q_fb z)) q_IM (q_mJ y pd), 34, 31630))) 4 (fun _ _ => rfl) ?_
              refine q_Ru_call (v := (some (.int 0))) (h2 := (q_cM (q_mA pix smp tr (q_nb p 0 dn ins) (q_fb z)) q_IM (q_mJ y pd), 34, 31630)) rfl rfl ?_ ?_
              · refine q_Ca_of (Nat.le_of_ble_eq_true rfl) ?_
                refine q_Ru_seg (g2 := (2, [(0, .int col), (1, .int 4), (2, .int 19)], [.int 4, .int col], (q_cM (q_mA pix smp tr (q_nb p 0 dn ins) (q_fb z)) q_IM (q_mJ y pd), 34, 31630))) 2 (fun _ _ => rfl) ?_
                refine q_Ru_rsF (g2 := (5, [(0, .int col), (1, .int 4), (2, .int 19)], [], (q_cM (q_mA pix smp tr (q_nb p 0 dn ins) (q_fb z)) q_IM (q_mJ y pd), 34, 31630))) rfl rfl h203 ?_
                refine q_Ru_seg (g2 := (7, [(0, .int col), (1, .int 4), (2, .int 19)], [.int 19, .int col], (q_cM (q_mA pix smp tr (q_nb p 0 dn ins) (q_fb z)) q_IM (q_mJ y pd), 34, 31630))) 2 (fun _ _ => rfl) ?_
                refine q_Ru_rsT (g2 := (14, [(0, .int col), (1, .int 4), (2, .int 19)], [], (q_cM (q_mA pix smp tr (q_nb p 0 dn ins) (q_fb z)) q_IM (q_mJ y pd), 34, 31630))) rfl rfl h205 ?_
                refine q_Ru_seg (g2 := (15, [(0, .int col), (1, .int 4), (2, .int 19)], [.int 0], (q_cM (q_mA pix smp tr (q_nb p 0 dn ins) (q_fb z)) q_IM (q_mJ y pd), 34, 31630))) 1 (fun _ _ => rfl) ?_
                exact q_Ru_ret rfl rfl
              show q_Ru _ _ _ (66, [(3, .int (lin - 4)), (2, .int 0), (1, .int col), (0, .ref 64)], [.int 0], (q_cM (q_mA pix smp tr (q_nb p 0 dn ins) (q_fb z)) q_IM (q_mJ y pd), 34, 31630)) _
              refine q_Ru_seg (g2 := (92, [(3, .int (lin - 4)), (2, .int 0), (1, .int col), (0, .ref 64)], [.ref 64], (q_cM (q_mA pix smp tr (q_nb p 0 dn ins) (q_fb z)) q_IM (q_mJ y pd), 34, 31630))) 2 (fun _ _ => rfl) ?_
              refine q_Ru_call (v := none) (h2 := (q_cM (q_mA pix smp tr (q_nb p 0 dn ins) (q_fb z)) q_IM (q_mJ y pd), 34, 31630)) rfl rfl ?_ ?_
              · exact (q_m_times pix smp tr p 0 dn ins z y pd col lin p1 p2 hC hM c0 c1 l0 l1 a0 a1 b0 b1 hp0 hp1 hp2 i0 i1  ).le (Nat.le_of_ble_eq_true rfl)
              show q_Ru _ _ _ (95, [(3, .int (lin - 4)), (2, .int 0), (1, .int col), (0, .ref 64)], [], (q_cM (q_mA pix smp tr (q_nb p 0 dn ins) (q_fb z)) q_IM (q_mJ y pd), 34, 31630)) _
              refine q_Ru_seg (g2 := (96, [(3, .int (lin - 4)), (2, .int 0), (1, .int col), (0, .ref 64)], [.ref 64], (q_cM (q_mA pix smp tr (q_nb p 0 dn ins) (q_fb z)) q_IM (q_mJ y pd), 34, 31630))) 1 (fun _ _ => rfl) ?_
              refine q_Ru_call (v := none) (h2 := (q_cM (q_mA pix smp tr (q_nb p 0 dn ins) (q_fb z)) q_IM (q_mJ y pd), 34, 31630)) rfl rfl ?_ ?_
              · exact (q_m_winds pix smp tr p 0 dn ins z y pd col lin p1 p2 hC hM c0 c1 l0 l1 a0 a1 b0 b1 hp0 hp1 hp2 i0 i1  ).le (Nat.le_of_ble_eq_true rfl)
              show q_Ru _ _ _ (99, [(3, .int (lin - 4)), (2, .int 0), (1, .int col), (0, .ref 64)], [], (q_cM (q_mA pix smp tr (q_nb p 0 dn ins) (q_fb z)) q_IM (q_mJ y pd), 34, 31630)) _
              refine q_Ru_seg (g2 := (102, [(3, .int (lin - 4)), (2, .int 0), (1, .int col), (0, .ref 64)], [.int 23, .int col], (q_cM (q_mA pix smp tr (q_nb p 0 dn ins) (q_fb z)) q_IM (q_mJ y pd), 34, 31630))) 2 (fun _ _ => rfl) ?_
              refine q_Ru_rsT (g2 := (109, [(3, .int (lin - 4)), (2, .int 0), (1, .int col), (0, .ref 64)], [], (q_cM (q_mA pix smp tr (q_nb p 0 dn ins) (q_fb z)) q_IM (q_mJ y pd), 34, 31630))) rfl rfl (q_d_neF h206) ?_
              refine q_Ru_seg (g2 := (114, [(3, .int (lin - 4)), (2, .int 0), (1, .int col), (0, .ref 64)], [.ref 64], (q_cM (q_mA pix smp tr (q_nb p 0 dn ins) (q_fb z)) q_IM (q_mJ y pd), 34, 31630))) 3 (fun _ _ => rfl) ?_
              refine q_Ru_call (v := none) (h2 := (q_cM (q_mA pix smp tr (q_nb p 1 dn ins) (q_fb z)) q_IM (q_mJ y pd), 34, 31630)) rfl rfl ?_ ?_
              · exact (q_m_go0 pix smp tr p dn ins z y pd col lin p1 p2 hC hM c0 c1 l0 l1 a0 a1 b0 b1 hp0 hp1 hp2 i0 i1  ).le (Nat.le_of_ble_eq_true rfl)
              show q_Ru _ _ _ (117, [(3, .int (lin - 4)), (2, .int 0), (1, .int col), (0, .ref 64)], [], (q_cM (q_mA pix smp tr (q_nb p 1 dn ins) (q_fb z)) q_IM (q_mJ y pd), 34, 31630)) _
              refine q_Ru_seg (g2 := (122, [(3, .int (lin - 4)), (2, .int 0), (1, .int col), (0, .ref 64)], [.long pd, .ref 64], (q_cM (q_mA pix smp tr (q_nb p 1 dn ins) (q_fb z)) q_IM (q_mJ y pd), 34, 31630))) 3 (fun _ _ => rfl) ?_
              refine q_Ru_seg (g2 := (140, [(3, .int (lin - 4)), (2, .int 0), (1, .int col), (0, .ref 64)], [.long y, .ref 64], (q_cM (q_mA pix smp tr (q_nb p 1 dn ins) (q_fb z)) q_IM (q_uI (q_mJ y pd) 0 16 (pd + 0)), 34, 31630))) 8 (fun _ _ => rfl) ?_
              refine q_Ru_seg (g2 := (146, [(3, .int (lin - 4)), (2, .int 0), (1, .int col), (0, .ref 64)], [.int 0], (q_cM (q_mA pix smp tr (q_nb p 1 dn ins) (q_fb z)) q_IM (q_uI (q_uI (q_mJ y pd) 0 16 (pd + 0)) 0 15 (y + 1)), 34, 31630))) 4 (fun _ _ => rfl) ?_
              exact q_Ru_ret rfl rfl
          | false =>
            have h207 : decide (col = 23) = false := q_not_tr (q_tbl1 (fun col => !decide (col = 23)) (l := 4) (n := 15) (by decide +kernel) (q_lo1 h203) (q_hi2 h205))
            obtain ⟨x147, p147⟩ := q_m_draws pix smp tr p 0 dn ins z y pd ((2 * col) - 8) (lin - 4) (of_decide_eq_true (q_tbl1 (fun col => decide (0 ≤ ((2 * col) - 8).toInt ∧ ((2 * col) - 8).toInt ≤ 31)) (l := 4) (n := 15) (by decide +kernel) (q_lo1 h203) (q_hi2 h205))).1 (of_decide_eq_true (q_tbl1 (fun col => decide (0 ≤ ((2 * col) - 8).toInt ∧ ((2 * col) - 8).toInt ≤ 31)) (l := 4) (n := 15) (by decide +kernel) (q_lo1 h203) (q_hi2 h205))).2 (of_decide_eq_true (q_tbl1 (fun lin => decide (0 ≤ (lin - 4).toInt ∧ (lin - 4).toInt ≤ 31)) (l := 4) (n := 31) (by decide +kernel) (q_sub_lo 4 (q_lo1 h199) l0 l1) (q_sub_hi 35 (q_hi2 h201) (q_sub_lo 4 (q_lo1 h199) l0 l1) l1))).1 (of_decide_eq_true (q_tbl1 (fun lin => decide (0 ≤ (lin - 4).toInt ∧ (lin - 4).toInt ≤ 31)) (l := 4) (n := 31) (by decide +kernel) (q_sub_lo 4 (q_lo1 h199) l0 l1) (q_sub_hi 35 (q_hi2 h201) (q_sub_lo 4 (q_lo1 h199) l0 l1) l1))).2
            obtain ⟨x148, p148⟩ := q_m_draws x147 smp tr p 0 dn ins z y pd ((2 * col) - 7) (lin - 4) (of_decide_eq_true (q_tbl1 (fun col => decide (0 ≤ ((2 * col) - 7).toInt ∧ ((2 * col) - 7).toInt ≤ 31)) (l := 4) (n := 15) (by decide +kernel) (q_lo1 h203) (q_hi2 h205))).1 (of_decide_eq_true (q_tbl1 (fun col => decide (0 ≤ ((2 * col) - 7).toInt ∧ ((2 * col) - 7).toInt ≤ 31)) (l := 4) (n := 15) (by decide +kernel) (q_lo1 h203) (q_hi2 h205))).2 (of_decide_eq_true (q_tbl1 (fun lin => decide (0 ≤ (lin - 4).toInt ∧ (lin - 4).toInt ≤ 31)) (l := 4) (n := 31) (by decide +kernel) (q_sub_lo 4 (q_lo1 h199) l0 l1) (q_sub_hi 35 (q_hi2 h201) (q_sub_lo 4 (q_lo1 h199) l0 l1) l1))).1 (of_decide_eq_true (q_tbl1 (fun lin => decide (0 ≤ (lin - 4).toInt ∧ (lin - 4).toInt ≤ 31)) (l := 4) (n := 31) (by decide +kernel) (q_sub_lo 4 (q_lo1 h199) l0 l1) (q_sub_hi 35 (q_hi2 h201) (q_sub_lo 4 (q_lo1 h199) l0 l1) l1))).2
            refine ⟨x148, smp, ?_⟩
            refine q_Ca_of (Nat.le_of_ble_eq_true rfl) ?_
            refine q_Ru_seg (g2 := (4, [(0, .ref 64)], [.long y], (q_cM (q_mA pix smp tr (q_nb p 0 dn ins) (q_fb z)) q_IM (q_mJ y pd), 34, 31630))) 2 (fun _ _ => rfl) ?_
            refine q_Ru_seg (g2 := (9, [(0, .ref 64)], [.int ((y - y / 24 * 24).toInt32)], (q_cM (q_mA pix smp tr (q_nb p 0 dn ins) (q_fb z)) q_IM (q_mJ y pd), 34, 31630))) 3 (fun _ _ => rfl) ?_
            rw [hC]
            refine q_Ru_seg (g2 := (11, [(1, .int col), (0, .ref 64)], [.int col], (q_cM (q_mA pix smp tr (q_nb p 0 dn ins) (q_fb z)) q_IM (q_mJ y pd), 34, 31630))) 2 (fun _ _ => rfl) ?_
            refine q_Ru_rsT (g2 := (39, [(1, .int col), (0, .ref 64)], [], (q_cM (q_mA pix smp tr (q_nb p 0 dn ins) (q_fb z)) q_IM (q_mJ y pd), 34, 31630))) rfl rfl (q_d_neF h189) ?_
            refine q_Ru_seg (g2 := (40, [(1, .int col), (0, .ref 64)], [.ref 64], (q_cM (q_mA pix smp tr (q_nb p 0 dn ins) (q_fb z)) q_IM (q_mJ y pd), 34, 31630))) 1 (fun _ _ => rfl) ?_
            refine q_Ru_call (v := (some (.int 0))) (h2 := (q_cM (q_mA pix smp tr (q_nb p 0 dn ins) (q_fb z)) q_IM (q_mJ y pd), 34, 31630)) rfl rfl ?_ ?_
            · exact (by have e := q_m_picX pix smp tr p 0 dn ins z y pd col lin p1 p2 hC hM c0 c1 l0 l1 a0 a1 b0 b1 hp0 hp1 hp2 i0 i1; rw [hpic] at e; exact e.le (Nat.le_of_ble_eq_true rfl))
            show q_Ru _ _ _ (43, [(1, .int col), (0, .ref 64)], [.int 0], (q_cM (q_mA pix smp tr (q_nb p 0 dn ins) (q_fb z)) q_IM (q_mJ y pd), 34, 31630)) _
            refine q_Ru_seg (g2 := (45, [(2, .int 0), (1, .int col), (0, .ref 64)], [.ref 64], (q_cM (q_mA pix smp tr (q_nb p 0 dn ins) (q_fb z)) q_IM (q_mJ y pd), 34, 31630))) 2 (fun _ _ => rfl) ?_
            refine q_Ru_call (v := (some (.int (lin - 4)))) (h2 := (q_cM (q_mA pix smp tr (q_nb p 0 dn ins) (q_fb z)) q_IM (q_mJ y pd), 34, 31630)) rfl rfl ?_ ?_
            · refine q_Ca_of (Nat.le_of_ble_eq_true rfl) ?_
              refine q_Ru_seg (g2 := (1, [(0, .ref 64)], [.ref 64], (q_cM (q_mA pix smp tr (q_nb p 0 dn ins) (q_fb z)) q_IM (q_mJ y pd), 34, 31630))) 1 (fun _ _ => rfl) ?_
              refine q_Ru_call (v := (some (.int lin))) (h2 := (q_cM (q_mA pix smp tr (q_nb p 0 dn ins) (q_fb z)) q_IM (q_mJ y pd), 34, 31630)) rfl rfl ?_ ?_
              · refine q_Ca_of (Nat.le_of_ble_eq_true rfl) ?_
                refine q_Ru_seg (g2 := (4, [(0, .ref 64)], [.long y], (q_cM (q_mA pix smp tr (q_nb p 0 dn ins) (q_fb z)) q_IM (q_mJ y pd), 34, 31630))) 2 (fun _ _ => rfl) ?_
                refine q_Ru_seg (g2 := (13, [(0, .ref 64)], [.int (((y / 24) - (y / 24) / 40 * 40).toInt32)], (q_cM (q_mA pix smp tr (q_nb p 0 dn ins) (q_fb z)) q_IM (q_mJ y pd), 34, 31630))) 5 (fun _ _ => rfl) ?_
                rw [hM]
                exact q_Ru_ret rfl rfl
              show q_Ru _ _ _ (4, [(0, .ref 64)], [.int lin], (q_cM (q_mA pix smp tr (q_nb p 0 dn ins) (q_fb z)) q_IM (q_mJ y pd), 34, 31630)) _
              refine q_Ru_seg (g2 := (6, [(0, .ref 64)], [.int (lin - 4)], (q_cM (q_mA pix smp tr (q_nb p 0 dn ins) (q_fb z)) q_IM (q_mJ y pd), 34, 31630))) 2 (fun _ _ => rfl) ?_
              exact q_Ru_ret rfl rfl
            show q_Ru _ _ _ (48, [(2, .int 0), (1, .int col), (0, .ref 64)], [.int (lin - 4)], (q_cM (q_mA pix smp tr (q_nb p 0 dn ins) (q_fb z)) q_IM (q_mJ y pd), 34, 31630)) _
            refine q_Ru_seg (g2 := (53, [(3, .int (lin - 4)), (2, .int 0), (1, .int col), (0, .ref 64)], [.int 31, .int 0, .int (lin - 4)], (q_cM (q_mA pix smp tr (q_nb p 0 dn ins) (q_fb z)) q_IM (q_mJ y pd), 34, 31630))) 4 (fun _ _ => rfl) ?_
            refine q_Ru_call (v := (some (.int 1))) (h2 := (q_cM (q_mA pix smp tr (q_nb p 0 dn ins) (q_fb z)) q_IM (q_mJ y pd), 34, 31630)) rfl rfl ?_ ?_
            · refine q_Ca_of (Nat.le_of_ble_eq_true rfl) ?_
              refine q_Ru_seg (g2 := (2, [(0, .int (lin - 4)), (1, .int 0), (2, .int 31)], [.int 0, .int (lin - 4)], (q_cM (q_mA pix smp tr (q_nb p 0 dn ins) (q_fb z)) q_IM (q_mJ y pd), 34, 31630))) 2 (fun _ _ => rfl) ?_
              refine q_Ru_rsF (g2 := (5, [(0, .int (lin - 4)), (1, .int 0), (2, .int 31)], [], (q_cM (q_mA pix smp tr (q_nb p 0 dn ins) (q_fb z)) q_IM (q_mJ y pd), 34, 31630))) rfl rfl h199 ?_
              refine q_Ru_seg (g2 := (7, [(0, .int (lin - 4)), (1, .int 0), (2, .int 31)], [.int 31, .int (lin - 4)], (q_cM (q_mA pix smp tr (q_nb p 0 dn ins) (q_fb z)) q_IM (q_mJ y pd), 34, 31630))) 2 (fun _ _ => rfl) ?_
              refine q_Ru_rsF (g2 := (10, [(0, .int (lin - 4)), (1, .int 0), (2, .int 31)], [], (q_cM (q_mA pix smp tr (q_nb p 0 dn ins) (q_fb z)) q_IM (q_mJ y pd), 34, 31630))) rfl rfl h201 ?_
              refine q_Ru_seg (g2 := (15, [(0, .int (lin - 4)), (1, .int 0), (2, .int 31)], [.int 1], (q_cM (q_mA pix smp tr (q_nb p 0 dn ins) (q_fb z)) q_IM (q_mJ y pd), 34, 31630))) 2 (fun _ _ => rfl) ?_
              exact q_Ru_ret rfl rfl
            show q_Ru _ _ _ (56, [(3, .int (lin - 4)), (2, .int 0), (1, .int col), (0, .ref 64)], [.int 1], (q_cM (q_mA pix smp tr (q_nb p 0 dn ins) (q_fb z)) q_IM (q_mJ y pd), 34, 31630)) _
            refine q_Ru_seg (g2 := (63, [(3, .int (lin - 4)), (2, .int 0), (1, .int col), (0, .ref 64)], [.int 19, .int 4, .int col], (q_cM (q_mA pix smp tr (q_nb p 0 dn ins) (q_fb z)) q_IM (q_mJ y pd), 34, 31630))) 4 (fun _ _ => rfl) ?_
            refine q_Ru_call (v := (some (.int 1))) (h2 := (q_cM (q_mA pix smp tr (q_nb p 0 dn ins) (q_fb z)) q_IM (q_mJ y pd), 34, 31630)) rfl rfl ?_ ?_
            · refine q_Ca_of (Nat.le_of_ble_eq_true rfl) ?_
              refine q_Ru_seg (g2 := (2, [(0, .int col), (1, .int 4), (2, .int 19)], [.int 4, .int col], (q_cM (q_mA pix smp tr (q_nb p 0 dn ins) (q_fb z)) q_IM (q_mJ y pd), 34, 31630))) 2 (fun _ _ => rfl) ?_
              refine q_Ru_rsF (g2 := (5, [(0, .int col), (1, .int 4), (2, .int 19)], [], (q_cM (q_mA pix smp tr (q_nb p 0 dn ins) (q_fb z)) q_IM (q_mJ y pd), 34, 31630))) rfl rfl h203 ?_
              refine q_Ru_seg (g2 := (7, [(0, .int col), (1, .int 4), (2, .int 19)], [.int 19, .int col], (q_cM (q_mA pix smp tr (q_nb p 0 dn ins) (q_fb z)) q_IM (q_mJ y pd), 34, 31630))) 2 (fun _ _ => rfl) ?_
              refine q_Ru_rsF (g2 := (10, [(0, .int col), (1, .int 4), (2, .int 19)], [], (q_cM (q_mA pix smp tr (q_nb p 0 dn ins) (q_fb z)) q_IM (q_mJ y pd), 34, 31630))) rfl rfl h205 ?_
              refine q_Ru_seg (g2 := (15, [(0, .int col), (1, .int 4), (2, .int 19)], [.int 1], (q_cM (q_mA pix smp tr (q_nb p 0 dn ins) (q_fb z)) q_IM (q_mJ y pd), 34, 31630))) 2 (fun _ _ => rfl) ?_
              exact q_Ru_ret rfl rfl
            show q_Ru _ _ _ (66, [(3, .int (lin - 4)), (2, .int 0), (1, .int col), (0, .ref 64)], [.int 1], (q_cM (q_mA pix smp tr (q_nb p 0 dn ins) (q_fb z)) q_IM (q_mJ y pd), 34, 31630)) _
            refine q_Ru_seg (g2 := (77, [(3, .int (lin - 4)), (2, .int 0), (1, .int col), (0, .ref 64)], [.int (lin - 4), .int ((2 * col) - 8), .ref 64], (q_cM (q_mA pix smp tr (q_nb p 0 dn ins) (q_fb z)) q_IM (q_mJ y pd), 34, 31630))) 8 (fun _ _ => rfl) ?_
            refine q_Ru_call (v := none) (h2 := (q_cM (q_mA x147 smp tr (q_nb p 0 dn ins) (q_fb z)) q_IM (q_mJ y pd), 34, 31630)) rfl rfl ?_ ?_
            · exact p147.le (Nat.le_of_ble_eq_true rfl)
            show q_Ru _ _ _ (80, [(3, .int (lin - 4)), (2, .int 0), (1, .int col), (0, .ref 64)], [], (q_cM (q_mA x147 smp tr (q_nb p 0 dn ins) (q_fb z)) q_IM (q_mJ y pd), 34, 31630)) _
            refine q_Ru_seg (g2 := (88, [(3, .int (lin - 4)), (2, .int 0), (1, .int col), (0, .ref 64)], [.int (lin - 4), .int ((2 * col) - 7), .ref 64], (q_cM (q_mA x147 smp tr (q_nb p 0 dn ins) (q_fb z)) q_IM (q_mJ y pd), 34, 31630))) 7 (fun _ _ => rfl) ?_
            refine q_Ru_call (v := none) (h2 := (q_cM (q_mA x148 smp tr (q_nb p 0 dn ins) (q_fb z)) q_IM (q_mJ y pd), 34, 31630)) rfl rfl ?_ ?_
            · exact p148.le (Nat.le_of_ble_eq_true rfl)
            show q_Ru _ _ _ (91, [(3, .int (lin - 4)), (2, .int 0), (1, .int col), (0, .ref 64)], [], (q_cM (q_mA x148 smp tr (q_nb p 0 dn ins) (q_fb z)) q_IM (q_mJ y pd), 34, 31630)) _
            refine q_Ru_seg (g2 := (92, [(3, .int (lin - 4)), (2, .int 0), (1, .int col), (0, .ref 64)], [.ref 64], (q_cM (q_mA x148 smp tr (q_nb p 0 dn ins) (q_fb z)) q_IM (q_mJ y pd), 34, 31630))) 1 (fun _ _ => rfl) ?_
            refine q_Ru_call (v := none) (h2 := (q_cM (q_mA x148 smp tr (q_nb p 0 dn ins) (q_fb z)) q_IM (q_mJ y pd), 34, 31630)) rfl rfl ?_ ?_
            · exact (q_m_times x148 smp tr p 0 dn ins z y pd col lin p1 p2 hC hM c0 c1 l0 l1 a0 a1 b0 b1 hp0 hp1 hp2 i0 i1  ).le (Nat.le_of_ble_eq_true rfl)
            show q_Ru _ _ _ (95, [(3, .int (lin - 4)), (2, .int 0), (1, .int col), (0, .ref 64)], [], (q_cM (q_mA x148 smp tr (q_nb p 0 dn ins) (q_fb z)) q_IM (q_mJ y pd), 34, 31630)) _
            refine q_Ru_seg (g2 := (96, [(3, .int (lin - 4)), (2, .int 0), (1, .int col), (0, .ref 64)], [.ref 64], (q_cM (q_mA x148 smp tr (q_nb p 0 dn ins) (q_fb z)) q_IM (q_mJ y pd), 34, 31630))) 1 (fun _ _ => rfl) ?_
            refine q_Ru_call (v := none) (h2 := (q_cM (q_mA x148 smp tr (q_nb p 0 dn ins) (q_fb z)) q_IM (q_mJ y pd), 34, 31630)) rfl rfl ?_ ?_
            · exact (q_m_winds x148 smp tr p 0 dn ins z y pd col lin p1 p2 hC hM c0 c1 l0 l1 a0 a1 b0 b1 hp0 hp1 hp2 i0 i1  ).le (Nat.le_of_ble_eq_true rfl)
            show q_Ru _ _ _ (99, [(3, .int (lin - 4)), (2, .int 0), (1, .int col), (0, .ref 64)], [], (q_cM (q_mA x148 smp tr (q_nb p 0 dn ins) (q_fb z)) q_IM (q_mJ y pd), 34, 31630)) _
            refine q_Ru_seg (g2 := (102, [(3, .int (lin - 4)), (2, .int 0), (1, .int col), (0, .ref 64)], [.int 23, .int col], (q_cM (q_mA x148 smp tr (q_nb p 0 dn ins) (q_fb z)) q_IM (q_mJ y pd), 34, 31630))) 2 (fun _ _ => rfl) ?_
            refine q_Ru_rsT (g2 := (109, [(3, .int (lin - 4)), (2, .int 0), (1, .int col), (0, .ref 64)], [], (q_cM (q_mA x148 smp tr (q_nb p 0 dn ins) (q_fb z)) q_IM (q_mJ y pd), 34, 31630))) rfl rfl (q_d_neF h207) ?_
            refine q_Ru_seg (g2 := (114, [(3, .int (lin - 4)), (2, .int 0), (1, .int col), (0, .ref 64)], [.ref 64], (q_cM (q_mA x148 smp tr (q_nb p 0 dn ins) (q_fb z)) q_IM (q_mJ y pd), 34, 31630))) 3 (fun _ _ => rfl) ?_
            refine q_Ru_call (v := none) (h2 := (q_cM (q_mA x148 smp tr (q_nb p 1 dn ins) (q_fb z)) q_IM (q_mJ y pd), 34, 31630)) rfl rfl ?_ ?_
            · exact (q_m_go0 x148 smp tr p dn ins z y pd col lin p1 p2 hC hM c0 c1 l0 l1 a0 a1 b0 b1 hp0 hp1 hp2 i0 i1  ).le (Nat.le_of_ble_eq_true rfl)
            show q_Ru _ _ _ (117, [(3, .int (lin - 4)), (2, .int 0), (1, .int col), (0, .ref 64)], [], (q_cM (q_mA x148 smp tr (q_nb p 1 dn ins) (q_fb z)) q_IM (q_mJ y pd), 34, 31630)) _
            refine q_Ru_seg (g2 := (122, [(3, .int (lin - 4)), (2, .int 0), (1, .int col), (0, .ref 64)], [.long pd, .ref 64], (q_cM (q_mA x148 smp tr (q_nb p 1 dn ins) (q_fb z)) q_IM (q_mJ y pd), 34, 31630))) 3 (fun _ _ => rfl) ?_
            refine q_Ru_seg (g2 := (140, [(3, .int (lin - 4)), (2, .int 0), (1, .int col), (0, .ref 64)], [.long y, .ref 64], (q_cM (q_mA x148 smp tr (q_nb p 1 dn ins) (q_fb z)) q_IM (q_uI (q_mJ y pd) 0 16 (pd + 0)), 34, 31630))) 8 (fun _ _ => rfl) ?_
            refine q_Ru_seg (g2 := (146, [(3, .int (lin - 4)), (2, .int 0), (1, .int col), (0, .ref 64)], [.int 0], (q_cM (q_mA x148 smp tr (q_nb p 1 dn ins) (q_fb z)) q_IM (q_uI (q_uI (q_mJ y pd) 0 16 (pd + 0)) 0 15 (y + 1)), 34, 31630))) 4 (fun _ _ => rfl) ?_
            exact q_Ru_ret rfl rfl
set_option maxHeartbeats 4000000 in
theorem q_m_pass01 (pix smp tr : Nat → Int32) (p dn ins z : Int32) (y pd : Int64) (col lin p1 p2 : Int32) (hC : (y - y / 24 * 24).toInt32 = col) (hM : (y / 24 - y / 24 / 40 * 40).toInt32 = lin) (c0 : 0 ≤ col.toInt) (c1 : col.toInt ≤ 23) (l0 : 0 ≤ lin.toInt) (l1 : lin.toInt ≤ 39) (a0 : 0 ≤ p.toInt) (a1 : p.toInt ≤ 3839) (b0 : 0 ≤ p1.toInt) (b1 : p1.toInt ≤ 3839) (hp0 : p &&& 4095 = p) (hp1 : (p + 1) &&& 4095 = p1) (hp2 : (p + 2) &&& 4095 = p2) (i0 : 0 ≤ ins.toInt) (i1 : ins.toInt ≤ 1000) (hpic : q_picX lin col = 0) : ∃ pix2 smp2 tr2 z2, q_Ca q_TB0 9 235 [.ref 64] (q_cM (q_mA pix smp tr (q_nb p 1 dn ins) (q_fb z)) q_IM (q_mJ y pd), 34, 31630) (.inl (some (.int 0)), (q_cM (q_mA pix2 smp2 tr2 (q_nb p2 0 (dn + 1) (ins + 1)) (q_fb z2)) q_IM (q_mJ (y + 1) (pd + 0)), 34, 31630)) := by
  cases h208 : decide (col = 0) with
  | true =>
    cases h209 : decide (lin = 0) with
    | true =>
      have h210 : decide (lin - 4 < 0) = true := q_tbl1 (fun lin => decide (lin - 4 < 0)) (l := 0) (n := 0) (by decide +kernel) (q_eqlo h209) (q_eqhi h209)
      have h211 : decide (col = 23) = false := q_not_tr (q_tbl1 (fun col => !decide (col = 23)) (l := 0) (n := 0) (by decide +kernel) (q_eqlo h208) (q_eqhi h208))
      obtain ⟨z156a, z156b, p156⟩ := q_m_go1 pix smp tr p dn ins z y pd col lin p1 p2 hC hM c0 c1 l0 l1 a0 a1 b0 b1 hp0 hp1 hp2 i0 i1  
      refine ⟨pix, smp, z156a, z156b, ?_⟩
      refine q_Ca_of (Nat.le_of_ble_eq_true rfl) ?_
      refine q_Ru_seg (g2 := (4, [(0, .ref 64)], [.long y], (q_cM (q_mA pix smp tr (q_nb p 1 dn ins) (q_fb z)) q_IM (q_mJ y pd), 34, 31630))) 2 (fun _ _ => rfl) ?_
      refine q_Ru_seg (g2 := (9, [(0, .ref 64)], [.int ((y - y / 24 * 24).toInt32)], (q_cM (q_mA pix smp tr (q_nb p 1 dn ins) (q_fb z)) q_IM (q_mJ y pd), 34, 31630))) 3 (fun _ _ => rfl) ?_
      rw [hC]
      refine q_Ru_seg (g2 := (11, [(1, .int col), (0, .ref 64)], [.int col], (q_cM (q_mA pix smp tr (q_nb p 1 dn ins) (q_fb z)) q_IM (q_mJ y pd), 34, 31630))) 2 (fun _ _ => rfl) ?_
      refine q_Ru_rsF (g2 := (14, [(1, .int col), (0, .ref 64)], [], (q_cM (q_mA pix smp tr (q_nb p 1 dn ins) (q_fb z)) q_IM (q_mJ y pd), 34, 31630))) rfl rfl (q_d_neT h208) ?_
      refine q_Ru_seg (g2 := (15, [(1, .int col), (0, .ref 64)], [.ref 64], (q_cM (q_mA pix smp tr (q_nb p 1 dn ins) (q_fb z)) q_IM (q_mJ y pd), 34, 31630))) 1 (fun _ _ => rfl) ?_
      refine q_Ru_call (v := (some (.int lin))) (h2 := (q_cM (q_mA pix smp tr (q_nb p 1 dn ins) (q_fb z)) q_IM (q_mJ y pd), 34, 31630)) rfl rfl ?_ ?_
      · refine q_Ca_of (Nat.le_of_ble_eq_true rfl) ?_
        refine q_Ru_seg (g2 := (4, [(0, .ref 64)], [.long y], (q_cM (q_mA pix smp tr (q_nb p 1 dn ins) (q_fb z)) q_IM (q_mJ y pd), 34, 31630))) 2 (fun _ _ => rfl) ?_
        refine q_Ru_seg (g2 := (13, [(0, .ref 64)], [.int (((y / 24) - (y / 24) / 40 * 40).toInt32)], (q_cM (q_mA pix smp tr (q_nb p 1 dn ins) (q_fb z)) q_IM (q_mJ y pd), 34, 31630))) 5 (fun _ _ => rfl) ?_
        rw [hM]
        exact q_Ru_ret rfl rfl
      show q_Ru _ _ _ (18, [(1, .int col), (0, .ref 64)], [.int lin], (q_cM (q_mA pix smp tr (q_nb p 1 dn ins) (q_fb z)) q_IM (q_mJ y pd), 34, 31630)) _
      refine q_Ru_seg (g2 := (25, [(1, .int col), (0, .ref 64)], [.int 0, .int lin], (q_cM (q_mA pix smp tr (q_nb p 1 dn ins) (q_fb z)) q_IM (q_mJ y pd), 34, 31630))) 4 (fun _ _ => rfl) ?_
      refine q_Ru_rsF (g2 := (28, [(1, .int col), (0, .ref 64)], [], (q_cM (q_mA pix smp tr (q_nb p 1 dn ins) (q_fb z)) q_IM (q_mJ y pd), 34, 31630))) rfl rfl (q_d_neT h209) ?_
      refine q_Ru_seg (g2 := (36, [(1, .int col), (0, .ref 64)], [.int 1, .int 9, .ref 78], (q_cM (q_mA pix smp tr (q_nb p 1 dn ins) (q_fb z)) q_IM (q_mJ y pd), 34, 31630))) 5 (fun _ _ => rfl) ?_
      refine q_Ru_seg (g2 := (40, [(1, .int col), (0, .ref 64)], [.ref 64], (q_cM (q_uA (q_mA pix smp tr (q_nb p 1 dn ins) (q_fb z)) 14 (upd (q_nb p 1 dn ins) 9 1)) q_IM (q_mJ y pd), 34, 31630))) 4 (fun _ _ => rfl) ?_
      have hA : ∀ i, i < 34 → (q_uA (q_mA pix smp tr (q_nb p 1 dn ins) (q_fb z)) 14 (upd (q_nb p 1 dn ins) 9 1)) i = (q_mA pix smp tr (q_nb p 1 dn ins) (q_fb z)) i := by
        intro i hi
        match i, hi with
        | 0, _ => rfl
        | 1, _ => rfl
        | 2, _ => rfl
        | 3, _ => rfl
        | 4, _ => rfl
        | 5, _ => rfl
        | 6, _ => rfl
        | 7, _ => rfl
        | 8, _ => rfl
        | 9, _ => rfl
        | 10, _ => rfl
        | 11, _ => rfl
        | 12, _ => rfl
        | 13, _ => rfl
        | 14, _ => exact (show (upd (q_nb p 1 dn ins) 9 1) = (q_nb p 1 dn ins) by simp only [q_upd_upd, q_upd_z, q_nb_4, q_nb_17, q_nb_19, q_nb_20, q_nb_0, q_nb_9, q_nb_18, q_fb_4, q_fb_0])
        | 15, _ => rfl
        | 16, _ => rfl
        | 17, _ => rfl
        | 18, _ => rfl
        | 19, _ => rfl
        | 20, _ => rfl
        | 21, _ => rfl
        | 22, _ => rfl
        | 23, _ => rfl
        | 24, _ => rfl
        | 25, _ => rfl
        | 26, _ => rfl
        | 27, _ => rfl
        | 28, _ => rfl
        | 29, _ => rfl
        | 30, _ => rfl
        | 31, _ => rfl
        | 32, _ => rfl
        | 33, _ => rfl
        | i + 34, hi => exact absurd hi (by omega)
      refine q_Ru_hX (q_cM_A (I := q_IM) (J := (q_mJ y pd)) hA) ?_
      refine q_Ru_call (v := (some (.int 0))) (h2 := (q_cM (q_mA pix smp tr (q_nb p 1 dn ins) (q_fb z)) q_IM (q_mJ y pd), 34, 31630)) rfl rfl ?_ ?_
      · exact (by have e := q_m_picX pix smp tr p 1 dn ins z y pd col lin p1 p2 hC hM c0 c1 l0 l1 a0 a1 b0 b1 hp0 hp1 hp2 i0 i1; rw [hpic] at e; exact e.le (Nat.le_of_ble_eq_true rfl))
      show q_Ru _ _ _ (43, [(1, .int col), (0, .ref 64)], [.int 0], (q_cM (q_mA pix smp tr (q_nb p 1 dn ins) (q_fb z)) q_IM (q_mJ y pd), 34, 31630)) _
      refine q_Ru_seg (g2 := (45, [(2, .int 0), (1, .int col), (0, .ref 64)], [.ref 64], (q_cM (q_mA pix smp tr (q_nb p 1 dn ins) (q_fb z)) q_IM (q_mJ y pd), 34, 31630))) 2 (fun _ _ => rfl) ?_
      refine q_Ru_call (v := (some (.int (lin - 4)))) (h2 := (q_cM (q_mA pix smp tr (q_nb p 1 dn ins) (q_fb z)) q_IM (q_mJ y pd), 34, 31630)) rfl rfl ?_ ?_
      · refine q_Ca_of (Nat.le_of_ble_eq_true rfl) ?_
        refine q_Ru_seg (g2 := (1, [(0, .ref 64)], [.ref 64], (q_cM (q_mA pix smp tr (q_nb p 1 dn ins) (q_fb z)) q_IM (q_mJ y pd), 34, 31630))) 1 (fun _ _ => rfl) ?_
        refine q_Ru_call (v := (some (.int lin))) (h2 := (q_cM (q_mA pix smp tr (q_nb p 1 dn ins) (q_fb z)) q_IM (q_mJ y pd), 34, 31630)) rfl rfl ?_ ?_
        · refine q_Ca_of (Nat.le_of_ble_eq_true rfl) ?_
          refine q_Ru_seg (g2 := (4, [(0, .ref 64)], [.long y], (q_cM (q_mA pix smp tr (q_nb p 1 dn ins) (q_fb z)) q_IM (q_mJ y pd), 34, 31630))) 2 (fun _ _ => rfl) ?_
          refine q_Ru_seg (g2 := (13, [(0, .ref 64)], [.int (((y / 24) - (y / 24) / 40 * 40).toInt32)], (q_cM (q_mA pix smp tr (q_nb p 1 dn ins) (q_fb z)) q_IM (q_mJ y pd), 34, 31630))) 5 (fun _ _ => rfl) ?_
          rw [hM]
          exact q_Ru_ret rfl rfl
        show q_Ru _ _ _ (4, [(0, .ref 64)], [.int lin], (q_cM (q_mA pix smp tr (q_nb p 1 dn ins) (q_fb z)) q_IM (q_mJ y pd), 34, 31630)) _
        refine q_Ru_seg (g2 := (6, [(0, .ref 64)], [.int (lin - 4)], (q_cM (q_mA pix smp tr (q_nb p 1 dn ins) (q_fb z)) q_IM (q_mJ y pd), 34, 31630))) 2 (fun _ _ => rfl) ?_
        exact q_Ru_ret rfl rfl
      show q_Ru _ _ _ (48, [(2, .int 0), (1, .int col), (0, .ref 64)], [.int (lin - 4)], (q_cM (q_mA pix smp tr (q_nb p 1 dn ins) (q_fb z)) q_IM (q_mJ y pd), 34, 31630)) _
      refine q_Ru_seg (g2 := (53, [(3, .int (lin - 4)), (2, .int 0), (1, .int col), (0, .ref 64)], [.int 31, .int 0, .int (lin - 4)], (q_cM (q_mA pix smp tr (q_nb p 1 dn ins) (q_fb z)) q_IM (q_mJ y pd), 34, 31630))) 4 (fun _ _ => rfl) ?_
      refine q_Ru_call (v := (some (.int 0))) (h2 := (q_cM (q_mA pix smp tr (q_nb p 1 dn ins) (q_fb z)) q_IM (q_mJ y pd), 34, 31630)) rfl rfl ?_ ?_
      · refine q_Ca_of (Nat.le_of_ble_eq_true rfl) ?_
        refine q_Ru_seg (g2 := (2, [(0, .int (lin - 4)), (1, .int 0), (2, .int 31)], [.int 0, .int (lin - 4)], (q_cM (q_mA pix smp tr (q_nb p 1 dn ins) (q_fb z)) q_IM (q_mJ y pd), 34, 31630))) 2 (fun _ _ => rfl) ?_
        refine q_Ru_rsT (g2 := (14, [(0, .int (lin - 4)), (1, .int 0), (2, .int 31)], [], (q_cM (q_mA pix smp tr (q_nb p 1 dn ins) (q_fb z)) q_IM (q_mJ y pd), 34, 31630))) rfl rfl h210 ?_
        refine q_Ru_seg (g2 := (15, [(0, .int (lin - 4)), (1, .int 0), (2, .int 31)], [.int 0], (q_cM (q_mA pix smp tr (q_nb p 1 dn ins) (q_fb z)) q_IM (q_mJ y pd), 34, 31630))) 1 (fun _ _ => rfl) ?_
        exact q_Ru_ret rfl rfl
      show q_Ru _ _ _ (56, [(3, .int (lin - 4)), (2, .int 0), (1, .int col), (0, .ref 64)], [.int 0], (q_cM (q_mA pix smp tr (q_nb p 1 dn ins) (q_fb z)) q_IM (q_mJ y pd), 34, 31630)) _
      refine q_Ru_seg (g2 := (92, [(3, .int (lin - 4)), (2, .int 0), (1, .int col), (0, .ref 64)], [.ref 64], (q_cM (q_mA pix smp tr (q_nb p 1 dn ins) (q_fb z)) q_IM (q_mJ y pd), 34, 31630))) 2 (fun _ _ => rfl) ?_
      refine q_Ru_call (v := none) (h2 := (q_cM (q_mA pix smp tr (q_nb p 1 dn ins) (q_fb z)) q_IM (q_mJ y pd), 34, 31630)) rfl rfl ?_ ?_
      · exact (q_m_times pix smp tr p 1 dn ins z y pd col lin p1 p2 hC hM c0 c1 l0 l1 a0 a1 b0 b1 hp0 hp1 hp2 i0 i1  ).le (Nat.le_of_ble_eq_true rfl)
      show q_Ru _ _ _ (95, [(3, .int (lin - 4)), (2, .int 0), (1, .int col), (0, .ref 64)], [], (q_cM (q_mA pix smp tr (q_nb p 1 dn ins) (q_fb z)) q_IM (q_mJ y pd), 34, 31630)) _
      refine q_Ru_seg (g2 := (96, [(3, .int (lin - 4)), (2, .int 0), (1, .int col), (0, .ref 64)], [.ref 64], (q_cM (q_mA pix smp tr (q_nb p 1 dn ins) (q_fb z)) q_IM (q_mJ y pd), 34, 31630))) 1 (fun _ _ => rfl) ?_
      refine q_Ru_call (v := none) (h2 := (q_cM (q_mA pix smp tr (q_nb p 1 dn ins) (q_fb z)) q_IM (q_mJ y pd), 34, 31630)) rfl rfl ?_ ?_
      · exact (q_m_winds pix smp tr p 1 dn ins z y pd col lin p1 p2 hC hM c0 c1 l0 l1 a0 a1 b0 b1 hp0 hp1 hp2 i0 i1  ).le (Nat.le_of_ble_eq_true rfl)
      show q_Ru _ _ _ (99, [(3, .int (lin - 4)), (2, .int 0), (1, .int col), (0, .ref 64)], [], (q_cM (q_mA pix smp tr (q_nb p 1 dn ins) (q_fb z)) q_IM (q_mJ y pd), 34, 31630)) _
      refine q_Ru_seg (g2 := (102, [(3, .int (lin - 4)), (2, .int 0), (1, .int col), (0, .ref 64)], [.int 23, .int col], (q_cM (q_mA pix smp tr (q_nb p 1 dn ins) (q_fb z)) q_IM (q_mJ y pd), 34, 31630))) 2 (fun _ _ => rfl) ?_
      refine q_Ru_rsT (g2 := (109, [(3, .int (lin - 4)), (2, .int 0), (1, .int col), (0, .ref 64)], [], (q_cM (q_mA pix smp tr (q_nb p 1 dn ins) (q_fb z)) q_IM (q_mJ y pd), 34, 31630))) rfl rfl (q_d_neF h211) ?_
      refine q_Ru_seg (g2 := (114, [(3, .int (lin - 4)), (2, .int 0), (1, .int col), (0, .ref 64)], [.ref 64], (q_cM (q_mA pix smp tr (q_nb p 1 dn ins) (q_fb z)) q_IM (q_mJ y pd), 34, 31630))) 3 (fun _ _ => rfl) ?_
      refine q_Ru_call (v := none) (h2 := (q_cM (q_mA pix smp z156a (q_nb p2 0 (dn + 1) (ins + 1)) (q_fb z156b)) q_IM (q_mJ y pd), 34, 31630)) rfl rfl ?_ ?_
      · exact p156.le (Nat.le_of_ble_eq_true rfl)
      show q_Ru _ _ _ (117, [(3, .int (lin - 4)), (2, .int 0), (1, .int col), (0, .ref 64)], [], (q_cM (q_mA pix smp z156a (q_nb p2 0 (dn + 1) (ins + 1)) (q_fb z156b)) q_IM (q_mJ y pd), 34, 31630)) _
      refine q_Ru_seg (g2 := (122, [(3, .int (lin - 4)), (2, .int 0), (1, .int col), (0, .ref 64)], [.long pd, .ref 64], (q_cM (q_mA pix smp z156a (q_nb p2 0 (dn + 1) (ins + 1)) (q_fb z156b)) q_IM (q_mJ y pd), 34, 31630))) 3 (fun _ _ => rfl) ?_
      refine q_Ru_seg (g2 := (140, [(3, .int (lin - 4)), (2, .int 0), (1, .int col), (0, .ref 64)], [.long y, .ref 64], (q_cM (q_mA pix smp z156a (q_nb p2 0 (dn + 1) (ins + 1)) (q_fb z156b)) q_IM (q_uI (q_mJ y pd) 0 16 (pd + 0)), 34, 31630))) 8 (fun _ _ => rfl) ?_
      refine q_Ru_seg (g2 := (146, [(3, .int (lin - 4)), (2, .int 0), (1, .int col), (0, .ref 64)], [.int 0], (q_cM (q_mA pix smp z156a (q_nb p2 0 (dn + 1) (ins + 1)) (q_fb z156b)) q_IM (q_uI (q_uI (q_mJ y pd) 0 16 (pd + 0)) 0 15 (y + 1)), 34, 31630))) 4 (fun _ _ => rfl) ?_
      exact q_Ru_ret rfl rfl
    | false =>
      cases h212 : decide (lin - 4 < 0) with
      | true =>
        have h213 : decide (col = 23) = false := q_not_tr (q_tbl1 (fun col => !decide (col = 23)) (l := 0) (n := 0) (by decide +kernel) (q_eqlo h208) (q_eqhi h208))
        obtain ⟨z161a, z161b, p161⟩ := q_m_go1 pix smp tr p dn ins z y pd col lin p1 p2 hC hM c0 c1 l0 l1 a0 a1 b0 b1 hp0 hp1 hp2 i0 i1  
        refine ⟨pix, smp, z161a, z161b, ?_⟩
        refine q_Ca_of (Nat.le_of_ble_eq_true rfl) ?_
        refine q_Ru_seg (g2 := (4, [(0, .ref 64)], [.long y], (q_cM (q_mA pix smp tr (q_nb p 1 dn ins) (q_fb z)) q_IM (q_mJ y pd), 34, 31630))) 2 (fun _ _ => rfl) ?_
        refine q_Ru_seg (g2 := (9, [(0, .ref 64)], [.int ((y - y / 24 * 24).toInt32)], (q_cM (q_mA pix smp tr (q_nb p 1 dn ins) (q_fb z)) q_IM (q_mJ y pd), 34, 31630))) 3 (fun _ _ => rfl) ?_
        rw [hC]
        refine q_Ru_seg (g2 := (11, [(1, .int col), (0, .ref 64)], [.int col], (q_cM (q_mA pix smp tr (q_nb p 1 dn ins) (q_fb z)) q_IM (q_mJ y pd), 34, 31630))) 2 (fun _ _ => rfl) ?_
        refine q_Ru_rsF (g2 := (14, [(1, .int col), (0, .ref 64)], [], (q_cM (q_mA pix smp tr (q_nb p 1 dn ins) (q_fb z)) q_IM (q_mJ y pd), 34, 31630))) rfl rfl (q_d_neT h208) ?_
        refine q_Ru_seg (g2 := (15, [(1, .int col), (0, .ref 64)], [.ref 64], (q_cM (q_mA pix smp tr (q_nb p 1 dn ins) (q_fb z)) q_IM (q_mJ y pd), 34, 31630))) 1 (fun _ _ => rfl) ?_
        refine q_Ru_call (v := (some (.int lin))) (h2 := (q_cM (q_mA pix smp tr (q_nb p 1 dn ins) (q_fb z)) q_IM (q_mJ y pd), 34, 31630)) rfl rfl ?_ ?_
        · refine q_Ca_of (Nat.le_of_ble_eq_true rfl) ?_
          refine q_Ru_seg (g2 := (4, [(0, .ref 64)], [.long y], (q_cM (q_mA pix smp tr (q_nb p 1 dn ins) (q_fb z)) q_IM (q_mJ y pd), 34, 31630))) 2 (fun _ _ => rfl) ?_
          refine q_Ru_seg (g2 := (13, [(0, .ref 64)], [.int (((y / 24) - (y / 24) / 40 * 40).toInt32)], (q_cM (q_mA pix smp tr (q_nb p 1 dn ins) (q_fb z)) q_IM (q_mJ y pd), 34, 31630))) 5 (fun _ _ => rfl) ?_
          rw [hM]
          exact q_Ru_ret rfl rfl
        show q_Ru _ _ _ (18, [(1, .int col), (0, .ref 64)], [.int lin], (q_cM (q_mA pix smp tr (q_nb p 1 dn ins) (q_fb z)) q_IM (q_mJ y pd), 34, 31630)) _
        refine q_Ru_seg (g2 := (25, [(1, .int col), (0, .ref 64)], [.int 0, .int lin], (q_cM (q_mA pix smp tr (q_nb p 1 dn ins) (q_fb z)) q_IM (q_mJ y pd), 34, 31630))) 4 (fun _ _ => rfl) ?_
        refine q_Ru_rsT (g2 := (39, [(1, .int col), (0, .ref 64)], [], (q_cM (q_mA pix smp tr (q_nb p 1 dn ins) (q_fb z)) q_IM (q_mJ y pd), 34, 31630))) rfl rfl (q_d_neF h209) ?_
        refine q_Ru_seg (g2 := (40, [(1, .int col), (0, .ref 64)], [.ref 64], (q_cM (q_mA pix smp tr (q_nb p 1 dn ins) (q_fb z)) q_IM (q_mJ y pd), 34, 31630))) 1 (fun _ _ => rfl) ?_
        refine q_Ru_call (v := (some (.int 0))) (h2 := (q_cM (q_mA pix smp tr (q_nb p 1 dn ins) (q_fb z)) q_IM (q_mJ y pd), 34, 31630)) rfl rfl ?_ ?_
        · exact (by have e := q_m_picX pix smp tr p 1 dn ins z y pd col lin p1 p2 hC hM c0 c1 l0 l1 a0 a1 b0 b1 hp0 hp1 hp2 i0 i1; rw [hpic] at e; exact e.le (Nat.le_of_ble_eq_true rfl))
        show q_Ru _ _ _ (43, [(1, .int col), (0, .ref 64)], [.int 0], (q_cM (q_mA pix smp tr (q_nb p 1 dn ins) (q_fb z)) q_IM (q_mJ y pd), 34, 31630)) _
        refine q_Ru_seg (g2 := (45, [(2, .int 0), (1, .int col), (0, .ref 64)], [.ref 64], (q_cM (q_mA pix smp tr (q_nb p 1 dn ins) (q_fb z)) q_IM (q_mJ y pd), 34, 31630))) 2 (fun _ _ => rfl) ?_
        refine q_Ru_call (v := (some (.int (lin - 4)))) (h2 := (q_cM (q_mA pix smp tr (q_nb p 1 dn ins) (q_fb z)) q_IM (q_mJ y pd), 34, 31630)) rfl rfl ?_ ?_
        · refine q_Ca_of (Nat.le_of_ble_eq_true rfl) ?_
          refine q_Ru_seg (g2 := (1, [(0, .ref 64)], [.ref 64], (q_cM (q_mA pix smp tr (q_nb p 1 dn ins) (q_fb z)) q_IM (q_mJ y pd), 34, 31630))) 1 (fun _ _ => rfl) ?_
          refine q_Ru_call (v := (some (.int lin))) (h2 := (q_cM (q_mA pix smp tr (q_nb p 1 dn ins) (q_fb z)) q_IM (q_mJ y pd), 34, 31630)) rfl rfl ?_ ?_
          · refine q_Ca_of (Nat.le_of_ble_eq_true rfl) ?_
            refine q_Ru_seg (g2 := (4, [(0, .ref 64)], [.long y], (q_cM (q_mA pix smp tr (q_nb p 1 dn ins) (q_fb z)) q_IM (q_mJ y pd), 34, 31630))) 2 (fun _ _ => rfl) ?_
            refine q_Ru_seg (g2 := (13, [(0, .ref 64)], [.int (((y / 24) - (y / 24) / 40 * 40).toInt32)], (q_cM (q_mA pix smp tr (q_nb p 1 dn ins) (q_fb z)) q_IM (q_mJ y pd), 34, 31630))) 5 (fun _ _ => rfl) ?_
            rw [hM]
            exact q_Ru_ret rfl rfl
          show q_Ru _ _ _ (4, [(0, .ref 64)], [.int lin], (q_cM (q_mA pix smp tr (q_nb p 1 dn ins) (q_fb z)) q_IM (q_mJ y pd), 34, 31630)) _
          refine q_Ru_seg (g2 := (6, [(0, .ref 64)], [.int (lin - 4)], (q_cM (q_mA pix smp tr (q_nb p 1 dn ins) (q_fb z)) q_IM (q_mJ y pd), 34, 31630))) 2 (fun _ _ => rfl) ?_
          exact q_Ru_ret rfl rfl
        show q_Ru _ _ _ (48, [(2, .int 0), (1, .int col), (0, .ref 64)], [.int (lin - 4)], (q_cM (q_mA pix smp tr (q_nb p 1 dn ins) (q_fb z)) q_IM (q_mJ y pd), 34, 31630)) _
        refine q_Ru_seg (g2 := (53, [(3, .int (lin - 4)), (2, .int 0), (1, .int col), (0, .ref 64)], [.int 31, .int 0, .int (lin - 4)], (q_cM (q_mA pix smp tr (q_nb p 1 dn ins) (q_fb z)) q_IM (q_mJ y pd), 34, 31630))) 4 (fun _ _ => rfl) ?_
        refine q_Ru_call (v := (some (.int 0))) (h2 := (q_cM (q_mA pix smp tr (q_nb p 1 dn ins) (q_fb z)) q_IM (q_mJ y pd), 34, 31630)) rfl rfl ?_ ?_
        · refine q_Ca_of (Nat.le_of_ble_eq_true rfl) ?_
          refine q_Ru_seg (g2 := (2, [(0, .int (lin - 4)), (1, .int 0), (2, .int 31)], [.int 0, .int (lin - 4)], (q_cM (q_mA pix smp tr (q_nb p 1 dn ins) (q_fb z)) q_IM (q_mJ y pd), 34, 31630))) 2 (fun _ _ => rfl) ?_
          refine q_Ru_rsT (g2 := (14, [(0, .int (lin - 4)), (1, .int 0), (2, .int 31)], [], (q_cM (q_mA pix smp tr (q_nb p 1 dn ins) (q_fb z)) q_IM (q_mJ y pd), 34, 31630))) rfl rfl h212 ?_
          refine q_Ru_seg (g2 := (15, [(0, .int (lin - 4)), (1, .int 0), (2, .int 31)], [.int 0], (q_cM (q_mA pix smp tr (q_nb p 1 dn ins) (q_fb z)) q_IM (q_mJ y pd), 34, 31630))) 1 (fun _ _ => rfl) ?_
          exact q_Ru_ret rfl rfl
        show q_Ru _ _ _ (56, [(3, .int (lin - 4)), (2, .int 0), (1, .int col), (0, .ref 64)], [.int 0], (q_cM (q_mA pix smp tr (q_nb p 1 dn ins) (q_fb z)) q_IM (q_mJ y pd), 34, 31630)) _
        refine q_Ru_seg (g2 := (92, [(3, .int (lin - 4)), (2, .int 0), (1, .int col), (0, .ref 64)], [.ref 64], (q_cM (q_mA pix smp tr (q_nb p 1 dn ins) (q_fb z)) q_IM (q_mJ y pd), 34, 31630))) 2 (fun _ _ => rfl) ?_
        refine q_Ru_call (v := none) (h2 := (q_cM (q_mA pix smp tr (q_nb p 1 dn ins) (q_fb z)) q_IM (q_mJ y pd), 34, 31630)) rfl rfl ?_ ?_
        · exact (q_m_times pix smp tr p 1 dn ins z y pd col lin p1 p2 hC hM c0 c1 l0 l1 a0 a1 b0 b1 hp0 hp1 hp2 i0 i1  ).le (Nat.le_of_ble_eq_true rfl)
        show q_Ru _ _ _ (95, [(3, .int (lin - 4)), (2, .int 0), (1, .int col), (0, .ref 64)], [], (q_cM (q_mA pix smp tr (q_nb p 1 dn ins) (q_fb z)) q_IM (q_mJ y pd), 34, 31630)) _
        refine q_Ru_seg (g2 := (96, [(3, .int (lin - 4)), (2, .int 0), (1, .int col), (0, .ref 64)], [.ref 64], (q_cM (q_mA pix smp tr (q_nb p 1 dn ins) (q_fb z)) q_IM (q_mJ y pd), 34, 31630))) 1 (fun _ _ => rfl) ?_
        refine q_Ru_call (v := none) (h2 := (q_cM (q_mA pix smp tr (q_nb p 1 dn ins) (q_fb z)) q_IM (q_mJ y pd), 34, 31630)) rfl rfl ?_ ?_
        · exact (q_m_winds pix smp tr p 1 dn ins z y pd col lin p1 p2 hC hM c0 c1 l0 l1 a0 a1 b0 b1 hp0 hp1 hp2 i0 i1  ).le (Nat.le_of_ble_eq_true rfl)
        show q_Ru _ _ _ (99, [(3, .int (lin - 4)), (2, .int 0), (1, .int col), (0, .ref 64)], [], (q_cM (q_mA pix smp tr (q_nb p 1 dn ins) (q_fb z)) q_IM (q_mJ y pd), 34, 31630)) _
        refine q_Ru_seg (g2 := (102, [(3, .int (lin - 4)), (2, .int 0), (1, .int col), (0, .ref 64)], [.int 23, .int col], (q_cM (q_mA pix smp tr (q_nb p 1 dn ins) (q_fb z)) q_IM (q_mJ y pd), 34, 31630))) 2 (fun _ _ => rfl) ?_
        refine q_Ru_rsT (g2 := (109, [(3, .int (lin - 4)), (2, .int 0), (1, .int col), (0, .ref 64)], [], (q_cM (q_mA pix smp tr (q_nb p 1 dn ins) (q_fb z)) q_IM (q_mJ y pd), 34, 31630))) rfl rfl (q_d_neF h213) ?_
        refine q_Ru_seg (g2 := (114, [(3, .int (lin - 4)), (2, .int 0), (1, .int col), (0, .ref 64)], [.ref 64], (q_cM (q_mA pix smp tr (q_nb p 1 dn ins) (q_fb z)) q_IM (q_mJ y pd), 34, 31630))) 3 (fun _ _ => rfl) ?_
        refine q_Ru_call (v := none) (h2 := (q_cM (q_mA pix smp z161a (q_nb p2 0 (dn + 1) (ins + 1)) (q_fb z161b)) q_IM (q_mJ y pd), 34, 31630)) rfl rfl ?_ ?_
        · exact p161.le (Nat.le_of_ble_eq_true rfl)
        show q_Ru _ _ _ (117, [(3, .int (lin - 4)), (2, .int 0), (1, .int col), (0, .ref 64)], [], (q_cM (q_mA pix smp z161a (q_nb p2 0 (dn + 1) (ins + 1)) (q_fb z161b)) q_IM (q_mJ y pd), 34, 31630)) _
        refine q_Ru_seg (g2 := (122, [(3, .int (lin - 4)), (2, .int 0), (1, .int col), (0, .ref 64)], [.long pd, .ref 64], (q_cM (q_mA pix smp z161a (q_nb p2 0 (dn + 1) (ins + 1)) (q_fb z161b)) q_IM (q_mJ y pd), 34, 31630))) 3 (fun _ _ => rfl) ?_
        refine q_Ru_seg (g2 := (140, [(3, .int (lin - 4)), (2, .int 0), (1, .int col), (0, .ref 64)], [.long y, .ref 64], (q_cM (q_mA pix smp z161a (q_nb p2 0 (dn + 1) (ins + 1)) (q_fb z161b)) q_IM (q_uI (q_mJ y pd) 0 16 (pd + 0)), 34, 31630))) 8 (fun _ _ => rfl) ?_
        refine q_Ru_seg (g2 := (146, [(3, .int (lin - 4)), (2, .int 0), (1, .int col), (0, .ref 64)], [.int 0], (q_cM (q_mA pix smp z161a (q_nb p2 0 (dn + 1) (ins + 1)) (q_fb z161b)) q_IM (q_uI (q_uI (q_mJ y pd) 0 16 (pd + 0)) 0 15 (y + 1)), 34, 31630))) 4 (fun _ _ => rfl) ?_
        exact q_Ru_ret rfl rfl
      | false =>
        cases h214 : decide (31 < lin - 4) with
        | true =>
          have h215 : decide (col = 23) = false := q_not_tr (q_tbl1 (fun col => !decide (col = 23)) (l := 0) (n := 0) (by decide +kernel) (q_eqlo h208) (q_eqhi h208))
          obtain ⟨z166a, z166b, p166⟩ := q_m_go1 pix smp tr p dn ins z y pd col lin p1 p2 hC hM c0 c1 l0 l1 a0 a1 b0 b1 hp0 hp1 hp2 i0 i1  
          refine ⟨pix, smp, z166a, z166b, ?_⟩
          refine q_Ca_of (Nat.le_of_ble_eq_true rfl) ?_
          refine q_Ru_seg (g2 := (4, [(0, .ref 64)], [.long y], (q_cM (q_mA pix smp tr (q_nb p 1 dn ins) (q_fb z)) q_IM (q_mJ y pd), 34, 31630))) 2 (fun _ _ => rfl) ?_
          refine q_Ru_seg (g2 := (9, [(0, .ref 64)], [.int ((y - y / 24 * 24).toInt32)], (q_cM (q_mA pix smp tr (q_nb p 1 dn ins) (q_fb z)) q_IM (q_mJ y pd), 34, 31630))) 3 (fun _ _ => rfl) ?_
          rw [hC]
          refine q_Ru_seg (g2 := (11, [(1, .int col), (0, .ref 64)], [.int col], (q_cM (q_mA pix smp tr (q_nb p 1 dn ins) (q_fb z)) q_IM (q_mJ y pd), 34, 31630))) 2 (fun _ _ => rfl) ?_
          refine q_Ru_rsF (g2 := (14, [(1, .int col), (0, .ref 64)], [], (q_cM (q_mA pix smp tr (q_nb p 1 dn ins) (q_fb z)) q_IM (q_mJ y pd), 34, 31630))) rfl rfl (q_d_neT h208) ?_
          refine q_Ru_seg (g2 := (15, [(1, .int col), (0, .ref 64)], [.ref 64], (q_cM (q_mA pix smp tr (q_nb p 1 dn ins) (q_fb z)) q_IM (q_mJ y pd), 34, 31630))) 1 (fun _ _ => rfl) ?_
          refine q_Ru_call (v := (some (.int lin))) (h2 := (q_cM (q_mA pix smp tr (q_nb p 1 dn ins) (q_fb z)) q_IM (q_mJ y pd), 34, 31630)) rfl rfl ?_ ?_
          · refine q_Ca_of (Nat.le_of_ble_eq_true rfl) ?_
            refine q_Ru_seg (g2 := (4, [(0, .ref 64)], [.long y], (q_cM (q_mA pix smp tr (q_nb p 1 dn ins) (q_fb z)) q_IM (q_mJ y pd), 34, 31630))) 2 (fun _ _ => rfl) ?_
            refine q_Ru_seg (g2 := (13, [(0, .ref 64)], [.int (((y / 24) - (y / 24) / 40 * 40).toInt32)], (q_cM (q_mA pix smp tr (q_nb p 1 dn ins) (q_fb z)) q_IM (q_mJ y pd), 34, 31630))) 5 (fun _ _ => rfl) ?_
            rw [hM]
            exact q_Ru_ret rfl rfl
          show q_Ru _ _ _ (18, [(1, .int col), (0, .ref 64)], [.int lin], (q_cM (q_mA pix smp tr (q_nb p 1 dn ins) (q_fb z)) q_IM (q_mJ y pd), 34, 31630)) _
          refine q_Ru_seg (g2 := (25, [(1, .int col), (0, .ref 64)], [.int 0, .int lin], (q_cM (q_mA pix smp tr (q_nb p 1 dn ins) (q_fb z)) q_IM (q_mJ y pd), 34, 31630))) 4 (fun _ _ => rfl) ?_
          refine q_Ru_rsT (g2 := (39, [(1, .int col), (0, .ref 64)], [], (q_cM (q_mA pix smp tr (q_nb p 1 dn ins) (q_fb z)) q_IM (q_mJ y pd), 34, 31630))) rfl rfl (q_d_neF h209) ?_
          refine q_Ru_seg (g2 := (40, [(1, .int col), (0, .ref 64)], [.ref 64], (q_cM (q_mA pix smp tr (q_nb p 1 dn ins) (q_fb z)) q_IM (q_mJ y pd), 34, 31630))) 1 (fun _ _ => rfl) ?_
          refine q_Ru_call (v := (some (.int 0))) (h2 := (q_cM (q_mA pix smp tr (q_nb p 1 dn ins) (q_fb z)) q_IM (q_mJ y pd), 34, 31630)) rfl rfl ?_ ?_
          · exact (by have e := q_m_picX pix smp tr p 1 dn ins z y pd col lin p1 p2 hC hM c0 c1 l0 l1 a0 a1 b0 b1 hp0 hp1 hp2 i0 i1; rw [hpic] at e; exact e.le (Nat.le_of_ble_eq_true rfl))
          show q_Ru _ _ _ (43, [(1, .int col), (0, .ref 64)], [.int 0], (q_cM (q_mA pix smp tr (q_nb p 1 dn ins) (q_fb z)) q_IM (q_mJ y pd), 34, 31630)) _
          refine q_Ru_seg (g2 := (45, [(2, .int 0), (1, .int col), (0, .ref 64)], [.ref 64], (q_cM (q_mA pix smp tr (q_nb p 1 dn ins) (q_fb z)) q_IM (q_mJ y pd), 34, 31630))) 2 (fun _ _ => rfl) ?_
          refine q_Ru_call (v := (some (.int (lin - 4)))) (h2 := (q_cM (q_mA pix smp tr (q_nb p 1 dn ins) (q_fb z)) q_IM (q_mJ y pd), 34, 31630)) rfl rfl ?_ ?_
          · refine q_Ca_of (Nat.le_of_ble_eq_true rfl) ?_
            refine q_Ru_seg (g2 := (1, [(0, .ref 64)], [.ref 64], (q_cM (q_mA pix smp tr (q_nb p 1 dn ins) (q_fb z)) q_IM (q_mJ y pd), 34, 31630))) 1 (fun _ _ => rfl) ?_
            refine q_Ru_call (v := (some (.int lin))) (h2 := (q_cM (q_mA pix smp tr (q_nb p 1 dn ins) (q_fb z)) q_IM (q_mJ y pd), 34, 31630)) rfl rfl ?_ ?_
            · refine q_Ca_of (Nat.le_of_ble_eq_true rfl) ?_
              refine q_Ru_seg (g2 := (4, [(0, .ref 64)], [.long y], (q_cM (q_mA pix smp tr (q_nb p 1 dn ins) (q_fb z)) q_IM (q_mJ y pd), 34, 31630))) 2 (fun _ _ => rfl) ?_
              refine q_Ru_seg (g2 := (13, [(0, .ref 64)], [.int (((y / 24) - (y / 24) / 40 * 40).toInt32)], (q_cM (q_mA pix smp tr (q_nb p 1 dn ins) (q_fb z)) q_IM (q_mJ y pd), 34, 31630))) 5 (fun _ _ => rfl) ?_
              rw [hM]
              exact q_Ru_ret rfl rfl
            show q_Ru _ _ _ (4, [(0, .ref 64)], [.int lin], (q_cM (q_mA pix smp tr (q_nb p 1 dn ins) (q_fb z)) q_IM (q_mJ y pd), 34, 31630)) _
            refine q_Ru_seg (g2 := (6, [(0, .ref 64)], [.int (lin - 4)], (q_cM (q_mA pix smp tr (q_nb p 1 dn ins) (q_fb z)) q_IM (q_mJ y pd), 34, 31630))) 2 (fun _ _ => rfl) ?_
            exact q_Ru_ret rfl rfl
          show q_Ru _ _ _ (48, [(2, .int 0), (1, .int col), (0, .ref 64)], [.int (lin - 4)], (q_cM (q_mA pix smp tr (q_nb p 1 dn ins) (q_fb z)) q_IM (q_mJ y pd), 34, 31630)) _
          refine q_Ru_seg (g2 := (53, [(3, .int (lin - 4)), (2, .int 0), (1, .int col), (0, .ref 64)], [.int 31, .int 0, .int (lin - 4)], (q_cM (q_mA pix smp tr (q_nb p 1 dn ins) (q_fb z)) q_IM (q_mJ y pd), 34, 31630))) 4 (fun _ _ => rfl) ?_
          refine q_Ru_call (v := (some (.int 0))) (h2 := (q_cM (q_mA pix smp tr (q_nb p 1 dn ins) (q_fb z)) q_IM (q_mJ y pd), 34, 31630)) rfl rfl ?_ ?_
          · refine q_Ca_of (Nat.le_of_ble_eq_true rfl) ?_
            refine q_Ru_seg (g2 := (2, [(0, .int (lin - 4)), (1, .int 0), (2, .int 31)], [.int 0, .int (lin - 4)], (q_cM (q_mA pix smp tr (q_nb p 1 dn ins) (q_fb z)) q_IM (q_mJ y pd), 34, 31630))) 2 (fun _ _ => rfl) ?_
            refine q_Ru_rsF (g2 := (5, [(0, .int (lin - 4)), (1, .int 0), (2, .int 31)], [], (q_cM (q_mA pix smp tr (q_nb p 1 dn ins) (q_fb z)) q_IM (q_mJ y pd), 34, 31630))) rfl rfl h212 ?_
            refine q_Ru_seg (g2 := (7, [(0, .int (lin - 4)), (1, .int 0), (2, .int 31)], [.int 31, .int (lin - 4)], (q_cM (q_mA pix smp tr (q_nb p 1 dn ins) (q_fb z)) q_IM (q_mJ y pd), 34, 31630))) 2 (fun _ _ => rfl) ?_
            refine q_Ru_rsT (g2 := (14, [(0, .int (lin - 4)), (1, .int 0), (2, .int 31)], [], (q_cM (q_mA pix smp tr (q_nb p 1 dn ins) (q_fb z)) q_IM (q_mJ y pd), 34, 31630))) rfl rfl h214 ?_
            refine q_Ru_seg (g2 := (15, [(0, .int (lin - 4)), (1, .int 0), (2, .int 31)], [.int 0], (q_cM (q_mA pix smp tr (q_nb p 1 dn ins) (q_fb z)) q_IM (q_mJ y pd), 34, 31630))) 1 (fun _ _ => rfl) ?_
            exact q_Ru_ret rfl rfl
          show q_Ru _ _ _ (56, [(3, .int (lin - 4)), (2, .int 0), (1, .int col), (0, .ref 64)], [.int 0], (q_cM (q_mA pix smp tr (q_nb p 1 dn ins) (q_fb z)) q_IM (q_mJ y pd), 34, 31630)) _
          refine q_Ru_seg (g2 := (92, [(3, .int (lin - 4)), (2, .int 0), (1, .int col), (0, .ref 64)], [.ref 64], (q_cM (q_mA pix smp tr (q_nb p 1 dn ins) (q_fb z)) q_IM (q_mJ y pd), 34, 31630))) 2 (fun _ _ => rfl) ?_
          refine q_Ru_call (v := none) (h2 := (q_cM (q_mA pix smp tr (q_nb p 1 dn ins) (q_fb z)) q_IM (q_mJ y pd), 34, 31630)) rfl rfl ?_ ?_
          · exact (q_m_times pix smp tr p 1 dn ins z y pd col lin p1 p2 hC hM c0 c1 l0 l1 a0 a1 b0 b1 hp0 hp1 hp2 i0 i1  ).le (Nat.le_of_ble_eq_true rfl)
          show q_Ru _ _ _ (95, [(3, .int (lin - 4)), (2, .int 0), (1, .int col), (0, .ref 64)], [], (q_cM (q_mA pix smp tr (q_nb p 1 dn ins) (q_fb z)) q_IM (q_mJ y pd), 34, 31630)) _
          refine q_Ru_seg (g2 := (96, [(3, .int (lin - 4)), (2, .int 0), (1, .int col), (0, .ref 64)], [.ref 64], (q_cM (q_mA pix smp tr (q_nb p 1 dn ins) (q_fb z)) q_IM (q_mJ y pd), 34, 31630))) 1 (fun _ _ => rfl) ?_
          refine q_Ru_call (v := none) (h2 := (q_cM (q_mA pix smp tr (q_nb p 1 dn ins) (q_fb z)) q_IM (q_mJ y pd), 34, 31630)) rfl rfl ?_ ?_
          · exact (q_m_winds pix smp tr p 1 dn ins z y pd col lin p1 p2 hC hM c0 c1 l0 l1 a0 a1 b0 b1 hp0 hp1 hp2 i0 i1  ).le (Nat.le_of_ble_eq_true rfl)
          show q_Ru _ _ _ (99, [(3, .int (lin - 4)), (2, .int 0), (1, .int col), (0, .ref 64)], [], (q_cM (q_mA pix smp tr (q_nb p 1 dn ins) (q_fb z)) q_IM (q_mJ y pd), 34, 31630)) _
          refine q_Ru_seg (g2 := (102, [(3, .int (lin - 4)), (2, .int 0), (1, .int col), (0, .ref 64)], [.int 23, .int col], (q_cM (q_mA pix smp tr (q_nb p 1 dn ins) (q_fb z)) q_IM (q_mJ y pd), 34, 31630))) 2 (fun _ _ => rfl) ?_
          refine q_Ru_rsT (g2 := (109, [(3, .int (lin - 4)), (2, .int 0), (1, .int col), (0, .ref 64)], [], (q_cM (q_mA pix smp tr (q_nb p 1 dn ins) (q_fb z)) q_IM (q_mJ y pd), 34, 31630))) rfl rfl (q_d_neF h215) ?_
          refine q_Ru_seg (g2 := (114, [(3, .int (lin - 4)), (2, .int 0), (1, .int col), (0, .ref 64)], [.ref 64], (q_cM (q_mA pix smp tr (q_nb p 1 dn ins) (q_fb z)) q_IM (q_mJ y pd), 34, 31630))) 3 (fun _ _ => rfl) ?_
          refine q_Ru_call (v := none) (h2 := (q_cM (q_mA pix smp z166a (q_nb p2 0 (dn + 1) (ins + 1)) (q_fb z166b)) q_IM (q_mJ y pd), 34, 31630)) rfl rfl ?_ ?_
          · exact p166.le (Nat.le_of_ble_eq_true rfl)
          show q_Ru _ _ _ (117, [(3, .int (lin - 4)), (2, .int 0), (1, .int col), (0, .ref 64)], [], (q_cM (q_mA pix smp z166a (q_nb p2 0 (dn + 1) (ins + 1)) (q_fb z166b)) q_IM (q_mJ y pd), 34, 31630)) _
          refine q_Ru_seg (g2 := (122, [(3, .int (lin - 4)), (2, .int 0), (1, .int col), (0, .ref 64)], [.long pd, .ref 64], (q_cM (q_mA pix smp z166a (q_nb p2 0 (dn + 1) (ins + 1)) (q_fb z166b)) q_IM (q_mJ y pd), 34, 31630))) 3 (fun _ _ => rfl) ?_
          refine q_Ru_seg (g2 := (140, [(3, .int (lin - 4)), (2, .int 0), (1, .int col), (0, .ref 64)], [.long y, .ref 64], (q_cM (q_mA pix smp z166a (q_nb p2 0 (dn + 1) (ins + 1)) (q_fb z166b)) q_IM (q_uI (q_mJ y pd) 0 16 (pd + 0)), 34, 31630))) 8 (fun _ _ => rfl) ?_
          refine q_Ru_seg (g2 := (146, [(3, .int (lin - 4)), (2, .int 0), (1, .int col), (0, .ref 64)], [.int 0], (q_cM (q_mA pix smp z166a (q_nb p2 0 (dn + 1) (ins + 1)) (q_fb z166b)) q_IM (q_uI (q_uI (q_mJ y pd) 0 16 (pd + 0)) 0 15 (y + 1)), 34, 31630))) 4 (fun _ _ => rfl) ?_
          exact q_Ru_ret rfl rfl
        | false =>
          have h216 : decide (col < 4) = true := q_tbl1 (fun col => decide (col < 4)) (l := 0) (n := 0) (by decide +kernel) (q_eqlo h208) (q_eqhi h208)
          have h217 : decide (col = 23) = false := q_not_tr (q_tbl1 (fun col => !decide (col = 23)) (l := 0) (n := 0) (by decide +kernel) (q_eqlo h208) (q_eqhi h208))
          obtain ⟨z171a, z171b, p171⟩ := q_m_go1 pix smp tr p dn ins z y pd col lin p1 p2 hC hM c0 c1 l0 l1 a0 a1 b0 b1 hp0 hp1 hp2 i0 i1  
          refine ⟨pix, smp, z171a, z171b, ?_⟩
          refine q_Ca_of (Nat.le_of_ble_eq_true rfl) ?_
          refine q_Ru_seg (g2 := (4, [(0, .ref 64)], [.long y], (q_cM (q_mA pix smp tr (q_nb p 1 dn ins) (q_fb z)) q_IM (q_mJ y pd), 34, 31630))) 2 (fun _ _ => rfl) ?_
          refine q_Ru_seg (g2 := (9, [(0, .ref 64)], [.int ((y - y / 24 * 24).toInt32)], (q_cM (q_mA pix smp tr (q_nb p 1 dn ins) (q_fb z)) q_IM (q_mJ y pd), 34, 31630))) 3 (fun _ _ => rfl) ?_
          rw [hC]
          refine q_Ru_seg (g2 := (11, [(1, .int col), (0, .ref 64)], [.int col], (q_cM (q_mA pix smp tr (q_nb p 1 dn ins) (q_fb z)) q_IM (q_mJ y pd), 34, 31630))) 2 (fun _ _ => rfl) ?_
          refine q_Ru_rsF (g2 := (14, [(1, .int col), (0, .ref 64)], [], (q_cM (q_mA pix smp tr (q_nb p 1 dn ins) (q_fb z)) q_IM (q_mJ y pd), 34, 31630))) rfl rfl (q_d_neT h208) ?_
          refine q_Ru_seg (g2 := (15, [(1, .int col), (0, .ref 64)], [.ref 64], (q_cM (q_mA pix smp tr (q_nb p 1 dn ins) (q_fb z)) q_IM (q_mJ y pd), 34, 31630))) 1 (fun _ _ => rfl) ?_
          refine q_Ru_call (v := (some (.int lin))) (h2 := (q_cM (q_mA pix smp tr (q_nb p 1 dn ins) (q_fb z)) q_IM (q_mJ y pd), 34, 31630)) rfl rfl ?_ ?_
          · refine q_Ca_of (Nat.le_of_ble_eq_true rfl) ?_
            refine q_Ru_seg (g2 := (4, [(0, .ref 64)], [.long y], (q_cM (q_mA pix smp tr (q_nb p 1 dn ins) (q_fb z)) q_IM (q_mJ y pd), 34, 31630))) 2 (fun _ _ => rfl) ?_
            refine q_Ru_seg (g2 := (13, [(0, .ref 64)], [.int (((y / 24) - (y / 24) / 40 * 40).toInt32)], (q_cM (q_mA pix smp tr (q_nb p 1 dn ins) (q_fb z)) q_IM (q_mJ y pd), 34, 31630))) 5 (fun _ _ => rfl) ?_
            rw [hM]
            exact q_Ru_ret rfl rfl
          show q_Ru _ _ _ (18, [(1, .int col), (0, .ref 64)], [.int lin], (q_cM (q_mA pix smp tr (q_nb p 1 dn ins) (q_fb z)) q_IM (q_mJ y pd), 34, 31630)) _
          refine q_Ru_seg (g2 := (25, [(1, .int col), (0, .ref 64)], [.int 0, .int lin], (q_cM (q_mA pix smp tr (q_nb p 1 dn ins) (q_fb z)) q_IM (q_mJ y pd), 34, 31630))) 4 (fun _ _ => rfl) ?_
          refine q_Ru_rsT (g2 := (39, [(1, .int col), (0, .ref 64)], [], (q_cM (q_mA pix smp tr (q_nb p 1 dn ins) (q_fb z)) q_IM (q_mJ y pd), 34, 31630))) rfl rfl (q_d_neF h209) ?_
          refine q_Ru_seg (g2 := (40, [(1, .int col), (0, .ref 64)], [.ref 64], (q_cM (q_mA pix smp tr (q_nb p 1 dn ins) (q_fb z)) q_IM (q_mJ y pd), 34, 31630))) 1 (fun _ _ => rfl) ?_
          refine q_Ru_call (v := (some (.int 0))) (h2 := (q_cM (q_mA pix smp tr (q_nb p 1 dn ins) (q_fb z)) q_IM (q_mJ y pd), 34, 31630)) rfl rfl ?_ ?_
          · exact (by have e := q_m_picX pix smp tr p 1 dn ins z y pd col lin p1 p2 hC hM c0 c1 l0 l1 a0 a1 b0 b1 hp0 hp1 hp2 i0 i1; rw [hpic] at e; exact e.le (Nat.le_of_ble_eq_true rfl))
          show q_Ru _ _ _ (43, [(1, .int col), (0, .ref 64)], [.int 0], (q_cM (q_mA pix smp tr (q_nb p 1 dn ins) (q_fb z)) q_IM (q_mJ y pd), 34, 31630)) _
          refine q_Ru_seg (g2 := (45, [(2, .int 0), (1, .int col), (0, .ref 64)], [.ref 64], (q_cM (q_mA pix smp tr (q_nb p 1 dn ins) (q_fb z)) q_IM (q_mJ y pd), 34, 31630))) 2 (fun _ _ => rfl) ?_
          refine q_Ru_call (v := (some (.int (lin - 4)))) (h2 := (q_cM (q_mA pix smp tr (q_nb p 1 dn ins) (q_fb z)) q_IM (q_mJ y pd), 34, 31630)) rfl rfl ?_ ?_
          · refine q_Ca_of (Nat.le_of_ble_eq_true rfl) ?_
            refine q_Ru_seg (g2 := (1, [(0, .ref 64)], [.ref 64], (q_cM (q_mA pix smp tr (q_nb p 1 dn ins) (q_fb z)) q_IM (q_mJ y pd), 34, 31630))) 1 (fun _ _ => rfl) ?_
            refine q_Ru_call (v := (some (.int lin))) (h2 := (q_cM (q_mA pix smp tr (q_nb p 1 dn ins) (q_fb z)) q_IM (q_mJ y pd), 34, 31630)) rfl rfl ?_ ?_
            · refine q_Ca_of (Nat.le_of_ble_eq_true rfl) ?_
              refine q_Ru_seg (g2 := (4, [(0, .ref 64)], [.long y], (q_cM (q_mA pix smp tr (q_nb p 1 dn ins) (q_fb z)) q_IM (q_mJ y pd), 34, 31630))) 2 (fun _ _ => rfl) ?_
              refine q_Ru_seg (g2 := (13, [(0, .ref 64)], [.int (((y / 24) - (y / 24) / 40 * 40).toInt32)], (q_cM (q_mA pix smp tr (q_nb p 1 dn ins) (q_fb z)) q_IM (q_mJ y pd), 34, 31630))) 5 (fun _ _ => rfl) ?_
              rw [hM]
              exact q_Ru_ret rfl rfl
            show q_Ru _ _ _ (4, [(0, .ref 64)], [.int lin], (q_cM (q_mA pix smp tr (q_nb p 1 dn ins) (q_fb z)) q_IM (q_mJ y pd), 34, 31630)) _
            refine q_Ru_seg (g2 := (6, [(0, .ref 64)], [.int (lin - 4)], (q_cM (q_mA pix smp tr (q_nb p 1 dn ins) (q_fb z)) q_IM (q_mJ y pd), 34, 31630))) 2 (fun _ _ => rfl) ?_
            exact q_Ru_ret rfl rfl
          show q_Ru _ _ _ (48, [(2, .int 0), (1, .int col), (0, .ref 64)], [.int (lin - 4)], (q_cM (q_mA pix smp tr (q_nb p 1 dn ins) (q_fb z)) q_IM (q_mJ y pd), 34, 31630)) _
          refine q_Ru_seg (g2 := (53, [(3, .int (lin - 4)), (2, .int 0), (1, .int col), (0, .ref 64)], [.int 31, .int 0, .int (lin - 4)], (q_cM (q_mA pix smp tr (q_nb p 1 dn ins) (q_fb z)) q_IM (q_mJ y pd), 34, 31630))) 4 (fun _ _ => rfl) ?_
          refine q_Ru_call (v := (some (.int 1))) (h2 := (q_cM (q_mA pix smp tr (q_nb p 1 dn ins) (q_fb z)) q_IM (q_mJ y pd), 34, 31630)) rfl rfl ?_ ?_
          · refine q_Ca_of (Nat.le_of_ble_eq_true rfl) ?_
            refine q_Ru_seg (g2 := (2, [(0, .int (lin - 4)), (1, .int 0), (2, .int 31)], [.int 0, .int (lin - 4)], (q_cM (q_mA pix smp tr (q_nb p 1 dn ins) (q_fb z)) q_IM (q_mJ y pd), 34, 31630))) 2 (fun _ _ => rfl) ?_
            refine q_Ru_rsF (g2 := (5, [(0, .int (lin - 4)), (1, .int 0), (2, .int 31)], [], (q_cM (q_mA pix smp tr (q_nb p 1 dn ins) (q_fb z)) q_IM (q_mJ y pd), 34, 31630))) rfl rfl h212 ?_
            refine q_Ru_seg (g2 := (7, [(0, .int (lin - 4)), (1, .int 0), (2, .int 31)], [.int 31, .int (lin - 4)], (q_cM (q_mA pix smp tr (q_nb p 1 dn ins) (q_fb z)) q_IM (q_mJ y pd), 34, 31630))) 2 (fun _ _ => rfl) ?_
            refine q_Ru_rsF (g2 := (10, [(0, .int (lin - 4)), (1, .int 0), (2, .int 31)], [], (q_cM (q_mA pix smp tr (q_nb p 1 dn ins) (q_fb z)) q_IM (q_mJ y pd), 34, 31630))) rfl rfl h214 ?_
            refine q_Ru_seg (g2 := (15, [(0, .int (lin - 4)), (1, .int 0), (2, .int 31)], [.int 1], (q_cM (q_mA pix smp tr (q_nb p 1 dn ins) (q_fb z)) q_IM (q_mJ y pd), 34, 31630))) 2 (fun _ _ => rfl) ?_
            exact q_Ru_ret rfl rfl
          show q_Ru _ _ _ (56, [(3, .int (lin - 4)), (2, .int 0), (1, .int col), (0, .ref 64)], [.int 1], (q_cM (q_mA pix smp tr (q_nb p 1 dn ins) (q_fb z)) q_IM (q_mJ y pd), 34, 31630)) _
          refine q_Ru_seg (g2 := (63, [(3, .int (lin - 4)), (2, .int 0), (1, .int col), (0, .ref 64)], [.int 19, .int 4, .int col], (q_cM (q_mA pix smp tr (q_nb p 1 dn ins) (q_fb z)) q_IM (q_mJ y pd), 34, 31630))) 4 (fun _ _ => rfl) ?_
          refine q_Ru_call (v := (some (.int 0))) (h2 := (q_cM (q_mA pix smp tr (q_nb p 1 dn ins) (q_fb z)) q_IM (q_mJ y pd), 34, 31630)) rfl rfl ?_ ?_
          · refine q_Ca_of (Nat.le_of_ble_eq_true rfl) ?_
            refine q_Ru_seg (g2 := (2, [(0, .int col), (1, .int 4), (2, .int 19)], [.int 4, .int col], (q_cM (q_mA pix smp tr (q_nb p 1 dn ins) (q_fb z)) q_IM (q_mJ y pd), 34, 31630))) 2 (fun _ _ => rfl) ?_
            refine q_Ru_rsT (g2 := (14, [(0, .int col), (1, .int 4), (2, .int 19)], [], (q_cM (q_mA pix smp tr (q_nb p 1 dn ins) (q_fb z)) q_IM (q_mJ y pd), 34, 31630))) rfl rfl h216 ?_
            refine q_Ru_seg (g2 := (15, [(0, .int col), (1, .int 4), (2, .int 19)], [.int 0], (q_cM (q_mA pix smp tr (q_nb p 1 dn ins) (q_fb z)) q_IM (q_mJ y pd), 34, 31630))) 1 (fun _ _ => rfl) ?_
            exact q_Ru_ret rfl rfl
          show q_Ru _ _ _ (66, [(3, .int (lin - 4)), (2, .int 0), (1, .int col), (0, .ref 64)], [.int 0], (q_cM (q_mA pix smp tr (q_nb p 1 dn ins) (q_fb z)) q_IM (q_mJ y pd), 34, 31630)) _
          refine q_Ru_seg (g2 := (92, [(3, .int (lin - 4)), (2, .int 0), (1, .int col), (0, .ref 64)], [.ref 64], (q_cM (q_mA pix smp tr (q_nb p 1 dn ins) (q_fb z)) q_IM (q_mJ y pd), 34, 31630))) 2 (fun _ _ => rfl) ?_
          refine q_Ru_call (v := none) (h2 := (q_cM (q_mA pix smp tr (q_nb p 1 dn ins) (q_fb z)) q_IM (q_mJ y pd), 34, 31630)) rfl rfl ?_ ?_
          · exact (q_m_times pix smp tr p 1 dn ins z y pd col lin p1 p2 hC hM c0 c1 l0 l1 a0 a1 b0 b1 hp0 hp1 hp2 i0 i1  ).le (Nat.le_of_ble_eq_true rfl)
          show q_Ru _ _ _ (95, [(3, .int (lin - 4)), (2, .int 0), (1, .int col), (0, .ref 64)], [], (q_cM (q_mA pix smp tr (q_nb p 1 dn ins) (q_fb z)) q_IM (q_mJ y pd), 34, 31630)) _
          refine q_Ru_seg (g2 := (96, [(3, .int (lin - 4)), (2, .int 0), (1, .int col), (0, .ref 64)], [.ref 64], (q_cM (q_mA pix smp tr (q_nb p 1 dn ins) (q_fb z)) q_IM (q_mJ y pd), 34, 31630))) 1 (fun _ _ => rfl) ?_
          refine q_Ru_call (v := none) (h2 := (q_cM (q_mA pix smp tr (q_nb p 1 dn ins) (q_fb z)) q_IM (q_mJ y pd), 34, 31630)) rfl rfl ?_ ?_
          · exact (q_m_winds pix smp tr p 1 dn ins z y pd col lin p1 p2 hC hM c0 c1 l0 l1 a0 a1 b0 b1 hp0 hp1 hp2 i0 i1  ).le (Nat.le_of_ble_eq_true rfl)
          show q_Ru _ _ _ (99, [(3, .int (lin - 4)), (2, .int 0), (1, .int col), (0, .ref 64)], [], (q_cM (q_mA pix smp tr (q_nb p 1 dn ins) (q_fb z)) q_IM (q_mJ y pd), 34, 31630)) _
          refine q_Ru_seg (g2 := (102, [(3, .int (lin - 4)), (2, .int 0), (1, .int col), (0, .ref 64)], [.int 23, .int col], (q_cM (q_mA pix smp tr (q_nb p 1 dn ins) (q_fb z)) q_IM (q_mJ y pd), 34, 31630))) 2 (fun _ _ => rfl) ?_
          refine q_Ru_rsT (g2 := (109, [(3, .int (lin - 4)), (2, .int 0), (1, .int col), (0, .ref 64)], [], (q_cM (q_mA pix smp tr (q_nb p 1 dn ins) (q_fb z)) q_IM (q_mJ y pd), 34, 31630))) rfl rfl (q_d_neF h217) ?_
          refine q_Ru_seg (g2 := (114, [(3, .int (lin - 4)), (2, .int 0), (1, .int col), (0, .ref 64)], [.ref 64], (q_cM (q_mA pix smp tr (q_nb p 1 dn ins) (q_fb z)) q_IM (q_mJ y pd), 34, 31630))) 3 (fun _ _ => rfl) ?_
          refine q_Ru_call (v := none) (h2 := (q_cM (q_mA pix smp z171a (q_nb p2 0 (dn + 1) (ins + 1)) (q_fb z171b)) q_IM (q_mJ y pd), 34, 31630)) rfl rfl ?_ ?_
          · exact p171.le (Nat.le_of_ble_eq_true rfl)
          show q_Ru _ _ _ (117, [(3, .int (lin - 4)), (2, .int 0), (1, .int col), (0, .ref 64)], [], (q_cM (q_mA pix smp z171a (q_nb p2 0 (dn + 1) (ins + 1)) (q_fb z171b)) q_IM (q_mJ y pd), 34, 31630)) _
          refine q_Ru_seg (g2 := (122, [(3, .int (lin - 4)), (2, .int 0), (1, .int col), (0, .ref 64)], [.long pd, .ref 64], (q_cM (q_mA pix smp z171a (q_nb p2 0 (dn + 1) (ins + 1)) (q_fb z171b)) q_IM (q_mJ y pd), 34, 31630))) 3 (fun _ _ => rfl) ?_
          refine q_Ru_seg (g2 := (140, [(3, .int (lin - 4)), (2, .int 0), (1, .int col), (0, .ref 64)], [.long y, .ref 64], (q_cM (q_mA pix smp z171a (q_nb p2 0 (dn + 1) (ins + 1)) (q_fb z171b)) q_IM (q_uI (q_mJ y pd) 0 16 (pd + 0)), 34, 31630))) 8 (fun _ _ => rfl) ?_
          refine q_Ru_seg (g2 := (146, [(3, .int (lin - 4)), (2, .int 0), (1, .int col), (0, .ref 64)], [.int 0], (q_cM (q_mA pix smp z171a (q_nb p2 0 (dn + 1) (ins + 1)) (q_fb z171b)) q_IM (q_uI (q_uI (q_mJ y pd) 0 16 (pd + 0)) 0 15 (y + 1)), 34, 31630))) 4 (fun _ _ => rfl) ?_
          exact q_Ru_ret rfl rfl
  | false =>
    cases h218 : decide (lin - 4 < 0) with
    | true =>
      cases h219 : decide (col = 23) with
      | true =>
        obtain ⟨z176a, p176⟩ := q_m_sample pix smp tr p 1 dn ins z y pd col lin p1 p2 hC hM c0 c1 l0 l1 a0 a1 b0 b1 hp0 hp1 hp2 i0 i1  
        obtain ⟨z177a, z177b, p177⟩ := q_m_go1 pix z176a tr p dn ins z y pd col lin p1 p2 hC hM c0 c1 l0 l1 a0 a1 b0 b1 hp0 hp1 hp2 i0 i1  
        refine ⟨pix, z176a, z177a, z177b, ?_⟩
        refine q_Ca_of (Nat.le_of_ble_eq_true rfl) ?_
        refine q_Ru_seg (g2 := (4, [(0, .ref 64)], [.long y], (q_cM (q_mA pix smp tr (q_nb p 1 dn ins) (q_fb z)) q_IM (q_mJ y pd), 34, 31630))) 2 (fun _ _ => rfl) ?_
        refine q_Ru_seg (g2 := (9, [(0, .ref 64)], [.int ((y - y / 24 * 24).toInt32)], (q_cM (q_mA pix smp tr (q_nb p 1 dn ins) (q_fb z)) q_IM (q_mJ y pd), 34, 31630))) 3 (fun _ _ => rfl) ?_
        rw [hC]
        refine q_Ru_seg (g2 := (11, [(1, .int col), (0, .ref 64)], [.int col], (q_cM (q_mA pix smp tr (q_nb p 1 dn ins) (q_fb z)) q_IM (q_mJ y pd), 34, 31630))) 2 (fun _ _ => rfl) ?_
        refine q_Ru_rsT (g2 := (39, [(1, .int col), (0, .ref 64)], [], (q_cM (q_mA pix smp tr (q_nb p 1 dn ins) (q_fb z)) q_IM (q_mJ y pd), 34, 31630))) rfl rfl (q_d_neF h208) ?_
        refine q_Ru_seg (g2 := (40, [(1, .int col), (0, .ref 64)], [.ref 64], (q_cM (q_mA pix smp tr (q_nb p 1 dn ins) (q_fb z)) q_IM (q_mJ y pd), 34, 31630))) 1 (fun _ _ => rfl) ?_
        refine q_Ru_call (v := (some (.int 0))) (h2 := (q_cM (q_mA pix smp tr (q_nb p 1 dn ins) (q_fb z)) q_IM (q_mJ y pd), 34, 31630)) rfl rfl ?_ ?_
        · exact (by have e := q_m_picX pix smp tr p 1 dn ins z y pd col lin p1 p2 hC hM c0 c1 l0 l1 a0 a1 b0 b1 hp0 hp1 hp2 i0 i1; rw [hpic] at e; exact e.le (Nat.le_of_ble_eq_true rfl))
        show q_Ru _ _ _ (43, [(1, .int col), (0, .ref 64)], [.int 0], (q_cM (q_mA pix smp tr (q_nb p 1 dn ins) (q_fb z)) q_IM (q_mJ y pd), 34, 31630)) _
        refine q_Ru_seg (g2 := (45, [(2, .int 0), (1, .int col), (0, .ref 64)], [.ref 64], (q_cM (q_mA pix smp tr (q_nb p 1 dn ins) (q_fb z)) q_IM (q_mJ y pd), 34, 31630))) 2 (fun _ _ => rfl) ?_
        refine q_Ru_call (v := (some (.int (lin - 4)))) (h2 := (q_cM (q_mA pix smp tr (q_nb p 1 dn ins) (q_fb z)) q_IM (q_mJ y pd), 34, 31630)) rfl rfl ?_ ?_
        · refine q_Ca_of (Nat.le_of_ble_eq_true rfl) ?_
          refine q_Ru_seg (g2 := (1, [(0, .ref 64)], [.ref 64], (q_cM (q_mA pix smp tr (q_nb p 1 dn ins) (q_fb z)) q_IM (q_mJ y pd), 34, 31630))) 1 (fun _ _ => rfl) ?_
          refine q_Ru_call (v := (some (.int lin))) (h2 := (q_cM (q_mA pix smp tr (q_nb p 1 dn ins) (q_fb z)) q_IM (q_mJ y pd), 34, 31630)) rfl rfl ?_ ?_
          · refine q_Ca_of (Nat.le_of_ble_eq_true rfl) ?_
            refine q_Ru_seg (g2 := (4, [(0, .ref 64)], [.long y], (q_cM (q_mA pix smp tr (q_nb p 1 dn ins) (q_fb z)) q_IM (q_mJ y pd), 34, 31630))) 2 (fun _ _ => rfl) ?_
            refine q_Ru_seg (g2 := (13, [(0, .ref 64)], [.int (((y / 24) - (y / 24) / 40 * 40).toInt32)], (q_cM (q_mA pix smp tr (q_nb p 1 dn ins) (q_fb z)) q_IM (q_mJ y pd), 34, 31630))) 5 (fun _ _ => rfl) ?_
            rw [hM]
            exact q_Ru_ret rfl rfl
          show q_Ru _ _ _ (4, [(0, .ref 64)], [.int lin], (q_cM (q_mA pix smp tr (q_nb p 1 dn ins) (q_fb z)) q_IM (q_mJ y pd), 34, 31630)) _
          refine q_Ru_seg (g2 := (6, [(0, .ref 64)], [.int (lin - 4)], (q_cM (q_mA pix smp tr (q_nb p 1 dn ins) (q_fb z)) q_IM (q_mJ y pd), 34, 31630))) 2 (fun _ _ => rfl) ?_
          exact q_Ru_ret rfl rfl
        show q_Ru _ _ _ (48, [(2, .int 0), (1, .int col), (0, .ref 64)], [.int (lin - 4)], (q_cM (q_mA pix smp tr (q_nb p 1 dn ins) (q_fb z)) q_IM (q_mJ y pd), 34, 31630)) _
        refine q_Ru_seg (g2 := (53, [(3, .int (lin - 4)), (2, .int 0), (1, .int col), (0, .ref 64)], [.int 31, .int 0, .int (lin - 4)], (q_cM (q_mA pix smp tr (q_nb p 1 dn ins) (q_fb z)) q_IM (q_mJ y pd), 34, 31630))) 4 (fun _ _ => rfl) ?_
        refine q_Ru_call (v := (some (.int 0))) (h2 := (q_cM (q_mA pix smp tr (q_nb p 1 dn ins) (q_fb z)) q_IM (q_mJ y pd), 34, 31630)) rfl rfl ?_ ?_
        · refine q_Ca_of (Nat.le_of_ble_eq_true rfl) ?_
          refine q_Ru_seg (g2 := (2, [(0, .int (lin - 4)), (1, .int 0), (2, .int 31)], [.int 0, .int (lin - 4)], (q_cM (q_mA pix smp tr (q_nb p 1 dn ins) (q_fb z)) q_IM (q_mJ y pd), 34, 31630))) 2 (fun _ _ => rfl) ?_
          refine q_Ru_rsT (g2 := (14, [(0, .int (lin - 4)), (1, .int 0), (2, .int 31)], [], (q_cM (q_mA pix smp tr (q_nb p 1 dn ins) (q_fb z)) q_IM (q_mJ y pd), 34, 31630))) rfl rfl h218 ?_
          refine q_Ru_seg (g2 := (15, [(0, .int (lin - 4)), (1, .int 0), (2, .int 31)], [.int 0], (q_cM (q_mA pix smp tr (q_nb p 1 dn ins) (q_fb z)) q_IM (q_mJ y pd), 34, 31630))) 1 (fun _ _ => rfl) ?_
          exact q_Ru_ret rfl rfl
        show q_Ru _ _ _ (56, [(3, .int (lin - 4)), (2, .int 0), (1, .int col), (0, .ref 64)], [.int 0], (q_cM (q_mA pix smp tr (q_nb p 1 dn ins) (q_fb z)) q_IM (q_mJ y pd), 34, 31630)) _
        refine q_Ru_seg (g2 := (92, [(3, .int (lin - 4)), (2, .int 0), (1, .int col), (0, .ref 64)], [.ref 64], (q_cM (q_mA pix smp tr (q_nb p 1 dn ins) (q_fb z)) q_IM (q_mJ y pd), 34, 31630))) 2 (fun _ _ => rfl) ?_
        refine q_Ru_call (v := none) (h2 := (q_cM (q_mA pix smp tr (q_nb p 1 dn ins) (q_fb z)) q_IM (q_mJ y pd), 34, 31630)) rfl rfl ?_ ?_
        · exact (q_m_times pix smp tr p 1 dn ins z y pd col lin p1 p2 hC hM c0 c1 l0 l1 a0 a1 b0 b1 hp0 hp1 hp2 i0 i1  ).le (Nat.le_of_ble_eq_true rfl)
        show q_Ru _ _ _ (95, [(3, .int (lin - 4)), (2, .int 0), (1, .int col), (0, .ref 64)], [], (q_cM (q_mA pix smp tr (q_nb p 1 dn ins) (q_fb z)) q_IM (q_mJ y pd), 34, 31630)) _
        refine q_Ru_seg (g2 := (96, [(3, .int (lin - 4)), (2, .int 0), (1, .int col), (0, .ref 64)], [.ref 64], (q_cM (q_mA pix smp tr (q_nb p 1 dn ins) (q_fb z)) q_IM (q_mJ y pd), 34, 31630))) 1 (fun _ _ => rfl) ?_
        refine q_Ru_call (v := none) (h2 := (q_cM (q_mA pix smp tr (q_nb p 1 dn ins) (q_fb z)) q_IM (q_mJ y pd), 34, 31630)) rfl rfl ?_ ?_
        · exact (q_m_winds pix smp tr p 1 dn ins z y pd col lin p1 p2 hC hM c0 c1 l0 l1 a0 a1 b0 b1 hp0 hp1 hp2 i0 i1  ).le (Nat.le_of_ble_eq_true rfl)
        show q_Ru _ _ _ (99, [(3, .int (lin - 4)), (2, .int 0), (1, .int col), (0, .ref 64)], [], (q_cM (q_mA pix smp tr (q_nb p 1 dn ins) (q_fb z)) q_IM (q_mJ y pd), 34, 31630)) _
        refine q_Ru_seg (g2 := (102, [(3, .int (lin - 4)), (2, .int 0), (1, .int col), (0, .ref 64)], [.int 23, .int col], (q_cM (q_mA pix smp tr (q_nb p 1 dn ins) (q_fb z)) q_IM (q_mJ y pd), 34, 31630))) 2 (fun _ _ => rfl) ?_
        refine q_Ru_rsF (g2 := (105, [(3, .int (lin - 4)), (2, .int 0), (1, .int col), (0, .ref 64)], [], (q_cM (q_mA pix smp tr (q_nb p 1 dn ins) (q_fb z)) q_IM (q_mJ y pd), 34, 31630))) rfl rfl (q_d_neT h219) ?_
        refine q_Ru_seg (g2 := (106, [(3, .int (lin - 4)), (2, .int 0), (1, .int col), (0, .ref 64)], [.ref 64], (q_cM (q_mA pix smp tr (q_nb p 1 dn ins) (q_fb z)) q_IM (q_mJ y pd), 34, 31630))) 1 (fun _ _ => rfl) ?_
        refine q_Ru_call (v := none) (h2 := (q_cM (q_mA pix z176a tr (q_nb p 1 dn ins) (q_fb z)) q_IM (q_mJ y pd), 34, 31630)) rfl rfl ?_ ?_
        · exact p176.le (Nat.le_of_ble_eq_true rfl)
        show q_Ru _ _ _ (109, [(3, .int (lin - 4)), (2, .int 0), (1, .int col), (0, .ref 64)], [], (q_cM (q_mA pix z176a tr (q_nb p 1 dn ins) (q_fb z)) q_IM (q_mJ y pd), 34, 31630)) _
        refine q_Ru_seg (g2 := (114, [(3, .int (lin - 4)), (2, .int 0), (1, .int col), (0, .ref 64)], [.ref 64], (q_cM (q_mA pix z176a tr (q_nb p 1 dn ins) (q_fb z)) q_IM (q_mJ y pd), 34, 31630))) 3 (fun _ _ => rfl) ?_
        refine q_Ru_call (v := none) (h2 := (q_cM (q_mA pix z176a z177a (q_nb p2 0 (dn + 1) (ins + 1)) (q_fb z177b)) q_IM (q_mJ y pd), 34, 31630)) rfl rfl ?_ ?_
        · exact p177.le (Nat.le_of_ble_eq_true rfl)
        show q_Ru _ _ _ (117, [(3, .int (lin - 4)), (2, .int 0), (1, .int col), (0, .ref 64)], [], (q_cM (q_mA pix z176a z177a (q_nb p2 0 (dn + 1) (ins + 1)) (q_fb z177b)) q_IM (q_mJ y pd), 34, 31630)) _
        refine q_Ru_seg (g2 := (122, [(3, .int (lin - 4)), (2, .int 0), (1, .int col), (0, .ref 64)], [.long pd, .ref 64], (q_cM (q_mA pix z176a z177a (q_nb p2 0 (dn + 1) (ins + 1)) (q_fb z177b)) q_IM (q_mJ y pd), 34, 31630))) 3 (fun _ _ => rfl) ?_
        refine q_Ru_seg (g2 := (140, [(3, .int (lin - 4)), (2, .int 0), (1, .int col), (0, .ref 64)], [.long y, .ref 64], (q_cM (q_mA pix z176a z177a (q_nb p2 0 (dn + 1) (ins + 1)) (q_fb z177b)) q_IM (q_uI (q_mJ y pd) 0 16 (pd + 0)), 34, 31630))) 8 (fun _ _ => rfl) ?_
        refine q_Ru_seg (g2 := (146, [(3, .int (lin - 4)), (2, .int 0), (1, .int col), (0, .ref 64)], [.int 0], (q_cM (q_mA pix z176a z177a (q_nb p2 0 (dn + 1) (ins + 1)) (q_fb z177b)) q_IM (q_uI (q_uI (q_mJ y pd) 0 16 (pd + 0)) 0 15 (y + 1)), 34, 31630))) 4 (fun _ _ => rfl) ?_
        exact q_Ru_ret rfl rfl
      | false =>
        obtain ⟨z180a, z180b, p180⟩ := q_m_go1 pix smp tr p dn ins z y pd col lin p1 p2 hC hM c0 c1 l0 l1 a0 a1 b0 b1 hp0 hp1 hp2 i0 i1  
        refine ⟨pix, smp, z180a, z180b, ?_⟩
        refine q_Ca_of (Nat.le_of_ble_eq_true rfl) ?_
        refine q_Ru_seg (g2 := (4, [(0, .ref 64)], [.long y], (q_cM (q_mA pix smp tr (q_nb p 1 dn ins) (q_fb z)) q_IM (q_mJ y pd), 34, 31630))) 2 (fun _ _ => rfl) ?_
        refine q_Ru_seg (g2 := (9, [(0, .ref 64)], [.int ((y - y / 24 * 24).toInt32)], (q_cM (q_mA pix smp tr (q_nb p 1 dn ins) (q_fb z)) q_IM (q_mJ y pd), 34, 31630))) 3 (fun _ _ => rfl) ?_
        rw [hC]
        refine q_Ru_seg (g2 := (11, [(1, .int col), (0, .ref 64)], [.int col], (q_cM (q_mA pix smp tr (q_nb p 1 dn ins) (q_fb z)) q_IM (q_mJ y pd), 34, 31630))) 2 (fun _ _ => rfl) ?_
        refine q_Ru_rsT (g2 := (39, [(1, .int col), (0, .ref 64)], [], (q_cM (q_mA pix smp tr (q_nb p 1 dn ins) (q_fb z)) q_IM (q_mJ y pd), 34, 31630))) rfl rfl (q_d_neF h208) ?_
        refine q_Ru_seg (g2 := (40, [(1, .int col), (0, .ref 64)], [.ref 64], (q_cM (q_mA pix smp tr (q_nb p 1 dn ins) (q_fb z)) q_IM (q_mJ y pd), 34, 31630))) 1 (fun _ _ => rfl) ?_
        refine q_Ru_call (v := (some (.int 0))) (h2 := (q_cM (q_mA pix smp tr (q_nb p 1 dn ins) (q_fb z)) q_IM (q_mJ y pd), 34, 31630)) rfl rfl ?_ ?_
        · exact (by have e := q_m_picX pix smp tr p 1 dn ins z y pd col lin p1 p2 hC hM c0 c1 l0 l1 a0 a1 b0 b1 hp0 hp1 hp2 i0 i1; rw [hpic] at e; exact e.le (Nat.le_of_ble_eq_true rfl))
        show q_Ru _ _ _ (43, [(1, .int col), (0, .ref 64)], [.int 0], (q_cM (q_mA pix smp tr (q_nb p 1 dn ins) (q_fb z)) q_IM (q_mJ y pd), 34, 31630)) _
        refine q_Ru_seg (g2 := (45, [(2, .int 0), (1, .int col), (0, .ref 64)], [.ref 64], (q_cM (q_mA pix smp tr (q_nb p 1 dn ins) (q_fb z)) q_IM (q_mJ y pd), 34, 31630))) 2 (fun _ _ => rfl) ?_
        refine q_Ru_call (v := (some (.int (lin - 4)))) (h2 := (q_cM (q_mA pix smp tr (q_nb p 1 dn ins) (q_fb z)) q_IM (q_mJ y pd), 34, 31630)) rfl rfl ?_ ?_
        · refine q_Ca_of (Nat.le_of_ble_eq_true rfl) ?_
          refine q_Ru_seg (g2 := (1, [(0, .ref 64)], [.ref 64], (q_cM (q_mA pix smp tr (q_nb p 1 dn ins) (q_fb z)) q_IM (q_mJ y pd), 34, 31630))) 1 (fun _ _ => rfl) ?_
          refine q_Ru_call (v := (some (.int lin))) (h2 := (q_cM (q_mA pix smp tr (q_nb p 1 dn ins) (q_fb z)) q_IM (q_mJ y pd), 34, 31630)) rfl rfl ?_ ?_
          · refine q_Ca_of (Nat.le_of_ble_eq_true rfl) ?_
            refine q_Ru_seg (g2 := (4, [(0, .ref 64)], [.long y], (q_cM (q_mA pix smp tr (q_nb p 1 dn ins) (q_fb z)) q_IM (q_mJ y pd), 34, 31630))) 2 (fun _ _ => rfl) ?_
            refine q_Ru_seg (g2 := (13, [(0, .ref 64)], [.int (((y / 24) - (y / 24) / 40 * 40).toInt32)], (q_cM (q_mA pix smp tr (q_nb p 1 dn ins) (q_fb z)) q_IM (q_mJ y pd), 34, 31630))) 5 (fun _ _ => rfl) ?_
            rw [hM]
            exact q_Ru_ret rfl rfl
          show q_Ru _ _ _ (4, [(0, .ref 64)], [.int lin], (q_cM (q_mA pix smp tr (q_nb p 1 dn ins) (q_fb z)) q_IM (q_mJ y pd), 34, 31630)) _
          refine q_Ru_seg (g2 := (6, [(0, .ref 64)], [.int (lin - 4)], (q_cM (q_mA pix smp tr (q_nb p 1 dn ins) (q_fb z)) q_IM (q_mJ y pd), 34, 31630))) 2 (fun _ _ => rfl) ?_
          exact q_Ru_ret rfl rfl
        show q_Ru _ _ _ (48, [(2, .int 0), (1, .int col), (0, .ref 64)], [.int (lin - 4)], (q_cM (q_mA pix smp tr (q_nb p 1 dn ins) (q_fb z)) q_IM (q_mJ y pd), 34, 31630)) _
        refine q_Ru_seg (g2 := (53, [(3, .int (lin - 4)), (2, .int 0), (1, .int col), (0, .ref 64)], [.int 31, .int 0, .int (lin - 4)], (q_cM (q_mA pix smp tr (q_nb p 1 dn ins) (q_fb z)) q_IM (q_mJ y pd), 34, 31630))) 4 (fun _ _ => rfl) ?_
        refine q_Ru_call (v := (some (.int 0))) (h2 := (q_cM (q_mA pix smp tr (q_nb p 1 dn ins) (q_fb z)) q_IM (q_mJ y pd), 34, 31630)) rfl rfl ?_ ?_
        · refine q_Ca_of (Nat.le_of_ble_eq_true rfl) ?_
          refine q_Ru_seg (g2 := (2, [(0, .int (lin - 4)), (1, .int 0), (2, .int 31)], [.int 0, .int (lin - 4)], (q_cM (q_mA pix smp tr (q_nb p 1 dn ins) (q_fb z)) q_IM (q_mJ y pd), 34, 31630))) 2 (fun _ _ => rfl) ?_
          refine q_Ru_rsT (g2 := (14, [(0, .int (lin - 4)), (1, .int 0), (2, .int 31)], [], (q_cM (q_mA pix smp tr (q_nb p 1 dn ins) (q_fb z)) q_IM (q_mJ y pd), 34, 31630))) rfl rfl h218 ?_
          refine q_Ru_seg (g2 := (15, [(0, .int (lin - 4)), (1, .int 0), (2, .int 31)], [.int 0], (q_cM (q_mA pix smp tr (q_nb p 1 dn ins) (q_fb z)) q_IM (q_mJ y pd), 34, 31630))) 1 (fun _ _ => rfl) ?_
          exact q_Ru_ret rfl rfl
        show q_Ru _ _ _ (56, [(3, .int (lin - 4)), (2, .int 0), (1, .int col), (0, .ref 64)], [.int 0], (q_cM (q_mA pix smp tr (q_nb p 1 dn ins) (q_fb z)) q_IM (q_mJ y pd), 34, 31630)) _
        refine q_Ru_seg (g2 := (92, [(3, .int (lin - 4)), (2, .int 0), (1, .int col), (0, .ref 64)], [.ref 64], (q_cM (q_mA pix smp tr (q_nb p 1 dn ins) (q_fb z)) q_IM (q_mJ y pd), 34, 31630))) 2 (fun _ _ => rfl) ?_
        refine q_Ru_call (v := none) (h2 := (q_cM (q_mA pix smp tr (q_nb p 1 dn ins) (q_fb z)) q_IM (q_mJ y pd), 34, 31630)) rfl rfl ?_ ?_
        · exact (q_m_times pix smp tr p 1 dn ins z y pd col lin p1 p2 hC hM c0 c1 l0 l1 a0 a1 b0 b1 hp0 hp1 hp2 i0 i1  ).le (Nat.le_of_ble_eq_true rfl)
        show q_Ru _ _ _ (95, [(3, .int (lin - 4)), (2, .int 0), (1, .int col), (0, .ref 64)], [], (q_cM (q_mA pix smp tr (q_nb p 1 dn ins) (q_fb z)) q_IM (q_mJ y pd), 34, 31630)) _
        refine q_Ru_seg (g2 := (96, [(3, .int (lin - 4)), (2, .int 0), (1, .int col), (0, .ref 64)], [.ref 64], (q_cM (q_mA pix smp tr (q_nb p 1 dn ins) (q_fb z)) q_IM (q_mJ y pd), 34, 31630))) 1 (fun _ _ => rfl) ?_
        refine q_Ru_call (v := none) (h2 := (q_cM (q_mA pix smp tr (q_nb p 1 dn ins) (q_fb z)) q_IM (q_mJ y pd), 34, 31630)) rfl rfl ?_ ?_
        · exact (q_m_winds pix smp tr p 1 dn ins z y pd col lin p1 p2 hC hM c0 c1 l0 l1 a0 a1 b0 b1 hp0 hp1 hp2 i0 i1  ).le (Nat.le_of_ble_eq_true rfl)
        show q_Ru _ _ _ (99, [(3, .int (lin - 4)), (2, .int 0), (1, .int col), (0, .ref 64)], [], (q_cM (q_mA pix smp tr (q_nb p 1 dn ins) (q_fb z)) q_IM (q_mJ y pd), 34, 31630)) _
        refine q_Ru_seg (g2 := (102, [(3, .int (lin - 4)), (2, .int 0), (1, .int col), (0, .ref 64)], [.int 23, .int col], (q_cM (q_mA pix smp tr (q_nb p 1 dn ins) (q_fb z)) q_IM (q_mJ y pd), 34, 31630))) 2 (fun _ _ => rfl) ?_
        refine q_Ru_rsT (g2 := (109, [(3, .int (lin - 4)), (2, .int 0), (1, .int col), (0, .ref 64)], [], (q_cM (q_mA pix smp tr (q_nb p 1 dn ins) (q_fb z)) q_IM (q_mJ y pd), 34, 31630))) rfl rfl (q_d_neF h219) ?_
        refine q_Ru_seg (g2 := (114, [(3, .int (lin - 4)), (2, .int 0), (1, .int col), (0, .ref 64)], [.ref 64], (q_cM (q_mA pix smp tr (q_nb p 1 dn ins) (q_fb z)) q_IM (q_mJ y pd), 34, 31630))) 3 (fun _ _ => rfl) ?_
        refine q_Ru_call (v := none) (h2 := (q_cM (q_mA pix smp z180a (q_nb p2 0 (dn + 1) (ins + 1)) (q_fb z180b)) q_IM (q_mJ y pd), 34, 31630)) rfl rfl ?_ ?_
        · exact p180.le (Nat.le_of_ble_eq_true rfl)
        show q_Ru _ _ _ (117, [(3, .int (lin - 4)), (2, .int 0), (1, .int col), (0, .ref 64)], [], (q_cM (q_mA pix smp z180a (q_nb p2 0 (dn + 1) (ins + 1)) (q_fb z180b)) q_IM (q_mJ y pd), 34, 31630)) _
        refine q_Ru_seg (g2 := (122, [(3, .int (lin - 4)), (2, .int 0), (1, .int col), (0, .ref 64)], [.long pd, .ref 64], (q_cM (q_mA pix smp z180a (q_nb p2 0 (dn + 1) (ins + 1)) (q_fb z180b)) q_IM (q_mJ y pd), 34, 31630))) 3 (fun _ _ => rfl) ?_
        refine q_Ru_seg (g2 := (140, [(3, .int (lin - 4)), (2, .int 0), (1, .int col), (0, .ref 64)], [.long y, .ref 64], (q_cM (q_mA pix smp z180a (q_nb p2 0 (dn + 1) (ins + 1)) (q_fb z180b)) q_IM (q_uI (q_mJ y pd) 0 16 (pd + 0)), 34, 31630))) 8 (fun _ _ => rfl) ?_
        refine q_Ru_seg (g2 := (146, [(3, .int (lin - 4)), (2, .int 0), (1, .int col), (0, .ref 64)], [.int 0], (q_cM (q_mA pix smp z180a (q_nb p2 0 (dn + 1) (ins + 1)) (q_fb z180b)) q_IM (q_uI (q_uI (q_mJ y pd) 0 16 (pd + 0)) 0 15 (y + 1)), 34, 31630))) 4 (fun _ _ => rfl) ?_
        exact q_Ru_ret rfl rfl
    | false =>
      cases h220 : decide (31 < lin - 4) with
      | true =>
        cases h221 : decide (col = 23) with
        | true =>
          obtain ⟨z185a, p185⟩ := q_m_sample pix smp tr p 1 dn ins z y pd col lin p1 p2 hC hM c0 c1 l0 l1 a0 a1 b0 b1 hp0 hp1 hp2 i0 i1  
          obtain ⟨z186a, z186b, p186⟩ := q_m_go1 pix z185a tr p dn ins z y pd col lin p1 p2 hC hM c0 c1 l0 l1 a0 a1 b0 b1 hp0 hp1 hp2 i0 i1  
          refine ⟨pix, z185a, z186a, z186b, ?_⟩
          refine q_Ca_of (Nat.le_of_ble_eq_true rfl) ?_
          refine q_Ru_seg (g2 := (4, [(0, .ref 64)], [.long y], (q_cM (q_mA pix smp tr (q_nb p 1 dn ins) (q_fb z)) q_IM (q_mJ y pd), 34, 31630))) 2 (fun _ _ => rfl) ?_
          refine q_Ru_seg (g2 := (9, [(0, .ref 64)], [.int ((y - y / 24 * 24).toInt32)], (q_cM (q_mA pix smp tr (q_nb p 1 dn ins) (q_fb z)) q_IM (q_mJ y pd), 34, 31630))) 3 (fun _ _ => rfl) ?_
          rw [hC]
          refine q_Ru_seg (g2 := (11, [(1, .int col), (0, .ref 64)], [.int col], (q_cM (q_mA pix smp tr (q_nb p 1 dn ins) (q_fb z)) q_IM (q_mJ y pd), 34, 31630))) 2 (fun _ _ => rfl) ?_
          refine q_Ru_rsT (g2 := (39, [(1, .int col), (0, .ref 64)], [], (q_cM (q_mA pix smp tr (q_nb p 1 dn ins) (q_fb z)) q_IM (q_mJ y pd), 34, 31630))) rfl rfl (q_d_neF h208) ?_
          refine q_Ru_seg (g2 := (40, [(1, .int col), (0, .ref 64)], [.ref 64], (q_cM (q_mA pix smp tr (q_nb p 1 dn ins) (q_fb z)) q_IM (q_mJ y pd), 34, 31630))) 1 (fun _ _ => rfl) ?_
          refine q_Ru_call (v := (some (.int 0))) (h2 := (q_cM (q_mA pix smp tr (q_nb p 1 dn ins) (q_fb z)) q_IM (q_mJ y pd), 34, 31630)) rfl rfl ?_ ?_
          · exact (by have e := q_m_picX pix smp tr p 1 dn ins z y pd col lin p1 p2 hC hM c0 c1 l0 l1 a0 a1 b0 b1 hp0 hp1 hp2 i0 i1; rw [hpic] at e; exact e.le (Nat.le_of_ble_eq_true rfl))
          show q_Ru _ _ _ (43, [(1, .int col), (0, .ref 64)], [.int 0], (q_cM (q_mA pix smp tr (q_nb p 1 dn ins) (q_fb z)) q_IM (q_mJ y pd), 34, 31630)) _
          refine q_Ru_seg (g2 := (45, [(2, .int 0), (1, .int col), (0, .ref 64)], [.ref 64], (q_cM (q_mA pix smp tr (q_nb p 1 dn ins) (q_fb z)) q_IM (q_mJ y pd), 34, 31630))) 2 (fun _ _ => rfl) ?_
          refine q_Ru_call (v := (some (.int (lin - 4)))) (h2 := (q_cM (q_mA pix smp tr (q_nb p 1 dn ins) (q_fb z)) q_IM (q_mJ y pd), 34, 31630)) rfl rfl ?_ ?_
          · refine q_Ca_of (Nat.le_of_ble_eq_true rfl) ?_
            refine q_Ru_seg (g2 := (1, [(0, .ref 64)], [.ref 64], (q_cM (q_mA pix smp tr (q_nb p 1 dn ins) (q_fb z)) q_IM (q_mJ y pd), 34, 31630))) 1 (fun _ _ => rfl) ?_
            refine q_Ru_call (v := (some (.int lin))) (h2 := (q_cM (q_mA pix smp tr (q_nb p 1 dn ins) (q_fb z)) q_IM (q_mJ y pd), 34, 31630)) rfl rfl ?_ ?_
            · refine q_Ca_of (Nat.le_of_ble_eq_true rfl) ?_
              refine q_Ru_seg (g2 := (4, [(0, .ref 64)], [.long y], (q_cM (q_mA pix smp tr (q_nb p 1 dn ins) (q_fb z)) q_IM (q_mJ y pd), 34, 31630))) 2 (fun _ _ => rfl) ?_
              refine q_Ru_seg (g2 := (13, [(0, .ref 64)], [.int (((y / 24) - (y / 24) / 40 * 40).toInt32)], (q_cM (q_mA pix smp tr (q_nb p 1 dn ins) (q_fb z)) q_IM (q_mJ y pd), 34, 31630))) 5 (fun _ _ => rfl) ?_
              rw [hM]
              exact q_Ru_ret rfl rfl
            show q_Ru _ _ _ (4, [(0, .ref 64)], [.int lin], (q_cM (q_mA pix smp tr (q_nb p 1 dn ins) (q_fb z)) q_IM (q_mJ y pd), 34, 31630)) _
            refine q_Ru_seg (g2 := (6, [(0, .ref 64)], [.int (lin - 4)], (q_cM (q_mA pix smp tr (q_nb p 1 dn ins) (q_fb z)) q_IM (q_mJ y pd), 34, 31630))) 2 (fun _ _ => rfl) ?_
            exact q_Ru_ret rfl rfl
          show q_Ru _ _ _ (48, [(2, .int 0), (1, .int col), (0, .ref 64)], [.int (lin - 4)], (q_cM (q_mA pix smp tr (q_nb p 1 dn ins) (q_fb z)) q_IM (q_mJ y pd), 34, 31630)) _
          refine q_Ru_seg (g2 := (53, [(3, .int (lin - 4)), (2, .int 0), (1, .int col), (0, .ref 64)], [.int 31, .int 0, .int (lin - 4)], (q_cM (q_mA pix smp tr (q_nb p 1 dn ins) (q_fb z)) q_IM (q_mJ y pd), 34, 31630))) 4 (fun _ _ => rfl) ?_
          refine q_Ru_call (v := (some (.int 0))) (h2 := (q_cM (q_mA pix smp tr (q_nb p 1 dn ins) (q_fb z)) q_IM (q_mJ y pd), 34, 31630)) rfl rfl ?_ ?_
          · refine q_Ca_of (Nat.le_of_ble_eq_true rfl) ?_
            refine q_Ru_seg (g2 := (2, [(0, .int (lin - 4)), (1, .int 0), (2, .int 31)], [.int 0, .int (lin - 4)], (q_cM (q_mA pix smp tr (q_nb p 1 dn ins) (q_fb z)) q_IM (q_mJ y pd), 34, 31630))) 2 (fun _ _ => rfl) ?_
            refine q_Ru_rsF (g2 := (5, [(0, .int (lin - 4)), (1, .int 0), (2, .int 31)], [], (q_cM (q_mA pix smp tr (q_nb p 1 dn ins) (q_fb z)) q_IM (q_mJ y pd), 34, 31630))) rfl rfl h218 ?_
            refine q_Ru_seg (g2 := (7, [(0, .int (lin - 4)), (1, .int 0), (2, .int 31)], [.int 31, .int (lin - 4)], (q_cM (q_mA pix smp tr (q_nb p 1 dn ins) (q_fb z)) q_IM (q_mJ y pd), 34, 31630))) 2 (fun _ _ => rfl) ?_
            refine q_Ru_rsT (g2 := (14, [(0, .int (lin - 4)), (1, .int 0), (2, .int 31)], [], (q_cM (q_mA pix smp tr (q_nb p 1 dn ins) (q_fb z)) q_IM (q_mJ y pd), 34, 31630))) rfl rfl h220 ?_
            refine q_Ru_seg (g2 := (15, [(0, .int (lin - 4)), (1, .int 0), (2, .int 31)], [.int 0], (q_cM (q_mA pix smp tr (q_nb p 1 dn ins) (q_fb z)) q_IM (q_mJ y pd), 34, 31630))) 1 (fun _ _ => rfl) ?_
            exact q_Ru_ret rfl rfl
          show q_Ru _ _ _ (56, [(3, .int (lin - 4)), (2, .int 0), (1, .int col), (0, .ref 64)], [.int 0], (q_cM (q_mA pix smp tr (q_nb p 1 dn ins) (q_fb z)) q_IM (q_mJ y pd), 34, 31630)) _
          refine q_Ru_seg (g2 := (92, [(3, .int (lin - 4)), (2, .int 0), (1, .int col), (0, .ref 64)], [.ref 64], (q_cM (q_mA pix smp tr (q_nb p 1 dn ins) (q_fb z)) q_IM (q_mJ y pd), 34, 31630))) 2 (fun _ _ => rfl) ?_
          refine q_Ru_call (v := none) (h2 := (q_cM (q_mA pix smp tr (q_nb p 1 dn ins) (q_fb z)) q_IM (q_mJ y pd), 34, 31630)) rfl rfl ?_ ?_
          · exact (q_m_times pix smp tr p 1 dn ins z y pd col lin p1 p2 hC hM c0 c1 l0 l1 a0 a1 b0 b1 hp0 hp1 hp2 i0 i1  ).le (Nat.le_of_ble_eq_true rfl)
          show q_Ru _ _ _ (95, [(3, .int (lin - 4)), (2, .int 0), (1, .int col), (0, .ref 64)], [], (q_cM (q_mA pix smp tr (q_nb p 1 dn ins) (q_fb z)) q_IM (q_mJ y pd), 34, 31630)) _
          refine q_Ru_seg (g2 := (96, [(3, .int (lin - 4)), (2, .int 0), (1, .int col), (0, .ref 64)], [.ref 64], (q_cM (q_mA pix smp tr (q_nb p 1 dn ins) (q_fb z)) q_IM (q_mJ y pd), 34, 31630))) 1 (fun _ _ => rfl) ?_
          refine q_Ru_call (v := none) (h2 := (q_cM (q_mA pix smp tr (q_nb p 1 dn ins) (q_fb z)) q_IM (q_mJ y pd), 34, 31630)) rfl rfl ?_ ?_
          · exact (q_m_winds pix smp tr p 1 dn ins z y pd col lin p1 p2 hC hM c0 c1 l0 l1 a0 a1 b0 b1 hp0 hp1 hp2 i0 i1  ).le (Nat.le_of_ble_eq_true rfl)
          show q_Ru _ _ _ (99, [(3, .int (lin - 4)), (2, .int 0), (1, .int col), (0, .ref 64)], [], (q_cM (q_mA pix smp tr (q_nb p 1 dn ins) (q_fb z)) q_IM (q_mJ y pd), 34, 31630)) _
          refine q_Ru_seg (g2 := (102, [(3, .int (lin - 4)), (2, .int 0), (1, .int col), (0, .ref 64)], [.int 23, .int col], (q_cM (q_mA pix smp tr (q_nb p 1 dn ins) (q_fb z)) q_IM (q_mJ y pd), 34, 31630))) 2 (fun _ _ => rfl) ?_
          refine q_Ru_rsF (g2 := (105, [(3, .int (lin - 4)), (2, .int 0), (1, .int col), (0, .ref 64)], [], (q_cM (q_mA pix smp tr (q_nb p 1 dn ins) (q_fb z)) q_IM (q_mJ y pd), 34, 31630))) rfl rfl (q_d_neT h221) ?_
          refine q_Ru_seg (g2 := (106, [(3, .int (lin - 4)), (2, .int 0), (1, .int col), (0, .ref 64)], [.ref 64], (q_cM (q_mA pix smp tr (q_nb p 1 dn ins) (q_fb z)) q_IM (q_mJ y pd), 34, 31630))) 1 (fun _ _ => rfl) ?_
          refine q_Ru_call (v := none) (h2 := (q_cM (q_mA pix z185a tr (q_nb p 1 dn ins) (q_fb z)) q_IM (q_mJ y pd), 34, 31630)) rfl rfl ?_ ?_
          · exact p185.le (Nat.le_of_ble_eq_true rfl)
          show q_Ru _ _ _ (109, [(3, .int (lin - 4)), (2, .int 0), (1, .int col), (0, .ref 64)], [], (q_cM (q_mA pix z185a tr (q_nb p 1 dn ins) (q_fb z)) q_IM (q_mJ y pd), 34, 31630)) _
          refine q_Ru_seg (g2 := (114, [(3, .int (lin - 4)), (2, .int 0), (1, .int col), (0, .ref 64)], [.ref 64], (q_cM (q_mA pix z185a tr (q_nb p 1 dn ins) (q_fb z)) q_IM (q_mJ y pd), 34, 31630))) 3 (fun _ _ => rfl) ?_
          refine q_Ru_call (v := none) (h2 := (q_cM (q_mA pix z185a z186a (q_nb p2 0 (dn + 1) (ins + 1)) (q_fb z186b)) q_IM (q_mJ y pd), 34, 31630)) rfl rfl ?_ ?_
          · exact p186.le (Nat.le_of_ble_eq_true rfl)
          show q_Ru _ _ _ (117, [(3, .int (lin - 4)), (2, .int 0), (1, .int col), (0, .ref 64)], [], (q_cM (q_mA pix z185a z186a (q_nb p2 0 (dn + 1) (ins + 1)) (q_fb z186b)) q_IM (q_mJ y pd), 34, 31630)) _
          refine q_Ru_seg (g2 := (122, [(3, .int (lin - 4)), (2, .int 0), (1, .int col), (0, .ref 64)], [.long pd, .ref 64], (q_cM (q_mA pix z185a z186a (q_nb p2 0 (dn + 1) (ins + 1)) (q_fb z186b)) q_IM (q_mJ y pd), 34, 31630))) 3 (fun _ _ => rfl) ?_
          refine q_Ru_seg (g2 := (140, [(3, .int (lin - 4)), (2, .int 0), (1, .int col), (0, .ref 64)], [.long y, .ref 64], (q_cM (q_mA pix z185a z186a (q_nb p2 0 (dn + 1) (ins + 1)) (q_fb z186b)) q_IM (q_uI (q_mJ y pd) 0 16 (pd + 0)), 34, 31630))) 8 (fun _ _ => rfl) ?_
          refine q_Ru_seg (g2 := (146, [(3, .int (lin - 4)), (2, .int 0), (1, .int col), (0, .ref 64)], [.int 0], (q_cM (q_mA pix z185a z186a (q_nb p2 0 (dn + 1) (ins + 1)) (q_fb z186b)) q_IM (q_uI (q_uI (q_mJ y pd) 0 16 (pd + 0)) 0 15 (y + 1)), 34, 31630))) 4 (fun _ _ => rfl) ?_
          exact q_Ru_ret rfl rfl
        | false =>
          obtain ⟨z189a, z189b, p189⟩ := q_m_go1 pix smp tr p dn ins z y pd col lin p1 p2 hC hM c0 c1 l0 l1 a0 a1 b0 b1 hp0 hp1 hp2 i0 i1  
          refine ⟨pix, smp, z189a, z189b, ?_⟩
          refine q_Ca_of (Nat.le_of_ble_eq_true rfl) ?_
          refine q_Ru_seg (g2 := (4, [(0, .ref 64)], [.long y], (q_cM (q_mA pix smp tr (q_nb p 1 dn ins) (q_fb z)) q_IM (q_mJ y pd), 34, 31630))) 2 (fun _ _ => rfl) ?_
          refine q_Ru_seg (g2 := (9, [(0, .ref 64)], [.int ((y - y / 24 * 24).toInt32)], (q_cM (q_mA pix smp tr (q_nb p 1 dn ins) (q_fb z)) q_IM (q_mJ y pd), 34, 31630))) 3 (fun _ _ => rfl) ?_
          rw [hC]
          refine q_Ru_seg (g2 := (11, [(1, .int col), (0, .ref 64)], [.int col], (q_cM (q_mA pix smp tr (q_nb p 1 dn ins) (q_fb z)) q_IM (q_mJ y pd), 34, 31630))) 2 (fun _ _ => rfl) ?_
          refine q_Ru_rsT (g2 := (39, [(1, .int col), (0, .ref 64)], [], (q_cM (q_mA pix smp tr (q_nb p 1 dn ins) (q_fb z)) q_IM (q_mJ y pd), 34, 31630))) rfl rfl (q_d_neF h208) ?_
          refine q_Ru_seg (g2 := (40, [(1, .int col), (0, .ref 64)], [.ref 64], (q_cM (q_mA pix smp tr (q_nb p 1 dn ins) (q_fb z)) q_IM (q_mJ y pd), 34, 31630))) 1 (fun _ _ => rfl) ?_
          refine q_Ru_call (v := (some (.int 0))) (h2 := (q_cM (q_mA pix smp tr (q_nb p 1 dn ins) (q_fb z)) q_IM (q_mJ y pd), 34, 31630)) rfl rfl ?_ ?_
          · exact (by have e := q_m_picX pix smp tr p 1 dn ins z y pd col lin p1 p2 hC hM c0 c1 l0 l1 a0 a1 b0 b1 hp0 hp1 hp2 i0 i1; rw [hpic] at e; exact e.le (Nat.le_of_ble_eq_true rfl))
          show q_Ru _ _ _ (43, [(1, .int col), (0, .ref 64)], [.int 0], (q_cM (q_mA pix smp tr (q_nb p 1 dn ins) (q_fb z)) q_IM (q_mJ y pd), 34, 31630)) _
          refine q_Ru_seg (g2 := (45, [(2, .int 0), (1, .int col), (0, .ref 64)], [.ref 64], (q_cM (q_mA pix smp tr (q_nb p 1 dn ins) (q_fb z)) q_IM (q_mJ y pd), 34, 31630))) 2 (fun _ _ => rfl) ?_
          refine q_Ru_call (v := (some (.int (lin - 4)))) (h2 := (q_cM (q_mA pix smp tr (q_nb p 1 dn ins) (q_fb z)) q_IM (q_mJ y pd), 34, 31630)) rfl rfl ?_ ?_
          · refine q_Ca_of (Nat.le_of_ble_eq_true rfl) ?_
            refine q_Ru_seg (g2 := (1, [(0, .ref 64)], [.ref 64], (q_cM (q_mA pix smp tr (q_nb p 1 dn ins) (q_fb z)) q_IM (q_mJ y pd), 34, 31630))) 1 (fun _ _ => rfl) ?_
            refine q_Ru_call (v := (some (.int lin))) (h2 := (q_cM (q_mA pix smp tr (q_nb p 1 dn ins) (q_fb z)) q_IM (q_mJ y pd), 34, 31630)) rfl rfl ?_ ?_
            · refine q_Ca_of (Nat.le_of_ble_eq_true rfl) ?_
              refine q_Ru_seg (g2 := (4, [(0, .ref 64)], [.long y], (q_cM (q_mA pix smp tr (q_nb p 1 dn ins) (q_fb z)) q_IM (q_mJ y pd), 34, 31630))) 2 (fun _ _ => rfl) ?_
              refine q_Ru_seg (g2 := (13, [(0, .ref 64)], [.int (((y / 24) - (y / 24) / 40 * 40).toInt32)], (q_cM (q_mA pix smp tr (q_nb p 1 dn ins) (q_fb z)) q_IM (q_mJ y pd), 34, 31630))) 5 (fun _ _ => rfl) ?_
              rw [hM]
              exact q_Ru_ret rfl rfl
            show q_Ru _ _ _ (4, [(0, .ref 64)], [.int lin], (q_cM (q_mA pix smp tr (q_nb p 1 dn ins) (q_fb z)) q_IM (q_mJ y pd), 34, 31630)) _
            refine q_Ru_seg (g2 := (6, [(0, .ref 64)], [.int (lin - 4)], (q_cM (q_mA pix smp tr (q_nb p 1 dn ins) (q_fb z)) q_IM (q_mJ y pd), 34, 31630))) 2 (fun _ _ => rfl) ?_
            exact q_Ru_ret rfl rfl
          show q_Ru _ _ _ (48, [(2, .int 0), (1, .int col), (0, .ref 64)], [.int (lin - 4)], (q_cM (q_mA pix smp tr (q_nb p 1 dn ins) (q_fb z)) q_IM (q_mJ y pd), 34, 31630)) _
          refine q_Ru_seg (g2 := (53, [(3, .int (lin - 4)), (2, .int 0), (1, .int col), (0, .ref 64)], [.int 31, .int 0, .int (lin - 4)], (q_cM (q_mA pix smp tr (q_nb p 1 dn ins) (q_fb z)) q_IM (q_mJ y pd), 34, 31630))) 4 (fun _ _ => rfl) ?_
          refine q_Ru_call (v := (some (.int 0))) (h2 := (q_cM (q_mA pix smp tr (q_nb p 1 dn ins) (q_fb z)) q_IM (q_mJ y pd), 34, 31630)) rfl rfl ?_ ?_
          · refine q_Ca_of (Nat.le_of_ble_eq_true rfl) ?_
            refine q_Ru_seg (g2 := (2, [(0, .int (lin - 4)), (1, .int 0), (2, .int 31)], [.int 0, .int (lin - 4)], (q_cM (q_mA pix smp tr (q_nb p 1 dn ins) (q_fb z)) q_IM (q_mJ y pd), 34, 31630))) 2 (fun _ _ => rfl) ?_
            refine q_Ru_rsF (g2 := (5, [(0, .int (lin - 4)), (1, .int 0), (2, .int 31)], [], (q_cM (q_mA pix smp tr (q_nb p 1 dn ins) (q_fb z)) q_IM (q_mJ y pd), 34, 31630))) rfl rfl h218 ?_
            refine q_Ru_seg (g2 := (7, [(0, .int (lin - 4)), (1, .int 0), (2, .int 31)], [.int 31, .int (lin - 4)], (q_cM (q_mA pix smp tr (q_nb p 1 dn ins) (q_fb z)) q_IM (q_mJ y pd), 34, 31630))) 2 (fun _ _ => rfl) ?_
            refine q_Ru_rsT (g2 := (14, [(0, .int (lin - 4)), (1, .int 0), (2, .int 31)], [], (q_cM (q_mA pix smp tr (q_nb p 1 dn ins) (q_fb z)) q_IM (q_mJ y pd), 34, 31630))) rfl rfl h220 ?_
            refine q_Ru_seg (g2 := (15, [(0, .int (lin - 4)), (1, .int 0), (2, .int 31)], [.int 0], (q_cM (q_mA pix smp tr (q_nb p 1 dn ins) (q_fb z)) q_IM (q_mJ y pd), 34, 31630))) 1 (fun _ _ => rfl) ?_
            exact q_Ru_ret rfl rfl
          show q_Ru _ _ _ (56, [(3, .int (lin - 4)), (2, .int 0), (1, .int col), (0, .ref 64)], [.int 0], (q_cM (q_mA pix smp tr (q_nb p 1 dn ins) (q_fb z)) q_IM (q_mJ y pd), 34, 31630)) _
          refine q_Ru_seg (g2 := (92, [(3, .int (lin - 4)), (2, .int 0), (1, .int col), (0, .ref 64)], [.ref 64], (q_cM (q_mA pix smp tr (q_nb p 1 dn ins) (q_fb z)) q_IM (q_mJ y pd), 34, 31630))) 2 (fun _ _ => rfl) ?_
          refine q_Ru_call (v := none) (h2 := (q_cM (q_mA pix smp tr (q_nb p 1 dn ins) (q_fb z)) q_IM (q_mJ y pd), 34, 31630)) rfl rfl ?_ ?_
          · exact (q_m_times pix smp tr p 1 dn ins z y pd col lin p1 p2 hC hM c0 c1 l0 l1 a0 a1 b0 b1 hp0 hp1 hp2 i0 i1  ).le (Nat.le_of_ble_eq_true rfl)
          show q_Ru _ _ _ (95, [(3, .int (lin - 4)), (2, .int 0), (1, .int col), (0, .ref 64)], [], (q_cM (q_mA pix smp tr (q_nb p 1 dn ins) (q_fb z)) q_IM (q_mJ y pd), 34, 31630)) _
          refine q_Ru_seg (g2 := (96, [(3, .int (lin - 4)), (2, .int 0), (1, .int col), (0, .ref 64)], [.ref 64], (q_cM (q_mA pix smp tr (q_nb p 1 dn ins) (q_fb z)) q_IM (q_mJ y pd), 34, 31630))) 1 (fun _ _ => rfl) ?_
          refine q_Ru_call (v := none) (h2 := (q_cM (q_mA pix smp tr (q_nb p 1 dn ins) (q_fb z)) q_IM (q_mJ y pd), 34, 31630)) rfl rfl ?_ ?_
          · exact (q_m_winds pix smp tr p 1 dn ins z y pd col lin p1 p2 hC hM c0 c1 l0 l1 a0 a1 b0 b1 hp0 hp1 hp2 i0 i1  ).le (Nat.le_of_ble_eq_true rfl)
          show q_Ru _ _ _ (99, [(3, .int (lin - 4)), (2, .int 0), (1, .int col), (0, .ref 64)], [], (q_cM (q_mA pix smp tr (q_nb p 1 dn ins) (q_fb z)) q_IM (q_mJ y pd), 34, 31630)) _
          refine q_Ru_seg (g2 := (102, [(3, .int (lin - 4)), (2, .int 0), (1, .int col), (0, .ref 64)], [.int 23, .int col], (q_cM (q_mA pix smp tr (q_nb p 1 dn ins) (q_fb z)) q_IM (q_mJ y pd), 34, 31630))) 2 (fun _ _ => rfl) ?_
          refine q_Ru_rsT (g2 := (109, [(3, .int (lin - 4)), (2, .int 0), (1, .int col), (0, .ref 64)], [], (q_cM (q_mA pix smp tr (q_nb p 1 dn ins) (q_fb z)) q_IM (q_mJ y pd), 34, 31630))) rfl rfl (q_d_neF h221) ?_
          refine q_Ru_seg (g2 := (114, [(3, .int (lin - 4)), (2, .int 0), (1, .int col), (0, .ref 64)], [.ref 64], (q_cM (q_mA pix smp tr (q_nb p 1 dn ins) (q_fb z)) q_IM (q_mJ y pd), 34, 31630))) 3 (fun _ _ => rfl) ?_
          refine q_Ru_call (v := none) (h2 := (q_cM (q_mA pix smp z189a (q_nb p2 0 (dn + 1) (ins + 1)) (q_fb z189b)) q_IM (q_mJ y pd), 34, 31630)) rfl rfl ?_ ?_
          · exact p189.le (Nat.le_of_ble_eq_true rfl)
          show q_Ru _ _ _ (117, [(3, .int (lin - 4)), (2, .int 0), (1, .int col), (0, .ref 64)], [], (q_cM (q_mA pix smp z189a (q_nb p2 0 (dn + 1) (ins + 1)) (q_fb z189b)) q_IM (q_mJ y pd), 34, 31630)) _
          refine q_Ru_seg (g2 := (122, [(3, .int (lin - 4)), (2, .int 0), (1, .int col), (0, .ref 64)], [.long pd, .ref 64], (q_cM (q_mA pix smp z189a (q_nb p2 0 (dn + 1) (ins + 1)) (q_fb z189b)) q_IM (q_mJ y pd), 34, 31630))) 3 (fun _ _ => rfl) ?_
          refine q_Ru_seg (g2 := (140, [(3, .int (lin - 4)), (2, .int 0), (1, .int col), (0, .ref 64)], [.long y, .ref 64], (q_cM (q_mA pix smp z189a (q_nb p2 0 (dn + 1) (ins + 1)) (q_fb z189b)) q_IM (q_uI (q_mJ y pd) 0 16 (pd + 0)), 34, 31630))) 8 (fun _ _ => rfl) ?_
          refine q_Ru_seg (g2 := (146, [(3, .int (lin - 4)), (2, .int 0), (1, .int col), (0, .ref 64)], [.int 0], (q_cM (q_mA pix smp z189a (q_nb p2 0 (dn + 1) (ins + 1)) (q_fb z189b)) q_IM (q_uI (q_uI (q_mJ y pd) 0 16 (pd + 0)) 0 15 (y + 1)), 34, 31630))) 4 (fun _ _ => rfl) ?_
          exact q_Ru_ret rfl rfl
      | false =>
        cases h222 : decide (col < 4) with
        | true =>
          have h223 : decide (col = 23) = false := q_not_tr (q_tbl1 (fun col => !decide (col = 23)) (l := 0) (n := 3) (by decide +kernel) c0 (q_hi1 h222))
          obtain ⟨z194a, z194b, p194⟩ := q_m_go1 pix smp tr p dn ins z y pd col lin p1 p2 hC hM c0 c1 l0 l1 a0 a1 b0 b1 hp0 hp1 hp2 i0 i1  
          refine ⟨pix, smp, z194a, z194b, ?_⟩
          refine q_Ca_of (Nat.le_of_ble_eq_true rfl) ?_
          refine q_Ru_seg (g2 := (4, [(0, .ref 64)], [.long y], (q_cM (q_mA pix smp tr (q_nb p 1 dn ins) (q_fb z)) q_IM (q_mJ y pd), 34, 31630))) 2 (fun _ _ => rfl) ?_
          refine q_Ru_seg (g2 := (9, [(0, .ref 64)], [.int ((y - y / 24 * 24).toInt32)], (q_cM (q_mA pix smp tr (q_nb p 1 dn ins) (q_fb z)) q_IM (q_mJ y pd), 34, 31630))) 3 (fun _ _ => rfl) ?_
          rw [hC]
          refine q_Ru_seg (g2 := (11, [(1, .int col), (0, .ref 64)], [.int col], (q_cM (q_mA pix smp tr (q_nb p 1 dn ins) (q_fb z)) q_IM (q_mJ y pd), 34, 31630))) 2 (fun _ _ => rfl) ?_
          refine q_Ru_rsT (g2 := (39, [(1, .int col), (0, .ref 64)], [], (q_cM (q_mA pix smp tr (q_nb p 1 dn ins) (q_fb z)) q_IM (q_mJ y pd), 34, 31630))) rfl rfl (q_d_neF h208) ?_
          refine q_Ru_seg (g2 := (40, [(1, .int col), (0, .ref 64)], [.ref 64], (q_cM (q_mA pix smp tr (q_nb p 1 dn ins) (q_fb z)) q_IM (q_mJ y pd), 34, 31630))) 1 (fun _ _ => rfl) ?_
          refine q_Ru_call (v := (some (.int 0))) (h2 := (q_cM (q_mA pix smp tr (q_nb p 1 dn ins) (q_fb z)) q_IM (q_mJ y pd), 34, 31630)) rfl rfl ?_ ?_
          · exact (by have e := q_m_picX pix smp tr p 1 dn ins z y pd col lin p1 p2 hC hM c0 c1 l0 l1 a0 a1 b0 b1 hp0 hp1 hp2 i0 i1; rw [hpic] at e; exact e.le (Nat.le_of_ble_eq_true rfl))
          show q_Ru _ _ _ (43, [(1, .int col), (0, .ref 64)], [.int 0], (q_cM (q_mA pix smp tr (q_nb p 1 dn ins) (q_fb z)) q_IM (q_mJ y pd), 34, 31630)) _
          refine q_Ru_seg (g2 := (45, [(2, .int 0), (1, .int col), (0, .ref 64)], [.ref 64], (q_cM (q_mA pix smp tr (q_nb p 1 dn ins) (q_fb z)) q_IM (q_mJ y pd), 34, 31630))) 2 (fun _ _ => rfl) ?_
          refine q_Ru_call (v := (some (.int (lin - 4)))) (h2 := (q_cM (q_mA pix smp tr (q_nb p 1 dn ins) (q_fb z)) q_IM (q_mJ y pd), 34, 31630)) rfl rfl ?_ ?_
          · refine q_Ca_of (Nat.le_of_ble_eq_true rfl) ?_
            refine q_Ru_seg (g2 := (1, [(0, .ref 64)], [.ref 64], (q_cM (q_mA pix smp tr (q_nb p 1 dn ins) (q_fb z)) q_IM (q_mJ y pd), 34, 31630))) 1 (fun _ _ => rfl) ?_
            refine q_Ru_call (v := (some (.int lin))) (h2 := (q_cM (q_mA pix smp tr (q_nb p 1 dn ins) (q_fb z)) q_IM (q_mJ y pd), 34, 31630)) rfl rfl ?_ ?_
            · refine q_Ca_of (Nat.le_of_ble_eq_true rfl) ?_
              refine q_Ru_seg (g2 := (4, [(0, .ref 64)], [.long y], (q_cM (q_mA pix smp tr (q_nb p 1 dn ins) (q_fb z)) q_IM (q_mJ y pd), 34, 31630))) 2 (fun _ _ => rfl) ?_
              refine q_Ru_seg (g2 := (13, [(0, .ref 64)], [.int (((y / 24) - (y / 24) / 40 * 40).toInt32)], (q_cM (q_mA pix smp tr (q_nb p 1 dn ins) (q_fb z)) q_IM (q_mJ y pd), 34, 31630))) 5 (fun _ _ => rfl) ?_
              rw [hM]
              exact q_Ru_ret rfl rfl
            show q_Ru _ _ _ (4, [(0, .ref 64)], [.int lin], (q_cM (q_mA pix smp tr (q_nb p 1 dn ins) (q_fb z)) q_IM (q_mJ y pd), 34, 31630)) _
            refine q_Ru_seg (g2 := (6, [(0, .ref 64)], [.int (lin - 4)], (q_cM (q_mA pix smp tr (q_nb p 1 dn ins) (q_fb z)) q_IM (q_mJ y pd), 34, 31630))) 2 (fun _ _ => rfl) ?_
            exact q_Ru_ret rfl rfl
          show q_Ru _ _ _ (48, [(2, .int 0), (1, .int col), (0, .ref 64)], [.int (lin - 4)], (q_cM (q_mA pix smp tr (q_nb p 1 dn ins) (q_fb z)) q_IM (q_mJ y pd), 34, 31630)) _
          refine q_Ru_seg (g2 := (53, [(3, .int (lin - 4)), (2, .int 0), (1, .int col), (0, .ref 64)], [.int 31, .int 0, .int (lin - 4)], (q_cM (q_mA pix smp tr (q_nb p 1 dn ins) (q_fb z)) q_IM (q_mJ y pd), 34, 31630))) 4 (fun _ _ => rfl) ?_
          refine q_Ru_call (v := (some (.int 1))) (h2 := (q_cM (q_mA pix smp tr (q_nb p 1 dn ins) (q_fb z)) q_IM (q_mJ y pd), 34, 31630)) rfl rfl ?_ ?_
          · refine q_Ca_of (Nat.le_of_ble_eq_true rfl) ?_
            refine q_Ru_seg (g2 := (2, [(0, .int (lin - 4)), (1, .int 0), (2, .int 31)], [.int 0, .int (lin - 4)], (q_cM (q_mA pix smp tr (q_nb p 1 dn ins) (q_fb z)) q_IM (q_mJ y pd), 34, 31630))) 2 (fun _ _ => rfl) ?_
            refine q_Ru_rsF (g2 := (5, [(0, .int (lin - 4)), (1, .int 0), (2, .int 31)], [], (q_cM (q_mA pix smp tr (q_nb p 1 dn ins) (q_fb z)) q_IM (q_mJ y pd), 34, 31630))) rfl rfl h218 ?_
            refine q_Ru_seg (g2 := (7, [(0, .int (lin - 4)), (1, .int 0), (2, .int 31)], [.int 31, .int (lin - 4)], (q_cM (q_mA pix smp tr (q_nb p 1 dn ins) (q_fb z)) q_IM (q_mJ y pd), 34, 31630))) 2 (fun _ _ => rfl) ?_
            refine q_Ru_rsF (g2 := (10, [(0, .int (lin - 4)), (1, .int 0), (2, .int 31)], [], (q_cM (q_mA pix smp tr (q_nb p 1 dn ins) (q_fb z)) q_IM (q_mJ y pd), 34, 31630))) rfl rfl h220 ?_
            refine q_Ru_seg (g2 := (15, [(0, .int (lin - 4)), (1, .int 0), (2, .int 31)], [.int 1], (q_cM (q_mA pix smp tr (q_nb p 1 dn ins) (q_fb z)) q_IM (q_mJ y pd), 34, 31630))) 2 (fun _ _ => rfl) ?_
            exact q_Ru_ret rfl rfl
          show q_Ru _ _ _ (56, [(3, .int (lin - 4)), (2, .int 0), (1, .int col), (0, .ref 64)], [.int 1], (q_cM (q_mA pix smp tr (q_nb p 1 dn ins) (q_fb z)) q_IM (q_mJ y pd), 34, 31630)) _
          refine q_Ru_seg (g2 := (63, [(3, .int (lin - 4)), (2, .int 0), (1, .int col), (0, .ref 64)], [.int 19, .int 4, .int col], (q_cM (q_mA pix smp tr (q_nb p 1 dn ins) (q_fb z)) q_IM (q_mJ y pd), 34, 31630))) 4 (fun _ _ => rfl) ?_
          refine q_Ru_call (v := (some (.int 0))) (h2 := (q_cM (q_mA pix smp tr (q_nb p 1 dn ins) (q_fb z)) q_IM (q_mJ y pd), 34, 31630)) rfl rfl ?_ ?_
          · refine q_Ca_of (Nat.le_of_ble_eq_true rfl) ?_
            refine q_Ru_seg (g2 := (2, [(0, .int col), (1, .int 4), (2, .int 19)], [.int 4, .int col], (q_cM (q_mA pix smp tr (q_nb p 1 dn ins) (q_fb z)) q_IM (q_mJ y pd), 34, 31630))) 2 (fun _ _ => rfl) ?_
            refine q_Ru_rsT (g2 := (14, [(0, .int col), (1, .int 4), (2, .int 19)], [], (q_cM (q_mA pix smp tr (q_nb p 1 dn ins) (q_fb z)) q_IM (q_mJ y pd), 34, 31630))) rfl rfl h222 ?_
            refine q_Ru_seg (g2 := (15, [(0, .int col), (1, .int 4), (2, .int 19)], [.int 0], (q_cM (q_mA pix smp tr (q_nb p 1 dn ins) (q_fb z)) q_IM (q_mJ y pd), 34, 31630))) 1 (fun _ _ => rfl) ?_
            exact q_Ru_ret rfl rfl
          show q_Ru _ _ _ (66, [(3, .int (lin - 4)), (2, .int 0), (1, .int col), (0, .ref 64)], [.int 0], (q_cM (q_mA pix smp tr (q_nb p 1 dn ins) (q_fb z)) q_IM (q_mJ y pd), 34, 31630)) _
          refine q_Ru_seg (g2 := (92, [(3, .int (lin - 4)), (2, .int 0), (1, .int col), (0, .ref 64)], [.ref 64], (q_cM (q_mA pix smp tr (q_nb p 1 dn ins) (q_fb z)) q_IM (q_mJ y pd), 34, 31630))) 2 (fun _ _ => rfl) ?_
          refine q_Ru_call (v := none) (h2 := (q_cM (q_mA pix smp tr (q_nb p 1 dn ins) (q_fb z)) q_IM (q_mJ y pd), 34, 31630)) rfl rfl ?_ ?_
          · exact (q_m_times pix smp tr p 1 dn ins z y pd col lin p1 p2 hC hM c0 c1 l0 l1 a0 a1 b0 b1 hp0 hp1 hp2 i0 i1  ).le (Nat.le_of_ble_eq_true rfl)
          show q_Ru _ _ _ (95, [(3, .int (lin - 4)), (2, .int 0), (1, .int col), (0, .ref 64)], [], (q_cM (q_mA pix smp tr (q_nb p 1 dn ins) (q_fb z)) q_IM (q_mJ y pd), 34, 31630)) _
          refine q_Ru_seg (g2 := (96, [(3, .int (lin - 4)), (2, .int 0), (1, .int col), (0, .ref 64)], [.ref 64], (q_cM (q_mA pix smp tr (q_nb p 1 dn ins) (q_fb z)) q_IM (q_mJ y pd), 34, 31630))) 1 (fun _ _ => rfl) ?_
          refine q_Ru_call (v := none) (h2 := (q_cM (q_mA pix smp tr (q_nb p 1 dn ins) (q_fb z)) q_IM (q_mJ y pd), 34, 31630)) rfl rfl ?_ ?_
          · exact (q_m_winds pix smp tr p 1 dn ins z y pd col lin p1 p2 hC hM c0 c1 l0 l1 a0 a1 b0 b1 hp0 hp1 hp2 i0 i1  ).le (Nat.le_of_ble_eq_true rfl)
          show q_Ru _ _ _ (99, [(3, .int (lin - 4)), (2, .int 0), (1, .int col), (0, .ref 64)], [], (q_cM (q_mA pix smp tr (q_nb p 1 dn ins) (q_fb z)) q_IM (q_mJ y pd), 34, 31630)) _
          refine q_Ru_seg (g2 := (102, [(3, .int (lin - 4)), (2, .int 0), (1, .int col), (0, .ref 64)], [.int 23, .int col], (q_cM (q_mA pix smp tr (q_nb p 1 dn ins) (q_fb z)) q_IM (q_mJ y pd), 34, 31630))) 2 (fun _ _ => rfl) ?_
          refine q_Ru_rsT (g2 := (109, [(3, .int (lin - 4)), (2, .int 0), (1, .int col), (0, .ref 64)], [], (q_cM (q_mA pix smp tr (q_nb p 1 dn ins) (q_fb z)) q_IM (q_mJ y pd), 34, 31630))) rfl rfl (q_d_neF h223) ?_
          refine q_Ru_seg (g2 := (114, [(3, .int (lin - 4)), (2, .int 0), (1, .int col), (0, .ref 64)], [.ref 64], (q_cM (q_mA pix smp tr (q_nb p 1 dn ins) (q_fb z)) q_IM (q_mJ y pd), 34, 31630))) 3 (fun _ _ => rfl) ?_
          refine q_Ru_call (v := none) (h2 := (q_cM (q_mA pix smp z194a (q_nb p2 0 (dn + 1) (ins + 1)) (q_fb z194b)) q_IM (q_mJ y pd), 34, 31630)) rfl rfl ?_ ?_
          · exact p194.le (Nat.le_of_ble_eq_true rfl)
          show q_Ru _ _ _ (117, [(3, .int (lin - 4)), (2, .int 0), (1, .int col), (0, .ref 64)], [], (q_cM (q_mA pix smp z194a (q_nb p2 0 (dn + 1) (ins + 1)) (q_fb z194b)) q_IM (q_mJ y pd), 34, 31630)) _
          refine q_Ru_seg (g2 := (122, [(3, .int (lin - 4)), (2, .int 0), (1, .int col), (0, .ref 64)], [.long pd, .ref 64], (q_cM (q_mA pix smp z194a (q_nb p2 0 (dn + 1) (ins + 1)) (q_fb z194b)) q_IM (q_mJ y pd), 34, 31630))) 3 (fun _ _ => rfl) ?_
          refine q_Ru_seg (g2 := (140, [(3, .int (lin - 4)), (2, .int 0), (1, .int col), (0, .ref 64)], [.long y, .ref 64], (q_cM (q_mA pix smp z194a (q_nb p2 0 (dn + 1) (ins + 1)) (q_fb z194b)) q_IM (q_uI (q_mJ y pd) 0 16 (pd + 0)), 34, 31630))) 8 (fun _ _ => rfl) ?_
          refine q_Ru_seg (g2 := (146, [(3, .int (lin - 4)), (2, .int 0), (1, .int col), (0, .ref 64)], [.int 0], (q_cM (q_mA pix smp z194a (q_nb p2 0 (dn + 1) (ins + 1)) (q_fb z194b)) q_IM (q_uI (q_uI (q_mJ y pd) 0 16 (pd + 0)) 0 15 (y + 1)), 34, 31630))) 4 (fun _ _ => rfl) ?_
          exact q_Ru_ret rfl rfl
        | false =>
          cases h224 : decide (19 < col) with
          | true =>
            cases h225 : decide (col = 23) with
            | true =>
              obtain ⟨z199a, p199⟩ := q_m_sample pix smp tr p 1 dn ins z y pd col lin p1 p2 hC hM c0 c1 l0 l1 a0 a1 b0 b1 hp0 hp1 hp2 i0 i1  
              obtain ⟨z200a, z200b, p200⟩ := q_m_go1 pix z199a tr p dn ins z y pd col lin p1 p2 hC hM c0 c1 l0 l1 a0 a1 b0 b1 hp0 hp1 hp2 i0 i1  
              refine ⟨pix, z199a, z200a, z200b, ?_⟩
              refine q_Ca_of (Nat.le_of_ble_eq_true rfl) ?_
              refine q_Ru_seg (g2 := (4, [(0, .ref 64)], [.long y], (q_cM (q_mA pix smp tr (q_nb p 1 dn ins) (q_fb z)) q_IM (q_mJ y pd), 34, 31630))) 2 (fun _ _ => rfl) ?_
              refine q_Ru_seg (g2 := (9, [(0, .ref 64)], [.int ((y - y / 24 * 24).toInt32)], (q_cM (q_mA pix smp tr (q_nb p 1 dn ins) (q_fb z)) q_IM (q_mJ y pd), 34, 31630))) 3 (fun _ _ => rfl) ?_
              rw [hC]
              refine q_Ru_seg (g2 := (11, [(1, .int col), (0, .ref 64)], [.int col], (q_cM (q_mA pix smp tr (q_nb p 1 dn ins) (q_fb z)) q_IM (q_mJ y pd), 34, 31630))) 2 (fun _ _ => rfl) ?_
              refine q_Ru_rsT (g2 := (39, [(1, .int col), (0, .ref 64)], [], (q_cM (q_mA pix smp tr (q_nb p 1 dn ins) (q_fb z)) q_IM (q_mJ y pd), 34, 31630))) rfl rfl (q_d_neF h208) ?_
              refine q_Ru_seg (g2 := (40, [(1, .int col), (0, .ref 64)], [.ref 64], (q_cM (q_mA pix smp tr (q_nb p 1 dn ins) (q_fb z)) q_IM (q_mJ y pd), 34, 31630))) 1 (fun _ _ => rfl) ?_
              refine q_Ru_call (v := (some (.int 0))) (h2 := (q_cM (q_mA pix smp tr (q_nb p 1 dn ins) (q_fb z)) q_IM (q_mJ y pd), 34, 31630)) rfl rfl ?_ ?_
              · exact (by have e := q_m_picX pix smp tr p 1 dn ins z y pd col lin p1 p2 hC hM c0 c1 l0 l1 a0 a1 b0 b1 hp0 hp1 hp2 i0 i1; rw [hpic] at e; exact e.le (Nat.le_of_ble_eq_true rfl))
              show q_Ru _ _ _ (43, [(1, .int col), (0, .ref 64)], [.int 0], (q_cM (q_mA pix smp tr (q_nb p 1 dn ins) (q_fb z)) q_IM (q_mJ y pd), 34, 31630)) _
              refine q_Ru_seg (g2 := (45, [(2, .int 0), (1, .int col), (0, .ref 64)], [.ref 64], (q_cM (q_mA pix smp tr (q_nb p 1 dn ins) (q_fb z)) q_IM (q_mJ y pd), 34, 31630))) 2 (fun _ _ => rfl) ?_
              refine q_Ru_call (v := (some (.int (lin - 4)))) (h2 := (q_cM (q_mA pix smp tr (q_nb p 1 dn ins) (q_fb z)) q_IM (q_mJ y pd), 34, 31630)) rfl rfl ?_ ?_
              · refine q_Ca_of (Nat.le_of_ble_eq_true rfl) ?_
                refine q_Ru_seg (g2 := (1, [(0, .ref 64)], [.ref 64], (q_cM (q_mA pix smp tr (q_nb p 1 dn ins) (q_fb z)) q_IM (q_mJ y pd), 34, 31630))) 1 (fun _ _ => rfl) ?_
                refine q_Ru_call (v := (some (.int lin))) (h2 := (q_cM (q_mA pix smp tr (q_nb p 1 dn ins) (q_fb z)) q_IM (q_mJ y pd), 34, 31630)) rfl rfl ?_ ?_
                · refine q_Ca_of (Nat.le_of_ble_eq_true rfl) ?_
                  refine q_Ru_seg (g2 := (4, [(0, .ref 64)], [.long y], (q_cM (q_mA pix smp tr (q_nb p 1 dn ins) (q_fb z)) q_IM (q_mJ y pd), 34, 31630))) 2 (fun _ _ => rfl) ?_
                  refine q_Ru_seg (g2 := (13, [(0, .ref 64)], [.int (((y / 24) - (y / 24) / 40 * 40).toInt32)], (q_cM (q_mA pix smp tr (q_nb p 1 dn ins) (q_fb z)) q_IM (q_mJ y pd), 34, 31630))) 5 (fun _ _ => rfl) ?_
                  rw [hM]
                  exact q_Ru_ret rfl rfl
                show q_Ru _ _ _ (4, [(0, .ref 64)], [.int lin], (q_cM (q_mA pix smp tr (q_nb p 1 dn ins) (q_fb z)) q_IM (q_mJ y pd), 34, 31630)) _
                refine q_Ru_seg (g2 := (6, [(0, .ref 64)], [.int (lin - 4)], (q_cM (q_mA pix smp tr (q_nb p 1 dn ins) (q_fb z)) q_IM (q_mJ y pd), 34, 31630))) 2 (fun _ _ => rfl) ?_
                exact q_Ru_ret rfl rfl
              show q_Ru _ _ _ (48, [(2, .int 0), (1, .int col), (0, .ref 64)], [.int (lin - 4)], (q_cM (q_mA pix smp tr (q_nb p 1 dn ins) (q_fb z)) q_IM (q_mJ y pd), 34, 31630)) _
              refine q_Ru_seg (g2 := (53, [(3, .int (lin - 4)), (2, .int 0), (1, .int col), (0, .ref 64)], [.int 31, .int 0, .int (lin - 4)], (q_cM (q_mA pix smp tr (q_nb p 1 dn ins) (q_fb z)) q_IM (q_mJ y pd), 34, 31630))) 4 (fun _ _ => rfl) ?_
              refine q_Ru_call (v := (some (.int 1))) (h2 := (q_cM (q_mA pix smp tr (q_nb p 1 dn ins) (q_fb z)) q_IM (q_mJ y pd), 34, 31630)) rfl rfl ?_ ?_
              · refine q_Ca_of (Nat.le_of_ble_eq_true rfl) ?_
                refine q_Ru_seg (g2 := (2, [(0, .int (lin - 4)), (1, .int 0), (2, .int 31)], [.int 0, .int (lin - 4)], (q_cM (q_mA pix smp tr (q_nb p 1 dn ins) (q_fb z)) q_IM (q_mJ y pd), 34, 31630))) 2 (fun _ _ => rfl) ?_
                refine q_Ru_rsF (g2 := (5, [(0, .int (lin - 4)), (1, .int 0), (2, .int 31)], [], (q_cM (q_mA pix smp tr (q_nb p 1 dn ins) (q_fb z)) q_IM (q_mJ y pd), 34, 31630))) rfl rfl h218 ?_
                refine q_Ru_seg (g2 := (7, [(0, .int (lin - 4)), (1, .int 0), (2, .int 31)], [.int 31, .int (lin - 4)], (q_cM (q_mA pix smp tr (q_nb p 1 dn ins) (q_fb z)) q_IM (q_mJ y pd), 34, 31630))) 2 (fun _ _ => rfl) ?_
                refine q_Ru_rsF (g2 := (10, [(0, .int (lin - 4)), (1, .int 0), (2, .int 31)], [], (q_cM (q_mA pix smp tr (q_nb p 1 dn ins) (q_fb z)) q_IM (q_mJ y pd), 34, 31630))) rfl rfl h220 ?_
                refine q_Ru_seg (g2 := (15, [(0, .int (lin - 4)), (1, .int 0), (2, .int 31)], [.int 1], (q_cM (q_mA pix smp tr (q_nb p 1 dn ins) (q_fb z)) q_IM (q_mJ y pd), 34, 31630))) 2 (fun _ _ => rfl) ?_
                exact q_Ru_ret rfl rfl
              show q_Ru _ _ _ (56, [(3, .int (lin - 4)), (2, .int 0), (1, .int col), (0, .ref 64)], [.int 1], (q_cM (q_mA pix smp tr (q_nb p 1 dn ins) (q_fb z)) q_IM (q_mJ y pd), 34, 31630)) _
              refine q_Ru_seg (g2 := (63, [(3, .int (lin - 4)), (2, .int 0), (1, .int col), (0, .ref 64)], [.int 19, .int 4, .int col], (q_cM (q_mA pix smp tr (q_nb p 1 dn ins) (q_fb z)) q_IM (q_mJ y pd), 34, 31630))) 4 (fun _ _ => rfl) ?_
              refine q_Ru_call (v := (some (.int 0))) (h2 := (q_cM (q_mA pix smp tr (q_nb p 1 dn ins) (q_fb z)) q_IM (q_mJ y pd), 34, 31630)) rfl rfl ?_ ?_
              · refine q_Ca_of (Nat.le_of_ble_eq_true rfl) ?_
                refine q_Ru_seg (g2 := (2, [(0, .int col), (1, .int 4), (2, .int 19)], [.int 4, .int col], (q_cM (q_mA pix smp tr (q_nb p 1 dn ins) (q_fb z)) q_IM (q_mJ y pd), 34, 31630))) 2 (fun _ _ => rfl) ?_
                refine q_Ru_rsF (g2 := (5, [(0, .int col), (1, .int 4), (2, .int 19)], [], (q_cM (q_mA pix smp tr (q_nb p 1 dn ins) (q_fb z)) q_IM (q_mJ y pd), 34, 31630))) rfl rfl h222 ?_
                refine q_Ru_seg (g2 := (7, [(0, .int col), (1, .int 4), (2, .int 19)], [.int 19, .int col], (q_cM (q_mA pix smp tr (q_nb p 1 dn ins) (q_fb z)) q_IM (q_mJ y pd), 34, 31630))) 2 (fun _ _ => rfl) ?_
                refine q_Ru_rsT (g2 := (14, [(0, .int col), (1, .int 4), (2, .int 19)], [], (q_cM (q_mA pix smp tr (q_nb p 1 dn ins) (q_fb z)) q_IM (q_mJ y pd), 34, 31630))) rfl rfl h224 ?_
                refine q_Ru_seg (g2 := (15, [(0, .int col), (1, .int 4), (2, .int 19)], [.int 0], (q_cM (q_mA pix smp tr (q_nb p 1 dn ins) (q_fb z)) q_IM (q_mJ y pd), 34, 31630))) 1 (fun _ _ => rfl) ?_
                exact q_Ru_ret rfl rfl
              show q_Ru _ _ _ (66, [(3, .int (lin - 4)), (2, .int 0), (1, .int col), (0, .ref 64)], [.int 0], (q_cM (q_mA pix smp tr (q_nb p 1 dn ins) (q_fb z)) q_IM (q_mJ y pd), 34, 31630)) _
              refine q_Ru_seg (g2 := (92, [(3, .int (lin - 4)), (2, .int 0), (1, .int col), (0, .ref 64)], [.ref 64], (q_cM (q_mA pix smp tr (q_nb p 1 dn ins) (q_fb z)) q_IM (q_mJ y pd), 34, 31630))) 2 (fun _ _ => rfl) ?_
              refine q_Ru_call (v := none) (h2 := (q_cM (q_mA pix smp tr (q_nb p 1 dn ins) (q_fb z)) q_IM (q_mJ y pd), 34, 31630)) rfl rfl ?_ ?_
              · exact (q_m_times pix smp tr p 1 dn ins z y pd col lin p1 p2 hC hM c0 c1 l0 l1 a0 a1 b0 b1 hp0 hp1 hp2 i0 i1  ).le (Nat.le_of_ble_eq_true rfl)
              show q_Ru _ _ _ (95, [(3, .int (lin - 4)), (2, .int 0), (1, .int col), (0, .ref 64)], [], (q_cM (q_mA pix smp tr (q_nb p 1 dn ins) (q_fb z)) q_IM (q_mJ y pd), 34, 31630)) _
              refine q_Ru_seg (g2 := (96, [(3, .int (lin - 4)), (2, .int 0), (1, .int col), (0, .ref 64)], [.ref 64], (q_cM (q_mA pix smp tr (q_nb p 1 dn ins) (q_fb z)) q_IM (q_mJ y pd), 34, 31630))) 1 (fun _ _ => rfl) ?_
              refine q_Ru_call (v := none) (h2 := (q_cM (q_mA pix smp tr (q_nb p 1 dn ins) (q_fb z)) q_IM (q_mJ y pd), 34, 31630)) rfl rfl ?_ ?_
              · exact (q_m_winds pix smp tr p 1 dn ins z y pd col lin p1 p2 hC hM c0 c1 l0 l1 a0 a1 b0 b1 hp0 hp1 hp2 i0 i1  ).le (Nat.le_of_ble_eq_true rfl)
              show q_Ru _ _ _ (99, [(3, .int (lin - 4)), (2, .int 0), (1, .int col), (0, .ref 64)], [], (q_cM (q_mA pix smp tr (q_nb p 1 dn ins) (q_fb z)) q_IM (q_mJ y pd), 34, 31630)) _
              refine q_Ru_seg (g2 := (102, [(3, .int (lin - 4)), (2, .int 0), (1, .int col), (0, .ref 64)], [.int 23, .int col], (q_cM (q_mA pix smp tr (q_nb p 1 dn ins) (q_fb z)) q_IM (q_mJ y pd), 34, 31630))) 2 (fun _ _ => rfl) ?_
              refine q_Ru_rsF (g2 := (105, [(3, .int (lin - 4)), (2, .int 0), (1, .int col), (0, .ref 64)], [], (q_cM (q_mA pix smp tr (q_nb p 1 dn ins) (q_fb z)) q_IM (q_mJ y pd), 34, 31630))) rfl rfl (q_d_neT h225) ?_
              refine q_Ru_seg (g2 := (106, [(3, .int (lin - 4)), (2, .int 0), (1, .int col), (0, .ref 64)], [.ref 64], (q_cM (q_mA pix smp tr (q_nb p 1 dn ins) (q_fb z)) q_IM (q_mJ y pd), 34, 31630))) 1 (fun _ _ => rfl) ?_
              refine q_Ru_call (v := none) (h2 := (q_cM (q_mA pix z199a tr (q_nb p 1 dn ins) (q_fb z)) q_IM (q_mJ y pd), 34, 31630)) rfl rfl ?_ ?_
              · exact p199.le (Nat.le_of_ble_eq_true rfl)
              show q_Ru _ _ _ (109, [(3, .int (lin - 4)), (2, .int 0), (1, .int col), (0, .ref 64)], [], (q_cM (q_mA pix z199a tr (q_nb p 1 dn ins) (q_fb z)) q_IM (q_mJ y pd), 34, 31630)) _
              refine q_Ru_seg (g2 := (114, [(3, .int (lin - 4)), (2, .int 0), (1, .int col), (0, .ref 64)], [.ref 64], (q_cM (q_mA pix z199a tr (q_nb p 1 dn ins) (q_fb z)) q_IM (q_mJ y pd), 34, 31630))) 3 (fun _ _ => rfl) ?_
              refine q_Ru_call (v := none) (h2 := (q_cM (q_mA pix z199a z200a (q_nb p2 0 (dn + 1) (ins + 1)) (q_fb z200b)) q_IM (q_mJ y pd), 34, 31630)) rfl rfl ?_ ?_
              · exact p200.le (Nat.le_of_ble_eq_true rfl)
              show q_Ru _ _ _ (117, [(3, .int (lin - 4)), (2, .int 0), (1, .int col), (0, .ref 64)], [], (q_cM (q_mA pix z199a z200a (q_nb p2 0 (dn + 1) (ins + 1)) (q_fb z200b)) q_IM (q_mJ y pd), 34, 31630)) _
              refine q_Ru_seg (g2 := (122, [(3, .int (lin - 4)), (2, .int 0), (1, .int col), (0, .ref 64)], [.long pd, .ref 64], (q_cM (q_mA pix z199a z200a (q_nb p2 0 (dn + 1) (ins + 1)) (q_fb z200b)) q_IM (q_mJ y pd), 34, 31630))) 3 (fun _ _ => rfl) ?_
              refine q_Ru_seg (g2 := (140, [(3, .int (lin - 4)), (2, .int 0), (1, .int col), (0, .ref 64)], [.long y, .ref 64], (q_cM (q_mA pix z199a z200a (q_nb p2 0 (dn + 1) (ins + 1)) (q_fb z200b)) q_IM (q_uI (q_mJ y pd) 0 16 (pd + 0)), 34, 31630))) 8 (fun _ _ => rfl) ?_
              refine q_Ru_seg (g2 := (146, [(3, .int (lin - 4)), (2, .int 0), (1, .int col), (0, .ref 64)], [.int 0], (q_cM (q_mA pix z199a z200a (q_nb p2 0 (dn + 1) (ins + 1)) (q_fb z200b)) q_IM (q_uI (q_uI (q_mJ y pd) 0 16 (pd + 0)) 0 15 (y + 1)), 34, 31630))) 4 (fun _ _ => rfl) ?_
              exact q_Ru_ret rfl rfl
            | false =>
              obtain ⟨z203a, z203b, p203⟩ := q_m_go1 pix smp tr p dn ins z y pd col lin p1 p2 hC hM c0 c1 l0 l1 a0 a1 b0 b1 hp0 hp1 hp2 i0 i1  
              refine ⟨pix, smp, z203a, z203b, ?_⟩
              refine q_Ca_of (Nat.le_of_ble_eq_true rfl) ?_
              refine q_Ru_seg (g2 := (4, [(0, .ref 64)], [.long y], (q_cM (q_mA pix smp tr (q_nb p 1 dn ins) (q_fb z)) q_IM (q_mJ y pd), 34, 31630))) 2 (fun _ _ => rfl) ?_
              refine q_Ru_seg (g2 := (9, [(0, .ref 64)], [.int ((y - y / 24 * 24).toInt32)], (q_cM (q_mA pix smp tr (q_nb p 1 dn ins) (q_fb z)) q_IM (q_mJ y pd), 34, 31630))) 3 (fun _ _ => rfl) ?_
              rw [hC]
              refine q_Ru_seg (g2 := (11, [(1, .int col), (0, .ref 64)], [.int col], (q_cM (q_mA pix smp tr (q_nb p 1 dn ins) (q_fb z)) q_IM (q_mJ y pd), 34, 31630))) 2 (fun _ _ => rfl) ?_
              refine q_Ru_rsT (g2 := (39, [(1, .int col), (0, .ref 64)], [], (q_cM (q_mA pix smp tr (q_nb p 1 dn ins) (q_fb z)) q_IM (q_mJ y pd), 34, 31630))) rfl rfl (q_d_neF h208) ?_
              refine q_Ru_seg (g2 := (40, [(1, .int col), (0, .ref 64)], [.ref 64], (q_cM (q_mA pix smp tr (q_nb p 1 dn ins) (q_fb z)) q_IM (q_mJ y pd), 34, 31630))) 1 (fun _ _ => rfl) ?_
              refine q_Ru_call (v := (some (.int 0))) (h2 := (q_cM (q_mA pix smp tr (q_nb p 1 dn ins) (q_fb z)) q_IM (q_mJ y pd), 34, 31630)) rfl rfl ?_ ?_
              · exact (by have e := q_m_picX pix smp tr p 1 dn ins z y pd col lin p1 p2 hC hM c0 c1 l0 l1 a0 a1 b0 b1 hp0 hp1 hp2 i0 i1; rw [hpic] at e; exact e.le (Nat.le_of_ble_eq_true rfl))
              show q_Ru _ _ _ (43, [(1, .int col), (0, .ref 64)], [.int 0], (q_cM (q_mA pix smp tr (q_nb p 1 dn ins) (q_fb z)) q_IM (q_mJ y pd), 34, 31630)) _
              refine q_Ru_seg (g2 := (45, [(2, .int 0), (1, .int col), (0, .ref 64)], [.ref 64], (q_cM (q_mA pix smp tr (q_nb p 1 dn ins) (q_fb z)) q_IM (q_mJ y pd), 34, 31630))) 2 (fun _ _ => rfl) ?_
              refine q_Ru_call (v := (some (.int (lin - 4)))) (h2 := (q_cM (q_mA pix smp tr (q_nb p 1 dn ins) (q_fb z)) q_IM (q_mJ y pd), 34, 31630)) rfl rfl ?_ ?_
              · refine q_Ca_of (Nat.le_of_ble_eq_true rfl) ?_
                refine q_Ru_seg (g2 := (1, [(0, .ref 64)], [.ref 64], (q_cM (q_mA pix smp tr (q_nb p 1 dn ins) (q_fb z)) q_IM (q_mJ y pd), 34, 31630))) 1 (fun _ _ => rfl) ?_
                refine q_Ru_call (v := (some (.int lin))) (h2 := (q_cM (q_mA pix smp tr (q_nb p 1 dn ins) (q_fb z)) q_IM (q_mJ y pd), 34, 31630)) rfl rfl ?_ ?_
                · refine q_Ca_of (Nat.le_of_ble_eq_true rfl) ?_
                  refine q_Ru_seg (g2 := (4, [(0, .ref 64)], [.long y], (q_cM (q_mA pix smp tr (q_nb p 1 dn ins) (q_fb z)) q_IM (q_mJ y pd), 34, 31630))) 2 (fun _ _ => rfl) ?_
                  refine q_Ru_seg (g2 := (13, [(0, .ref 64)], [.int (((y / 24) - (y / 24) / 40 * 40).toInt32)], (q_cM (q_mA pix smp tr (q_nb p 1 dn ins) (q_fb z)) q_IM (q_mJ y pd), 34, 31630))) 5 (fun _ _ => rfl) ?_
                  rw [hM]
                  exact q_Ru_ret rfl rfl
                show q_Ru _ _ _ (4, [(0, .ref 64)], [.int lin], (q_cM (q_mA pix smp tr (q_nb p 1 dn ins) (q_fb z)) q_IM (q_mJ y pd), 34, 31630)) _
                refine q_Ru_seg (g2 := (6, [(0, .ref 64)], [.int (lin - 4)], (q_cM (q_mA pix smp tr (q_nb p 1 dn ins) (q_fb z)) q_IM (q_mJ y pd), 34, 31630))) 2 (fun _ _ => rfl) ?_
                exact q_Ru_ret rfl rfl
              show q_Ru _ _ _ (48, [(2, .int 0), (1, .int col), (0, .ref 64)], [.int (lin - 4)], (q_cM (q_mA pix smp tr (q_nb p 1 dn ins) (q_fb z)) q_IM (q_mJ y pd), 34, 31630)) _
              refine q_Ru_seg (g2 := (53, [(3, .int (lin - 4)), (2, .int 0), (1, .int col), (0, .ref 64)], [.int 31, .int 0, .int (lin - 4)], (q_cM (q_mA pix smp tr (q_nb p 1 dn ins) (q_fb z)) q_IM (q_mJ y pd), 34, 31630))) 4 (fun _ _ => rfl) ?_
              refine q_Ru_call (v := (some (.int 1))) (h2 := (q_cM (q_mA pix smp tr (q_nb p 1 dn ins) (q_fb z)) q_IM (q_mJ y pd), 34, 31630)) rfl rfl ?_ ?_
              · refine q_Ca_of (Nat.le_of_ble_eq_true rfl) ?_
                refine q_Ru_seg (g2 := (2, [(0, .int (lin - 4)), (1, .int 0), (2, .int 31)], [.int 0, .int (lin - 4)], (q_cM (q_mA pix smp tr (q_nb p 1 dn ins) (q_fb z)) q_IM (q_mJ y pd), 34, 31630))) 2 (fun _ _ => rfl) ?_
                refine q_Ru_rsF (g2 := (5, [(0, .int (lin - 4)), (1, .int 0), (2, .int 31)], [], (q_cM (q_mA pix smp tr (q_nb p 1 dn ins) (q_fb z)) q_IM (q_mJ y pd), 34, 31630))) rfl rfl h218 ?_
                refine q_Ru_seg (g2 := (7, [(0, .int (lin - 4)), (1, .int 0), (2, .int 31)], [.int 31, .int (lin - 4)], (q_cM (q_mA pix smp tr (q_nb p 1 dn ins) (q_fb z)) q_IM (q_mJ y pd), 34, 31630))) 2 (fun _ _ => rfl) ?_
                refine q_Ru_rsF (g2 := (10, [(0, .int (lin - 4)), (1, .int 0), (2, .int 31)], [], (q_cM (q_mA pix smp tr (q_nb p 1 dn ins) (q_fb z)) q_IM (q_mJ y pd), 34, 31630))) rfl rfl h220 ?_
                refine q_Ru_seg (g2 := (15, [(0, .int (lin - 4)), (1, .int 0), (2, .int 31)], [.int 1], (q_cM (q_mA pix smp tr (q_nb p 1 dn ins) (q_fb z)) q_IM (q_mJ y pd), 34, 31630))) 2 (fun _ _ => rfl) ?_
                exact q_Ru_ret rfl rfl
              show q_Ru _ _ _ (56, [(3, .int (lin - 4)), (2, .int 0), (1, .int col), (0, .ref 64)], [.int 1], (q_cM (q_mA pix smp tr (q_nb p 1 dn ins) (q_fb z)) q_IM (q_mJ y pd), 34, 31630)) _
              refine q_Ru_seg (g2 := (63, [(3, .int (lin - 4)), (2, .int 0), (1, .int col), (0, .ref 64)], [.int 19, .int 4, .int col], (q_cM (q_mA pix smp tr (q_nb p 1 dn ins) (q_fb z)) q_IM (q_mJ y pd), 34, 31630))) 4 (fun _ _ => rfl) ?_
              refine q_Ru_call (v := (some (.int 0))) (h2 := (q_cM (q_mA pix smp tr (q_nb p 1 dn ins) (q_fb z)) q_IM (q_mJ y pd), 34, 31630)) rfl rfl ?_ ?_
              · refine q_Ca_of (Nat.le_of_ble_eq_true rfl) ?_
                refine q_Ru_seg (g2 := (2, [(0, .int col), (1, .int 4), (2, .int 19)], [.int 4, .int col], (q_cM (q_mA pix smp tr (q_nb p 1 dn ins) (q_fb z)) q_IM (q_mJ y pd), 34, 31630))) 2 (fun _ _ => rfl) ?_
                refine q_Ru_rsF (g2 := (5, [(0, .int col), (1, .int 4), (2, .int 19)], [], (q_cM (q_mA pix smp tr (q_nb p 1 dn ins) (q_fb z)) q_IM (q_mJ y pd), 34, 31630))) rfl rfl h222 ?_
                refine q_Ru_seg (g2 := (7, [(0, .int col), (1, .int 4), (2, .int 19)], [.int 19, .int col], (q_cM (q_mA pix smp tr (q_nb p 1 dn ins) (q_fb z)) q_IM (q_mJ y pd), 34, 31630))) 2 (fun _ _ => rfl) ?_
                refine q_Ru_rsT (g2 := (14, [(0, .int col), (1, .int 4), (2, .int 19)], [], (q_cM (q_mA pix smp tr (q_nb p 1 dn ins) (q_fb z)) q_IM (q_mJ y pd), 34, 31630))) rfl rfl h224 ?_
                refine q_Ru_seg (g2 := (15, [(0, .int col), (1, .int 4), (2, .int 19)], [.int 0], (q_cM (q_mA pix smp tr (q_nb p 1 dn ins) (q_fb z)) q_IM (q_mJ y pd), 34, 31630))) 1 (fun _ _ => rfl) ?_
                exact q_Ru_ret rfl rfl
              show q_Ru _ _ _ (66, [(3, .int (lin - 4)), (2, .int 0), (1, .int col), (0, .ref 64)], [.int 0], (q_cM (q_mA pix smp tr (q_nb p 1 dn ins) (q_fb z)) q_IM (q_mJ y pd), 34, 31630)) _
              refine q_Ru_seg (g2 := (92, [(3, .int (lin - 4)), (2, .int 0), (1, .int col), (0, .ref 64)], [.ref 64], (q_cM (q_mA pix smp tr (q_nb p 1 dn ins) (q_fb z)) q_IM (q_mJ y pd), 34, 31630))) 2 (fun _ _ => rfl) ?_
              refine q_Ru_call (v := none) (h2 := (q_cM (q_mA pix smp tr (q_nb p 1 dn ins) (q_fb z)) q_IM (q_mJ y pd), 34, 31630)) rfl rfl ?_ ?_
              · exact (q_m_times pix smp tr p 1 dn ins z y pd col lin p1 p2 hC hM c0 c1 l0 l1 a0 a1 b0 b1 hp0 hp1 hp2 i0 i1  ).le (Nat.le_of_ble_eq_true rfl)
              show q_Ru _ _ _ (95, [(3, .int (lin - 4)), (2, .int 0), (1, .int col), (0, .ref 64)], [], (q_cM (q_mA pix smp tr (q_nb p 1 dn ins) (q_fb z)) q_IM (q_mJ y pd), 34, 31630)) _
              refine q_Ru_seg (g2 := (96, [(3, .int (lin - 4)), (2, .int 0), (1, .int col), (0, .ref 64)], [.ref 64], (q_cM (q_mA pix smp tr (q_nb p 1 dn ins) (q_fb z)) q_IM (q_mJ y pd), 34, 31630))) 1 (fun _ _ => rfl) ?_
              refine q_Ru_call (v := none) (h2 := (q_cM (q_mA pix smp tr (q_nb p 1 dn ins) (q_fb z)) q_IM (q_mJ y pd), 34, 31630)) rfl rfl ?_ ?_
              · exact (q_m_winds pix smp tr p 1 dn ins z y pd col lin p1 p2 hC hM c0 c1 l0 l1 a0 a1 b0 b1 hp0 hp1 hp2 i0 i1  ).le (Nat.le_of_ble_eq_true rfl)
              show q_Ru _ _ _ (99, [(3, .int (lin - 4)), (2, .int 0), (1, .int col), (0, .ref 64)], [], (q_cM (q_mA pix smp tr (q_nb p 1 dn ins) (q_fb z)) q_IM (q_mJ y pd), 34, 31630)) _
              refine q_Ru_seg (g2 := (102, [(3, .int (lin - 4)), (2, .int 0), (1, .int col), (0, .ref 64)], [.int 23, .int col], (q_cM (q_mA pix smp tr (q_nb p 1 dn ins) (q_fb z)) q_IM (q_mJ y pd), 34, 31630))) 2 (fun _ _ => rfl) ?_
              refine q_Ru_rsT (g2 := (109, [(3, .int (lin - 4)), (2, .int 0), (1, .int col), (0, .ref 64)], [], (q_cM (q_mA pix smp tr (q_nb p 1 dn ins) (q_fb z)) q_IM (q_mJ y pd), 34, 31630))) rfl rfl (q_d_neF h225) ?_
              refine q_Ru_seg (g2 := (114, [(3, .int (lin - 4)), (2, .int 0), (1, .int col), (0, .ref 64)], [.ref 64], (q_cM (q_mA pix smp tr (q_nb p 1 dn ins) (q_fb z)) q_IM (q_mJ y pd), 34, 31630))) 3 (fun _ _ => rfl) ?_
              refine q_Ru_call (v := none) (h2 := (q_cM (q_mA pix smp z203a (q_nb p2 0 (dn + 1) (ins + 1)) (q_fb z203b)) q_IM (q_mJ y pd), 34, 31630)) rfl rfl ?_ ?_
              · exact p203.le (Nat.le_of_ble_eq_true rfl)
              show q_Ru _ _ _ (117, [(3, .int (lin - 4)), (2, .int 0), (1, .int col), (0, .ref 64)], [], (q_cM (q_mA pix smp z203a (q_nb p2 0 (dn + 1) (ins + 1)) (q_fb z203b)) q_IM (q_mJ y pd), 34, 31630)) _
              refine q_Ru_seg (g2 := (122, [(3, .int (lin - 4)), (2, .int 0), (1, .int col), (0, .ref 64)], [.long pd, .ref 64], (q_cM (q_mA pix smp z203a (q_nb p2 0 (dn + 1) (ins + 1)) (q_fb z203b)) q_IM (q_mJ y pd), 34, 31630))) 3 (fun _ _ => rfl) ?_
              refine q_Ru_seg (g2 := (140, [(3, .int (lin - 4)), (2, .int 0), (1, .int col), (0, .ref 64)], [.long y, .ref 64], (q_cM (q_mA pix smp z203a (q_nb p2 0 (dn + 1) (ins + 1)) (q_fb z203b)) q_IM (q_uI (q_mJ y pd) 0 16 (pd + 0)), 34, 31630))) 8 (fun _ _ => rfl) ?_
              refine q_Ru_seg (g2 := (146, [(3, .int (lin - 4)), (2, .int 0), (1, .int col), (0, .ref 64)], [.int 0], (q_cM (q_mA pix smp z203a (q_nb p2 0 (dn + 1) (ins + 1)) (q_fb z203b)) q_IM (q_uI (q_uI (q_mJ y pd) 0 16 (pd + 0)) 0 15 (y + 1)), 34, 31630))) 4 (fun _ _ => rfl) ?_
              exact q_Ru_ret rfl rfl
          | false =>
            have h226 : decide (col = 23) = false := q_not_tr (q_tbl1 (fun col => !decide (col = 23)) (l := 4) (n := 15) (by decide +kernel) (q_lo1 h222) (q_hi2 h224))
            obtain ⟨x208, p208⟩ := q_m_draws pix smp tr p 1 dn ins z y pd ((2 * col) - 8) (lin - 4) (of_decide_eq_true (q_tbl1 (fun col => decide (0 ≤ ((2 * col) - 8).toInt ∧ ((2 * col) - 8).toInt ≤ 31)) (l := 4) (n := 15) (by decide +kernel) (q_lo1 h222) (q_hi2 h224))).1 (of_decide_eq_true (q_tbl1 (fun col => decide (0 ≤ ((2 * col) - 8).toInt ∧ ((2 * col) - 8).toInt ≤ 31)) (l := 4) (n := 15) (by decide +kernel) (q_lo1 h222) (q_hi2 h224))).2 (of_decide_eq_true (q_tbl1 (fun lin => decide (0 ≤ (lin - 4).toInt ∧ (lin - 4).toInt ≤ 31)) (l := 4) (n := 31) (by decide +kernel) (q_sub_lo 4 (q_lo1 h218) l0 l1) (q_sub_hi 35 (q_hi2 h220) (q_sub_lo 4 (q_lo1 h218) l0 l1) l1))).1 (of_decide_eq_true (q_tbl1 (fun lin => decide (0 ≤ (lin - 4).toInt ∧ (lin - 4).toInt ≤ 31)) (l := 4) (n := 31) (by decide +kernel) (q_sub_lo 4 (q_lo1 h218) l0 l1) (q_sub_hi 35 (q_hi2 h220) (q_sub_lo 4 (q_lo1 h218) l0 l1) l1))).2
            obtain ⟨x209, p209⟩ := q_m_draws x208 smp tr p 1 dn ins z y pd ((2 * col) - 7) (lin - 4) (of_decide_eq_true (q_tbl1 (fun col => decide (0 ≤ ((2 * col) - 7).toInt ∧ ((2 * col) - 7).toInt ≤ 31)) (l := 4) (n := 15) (by decide +kernel) (q_lo1 h222) (q_hi2 h224))).1 (of_decide_eq_true (q_tbl1 (fun col => decide (0 ≤ ((2 * col) - 7).toInt ∧ ((2 * col) - 7).toInt ≤ 31)) (l := 4) (n := 15) (by decide +kernel) (q_lo1 h222) (q_hi2 h224))).2 (of_decide_eq_true (q_tbl1 (fun lin => decide (0 ≤ (lin - 4).toInt ∧ (lin - 4).toInt ≤ 31)) (l := 4) (n := 31) (by decide +kernel) (q_sub_lo 4 (q_lo1 h218) l0 l1) (q_sub_hi 35 (q_hi2 h220) (q_sub_lo 4 (q_lo1 h218) l0 l1) l1))).1 (of_decide_eq_true (q_tbl1 (fun lin => decide (0 ≤ (lin - 4).toInt ∧ (lin - 4).toInt ≤ 31)) (l := 4) (n := 31) (by decide +kernel) (q_sub_lo 4 (q_lo1 h218) l0 l1) (q_sub_hi 35 (q_hi2 h220) (q_sub_lo 4 (q_lo1 h218) l0 l1) l1))).2
            obtain ⟨z212a, z212b, p212⟩ := q_m_go1 x209 smp tr p dn ins z y pd col lin p1 p2 hC hM c0 c1 l0 l1 a0 a1 b0 b1 hp0 hp1 hp2 i0 i1  
            refine ⟨x209, smp, z212a, z212b, ?_⟩
            refine q_Ca_of (Nat.le_of_ble_eq_true rfl) ?_
            refine q_Ru_seg (g2 := (4, [(0, .ref 64)], [.long y], (q_cM (q_mA pix smp tr (q_nb p 1 dn ins) (q_fb z)) q_IM (q_mJ y pd), 34, 31630))) 2 (fun _ _ => rfl) ?_
            refine q_Ru_seg (g2 := (9, [(0, .ref 64)], [.int ((y - y / 24 * 24).toInt32)], (q_cM (q_mA pix smp tr (q_nb p 1 dn ins) (q_fb z)) q_IM (q_mJ y pd), 34, 31630))) 3 (fun _ _ => rfl) ?_
            rw [hC]
            refine q_Ru_seg (g2 := (11, [(1, .int col), (0, .ref 64)], [.int col], (q_cM (q_mA pix smp tr (q_nb p 1 dn ins) (q_fb z)) q_IM (q_mJ y pd), 34, 31630))) 2 (fun _ _ => rfl) ?_
            refine q_Ru_rsT (g2 := (39, [(1, .int col), (0, .ref 64)], [], (q_cM (q_mA pix smp tr (q_nb p 1 dn ins) (q_fb z)) q_IM (q_mJ y pd), 34, 31630))) rfl rfl (q_d_neF h208) ?_
            refine q_Ru_seg (g2 := (40, [(1, .int col), (0, .ref 64)], [.ref 64], (q_cM (q_mA pix smp tr (q_nb p 1 dn ins) (q_fb z)) q_IM (q_mJ y pd), 34, 31630))) 1 (fun _ _ => rfl) ?_
            refine q_Ru_call (v := (some (.int 0))) (h2 := (q_cM (q_mA pix smp tr (q_nb p 1 dn ins) (q_fb z)) q_IM (q_mJ y pd), 34, 31630)) rfl rfl ?_ ?_
            · exact (by have e := q_m_picX pix smp tr p 1 dn ins z y pd col lin p1 p2 hC hM c0 c1 l0 l1 a0 a1 b0 b1 hp0 hp1 hp2 i0 i1; rw [hpic] at e; exact e.le (Nat.le_of_ble_eq_true rfl))
            show q_Ru _ _ _ (43, [(1, .int col), (0, .ref 64)], [.int 0], (q_cM (q_mA pix smp tr (q_nb p 1 dn ins) (q_fb z)) q_IM (q_mJ y pd), 34, 31630)) _
            refine q_Ru_seg (g2 := (45, [(2, .int 0), (1, .int col), (0, .ref 64)], [.ref 64], (q_cM (q_mA pix smp tr (q_nb p 1 dn ins) (q_fb z)) q_IM (q_mJ y pd), 34, 31630))) 2 (fun _ _ => rfl) ?_
            refine q_Ru_call (v := (some (.int (lin - 4)))) (h2 := (q_cM (q_mA pix smp tr (q_nb p 1 dn ins) (q_fb z)) q_IM (q_mJ y pd), 34, 31630)) rfl rfl ?_ ?_
            · refine q_Ca_of (Nat.le_of_ble_eq_true rfl) ?_
              refine q_Ru_seg (g2 := (1, [(0, .ref 64)], [.ref 64], (q_cM (q_mA pix smp tr (q_nb p 1 dn ins) (q_fb z)) q_IM (q_mJ y pd), 34, 31630))) 1 (fun _ _ => rfl) ?_
              refine q_Ru_call (v := (some (.int lin))) (h2 := (q_cM (q_mA pix smp tr (q_nb p 1 dn ins) (q_fb z)) q_IM (q_mJ y pd), 34, 31630)) rfl rfl ?_ ?_
              · refine q_Ca_of (Nat.le_of_ble_eq_true rfl) ?_
                refine q_Ru_seg (g2 := (4, [(0, .ref 64)], [.long y], (q_cM (q_mA pix smp tr (q_nb p 1 dn ins) (q_fb z)) q_IM (q_mJ y pd), 34, 31630))) 2 (fun _ _ => rfl) ?_
                refine q_Ru_seg (g2 := (13, [(0, .ref 64)], [.int (((y / 24) - (y / 24) / 40 * 40).toInt32)], (q_cM (q_mA pix smp tr (q_nb p 1 dn ins) (q_fb z)) q_IM (q_mJ y pd), 34, 31630))) 5 (fun _ _ => rfl) ?_
                rw [hM]
                exact q_Ru_ret rfl rfl
              show q_Ru _ _ _ (4, [(0, .ref 64)], [.int lin], (q_cM (q_mA pix smp tr (q_nb p 1 dn ins) (q_fb z)) q_IM (q_mJ y pd), 34, 31630)) _
              refine q_Ru_seg (g2 := (6, [(0, .ref 64)], [.int (lin - 4)], (q_cM (q_mA pix smp tr (q_nb p 1 dn ins) (q_fb z)) q_IM (q_mJ y pd), 34, 31630))) 2 (fun _ _ => rfl) ?_
              exact q_Ru_ret rfl rfl
            show q_Ru _ _ _ (48, [(2, .int 0), (1, .int col), (0, .ref 64)], [.int (lin - 4)], (q_cM (q_mA pix smp tr (q_nb p 1 dn ins) (q_fb z)) q_IM (q_mJ y pd), 34, 31630)) _
            refine q_Ru_seg (g2 := (53, [(3, .int (lin - 4)), (2, .int 0), (1, .int col), (0, .ref 64)], [.int 31, .int 0, .int (lin - 4)], (q_cM (q_mA pix smp tr (q_nb p 1 dn ins) (q_fb z)) q_IM (q_mJ y pd), 34, 31630))) 4 (fun _ _ => rfl) ?_
            refine q_Ru_call (v := (some (.int 1))) (h2 := (q_cM (q_mA pix smp tr (q_nb p 1 dn ins) (q_fb z)) q_IM (q_mJ y pd), 34, 31630)) rfl rfl ?_ ?_
            · refine q_Ca_of (Nat.le_of_ble_eq_true rfl) ?_
              refine q_Ru_seg (g2 := (2, [(0, .int (lin - 4)), (1, .int 0), (2, .int 31)], [.int 0, .int (lin - 4)], (q_cM (q_mA pix smp tr (q_nb p 1 dn ins) (q_fb z)) q_IM (q_mJ y pd), 34, 31630))) 2 (fun _ _ => rfl) ?_
              refine q_Ru_rsF (g2 := (5, [(0, .int (lin - 4)), (1, .int 0), (2, .int 31)], [], (q_cM (q_mA pix smp tr (q_nb p 1 dn ins) (q_fb z)) q_IM (q_mJ y pd), 34, 31630))) rfl rfl h218 ?_
              refine q_Ru_seg (g2 := (7, [(0, .int (lin - 4)), (1, .int 0), (2, .int 31)], [.int 31, .int (lin - 4)], (q_cM (q_mA pix smp tr (q_nb p 1 dn ins) (q_fb z)) q_IM (q_mJ y pd), 34, 31630))) 2 (fun _ _ => rfl) ?_
              refine q_Ru_rsF (g2 := (10, [(0, .int (lin - 4)), (1, .int 0), (2, .int 31)], [], (q_cM (q_mA pix smp tr (q_nb p 1 dn ins) (q_fb z)) q_IM (q_mJ y pd), 34, 31630))) rfl rfl h220 ?_
              refine q_Ru_seg (g2 := (15, [(0, .int (lin - 4)), (1, .int 0), (2, .int 31)], [.int 1], (q_cM (q_mA pix smp tr (q_nb p 1 dn ins) (q_fb z)) q_IM (q_mJ y pd), 34, 31630))) 2 (fun _ _ => rfl) ?_
              exact q_Ru_ret rfl rfl
            show q_Ru _ _ _ (56, [(3, .int (lin - 4)), (2, .int 0), (1, .int col), (0, .ref 64)], [.int 1], (q_cM (q_mA pix smp tr (q_nb p 1 dn ins) (q_fb z)) q_IM (q_mJ y pd), 34, 31630)) _
            refine q_Ru_seg (g2 := (63, [(3, .int (lin - 4)), (2, .int 0), (1, .int col), (0, .ref 64)], [.int 19, .int 4, .int col], (q_cM (q_mA pix smp tr (q_nb p 1 dn ins) (q_fb z)) q_IM (q_mJ y pd), 34, 31630))) 4 (fun _ _ => rfl) ?_
            refine q_Ru_call (v := (some (.int 1))) (h2 := (q_cM (q_mA pix smp tr (q_nb p 1 dn ins) (q_fb z)) q_IM (q_mJ y pd), 34, 31630)) rfl rfl ?_ ?_
            · refine q_Ca_of (Nat.le_of_ble_eq_true rfl) ?_
              refine q_Ru_seg (g2 := (2, [(0, .int col), (1, .int 4), (2, .int 19)], [.int 4, .int col], (q_cM (q_mA pix smp tr (q_nb p 1 dn ins) (q_fb z)) q_IM (q_mJ y pd), 34, 31630))) 2 (fun _ _ => rfl) ?_
              refine q_Ru_rsF (g2 := (5, [(0, .int col), (1, .int 4), (2, .int 19)], [], (q_cM (q_mA pix smp tr (q_nb p 1 dn ins) (q_fb z)) q_IM (q_mJ y pd), 34, 31630))) rfl rfl h222 ?_
              refine q_Ru_seg (g2 := (7, [(0, .int col), (1, .int 4), (2, .int 19)], [.int 19, .int col], (q_cM (q_mA pix smp tr (q_nb p 1 dn ins) (q_fb z)) q_IM (q_mJ y pd), 34, 31630))) 2 (fun _ _ => rfl) ?_
              refine q_Ru_rsF (g2 := (10, [(0, .int col), (1, .int 4), (2, .int 19)], [], (q_cM (q_mA pix smp tr (q_nb p 1 dn ins) (q_fb z)) q_IM (q_mJ y pd), 34, 31630))) rfl rfl h224 ?_
              refine q_Ru_seg (g2 := (15, [(0, .int col), (1, .int 4), (2, .int 19)], [.int 1], (q_cM (q_mA pix smp tr (q_nb p 1 dn ins) (q_fb z)) q_IM (q_mJ y pd), 34, 31630))) 2 (fun _ _ => rfl) ?_
              exact q_Ru_ret rfl rfl
            show q_Ru _ _ _ (66, [(3, .int (lin - 4)), (2, .int 0), (1, .int col), (0, .ref 64)], [.int 1], (q_cM (q_mA pix smp tr (q_nb p 1 dn ins) (q_fb z)) q_IM (q_mJ y pd), 34, 31630)) _
            refine q_Ru_seg (g2 := (77, [(3, .int (lin - 4)), (2, .int 0), (1, .int col), (0, .ref 64)], [.int (lin - 4), .int ((2 * col) - 8), .ref 64], (q_cM (q_mA pix smp tr (q_nb p 1 dn ins) (q_fb z)) q_IM (q_mJ y pd), 34, 31630))) 8 (fun _ _ => rfl) ?_
            refine q_Ru_call (v := none) (h2 := (q_cM (q_mA x208 smp tr (q_nb p 1 dn ins) (q_fb z)) q_IM (q_mJ y pd), 34, 31630)) rfl rfl ?_ ?_
            · exact p208.le (Nat.le_of_ble_eq_true rfl)
            show q_Ru _ _ _ (80, [(3, .int (lin - 4)), (2, .int 0), (1, .int col), (0, .ref 64)], [], (q_cM (q_mA x208 smp tr (q_nb p 1 dn ins) (q_fb z)) q_IM (q_mJ y pd), 34, 31630)) _
            refine q_Ru_seg (g2 := (88, [(3, .int (lin - 4)), (2, .int 0), (1, .int col), (0, .ref 64)], [.int (lin - 4), .int ((2 * col) - 7), .ref 64], (q_cM (q_mA x208 smp tr (q_nb p 1 dn ins) (q_fb z)) q_IM (q_mJ y pd), 34, 31630))) 7 (fun _ _ => rfl) ?_
            refine q_Ru_call (v := none) (h2 := (q_cM (q_mA x209 smp tr (q_nb p 1 dn ins) (q_fb z)) q_IM (q_mJ y pd), 34, 31630)) rfl rfl ?_ ?_
            · exact p209.le (Nat.le_of_ble_eq_true rfl)
            show q_Ru _ _ _ (91, [(3, .int (lin - 4)), (2, .int 0), (1, .int col), (0, .ref 64)], [], (q_cM (q_mA x209 smp tr (q_nb p 1 dn ins) (q_fb z)) q_IM (q_mJ y pd), 34, 31630)) _
            refine q_Ru_seg (g2 := (92, [(3, .int (lin - 4)), (2, .int 0), (1, .int col), (0, .ref 64)], [.ref 64], (q_cM (q_mA x209 smp tr (q_nb p 1 dn ins) (q_fb z)) q_IM (q_mJ y pd), 34, 31630))) 1 (fun _ _ => rfl) ?_
            refine q_Ru_call (v := none) (h2 := (q_cM (q_mA x209 smp tr (q_nb p 1 dn ins) (q_fb z)) q_IM (q_mJ y pd), 34, 31630)) rfl rfl ?_ ?_
            · exact (q_m_times x209 smp tr p 1 dn ins z y pd col lin p1 p2 hC hM c0 c1 l0 l1 a0 a1 b0 b1 hp0 hp1 hp2 i0 i1  ).le (Nat.le_of_ble_eq_true rfl)
            show q_Ru _ _ _ (95, [(3, .int (lin - 4)), (2, .int 0), (1, .int col), (0, .ref 64)], [], (q_cM (q_mA x209 smp tr (q_nb p 1 dn ins) (q_fb z)) q_IM (q_mJ y pd), 34, 31630)) _
            refine q_Ru_seg (g2 := (96, [(3, .int (lin - 4)), (2, .int 0), (1, .int col), (0, .ref 64)], [.ref 64], (q_cM (q_mA x209 smp tr (q_nb p 1 dn ins) (q_fb z)) q_IM (q_mJ y pd), 34, 31630))) 1 (fun _ _ => rfl) ?_
            refine q_Ru_call (v := none) (h2 := (q_cM (q_mA x209 smp tr (q_nb p 1 dn ins) (q_fb z)) q_IM (q_mJ y pd), 34, 31630)) rfl rfl ?_ ?_
            · exact (q_m_winds x209 smp tr p 1 dn ins z y pd col lin p1 p2 hC hM c0 c1 l0 l1 a0 a1 b0 b1 hp0 hp1 hp2 i0 i1  ).le (Nat.le_of_ble_eq_true rfl)
            show q_Ru _ _ _ (99, [(3, .int (lin - 4)), (2, .int 0), (1, .int col), (0, .ref 64)], [], (q_cM (q_mA x209 smp tr (q_nb p 1 dn ins) (q_fb z)) q_IM (q_mJ y pd), 34, 31630)) _
            refine q_Ru_seg (g2 := (102, [(3, .int (lin - 4)), (2, .int 0), (1, .int col), (0, .ref 64)], [.int 23, .int col], (q_cM (q_mA x209 smp tr (q_nb p 1 dn ins) (q_fb z)) q_IM (q_mJ y pd), 34, 31630))) 2 (fun _ _ => rfl) ?_
            refine q_Ru_rsT (g2 := (109, [(3, .int (lin - 4)), (2, .int 0), (1, .int col), (0, .ref 64)], [], (q_cM (q_mA x209 smp tr (q_nb p 1 dn ins) (q_fb z)) q_IM (q_mJ y pd), 34, 31630))) rfl rfl (q_d_neF h226) ?_
            refine q_Ru_seg (g2 := (114, [(3, .int (lin - 4)), (2, .int 0), (1, .int col), (0, .ref 64)], [.ref 64], (q_cM (q_mA x209 smp tr (q_nb p 1 dn ins) (q_fb z)) q_IM (q_mJ y pd), 34, 31630))) 3 (fun _ _ => rfl) ?_
            refine q_Ru_call (v := none) (h2 := (q_cM (q_mA x209 smp z212a (q_nb p2 0 (dn + 1) (ins + 1)) (q_fb z212b)) q_IM (q_mJ y pd), 34, 31630)) rfl rfl ?_ ?_
            · exact p212.le (Nat.le_of_ble_eq_true rfl)
            show q_Ru _ _ _ (117, [(3, .int (lin - 4)), (2, .int 0), (1, .int col), (0, .ref 64)], [], (q_cM (q_mA x209 smp z212a (q_nb p2 0 (dn + 1) (ins + 1)) (q_fb z212b)) q_IM (q_mJ y pd), 34, 31630)) _
            refine q_Ru_seg (g2 := (122, [(3, .int (lin - 4)), (2, .int 0), (1, .int col), (0, .ref 64)], [.long pd, .ref 64], (q_cM (q_mA x209 smp z212a (q_nb p2 0 (dn + 1) (ins + 1)) (q_fb z212b)) q_IM (q_mJ y pd), 34, 31630))) 3 (fun _ _ => rfl) ?_
            refine q_Ru_seg (g2 := (140, [(3, .int (lin - 4)), (2, .int 0), (1, .int col), (0, .ref 64)], [.long y, .ref 64], (q_cM (q_mA x209 smp z212a (q_nb p2 0 (dn + 1) (ins + 1)) (q_fb z212b)) q_IM (q_uI (q_mJ y pd) 0 16 (pd + 0)), 34, 31630))) 8 (fun _ _ => rfl) ?_
            refine q_Ru_seg (g2 := (146, [(3, .int (lin - 4)), (2, .int 0), (1, .int col), (0, .ref 64)], [.int 0], (q_cM (q_mA x209 smp z212a (q_nb p2 0 (dn + 1) (ins + 1)) (q_fb z212b)) q_IM (q_uI (q_uI (q_mJ y pd) 0 16 (pd + 0)) 0 15 (y + 1)), 34, 31630))) 4 (fun _ _ => rfl) ?_
            exact q_Ru_ret rfl rfl
set_option maxHeartbeats 4000000 in
theorem q_itM1 (pix smp tr : Nat → Int32) (p left dn ins z : Int32) (y pd : Int64) (col lin p1 p2 : Int32) (hC : (y - y / 24 * 24).toInt32 = col) (hM : (y / 24 - y / 24 / 40 * 40).toInt32 = lin) (c0 : 0 ≤ col.toInt) (c1 : col.toInt ≤ 23) (l0 : 0 ≤ lin.toInt) (l1 : lin.toInt ≤ 39) (a0 : 0 ≤ p.toInt) (a1 : p.toInt ≤ 3839) (b0 : 0 ≤ p1.toInt) (b1 : p1.toInt ≤ 3839) (hp0 : p &&& 4095 = p) (hp1 : (p + 1) &&& 4095 = p1) (hp2 : (p + 2) &&& 4095 = p2) (i0 : 0 ≤ ins.toInt) (i1 : ins.toInt ≤ 1000) (hpic : q_picX lin col = 1) (k c u : Int32) (hk : decide (k < u) = true) : ∃ pix2 smp2, ∀ o, q_Ru q_TB0 9 236 (29, [(3, .int (k + 1)), (2, .int (c + 1)), (0, .ref 64), (1, .int u)], [], (q_cM (q_mA pix2 smp2 tr (q_nb p left dn ins) (q_fb z)) q_IM (q_mJ (y + 1) (pd + 1)), 34, 31630)) o → q_Ru q_TB0 9 236 (29, [(3, .int k), (2, .int c), (0, .ref 64), (1, .int u)], [], (q_cM (q_mA pix smp tr (q_nb p left dn ins) (q_fb z)) q_IM (q_mJ y pd), 34, 31630)) o := by
  obtain ⟨z213a, z213b, p213⟩ := q_m_pass1 pix smp tr p left dn ins z y pd col lin p1 p2 hC hM c0 c1 l0 l1 a0 a1 b0 b1 hp0 hp1 hp2 i0 i1 hpic 
  refine ⟨z213a, z213b, fun o h => ?_⟩
  refine q_Ru_seg (g2 := (31, [(3, .int k), (2, .int c), (0, .ref 64), (1, .int u)], [.int u, .int k], (q_cM (q_mA pix smp tr (q_nb p left dn ins) (q_fb z)) q_IM (q_mJ y pd), 34, 31630))) 2 (fun _ _ => rfl) ?_
  refine q_Ru_rsF (g2 := (34, [(3, .int k), (2, .int c), (0, .ref 64), (1, .int u)], [], (q_cM (q_mA pix smp tr (q_nb p left dn ins) (q_fb z)) q_IM (q_mJ y pd), 34, 31630))) rfl rfl (q_d_geT hk) ?_
  refine q_Ru_seg (g2 := (36, [(3, .int k), (2, .int c), (0, .ref 64), (1, .int u)], [.ref 64, .int c], (q_cM (q_mA pix smp tr (q_nb p left dn ins) (q_fb z)) q_IM (q_mJ y pd), 34, 31630))) 2 (fun _ _ => rfl) ?_
  refine q_Ru_call (v := (some (.int 1))) (h2 := (q_cM (q_mA z213a z213b tr (q_nb p left dn ins) (q_fb z)) q_IM (q_mJ (y + 1) (pd + 1)), 34, 31630)) rfl rfl ?_ ?_
  · exact p213.le (Nat.le_of_ble_eq_true rfl)
  show q_Ru _ _ _ (39, [(3, .int k), (2, .int c), (0, .ref 64), (1, .int u)], [.int 1, .int c], (q_cM (q_mA z213a z213b tr (q_nb p left dn ins) (q_fb z)) q_IM (q_mJ (y + 1) (pd + 1)), 34, 31630)) _
  refine q_Ru_seg (g2 := (29, [(3, .int (k + 1)), (2, .int (c + 1)), (0, .ref 64), (1, .int u)], [], (q_cM (q_mA z213a z213b tr (q_nb p left dn ins) (q_fb z)) q_IM (q_mJ (y + 1) (pd + 1)), 34, 31630))) 7 (fun _ _ => rfl) ?_
  exact h
set_option maxHeartbeats 4000000 in
theorem q_itM00 (pix smp tr : Nat → Int32) (p dn ins z : Int32) (y pd : Int64) (col lin p1 p2 : Int32) (hC : (y - y / 24 * 24).toInt32 = col) (hM : (y / 24 - y / 24 / 40 * 40).toInt32 = lin) (c0 : 0 ≤ col.toInt) (c1 : col.toInt ≤ 23) (l0 : 0 ≤ lin.toInt) (l1 : lin.toInt ≤ 39) (a0 : 0 ≤ p.toInt) (a1 : p.toInt ≤ 3839) (b0 : 0 ≤ p1.toInt) (b1 : p1.toInt ≤ 3839) (hp0 : p &&& 4095 = p) (hp1 : (p + 1) &&& 4095 = p1) (hp2 : (p + 2) &&& 4095 = p2) (i0 : 0 ≤ ins.toInt) (i1 : ins.toInt ≤ 1000) (hpic : q_picX lin col = 0) (k c u : Int32) (hk : decide (k < u) = true) : ∃ pix2 smp2, ∀ o, q_Ru q_TB0 9 236 (29, [(3, .int (k + 1)), (2, .int (c + 0)), (0, .ref 64), (1, .int u)], [], (q_cM (q_mA pix2 smp2 tr (q_nb p 1 dn ins) (q_fb z)) q_IM (q_mJ (y + 1) (pd + 0)), 34, 31630)) o → q_Ru q_TB0 9 236 (29, [(3, .int k), (2, .int c), (0, .ref 64), (1, .int u)], [], (q_cM (q_mA pix smp tr (q_nb p 0 dn ins) (q_fb z)) q_IM (q_mJ y pd), 34, 31630)) o := by
  obtain ⟨z214a, z214b, p214⟩ := q_m_pass00 pix smp tr p dn ins z y pd col lin p1 p2 hC hM c0 c1 l0 l1 a0 a1 b0 b1 hp0 hp1 hp2 i0 i1 hpic 
  refine ⟨z214a, z214b, fun o h => ?_⟩
  refine q_Ru_seg (g2 := (31, [(3, .int k), (2, .int c), (0, .ref 64), (1, .int u)], [.int u, .int k], (q_cM (q_mA pix smp tr (q_nb p 0 dn ins) (q_fb z)) q_IM (q_mJ y pd), 34, 31630))) 2 (fun _ _ => rfl) ?_
  refine q_Ru_rsF (g2 := (34, [(3, .int k), (2, .int c), (0, .ref 64), (1, .int u)], [], (q_cM (q_mA pix smp tr (q_nb p 0 dn ins) (q_fb z)) q_IM (q_mJ y pd), 34, 31630))) rfl rfl (q_d_geT hk) ?_
  refine q_Ru_seg (g2 := (36, [(3, .int k), (2, .int c), (0, .ref 64), (1, .int u)], [.ref 64, .int c], (q_cM (q_mA pix smp tr (q_nb p 0 dn ins) (q_fb z)) q_IM (q_mJ y pd), 34, 31630))) 2 (fun _ _ => rfl) ?_
  refine q_Ru_call (v := (some (.int 0))) (h2 := (q_cM (q_mA z214a z214b tr (q_nb p 1 dn ins) (q_fb z)) q_IM (q_mJ (y + 1) (pd + 0)), 34, 31630)) rfl rfl ?_ ?_
  · exact p214.le (Nat.le_of_ble_eq_true rfl)
  show q_Ru _ _ _ (39, [(3, .int k), (2, .int c), (0, .ref 64), (1, .int u)], [.int 0, .int c], (q_cM (q_mA z214a z214b tr (q_nb p 1 dn ins) (q_fb z)) q_IM (q_mJ (y + 1) (pd + 0)), 34, 31630)) _
  refine q_Ru_seg (g2 := (29, [(3, .int (k + 1)), (2, .int (c + 0)), (0, .ref 64), (1, .int u)], [], (q_cM (q_mA z214a z214b tr (q_nb p 1 dn ins) (q_fb z)) q_IM (q_mJ (y + 1) (pd + 0)), 34, 31630))) 6 (fun _ _ => rfl) ?_
  exact h
set_option maxHeartbeats 4000000 in
theorem q_itM01 (pix smp tr : Nat → Int32) (p dn ins z : Int32) (y pd : Int64) (col lin p1 p2 : Int32) (hC : (y - y / 24 * 24).toInt32 = col) (hM : (y / 24 - y / 24 / 40 * 40).toInt32 = lin) (c0 : 0 ≤ col.toInt) (c1 : col.toInt ≤ 23) (l0 : 0 ≤ lin.toInt) (l1 : lin.toInt ≤ 39) (a0 : 0 ≤ p.toInt) (a1 : p.toInt ≤ 3839) (b0 : 0 ≤ p1.toInt) (b1 : p1.toInt ≤ 3839) (hp0 : p &&& 4095 = p) (hp1 : (p + 1) &&& 4095 = p1) (hp2 : (p + 2) &&& 4095 = p2) (i0 : 0 ≤ ins.toInt) (i1 : ins.toInt ≤ 1000) (hpic : q_picX lin col = 0) (k c u : Int32) (hk : decide (k < u) = true) : ∃ pix2 smp2 tr2 z2, ∀ o, q_Ru q_TB0 9 236 (29, [(3, .int (k + 1)), (2, .int (c + 0)), (0, .ref 64), (1, .int u)], [], (q_cM (q_mA pix2 smp2 tr2 (q_nb p2 0 (dn + 1) (ins + 1)) (q_fb z2)) q_IM (q_mJ (y + 1) (pd + 0)), 34, 31630)) o → q_Ru q_TB0 9 236 (29, [(3, .int k), (2, .int c), (0, .ref 64), (1, .int u)], [], (q_cM (q_mA pix smp tr (q_nb p 1 dn ins) (q_fb z)) q_IM (q_mJ y pd), 34, 31630)) o := by
  obtain ⟨z215a, z215b, z215c, z215d, p215⟩ := q_m_pass01 pix smp tr p dn ins z y pd col lin p1 p2 hC hM c0 c1 l0 l1 a0 a1 b0 b1 hp0 hp1 hp2 i0 i1 hpic 
  refine ⟨z215a, z215b, z215c, z215d, fun o h => ?_⟩
  refine q_Ru_seg (g2 := (31, [(3, .int k), (2, .int c), (0, .ref 64), (1, .int u)], [.int u, .int k], (q_cM (q_mA pix smp tr (q_nb p 1 dn ins) (q_fb z)) q_IM (q_mJ y pd), 34, 31630))) 2 (fun _ _ => rfl) ?_
  refine q_Ru_rsF (g2 := (34, [(3, .int k), (2, .int c), (0, .ref 64), (1, .int u)], [], (q_cM (q_mA pix smp tr (q_nb p 1 dn ins) (q_fb z)) q_IM (q_mJ y pd), 34, 31630))) rfl rfl (q_d_geT hk) ?_
  refine q_Ru_seg (g2 := (36, [(3, .int k), (2, .int c), (0, .ref 64), (1, .int u)], [.ref 64, .int c], (q_cM (q_mA pix smp tr (q_nb p 1 dn ins) (q_fb z)) q_IM (q_mJ y pd), 34, 31630))) 2 (fun _ _ => rfl) ?_
  refine q_Ru_call (v := (some (.int 0))) (h2 := (q_cM (q_mA z215a z215b z215c (q_nb p2 0 (dn + 1) (ins + 1)) (q_fb z215d)) q_IM (q_mJ (y + 1) (pd + 0)), 34, 31630)) rfl rfl ?_ ?_
  · exact p215.le (Nat.le_of_ble_eq_true rfl)
  show q_Ru _ _ _ (39, [(3, .int k), (2, .int c), (0, .ref 64), (1, .int u)], [.int 0, .int c], (q_cM (q_mA z215a z215b z215c (q_nb p2 0 (dn + 1) (ins + 1)) (q_fb z215d)) q_IM (q_mJ (y + 1) (pd + 0)), 34, 31630)) _
  refine q_Ru_seg (g2 := (29, [(3, .int (k + 1)), (2, .int (c + 0)), (0, .ref 64), (1, .int u)], [], (q_cM (q_mA z215a z215b z215c (q_nb p2 0 (dn + 1) (ins + 1)) (q_fb z215d)) q_IM (q_mJ (y + 1) (pd + 0)), 34, 31630))) 6 (fun _ _ => rfl) ?_
  exact h
