set_option maxHeartbeats 4000000 in
theorem q_m_pass1 (pix smp tr : Nat → Int32) (p left dn ins z : Int32) (y pd : Int64) (col lin p1 p2 : Int32) (hC : (y - y / 24 * 24).toInt32 = col) (hM : (y / 24 - y / 24 / 40 * 40).toInt32 = lin) (c0 : 0 ≤ col.toInt) (c1 : col.toInt ≤ 23) (l0 : 0 ≤ lin.toInt) (l1 : lin.toInt ≤ 39) (a0 : 0 ≤ p.toInt) (a1 : p.toInt ≤ 3839) (b0 : 0 ≤ p1.toInt) (b1 : p1.toInt ≤ 3839) (hp0 : p &&& 4095 = p) (hp1 : (p + 1) &&& 4095 = p1) (hp2 : (p + 2) &&& 4095 = p2) (i0 : 0 ≤ ins.toInt) (i1 : ins.toInt ≤ 1000) (hpic : q_picX lin col = 1) : ∃ pix2 smp2, q_Ca q_TB0 9 235 [.ref 64] (q_cM (q_mA pix smp tr (q_nb p left dn ins) (q_fb z)) q_IM (q_mJ y pd), 34, 31630) (.inl (some (.int 1)), (q_cM (q_mA pix2 smp2 tr (q_nb p left dn ins) (q_fb z)) q_IM (q_mJ (y + 1) (pd + 1)), 34, 31630)) := by
  cases h170 : decide (col = 0) with
  | true =>
    have eh170 := of_decide_eq_true h170
    subst eh170
    cases h171 : decide (lin = 0) with
    | true =>
      have eh171 := of_decide_eq_true h171
      subst eh171
      cases h172 : decide (lin - 4 < 0) with
      | true =>
        cases h173 : decide (col = 23) with
        | true =>
          have eh173 := of_decide_eq_true h173
          subst eh173
          obtain ⟨z46a, p46⟩ := q_m_sample pix smp tr p left dn ins z y pd col lin p1 p2 hC hM c0 c1 l0 l1 a0 a1 b0 b1 hp0 hp1 hp2 i0 i1  
          refine ⟨pix, z46a, ?_⟩
          refine q_Ca_of (Nat.le_of_ble_eq_true rfl) ?_
          refine q_Ru_seg (g2 := (4, [(0, .ref 64)], [.long y], (q_cM (q_mA pix smp tr (q_nb p left dn ins) (q_fb z)) q_IM (q_mJ y pd), 34, 31630))) 2 (fun _ _ => rfl) ?_
          refine q_Ru_seg (g2 := (9, [(0, .ref 64)], [.int ((y - y / 24 * 24).toInt32)], (q_cM (q_mA pix smp tr (q_nb p left dn ins) (q_fb z)) q_IM (q_mJ y pd), 34, 31630))) 3 (fun _ _ => rfl) ?_
          rw [hC]
          refine q_Ru_seg (g2 := (11, [(1, .int col), (0, .ref 64)], [.int col], (q_cM (q_mA pix smp tr (q_nb p left dn ins) (q_fb z)) q_IM (q_mJ y pd), 34, 31630))) 2 (fun _ _ => rfl) ?_
          refine q_Ru_rsF (g2 := (14, [(1, .int col), (0, .ref 64)], [], (q_cM (q_mA pix smp tr (q_nb p left dn ins) (q_fb z)) q_IM (q_mJ y pd), 34, 31630))) rfl rfl (q_d_neT h170) ?_
          refine q_Ru_seg (g2 := (15, [(1, .int col), (0, .ref 64)], [.ref 64], (q_cM (q_mA pix smp tr (q_nb p left dn ins) (q_fb z)) q_IM (q_mJ y pd), 34, 31630))) 1 (fun _ _ => rfl) ?_
          refine q_Ru_call (v := (some (.int lin))) (h2 := (q_cM (q_mA pix smp tr (q_nb p left dn ins) (q_fb z)) q_IM (q_mJ y pd), 34, 31630)) rfl rfl ?_ ?_
          · refine q_Ca_of (Nat.le_of_ble_eq_true rfl) ?_
            refine q_Ru_seg (g2 := (4, [(0, .ref 64)], [.long y], (q_cM (q_mA pix smp tr (q_nb p left dn ins) (q_fb z)) q_IM (q_mJ y pd), 34, 31630))) 2 (fun _ _ => rfl) ?_
            refine q_Ru_seg (g2 := (13, [(0, .ref 64)], [.int (((y / 24) - (y / 24) / 40 * 40).toInt32)], (q_cM (q_mA pix smp tr (q_nb p left dn ins) (q_fb z)) q_IM (q_mJ y pd), 34, 31630))) 5 (fun _ _ => rfl) ?_
            rw [hM]
            exact q_Ru_ret rfl rfl
          show q_Ru _ _ _ (18, [(1, .int col), (0, .ref 64)], [.int lin], (q_cM (q_mA pix smp tr (q_nb p left dn ins) (q_fb z)) q_IM (q_mJ y pd), 34, 31630)) _
          refine q_Ru_seg (g2 := (25, [(1, .int col), (0, .ref 64)], [.int 0, .int lin], (q_cM (q_mA pix smp tr (q_nb p left dn ins) (q_fb z)) q_IM (q_mJ y pd), 34, 31630))) 4 (fun _ _ => rfl) ?_
          refine q_Ru_rsF (g2 := (28, [(1, .int col), (0, .ref 64)], [], (q_cM (q_mA pix smp tr (q_nb p left dn ins) (q_fb z)) q_IM (q_mJ y pd), 34, 31630))) rfl rfl (q_d_neT h171) ?_
          refine q_Ru_seg (g2 := (36, [(1, .int col), (0, .ref 64)], [.int 1, .int 9, .ref 78], (q_cM (q_mA pix smp tr (q_nb p left dn ins) (q_fb z)) q_IM (q_mJ y pd), 34, 31630))) 5 (fun _ _ => rfl) ?_
          refine q_Ru_seg (g2 := (40, [(1, .int col), (0, .ref 64)], [.ref 64], (q_cM (q_uA (q_mA pix smp tr (q_nb p left dn ins) (q_fb z)) 14 (upd (q_nb p left dn ins) 9 1)) q_IM (q_mJ y pd), 34, 31630))) 4 (fun _ _ => rfl) ?_
          have hA : ∀ i, i < 34 → (q_uA (q_mA pix smp tr (q_nb p left dn ins) (q_fb z)) 14 (upd (q_nb p left dn ins) 9 1)) i = (q_mA pix smp tr (q_nb p left dn ins) (q_fb z)) i := by
            intro i hi
            match i, hi with
            | 0, _ => rfl
            | 1, _ => rfl
            | 2, _ => rfl
            | 3, _ => rfl
            | 4, _ => rfl
            | 5, _ => rfl
            | 6, _ => rfl
            | 7, _ => rfl
            | 8, _ => rfl
            | 9, _ => rfl
            | 10, _ => rfl
            | 11, _ => rfl
            | 12, _ => rfl
            | 13, _ => rfl
            | 14, _ => exact (show (upd (q_nb p left dn ins) 9 1) = (q_nb p left dn ins) by simp only [q_upd_upd, q_upd_z, q_nb_4, q_nb_17, q_nb_19, q_nb_20, q_nb_0, q_nb_9, q_nb_18, q_fb_4, q_fb_0])
            | 15, _ => rfl
            | 16, _ => rfl
            | 17, _ => rfl
            | 18, _ => rfl
            | 19, _ => rfl
            | 20, _ => rfl
            | 21, _ => rfl
            | 22, _ => rfl
            | 23, _ => rfl
            | 24, _ => rfl
            | 25, _ => rfl
            | 26, _ => rfl
            | 27, _ => rfl
            | 28, _ => rfl
            | 29, _ => rfl
            | 30, _ => rfl
            | 31, _ => rfl
            | 32, _ => rfl
            | 33, _ => rfl
            | i + 34, hi => exact absurd hi (by omega)
          rw [q_cM_A (I := q_IM) (J := (q_mJ y pd)) hA]
          refine q_Ru_call (v := (some (.int 1))) (h2 := (q_cM (q_mA pix smp tr (q_nb p left dn ins) (q_fb z)) q_IM (q_mJ y pd), 34, 31630)) rfl rfl ?_ ?_
          · exact (by have e := q_m_picX pix smp tr p left dn ins z y pd col lin p1 p2 hC hM c0 c1 l0 l1 a0 a1 b0 b1 hp0 hp1 hp2 i0 i1; rw [hpic] at e; exact e.le (Nat.le_of_ble_eq_true rfl))
          show q_Ru _ _ _ (43, [(1, .int col), (0, .ref 64)], [.int 1], (q_cM (q_mA pix smp tr (q_nb p left dn ins) (q_fb z)) q_IM (q_mJ y pd), 34, 31630)) _
          refine q_Ru_seg (g2 := (45, [(2, .int 1), (1, .int col), (0, .ref 64)], [.ref 64], (q_cM (q_mA pix smp tr (q_nb p left dn ins) (q_fb z)) q_IM (q_mJ y pd), 34, 31630))) 2 (fun _ _ => rfl) ?_
          refine q_Ru_call (v := (some (.int (lin - 4)))) (h2 := (q_cM (q_mA pix smp tr (q_nb p left dn ins) (q_fb z)) q_IM (q_mJ y pd), 34, 31630)) rfl rfl ?_ ?_
          · refine q_Ca_of (Nat.le_of_ble_eq_true rfl) ?_
            refine q_Ru_seg (g2 := (1, [(0, .ref 64)], [.ref 64], (q_cM (q_mA pix smp tr (q_nb p left dn ins) (q_fb z)) q_IM (q_mJ y pd), 34, 31630))) 1 (fun _ _ => rfl) ?_
            refine q_Ru_call (v := (some (.int lin))) (h2 := (q_cM (q_mA pix smp tr (q_nb p left dn ins) (q_fb z)) q_IM (q_mJ y pd), 34, 31630)) rfl rfl ?_ ?_
            · refine q_Ca_of (Nat.le_of_ble_eq_true rfl) ?_
              refine q_Ru_seg (g2 := (4, [(0, .ref 64)], [.long y], (q_cM (q_mA pix smp tr (q_nb p left dn ins) (q_fb z)) q_IM (q_mJ y pd), 34, 31630))) 2 (fun _ _ => rfl) ?_
              refine q_Ru_seg (g2 := (13, [(0, .ref 64)], [.int (((y / 24) - (y / 24) / 40 * 40).toInt32)], (q_cM (q_mA pix smp tr (q_nb p left dn ins) (q_fb z)) q_IM (q_mJ y pd), 34, 31630))) 5 (fun _ _ => rfl) ?_
              rw [hM]
              exact q_Ru_ret rfl rfl
            show q_Ru _ _ _ (4, [(0, .ref 64)], [.int lin], (q_cM (q_mA pix smp tr (q_nb p left dn ins) (q_fb z)) q_IM (q_mJ y pd), 34, 31630)) _
            refine q_Ru_seg (g2 := (6, [(0, .ref 64)], [.int (lin - 4)], (q_cM (q_mA pix smp tr (q_nb p left dn ins) (q_fb z)) q_IM (q_mJ y pd), 34, 31630))) 2 (fun _ _ => rfl) ?_
            exact q_Ru_ret rfl rfl
          show q_Ru _ _ _ (48, [(2, .int 1), (1, .int col), (0, .ref 64)], [.int (lin - 4)], (q_cM (q_mA pix smp tr (q_nb p left dn ins) (q_fb z)) q_IM (q_mJ y pd), 34, 31630)) _
          refine q_Ru_seg (g2 := (53, [(3, .int (lin - 4)), (2, .int 1), (1, .int col), (0, .ref 64)], [.int 31, .int 0, .int (lin - 4)], (q_cM (q_mA pix smp tr (q_nb p left dn ins) (q_fb z)) q_IM (q_mJ y pd), 34, 31630))) 4 (fun _ _ => rfl) ?_
          refine q_Ru_call (v := (some (.int 0))) (h2 := (q_cM (q_mA pix smp tr (q_nb p left dn ins) (q_fb z)) q_IM (q_mJ y pd), 34, 31630)) rfl rfl ?_ ?_
          · refine q_Ca_of (Nat.le_of_ble_eq_true rfl) ?_
            refine q_Ru_seg (g2 := (2, [(0, .int (lin - 4)), (1, .int 0), (2, .int 31)], [.int 0, .int (lin - 4)], (q_cM (q_mA pix smp tr (q_nb p left dn ins) (q_fb z)) q_IM (q_mJ y pd), 34, 31630))) 2 (fun _ _ => rfl) ?_
            refine q_Ru_rsT (g2 := (14, [(0, .int (lin - 4)), (1, .int 0), (2, .int 31)], [], (q_cM (q_mA pix smp tr (q_nb p left dn ins) (q_fb z)) q_IM (q_mJ y pd), 34, 31630))) rfl rfl h172 ?_
            refine q_Ru_seg (g2 := (15, [(0, .int (lin - 4)), (1, .int 0), (2, .int 31)], [.int 0], (q_cM (q_mA pix smp tr (q_nb p left dn ins) (q_fb z)) q_IM (q_mJ y pd), 34, 31630))) 1 (fun _ _ => rfl) ?_
            exact q_Ru_ret rfl rfl
          show q_Ru _ _ _ (56, [(3, .int (lin - 4)), (2, .int 1), (1, .int col), (0, .ref 64)], [.int 0], (q_cM (q_mA pix smp tr (q_nb p left dn ins) (q_fb z)) q_IM (q_mJ y pd), 34, 31630)) _
          refine q_Ru_seg (g2 := (92, [(3, .int (lin - 4)), (2, .int 1), (1, .int col), (0, .ref 64)], [.ref 64], (q_cM (q_mA pix smp tr (q_nb p left dn ins) (q_fb z)) q_IM (q_mJ y pd), 34, 31630))) 2 (fun _ _ => rfl) ?_
          refine q_Ru_call (v := none) (h2 := (q_cM (q_mA pix smp tr (q_nb p left dn ins) (q_fb z)) q_IM (q_mJ y pd), 34, 31630)) rfl rfl ?_ ?_
          · exact (q_m_times pix smp tr p left dn ins z y pd col lin p1 p2 hC hM c0 c1 l0 l1 a0 a1 b0 b1 hp0 hp1 hp2 i0 i1  ).le (Nat.le_of_ble_eq_true rfl)
          show q_Ru _ _ _ (95, [(3, .int (lin - 4)), (2, .int 1), (1, .int col), (0, .ref 64)], [], (q_cM (q_mA pix smp tr (q_nb p left dn ins) (q_fb z)) q_IM (q_mJ y pd), 34, 31630)) _
          refine q_Ru_seg (g2 := (96, [(3, .int (lin - 4)), (2, .int 1), (1, .int col), (0, .ref 64)], [.ref 64], (q_cM (q_mA pix smp tr (q_nb p left dn ins) (q_fb z)) q_IM (q_mJ y pd), 34, 31630))) 1 (fun _ _ => rfl) ?_
          refine q_Ru_call (v := none) (h2 := (q_cM (q_mA pix smp tr (q_nb p left dn ins) (q_fb z)) q_IM (q_mJ y pd), 34, 31630)) rfl rfl ?_ ?_
          · exact (q_m_winds pix smp tr p left dn ins z y pd col lin p1 p2 hC hM c0 c1 l0 l1 a0 a1 b0 b1 hp0 hp1 hp2 i0 i1  ).le (Nat.le_of_ble_eq_true rfl)
          show q_Ru _ _ _ (99, [(3, .int (lin - 4)), (2, .int 1), (1, .int col), (0, .ref 64)], [], (q_cM (q_mA pix smp tr (q_nb p left dn ins) (q_fb z)) q_IM (q_mJ y pd), 34, 31630)) _
          refine q_Ru_seg (g2 := (102, [(3, .int (lin - 4)), (2, .int 1), (1, .int col), (0, .ref 64)], [.int 23, .int col], (q_cM (q_mA pix smp tr (q_nb p left dn ins) (q_fb z)) q_IM (q_mJ y pd), 34, 31630))) 2 (fun _ _ => rfl) ?_
          refine q_Ru_rsF (g2 := (105, [(3, .int (lin - 4)), (2, .int 1), (1, .int col), (0, .ref 64)], [], (q_cM (q_mA pix smp tr (q_nb p left dn ins) (q_fb z)) q_IM (q_mJ y pd), 34, 31630))) rfl rfl (q_d_neT h173) ?_
          refine q_Ru_seg (g2 := (106, [(3, .int (lin - 4)), (2, .int 1), (1, .int col), (0, .ref 64)], [.ref 64], (q_cM (q_mA pix smp tr (q_nb p left dn ins) (q_fb z)) q_IM (q_mJ y pd), 34, 31630))) 1 (fun _ _ => rfl) ?_
          refine q_Ru_call (v := none) (h2 := (q_cM (q_mA pix z46a tr (q_nb p left dn ins) (q_fb z)) q_IM (q_mJ y pd), 34, 31630)) rfl rfl ?_ ?_
          · exact p46.le (Nat.le_of_ble_eq_true rfl)
          show q_Ru _ _ _ (109, [(3, .int (lin - 4)), (2, .int 1), (1, .int col), (0, .ref 64)], [], (q_cM (q_mA pix z46a tr (q_nb p left dn ins) (q_fb z)) q_IM (q_mJ y pd), 34, 31630)) _
          refine q_Ru_seg (g2 := (122, [(3, .int (lin - 4)), (2, .int 1), (1, .int col), (0, .ref 64)], [.long pd, .ref 64], (q_cM (q_mA pix z46a tr (q_nb p left dn ins) (q_fb z)) q_IM (q_mJ y pd), 34, 31630))) 5 (fun _ _ => rfl) ?_
          refine q_Ru_seg (g2 := (140, [(3, .int (lin - 4)), (2, .int 1), (1, .int col), (0, .ref 64)], [.long y, .ref 64], (q_cM (q_mA pix z46a tr (q_nb p left dn ins) (q_fb z)) q_IM (q_uI (q_mJ y pd) 0 16 (pd + 1)), 34, 31630))) 9 (fun _ _ => rfl) ?_
          refine q_Ru_seg (g2 := (146, [(3, .int (lin - 4)), (2, .int 1), (1, .int col), (0, .ref 64)], [.int 1], (q_cM (q_mA pix z46a tr (q_nb p left dn ins) (q_fb z)) q_IM (q_uI (q_uI (q_mJ y pd) 0 16 (pd + 1)) 0 15 (y + 1)), 34, 31630))) 4 (fun _ _ => rfl) ?_
          exact q_Ru_ret rfl rfl
        | false =>
          refine ⟨pix, smp, ?_⟩
          refine q_Ca_of (Nat.le_of_ble_eq_true rfl) ?_
          refine q_Ru_seg (g2 := (4, [(0, .ref 64)], [.long y], (q_cM (q_mA pix smp tr (q_nb p left dn ins) (q_fb z)) q_IM (q_mJ y pd), 34, 31630))) 2 (fun _ _ => rfl) ?_
          refine q_Ru_seg (g2 := (9, [(0, .ref 64)], [.int ((y - y / 24 * 24).toInt32)], (q_cM (q_mA pix smp tr (q_nb p left dn ins) (q_fb z)) q_IM (q_mJ y pd), 34, 31630))) 3 (fun _ _ => rfl) ?_
          rw [hC]
          refine q_Ru_seg (g2 := (11, [(1, .int col), (0, .ref 64)], [.int col], (q_cM (q_mA pix smp tr (q_nb p left dn ins) (q_fb z)) q_IM (q_mJ y pd), 34, 31630))) 2 (fun _ _ => rfl) ?_
          refine q_Ru_rsF (g2 := (14, [(1, .int col), (0, .ref 64)], [], (q_cM (q_mA pix smp tr (q_nb p left dn ins) (q_fb z)) q_IM (q_mJ y pd), 34, 31630))) rfl rfl (q_d_neT h170) ?_
          refine q_Ru_seg (g2 := (15, [(1, .int col), (0, .ref 64)], [.ref 64], (q_cM (q_mA pix smp tr (q_nb p left dn ins) (q_fb z)) q_IM (q_mJ y pd), 34, 31630))) 1 (fun _ _ => rfl) ?_
          refine q_Ru_call (v := (some (.int lin))) (h2 := (q_cM (q_mA pix smp tr (q_nb p left dn ins) (q_fb z)) q_IM (q_mJ y pd), 34, 31630)) rfl rfl ?_ ?_
          · refine q_Ca_of (Nat.le_of_ble_eq_true rfl) ?_
            refine q_Ru_seg (g2 := (4, [(0, .ref 64)], [.long y], (q_cM (q_mA pix smp tr (q_nb p left dn ins) (q_fb z)) q_IM (q_mJ y pd), 34, 31630))) 2 (fun _ _ => rfl) ?_
            refine q_Ru_seg (g2 := (13, [(0, .ref 64)], [.int (((y / 24) - (y / 24) / 40 * 40).toInt32)], (q_cM (q_mA pix smp tr (q_nb p left dn ins) (q_fb z)) q_IM (q_mJ y pd), 34, 31630))) 5 (fun _ _ => rfl) ?_
            rw [hM]
            exact q_Ru_ret rfl rfl
          show q_Ru _ _ _ (18, [(1, .int col), (0, .ref 64)], [.int lin], (q_cM (q_mA pix smp tr (q_nb p left dn ins) (q_fb z)) q_IM (q_mJ y pd), 34, 31630)) _
          refine q_Ru_seg (g2 := (25, [(1, .int col), (0, .ref 64)], [.int 0, .int lin], (q_cM (q_mA pix smp tr (q_nb p left dn ins) (q_fb z)) q_IM (q_mJ y pd), 34, 31630))) 4 (fun _ _ => rfl) ?_
          refine q_Ru_rsF (g2 := (28, [(1, .int col), (0, .ref 64)], [], (q_cM (q_mA pix smp tr (q_nb p left dn ins) (q_fb z)) q_IM (q_mJ y pd), 34, 31630))) rfl rfl (q_d_neT h171) ?_
          refine q_Ru_seg (g2 := (36, [(1, .int col), (0, .ref 64)], [.int 1, .int 9, .ref 78], (q_cM (q_mA pix smp tr (q_nb p left dn ins) (q_fb z)) q_IM (q_mJ y pd), 34, 31630))) 5 (fun _ _ => rfl) ?_
          refine q_Ru_seg (g2 := (40, [(1, .int col), (0, .ref 64)], [.ref 64], (q_cM (q_uA (q_mA pix smp tr (q_nb p left dn ins) (q_fb z)) 14 (upd (q_nb p left dn ins) 9 1)) q_IM (q_mJ y pd), 34, 31630))) 4 (fun _ _ => rfl) ?_
          have hA : ∀ i, i < 34 → (q_uA (q_mA pix smp tr (q_nb p left dn ins) (q_fb z)) 14 (upd (q_nb p left dn ins) 9 1)) i = (q_mA pix smp tr (q_nb p left dn ins) (q_fb z)) i := by
            intro i hi
            match i, hi with
            | 0, _ => rfl
            | 1, _ => rfl
            | 2, _ => rfl
            | 3, _ => rfl
            | 4, _ => rfl
            | 5, _ => rfl
            | 6, _ => rfl
            | 7, _ => rfl
            | 8, _ => rfl
            | 9, _ => rfl
            | 10, _ => rfl
            | 11, _ => rfl
            | 12, _ => rfl
            | 13, _ => rfl
            | 14, _ => exact (show (upd (q_nb p left dn ins) 9 1) = (q_nb p left dn ins) by simp only [q_upd_upd, q_upd_z, q_nb_4, q_nb_17, q_nb_19, q_nb_20, q_nb_0, q_nb_9, q_nb_18, q_fb_4, q_fb_0])
            | 15, _ => rfl
            | 16, _ => rfl
            | 17, _ => rfl
            | 18, _ => rfl
            | 19, _ => rfl
            | 20, _ => rfl
            | 21, _ => rfl
            | 22, _ => rfl
            | 23, _ => rfl
            | 24, _ => rfl
            | 25, _ => rfl
            | 26, _ => rfl
            | 27, _ => rfl
            | 28, _ => rfl
            | 29, _ => rfl
            | 30, _ => rfl
            | 31, _ => rfl
            | 32, _ => rfl
            | 33, _ => rfl
            | i + 34, hi => exact absurd hi (by omega)
          rw [q_cM_A (I := q_IM) (J := (q_mJ y pd)) hA]
          refine q_Ru_call (v := (some (.int 1))) (h2 := (q_cM (q_mA pix smp tr (q_nb p left dn ins) (q_fb z)) q_IM (q_mJ y pd), 34, 31630)) rfl rfl ?_ ?_
          · exact (by have e := q_m_picX pix smp tr p left dn ins z y pd col lin p1 p2 hC hM c0 c1 l0 l1 a0 a1 b0 b1 hp0 hp1 hp2 i0 i1; rw [hpic] at e; exact e.le (Nat.le_of_ble_eq_true rfl))
          show q_Ru _ _ _ (43, [(1, .int col), (0, .ref 64)], [.int 1], (q_cM (q_mA pix smp tr (q_nb p left dn ins) (q_fb z)) q_IM (q_mJ y pd), 34, 31630)) _
          refine q_Ru_seg (g2 := (45, [(2, .int 1), (1, .int col), (0, .ref 64)], [.ref 64], (q_cM (q_mA pix smp tr (q_nb p left dn ins) (q_fb z)) q_IM (q_mJ y pd), 34, 31630))) 2 (fun _ _ => rfl) ?_
          refine q_Ru_call (v := (some (.int (lin - 4)))) (h2 := (q_cM (q_mA pix smp tr (q_nb p left dn ins) (q_fb z)) q_IM (q_mJ y pd), 34, 31630)) rfl rfl ?_ ?_
          · refine q_Ca_of (Nat.le_of_ble_eq_true rfl) ?_
            refine q_Ru_seg (g2 := (1, [(0, .ref 64)], [.ref 64], (q_cM (q_mA pix smp tr (q_nb p left dn ins) (q_fb z)) q_IM (q_mJ y pd), 34, 31630))) 1 (fun _ _ => rfl) ?_
            refine q_Ru_call (v := (some (.int lin))) (h2 := (q_cM (q_mA pix smp tr (q_nb p left dn ins) (q_fb z)) q_IM (q_mJ y pd), 34, 31630)) rfl rfl ?_ ?_
            · refine q_Ca_of (Nat.le_of_ble_eq_true rfl) ?_
              refine q_Ru_seg (g2 := (4, [(0, .ref 64)], [.long y], (q_cM (q_mA pix smp tr (q_nb p left dn ins) (q_fb z)) q_IM (q_mJ y pd), 34, 31630))) 2 (fun _ _ => rfl) ?_
              refine q_Ru_seg (g2 := (13, [(0, .ref 64)], [.int (((y / 24) - (y / 24) / 40 * 40).toInt32)], (q_cM (q_mA pix smp tr (q_nb p left dn ins) (q_fb z)) q_IM (q_mJ y pd), 34, 31630))) 5 (fun _ _ => rfl) ?_
              rw [hM]
              exact q_Ru_ret rfl rfl
            show q_Ru _ _ _ (4, [(0, .ref 64)], [.int lin], (q_cM (q_mA pix smp tr (q_nb p left dn ins) (q_fb z)) q_IM (q_mJ y pd), 34, 31630)) _
            refine q_Ru_seg (g2 := (6, [(0, .ref 64)], [.int (lin - 4)], (q_cM (q_mA pix smp tr (q_nb p left dn ins) (q_fb z)) q_IM (q_mJ y pd), 34, 31630))) 2 (fun _ _ => rfl) ?_
            exact q_Ru_ret rfl rfl
          show q_Ru _ _ _ (48, [(2, .int 1), (1, .int col), (0, .ref 64)], [.int (lin - 4)], (q_cM (q_mA pix smp tr (q_nb p left dn ins) (q_fb z)) q_IM (q_mJ y pd), 34, 31630)) _
          refine q_Ru_seg (g2 := (53, [(3, .int (lin - 4)), (2, .int 1), (1, .int col), (0, .ref 64)], [.int 31, .int 0, .int (lin - 4)], (q_cM (q_mA pix smp tr (q_nb p left dn ins) (q_fb z)) q_IM (q_mJ y pd), 34, 31630))) 4 (fun _ _ => rfl) ?_
          refine q_Ru_call (v := (some (.int 0))) (h2 := (q_cM (q_mA pix smp tr (q_nb p left dn ins) (q_fb z)) q_IM (q_mJ y pd), 34, 31630)) rfl rfl ?_ ?_
          · refine q_Ca_of (Nat.le_of_ble_eq_true rfl) ?_
            refine q_Ru_seg (g2 := (2, [(0, .int (lin - 4)), (1, .int 0), (2, .int 31)], [.int 0, .int (lin - 4)], (q_cM (q_mA pix smp tr (q_nb p left dn ins) (q_fb z)) q_IM (q_mJ y pd), 34, 31630))) 2 (fun _ _ => rfl) ?_
            refine q_Ru_rsT (g2 := (14, [(0, .int (lin - 4)), (1, .int 0), (2, .int 31)], [], (q_cM (q_mA pix smp tr (q_nb p left dn ins) (q_fb z)) q_IM (q_mJ y pd), 34, 31630))) rfl rfl h172 ?_
            refine q_Ru_seg (g2 := (15, [(0, .int (lin - 4)), (1, .int 0), (2, .int 31)], [.int 0], (q_cM (q_mA pix smp tr (q_nb p left dn ins) (q_fb z)) q_IM (q_mJ y pd), 34, 31630))) 1 (fun _ _ => rfl) ?_
            exact q_Ru_ret rfl rfl
          show q_Ru _ _ _ (56, [(3, .int (lin - 4)), (2, .int 1), (1, .int col), (0, .ref 64)], [.int 0], (q_cM (q_mA pix smp tr (q_nb p left dn ins) (q_fb z)) q_IM (q_mJ y pd), 34, 31630)) _
          refine q_Ru_seg (g2 := (92, [(3, .int (lin - 4)), (2, .int 1), (1, .int col), (0, .ref 64)], [.ref 64], (q_cM (q_mA pix smp tr (q_nb p left dn ins) (q_fb z)) q_IM (q_mJ y pd), 34, 31630))) 2 (fun _ _ => rfl) ?_
          refine q_Ru_call (v := none) (h2 := (q_cM (q_mA pix smp tr (q_nb p left dn ins) (q_fb z)) q_IM (q_mJ y pd), 34, 31630)) rfl rfl ?_ ?_
          · exact (q_m_times pix smp tr p left dn ins z y pd col lin p1 p2 hC hM c0 c1 l0 l1 a0 a1 b0 b1 hp0 hp1 hp2 i0 i1  ).le (Nat.le_of_ble_eq_true rfl)
          show q_Ru _ _ _ (95, [(3, .int (lin - 4)), (2, .int 1), (1, .int col), (0, .ref 64)], [], (q_cM (q_mA pix smp tr (q_nb p left dn ins) (q_fb z)) q_IM (q_mJ y pd), 34, 31630)) _
          refine q_Ru_seg (g2 := (96, [(3, .int (lin - 4)), (2, .int 1), (1, .int col), (0, .ref 64)], [.ref 64], (q_cM (q_mA pix smp tr (q_nb p left dn ins) (q_fb z)) q_IM (q_mJ y pd), 34, 31630))) 1 (fun _ _ => rfl) ?_
          refine q_Ru_call (v := none) (h2 := (q_cM (q_mA pix smp tr (q_nb p left dn ins) (q_fb z)) q_IM (q_mJ y pd), 34, 31630)) rfl rfl ?_ ?_
          · exact (q_m_winds pix smp tr p left dn ins z y pd col lin p1 p2 hC hM c0 c1 l0 l1 a0 a1 b0 b1 hp0 hp1 hp2 i0 i1  ).le (Nat.le_of_ble_eq_true rfl)
          show q_Ru _ _ _ (99, [(3, .int (lin - 4)), (2, .int 1), (1, .int col), (0, .ref 64)], [], (q_cM (q_mA pix smp tr (q_nb p left dn ins) (q_fb z)) q_IM (q_mJ y pd), 34, 31630)) _
          refine q_Ru_seg (g2 := (102, [(3, .int (lin - 4)), (2, .int 1), (1, .int col), (0, .ref 64)], [.int 23, .int col], (q_cM (q_mA pix smp tr (q_nb p left dn ins) (q_fb z)) q_IM (q_mJ y pd), 34, 31630))) 2 (fun _ _ => rfl) ?_
          refine q_Ru_rsT (g2 := (109, [(3, .int (lin - 4)), (2, .int 1), (1, .int col), (0, .ref 64)], [], (q_cM (q_mA pix smp tr (q_nb p left dn ins) (q_fb z)) q_IM (q_mJ y pd), 34, 31630))) rfl rfl (q_d_neF h173) ?_
          refine q_Ru_seg (g2 := (122, [(3, .int (lin - 4)), (2, .int 1), (1, .int col), (0, .ref 64)], [.long pd, .ref 64], (q_cM (q_mA pix smp tr (q_nb p left dn ins) (q_fb z)) q_IM (q_mJ y pd), 34, 31630))) 5 (fun _ _ => rfl) ?_
          refine q_Ru_seg (g2 := (140, [(3, .int (lin - 4)), (2, .int 1), (1, .int col), (0, .ref 64)], [.long y, .ref 64], (q_cM (q_mA pix smp tr (q_nb p left dn ins) (q_fb z)) q_IM (q_uI (q_mJ y pd) 0 16 (pd + 1)), 34, 31630))) 9 (fun _ _ => rfl) ?_
          refine q_Ru_seg (g2 := (146, [(3, .int (lin - 4)), (2, .int 1), (1, .int col), (0, .ref 64)], [.int 1], (q_cM (q_mA pix smp tr (q_nb p left dn ins) (q_fb z)) q_IM (q_uI (q_uI (q_mJ y pd) 0 16 (pd + 1)) 0 15 (y + 1)), 34, 31630))) 4 (fun _ _ => rfl) ?_
          exact q_Ru_ret rfl rfl
      | false =>
        cases h174 : decide (31 < lin - 4) with
        | true =>
          cases h175 : decide (col = 23) with
          | true =>
            have eh175 := of_decide_eq_true h175
            subst eh175
            obtain ⟨z53a, p53⟩ := q_m_sample pix smp tr p left dn ins z y pd col lin p1 p2 hC hM c0 c1 l0 l1 a0 a1 b0 b1 hp0 hp1 hp2 i0 i1  
            refine ⟨pix, z53a, ?_⟩
            refine q_Ca_of (Nat.le_of_ble_eq_true rfl) ?_
            refine q_Ru_seg (g2 := (4, [(0, .ref 64)], [.long y], (q_cM (q_mA pix smp tr (q_nb p left dn ins) (q_fb z)) q_IM (q_mJ y pd), 34, 31630))) 2 (fun _ _ => rfl) ?_
            refine q_Ru_seg (g2 := (9, [(0, .ref 64)], [.int ((y - y / 24 * 24).toInt32)], (q_cM (q_mA pix smp tr (q_nb p left dn ins) (q_fb z)) q_IM (q_mJ y pd), 34, 31630))) 3 (fun _ _ => rfl) ?_
            rw [hC]
            refine q_Ru_seg (g2 := (11, [(1, .int col), (0, .ref 64)], [.int col], (q_cM (q_mA pix smp tr (q_nb p left dn ins) (q_fb z)) q_IM (q_mJ y pd), 34, 31630))) 2 (fun _ _ => rfl) ?_
            refine q_Ru_rsF (g2 := (14, [(1, .int col), (0, .ref 64)], [], (q_cM (q_mA pix smp tr (q_nb p left dn ins) (q_fb z)) q_IM (q_mJ y pd), 34, 31630))) rfl rfl (q_d_neT h170) ?_
            refine q_Ru_seg (g2 := (15, [(1, .int col), (0, .ref 64)], [.ref 64], (q_cM (q_mA pix smp tr (q_nb p left dn ins) (q_fb z)) q_IM (q_mJ y pd), 34, 31630))) 1 (fun _ _ => rfl) ?_
            refine q_Ru_call (v := (some (.int lin))) (h2 := (q_cM (q_mA pix smp tr (q_nb p left dn ins) (q_fb z)) q_IM (q_mJ y pd), 34, 31630)) rfl rfl ?_ ?_
            · refine q_Ca_of (Nat.le_of_ble_eq_true rfl) ?_
              refine q_Ru_seg (g2 := (4, [(0, .ref 64)], [.long y], (q_cM (q_mA pix smp tr (q_nb p left dn ins) (q_fb z)) q_IM (q_mJ y pd), 34, 31630))) 2 (fun _ _ => rfl) ?_
              refine q_Ru_seg (g2 := (13, [(0, .ref 64)], [.int (((y / 24) - (y / 24) / 40 * 40).toInt32)], (q_cM (q_mA pix smp tr (q_nb p left dn ins) (q_fb z)) q_IM (q_mJ y pd), 34, 31630))) 5 (fun _ _ => rfl) ?_
              rw [hM]
              exact q_Ru_ret rfl rfl
            show q_Ru _ _ _ (18, [(1, .int col), (0, .ref 64)], [.int lin], (q_cM (q_mA pix smp tr (q_nb p left dn ins) (q_fb z)) q_IM (q_mJ y pd), 34, 31630)) _
            refine q_Ru_seg (g2 := (25, [(1, .int col), (0, .ref 64)], [.int 0, .int lin], (q_cM (q_mA pix smp tr (q_nb p left dn ins) (q_fb z)) q_IM (q_mJ y pd), 34, 31630))) 4 (fun _ _ => rfl) ?_
            refine q_Ru_rsF (g2 := (28, [(1, .int col), (0, .ref 64)], [], (q_cM (q_mA pix smp tr (q_nb p left dn ins) (q_fb z)) q_IM (q_mJ y pd), 34, 31630))) rfl rfl (q_d_neT h171) ?_
            refine q_Ru_seg (g2 := (36, [(1, .int col), (0, .ref 64)], [.int 1, .int 9, .ref 78], (q_cM (q_mA pix smp tr (q_nb p left dn ins) (q_fb z)) q_IM (q_mJ y pd), 34, 31630))) 5 (fun _ _ => rfl) ?_
            refine q_Ru_seg (g2 := (40, [(1, .int col), (0, .ref 64)], [.ref 64], (q_cM (q_uA (q_mA pix smp tr (q_nb p left dn ins) (q_fb z)) 14 (upd (q_nb p left dn ins) 9 1)) q_IM (q_mJ y pd), 34, 31630))) 4 (fun _ _ => rfl) ?_
            have hA : ∀ i, i < 34 → (q_uA (q_mA pix smp tr (q_nb p left dn ins) (q_fb z)) 14 (upd (q_nb p left dn ins) 9 1)) i = (q_mA pix smp tr (q_nb p left dn ins) (q_fb z)) i := by
              intro i hi
              match i, hi with
              | 0, _ => rfl
              | 1, _ => rfl
              | 2, _ => rfl
              | 3, _ => rfl
              | 4, _ => rfl
              | 5, _ => rfl
              | 6, _ => rfl
              | 7, _ => rfl
              | 8, _ => rfl
              | 9, _ => rfl
              | 10, _ => rfl
              | 11, _ => rfl
              | 12, _ => rfl
              | 13, _ => rfl
              | 14, _ => exact (show (upd (q_nb p left dn ins) 9 1) = (q_nb p left dn ins) by simp only [q_upd_upd, q_upd_z, q_nb_4, q_nb_17, q_nb_19, q_nb_20, q_nb_0, q_nb_9, q_nb_18, q_fb_4, q_fb_0])
              | 15, _ => rfl
              | 16, _ => rfl
              | 17, _ => rfl
              | 18, _ => rfl
              | 19, _ => rfl
              | 20, _ => rfl
              | 21, _ => rfl
              | 22, _ => rfl
              | 23, _ => rfl
              | 24, _ => rfl
              | 25, _ => rfl
              | 26, _ => rfl
              | 27, _ => rfl
              | 28, _ => rfl
              | 29, _ => rfl
              | 30, _ => rfl
              | 31, _ => rfl
              | 32, _ => rfl
              | 33, _ => rfl
              | i + 34, hi => exact absurd hi (by omega)
            rw [q_cM_A (I := q_IM) (J := (q_mJ y pd)) hA]
            refine q_Ru_call (v := (some (.int 1))) (h2 := (q_cM (q_mA pix smp tr (q_nb p left dn ins) (q_fb z)) q_IM (q_mJ y pd), 34, 31630)) rfl rfl ?_ ?_
            · exact (by have e := q_m_picX pix smp tr p left dn ins z y pd col lin p1 p2 hC hM c0 c1 l0 l1 a0 a1 b0 b1 hp0 hp1 hp2 i0 i1; rw [hpic] at e; exact e.le (Nat.le_of_ble_eq_true rfl))
            show q_Ru _ _ _ (43, [(1, .int col), (0, .ref 64)], [.int 1], (q_cM (q_mA pix smp tr (q_nb p left dn ins) (q_fb z)) q_IM (q_mJ y pd), 34, 31630)) _
            refine q_Ru_seg (g2 := (45, [(2, .int 1), (1, .int col), (0, .ref 64)], [.ref 64], (q_cM (q_mA pix smp tr (q_nb p left dn ins) (q_fb z)) q_IM (q_mJ y pd), 34, 31630))) 2 (fun _ _ => rfl) ?_
            refine q_Ru_call (v := (some (.int (lin - 4)))) (h2 := (q_cM (q_mA pix smp tr (q_nb p left dn ins) (q_fb z)) q_IM (q_mJ y pd), 34, 31630)) rfl rfl ?_ ?_
            · refine q_Ca_of (Nat.le_of_ble_eq_true rfl) ?_
              refine q_Ru_seg (g2 := (1, [(0, .ref 64)], [.ref 64], (q_cM (q_mA pix smp tr (q_nb p left dn ins) (q_fb z)) q_IM (q_mJ y pd), 34, 31630))) 1 (fun _ _ => rfl) ?_
              refine q_Ru_call (v := (some (.int lin))) (h2 := (q_cM (q_mA pix smp tr (q_nb p left dn ins) (q_fb z)) q_IM (q_mJ y pd), 34, 31630)) rfl rfl ?_ ?_
              · refine q_Ca_of (Nat.le_of_ble_eq_true rfl) ?_
                refine q_Ru_seg (g2 := (4, [(0, .ref 64)], [.long y], (q_cM (q_mA pix smp tr (q_nb p left dn ins) (q_fb z)) q_IM (q_mJ y pd), 34, 31630))) 2 (fun _ _ => rfl) ?_
                refine q_Ru_seg (g2 := (13, [(0, .ref 64)], [.int (((y / 24) - (y / 24) / 40 * 40).toInt32)], (q_cM (q_mA pix smp tr (q_nb p left dn ins) (q_fb z)) q_IM (q_mJ y pd), 34, 31630))) 5 (fun _ _ => rfl) ?_
                rw [hM]
                exact q_Ru_ret rfl rfl
              show q_Ru _ _ _ (4, [(0, .ref 64)], [.int lin], (q_cM (q_mA pix smp tr (q_nb p left dn ins) (q_fb z)) q_IM (q_mJ y pd), 34, 31630)) _
              refine q_Ru_seg (g2 := (6, [(0, .ref 64)], [.int (lin - 4)], (q_cM (q_mA pix smp tr (q_nb p left dn ins) (q_fb z)) q_IM (q_mJ y pd), 34, 31630))) 2 (fun _ _ => rfl) ?_
              exact q_Ru_ret rfl rfl
            show q_Ru _ _ _ (48, [(2, .int 1), (1, .int col), (0, .ref 64)], [.int (lin - 4)], (q_cM (q_mA pix smp tr (q_nb p left dn ins) (q_fb z)) q_IM (q_mJ y pd), 34, 31630)) _
            refine q_Ru_seg (g2 := (53, [(3, .int (lin - 4)), (2, .int 1), (1, .int col), (0, .ref 64)], [.int 31, .int 0, .int (lin - 4)], (q_cM (q_mA pix smp tr (q_nb p left dn ins) (q_fb z)) q_IM (q_mJ y pd), 34, 31630))) 4 (fun _ _ => rfl) ?_
            refine q_Ru_call (v := (some (.int 0))) (h2 := (q_cM (q_mA pix smp tr (q_nb p left dn ins) (q_fb z)) q_IM (q_mJ y pd), 34, 31630)) rfl rfl ?_ ?_
            · refine q_Ca_of (Nat.le_of_ble_eq_true rfl) ?_
              refine q_Ru_seg (g2 := (2, [(0, .int (lin - 4)), (1, .int 0), (2, .int 31)], [.int 0, .int (lin - 4)], (q_cM (q_mA pix smp tr (q_nb p left dn ins) (q_fb z)) q_IM (q_mJ y pd), 34, 31630))) 2 (fun _ _ => rfl) ?_
              refine q_Ru_rsF (g2 := (5, [(0, .int (lin - 4)), (1, .int 0), (2, .int 31)], [], (q_cM (q_mA pix smp tr (q_nb p left dn ins) (q_fb z)) q_IM (q_mJ y pd), 34, 31630))) rfl rfl h172 ?_
              refine q_Ru_seg (g2 := (7, [(0, .int (lin - 4)), (1, .int 0), (2, .int 31)], [.int 31, .int (lin - 4)], (q_cM (q_mA pix smp tr (q_nb p left dn ins) (q_fb z)) q_IM (q_mJ y pd), 34, 31630))) 2 (fun _ _ => rfl) ?_
              refine q_Ru_rsT (g2 := (14, [(0, .int (lin - 4)), (1, .int 0), (2, .int 31)], [], (q_cM (q_mA pix smp tr (q_nb p left dn ins) (q_fb z)) q_IM (q_mJ y pd), 34, 31630))) rfl rfl h174 ?_
              refine q_Ru_seg (g2 := (15, [(0, .int (lin - 4)), (1, .int 0), (2, .int 31)], [.int 0], (q_cM (q_mA pix smp tr (q_nb p left dn ins) (q_fb z)) q_IM (q_mJ y pd), 34, 31630))) 1 (fun _ _ => rfl) ?_
              exact q_Ru_ret rfl rfl
            show q_Ru _ _ _ (56, [(3, .int (lin - 4)), (2, .int 1), (1, .int col), (0, .ref 64)], [.int 0], (q_cM (q_mA pix smp tr (q_nb p left dn ins) (q_fb z)) q_IM (q_mJ y pd), 34, 31630)) _
            refine q_Ru_seg (g2 := (92, [(3, .int (lin - 4)), (2, .int 1), (1, .int col), (0, .ref 64)], [.ref 64], (q_cM (q_mA pix smp tr (q_nb p left dn ins) (q_fb z)) q_IM (q_mJ y pd), 34, 31630))) 2 (fun _ _ => rfl) ?_
            refine q_Ru_call (v := none) (h2 := (q_cM (q_mA pix smp tr (q_nb p left dn ins) (q_fb z)) q_IM (q_mJ y pd), 34, 31630)) rfl rfl ?_ ?_
            · exact (q_m_times pix smp tr p left dn ins z y pd col lin p1 p2 hC hM c0 c1 l0 l1 a0 a1 b0 b1 hp0 hp1 hp2 i0 i1  ).le (Nat.le_of_ble_eq_true rfl)
            show q_Ru _ _ _ (95, [(3, .int (lin - 4)), (2, .int 1), (1, .int col), (0, .ref 64)], [], (q_cM (q_mA pix smp tr (q_nb p left dn ins) (q_fb z)) q_IM (q_mJ y pd), 34, 31630)) _
            refine q_Ru_seg (g2 := (96, [(3, .int (lin - 4)), (2, .int 1), (1, .int col), (0, .ref 64)], [.ref 64], (q_cM (q_mA pix smp tr (q_nb p left dn ins) (q_fb z)) q_IM (q_mJ y pd), 34, 31630))) 1 (fun _ _ => rfl) ?_
            refine q_Ru_call (v := none) (h2 := (q_cM (q_mA pix smp tr (q_nb p left dn ins) (q_fb z)) q_IM (q_mJ y pd), 34, 31630)) rfl rfl ?_ ?_
            · exact (q_m_winds pix smp tr p left dn ins z y pd col lin p1 p2 hC hM c0 c1 l0 l1 a0 a1 b0 b1 hp0 hp1 hp2 i0 i1  ).le (Nat.le_of_ble_eq_true rfl)
            show q_Ru _ _ _ (99, [(3, .int (lin - 4)), (2, .int 1), (1, .int col), (0, .ref 64)], [], (q_cM (q_mA pix smp tr (q_nb p left dn ins) (q_fb z)) q_IM (q_mJ y pd), 34, 31630)) _
            refine q_Ru_seg (g2 := (102, [(3, .int (lin - 4)), (2, .int 1), (1, .int col), (0, .ref 64)], [.int 23, .int col], (q_cM (q_mA pix smp tr (q_nb p left dn ins) (q_fb z)) q_IM (q_mJ y pd), 34, 31630))) 2 (fun _ _ => rfl) ?_
            refine q_Ru_rsF (g2 := (105, [(3, .int (lin - 4)), (2, .int 1), (1, .int col), (0, .ref 64)], [], (q_cM (q_mA pix smp tr (q_nb p left dn ins) (q_fb z)) q_IM (q_mJ y pd), 34, 31630))) rfl rfl (q_d_neT h175) ?_
            refine q_Ru_seg (g2 := (106, [(3, .int (lin - 4)), (2, .int 1), (1, .int col), (0, .ref 64)], [.ref 64], (q_cM (q_mA pix smp tr (q_nb p left dn ins) (q_fb z)) q_IM (q_mJ y pd), 34, 31630))) 1 (fun _ _ => rfl) ?_
            refine q_Ru_call (v := none) (h2 := (q_cM (q_mA pix z53a tr (q_nb p left dn ins) (q_fb z)) q_IM (q_mJ y pd), 34, 31630)) rfl rfl ?_ ?_
            · exact p53.le (Nat.le_of_ble_eq_true rfl)
            show q_Ru _ _ _ (109, [(3, .int (lin - 4)), (2, .int 1), (1, .int col), (0, .ref 64)], [], (q_cM (q_mA pix z53a tr (q_nb p left dn ins) (q_fb z)) q_IM (q_mJ y pd), 34, 31630)) _
            refine q_Ru_seg (g2 := (122, [(3, .int (lin - 4)), (2, .int 1), (1, .int col), (0, .ref 64)], [.long pd, .ref 64], (q_cM (q_mA pix z53a tr (q_nb p left dn ins) (q_fb z)) q_IM (q_mJ y pd), 34, 31630))) 5 (fun _ _ => rfl) ?_
            refine q_Ru_seg (g2 := (140, [(3, .int (lin - 4)), (2, .int 1), (1, .int col), (0, .ref 64)], [.long y, .ref 64], (q_cM (q_mA pix z53a tr (q_nb p left dn ins) (q_fb z)) q_IM (q_uI (q_mJ y pd) 0 16 (pd + 1)), 34, 31630))) 9 (fun _ _ => rfl) ?_
            refine q_Ru_seg (g2 := (146, [(3, .int (lin - 4)), (2, .int 1), (1, .int col), (0, .ref 64)], [.int 1], (q_cM (q_mA pix z53a tr (q_nb p left dn ins) (q_fb z)) q_IM (q_uI (q_uI (q_mJ y pd) 0 16 (pd + 1)) 0 15 (y + 1)), 34, 31630))) 4 (fun _ _ => rfl) ?_
            exact q_Ru_ret rfl rfl
          | false =>
            refine ⟨pix, smp, ?_⟩
            refine q_Ca_of (Nat.le_of_ble_eq_true rfl) ?_
            refine q_Ru_seg (g2 := (4, [(0, .ref 64)], [.long y], (q_cM (q_mA pix smp tr (q_nb p left dn ins) (q_fb z)) q_IM (q_mJ y pd), 34, 31630))) 2 (fun _ _ => rfl) ?_
            refine q_Ru_seg (g2 := (9, [(0, .ref 64)], [.int ((y - y / 24 * 24).toInt32)], (q_cM (q_mA pix smp tr (q_nb p left dn ins) (q_fb z)) q_IM (q_mJ y pd), 34, 31630))) 3 (fun _ _ => rfl) ?_
            rw [hC]
            refine q_Ru_seg (g2 := (11, [(1, .int col), (0, .ref 64)], [.int col], (q_cM (q_mA pix smp tr (q_nb p left dn ins) (q_fb z)) q_IM (q_mJ y pd), 34, 31630))) 2 (fun _ _ => rfl) ?_
            refine q_Ru_rsF (g2 := (14, [(1, .int col), (0, .ref 64)], [], (q_cM (q_mA pix smp tr (q_nb p left dn ins) (q_fb z)) q_IM (q_mJ y pd), 34, 31630))) rfl rfl (q_d_neT h170) ?_
            refine q_Ru_seg (g2 := (15, [(1, .int col), (0, .ref 64)], [.ref 64], (q_cM (q_mA pix smp tr (q_nb p left dn ins) (q_fb z)) q_IM (q_mJ y pd), 34, 31630))) 1 (fun _ _ => rfl) ?_
            refine q_Ru_call (v := (some (.int lin))) (h2 := (q_cM (q_mA pix smp tr (q_nb p left dn ins) (q_fb z)) q_IM (q_mJ y pd), 34, 31630)) rfl rfl ?_ ?_
            · refine q_Ca_of (Nat.le_of_ble_eq_true rfl) ?_
              refine q_Ru_seg (g2 := (4, [(0, .ref 64)], [.long y], (q_cM (q_mA pix smp tr (q_nb p left dn ins) (q_fb z)) q_IM (q_mJ y pd), 34, 31630))) 2 (fun _ _ => rfl) ?_
              refine q_Ru_seg (g2 := (13, [(0, .ref 64)], [.int (((y / 24) - (y / 24) / 40 * 40).toInt32)], (q_cM (q_mA pix smp tr (q_nb p left dn ins) (q_fb z)) q_IM (q_mJ y pd), 34, 31630))) 5 (fun _ _ => rfl) ?_
              rw [hM]
              exact q_Ru_ret rfl rfl
            show q_Ru _ _ _ (18, [(1, .int col), (0, .ref 64)], [.int lin], (q_cM (q_mA pix smp tr (q_nb p left dn ins) (q_fb z)) q_IM (q_mJ y pd), 34, 31630)) _
            refine q_Ru_seg (g2 := (25, [(1, .int col), (0, .ref 64)], [.int 0, .int lin], (q_cM (q_mA pix smp tr (q_nb p left dn ins) (q_fb z)) q_IM (q_mJ y pd), 34, 31630))) 4 (fun _ _ => rfl) ?_
            refine q_Ru_rsF (g2 := (28, [(1, .int col), (0, .ref 64)], [], (q_cM (q_mA pix smp tr (q_nb p left dn ins) (q_fb z)) q_IM (q_mJ y pd), 34, 31630))) rfl rfl (q_d_neT h171) ?_
            refine q_Ru_seg (g2 := (36, [(1, .int col), (0, .ref 64)], [.int 1, .int 9, .ref 78], (q_cM (q_mA pix smp tr (q_nb p left dn ins) (q_fb z)) q_IM (q_mJ y pd), 34, 31630))) 5 (fun _ _ => rfl) ?_
            refine q_Ru_seg (g2 := (40, [(1, .int col), (0, .ref 64)], [.ref 64], (q_cM (q_uA (q_mA pix smp tr (q_nb p left dn ins) (q_fb z)) 14 (upd (q_nb p left dn ins) 9 1)) q_IM (q_mJ y pd), 34, 31630))) 4 (fun _ _ => rfl) ?_
            have hA : ∀ i, i < 34 → (q_uA (q_mA pix smp tr (q_nb p left dn ins) (q_fb z)) 14 (upd (q_nb p left dn ins) 9 1)) i = (q_mA pix smp tr (q_nb p left dn ins) (q_fb z)) i := by
              intro i hi
              match i, hi with
              | 0, _ => rfl
              | 1, _ => rfl
              | 2, _ => rfl
              | 3, _ => rfl
              | 4, _ => rfl
              | 5, _ => rfl
              | 6, _ => rfl
              | 7, _ => rfl
              | 8, _ => rfl
              | 9, _ => rfl
              | 10, _ => rfl
              | 11, _ => rfl
              | 12, _ => rfl
              | 13, _ => rfl
              | 14, _ => exact (show (upd (q_nb p left dn ins) 9 1) = (q_nb p left dn ins) by simp only [q_upd_upd, q_upd_z, q_nb_4, q_nb_17, q_nb_19, q_nb_20, q_nb_0, q_nb_9, q_nb_18, q_fb_4, q_fb_0])
              | 15, _ => rfl
              | 16, _ => rfl
              | 17, _ => rfl
              | 18, _ => rfl
              | 19, _ => rfl
              | 20, _ => rfl
              | 21, _ => rfl
              | 22, _ => rfl
              | 23, _ => rfl
              | 24, _ => rfl
              | 25, _ => rfl
              | 26, _ => rfl
              | 27, _ => rfl
              | 28, _ => rfl
              | 29, _ => rfl
              | 30, _ => rfl
              | 31, _ => rfl
              | 32, _ => rfl
              | 33, _ => rfl
              | i + 34, hi => exact absurd hi (by omega)
            rw [q_cM_A (I := q_IM) (J := (q_mJ y pd)) hA]
            refine q_Ru_call (v := (some (.int 1))) (h2 := (q_cM (q_mA pix smp tr (q_nb p left dn ins) (q_fb z)) q_IM (q_mJ y pd), 34, 31630)) rfl rfl ?_ ?_
            · exact (by have e := q_m_picX pix smp tr p left dn ins z y pd col lin p1 p2 hC hM c0 c1 l0 l1 a0 a1 b0 b1 hp0 hp1 hp2 i0 i1; rw [hpic] at e; exact e.le (Nat.le_of_ble_eq_true rfl))
            show q_Ru _ _ _ (43, [(1, .int col), (0, .ref 64)], [.int 1], (q_cM (q_mA pix smp tr (q_nb p left dn ins) (q_fb z)) q_IM (q_mJ y pd), 34, 31630)) _
            refine q_Ru_seg (g2 := (45, [(2, .int 1), (1, .int col), (0, .ref 64)], [.ref 64], (q_cM (q_mA pix smp tr (q_nb p left dn ins) (q_fb z)) q_IM (q_mJ y pd), 34, 31630))) 2 (fun _ _ => rfl) ?_
            refine q_Ru_call (v := (some (.int (lin - 4)))) (h2 := (q_cM (q_mA pix smp tr (q_nb p left dn ins) (q_fb z)) q_IM (q_mJ y pd), 34, 31630)) rfl rfl ?_ ?_
            · refine q_Ca_of (Nat.le_of_ble_eq_true rfl) ?_
              refine q_Ru_seg (g2 := (1, [(0, .ref 64)], [.ref 64], (q_cM (q_mA pix smp tr (q_nb p left dn ins) (q_fb z)) q_IM (q_mJ y pd), 34, 31630))) 1 (fun _ _ => rfl) ?_
              refine q_Ru_call (v := (some (.int lin))) (h2 := (q_cM (q_mA pix smp tr (q_nb p left dn ins) (q_fb z)) q_IM (q_mJ y pd), 34, 31630)) rfl rfl ?_ ?_
              · refine q_Ca_of (Nat.le_of_ble_eq_true rfl) ?_
                refine q_Ru_seg (g2 := (4, [(0, .ref 64)], [.long y], (q_cM (q_mA pix smp tr (q_nb p left dn ins) (q_fb z)) q_IM (q_mJ y pd), 34, 31630))) 2 (fun _ _ => rfl) ?_
                refine q_Ru_seg (g2 := (13, [(0, .ref 64)], [.int (((y / 24) - (y / 24) / 40 * 40).toInt32)], (q_cM (q_mA pix smp tr (q_nb p left dn ins) (q_fb z)) q_IM (q_mJ y pd), 34, 31630))) 5 (fun _ _ => rfl) ?_
                rw [hM]
                exact q_Ru_ret rfl rfl
              show q_Ru _ _ _ (4, [(0, .ref 64)], [.int lin], (q_cM (q_mA pix smp tr (q_nb p left dn ins) (q_fb z)) q_IM (q_mJ y pd), 34, 31630)) _
              refine q_Ru_seg (g2 := (6, [(0, .ref 64)], [.int (lin - 4)], (q_cM (q_mA pix smp tr (q_nb p left dn ins) (q_fb z)) q_IM (q_mJ y pd), 34, 31630))) 2 (fun _ _ => rfl) ?_
              exact q_Ru_ret rfl rfl
            show q_Ru _ _ _ (48, [(2, .int 1), (1, .int col), (0, .ref 64)], [.int (lin - 4)], (q_cM (q_mA pix smp tr (q_nb p left dn ins) (q_fb z)) q_IM (q_mJ y pd), 34, 31630)) _
            refine q_Ru_seg (g2 := (53, [(3, .int (lin - 4)), (2, .int 1), (1, .int col), (0, .ref 64)], [.int 31, .int 0, .int (lin - 4)], (q_cM (q_mA pix smp tr (q_nb p left dn ins) (q_fb z)) q_IM (q_mJ y pd), 34, 31630))) 4 (fun _ _ => rfl) ?_
            refine q_Ru_call (v := (some (.int 0))) (h2 := (q_cM (q_mA pix smp tr (q_nb p left dn ins) (q_fb z)) q_IM (q_mJ y pd), 34, 31630)) rfl rfl ?_ ?_
            · refine q_Ca_of (Nat.le_of_ble_eq_true rfl) ?_
              refine q_Ru_seg (g2 := (2, [(0, .int (lin - 4)), (1, .int 0), (2, .int 31)], [.int 0, .int (lin - 4)], (q_cM (q_mA pix smp tr (q_nb p left dn ins) (q_fb z)) q_IM (q_mJ y pd), 34, 31630))) 2 (fun _ _ => rfl) ?_
              refine q_Ru_rsF (g2 := (5, [(0, .int (lin - 4)), (1, .int 0), (2, .int 31)], [], (q_cM (q_mA pix smp tr (q_nb p left dn ins) (q_fb z)) q_IM (q_mJ y pd), 34, 31630))) rfl rfl h172 ?_
              refine q_Ru_seg (g2 := (7, [(0, .int (lin - 4)), (1, .int 0), (2, .int 31)], [.int 31, .int (lin - 4)], (q_cM (q_mA pix smp tr (q_nb p left dn ins) (q_fb z)) q_IM (q_mJ y pd), 34, 31630))) 2 (fun _ _ => rfl) ?_
              refine q_Ru_rsT (g2 := (14, [(0, .int (lin - 4)), (1, .int 0), (2, .int 31)], [], (q_cM (q_mA pix smp tr (q_nb p left dn ins) (q_fb z)) q_IM (q_mJ y pd), 34, 31630))) rfl rfl h174 ?_
              refine q_Ru_seg (g2 := (15, [(0, .int (lin - 4)), (1, .int 0), (2, .int 31)], [.int 0], (q_cM (q_mA pix smp tr (q_nb p left dn ins) (q_fb z)) q_IM (q_mJ y pd), 34, 31630))) 1 (fun _ _ => rfl) ?_
              exact q_Ru_ret rfl rfl
            show q_Ru _ _ _ (56, [(3, .int (lin - 4)), (2, .int 1), (1, .int col), (0, .ref 64)], [.int 0], (q_cM (q_mA pix smp tr (q_nb p left dn ins) (q_fb z)) q_IM (q_mJ y pd), 34, 31630)) _
            refine q_Ru_seg (g2 := (92, [(3, .int (lin - 4)), (2, .int 1), (1, .int col), (0, .ref 64)], [.ref 64], (q_cM (q_mA pix smp tr (q_nb p left dn ins) (q_fb z)) q_IM (q_mJ y pd), 34, 31630))) 2 (fun _ _ => rfl) ?_
            refine q_Ru_call (v := none) (h2 := (q_cM (q_mA pix smp tr (q_nb p left dn ins) (q_fb z)) q_IM (q_mJ y pd), 34, 31630)) rfl rfl ?_ ?_
            · exact (q_m_times pix smp tr p left dn ins z y pd col lin p1 p2 hC hM c0 c1 l0 l1 a0 a1 b0 b1 hp0 hp1 hp2 i0 i1  ).le (Nat.le_of_ble_eq_true rfl)
            show q_Ru _ _ _ (95, [(3, .int (lin - 4)), (2, .int 1), (1, .int col), (0, .ref 64)], [], (q_cM (q_mA pix smp tr (q_nb p left dn ins) (q_fb z)) q_IM (q_mJ y pd), 34, 31630)) _
            refine q_Ru_seg (g2 := (96, [(3, .int (lin - 4)), (2, .int 1), (1, .int col), (0, .ref 64)], [.ref 64], (q_cM (q_mA pix smp tr (q_nb p left dn ins) (q_fb z)) q_IM (q_mJ y pd), 34, 31630))) 1 (fun _ _ => rfl) ?_
            refine q_Ru_call (v := none) (h2 := (q_cM (q_mA pix smp tr (q_nb p left dn ins) (q_fb z)) q_IM (q_mJ y pd), 34, 31630)) rfl rfl ?_ ?_
            · exact (q_m_winds pix smp tr p left dn ins z y pd col lin p1 p2 hC hM c0 c1 l0 l1 a0 a1 b0 b1 hp0 hp1 hp2 i0 i1  ).le (Nat.le_of_ble_eq_true rfl)
            show q_Ru _ _ _ (99, [(3, .int (lin - 4)), (2, .int 1), (1, .int col), (0, .ref 64)], [], (q_cM (q_mA pix smp tr (q_nb p left dn ins) (q_fb z)) q_IM (q_mJ y pd), 34, 31630)) _
            refine q_Ru_seg (g2 := (102, [(3, .int (lin - 4)), (2, .int 1), (1, .int col), (0, .ref 64)], [.int 23, .int col], (q_cM (q_mA pix smp tr (q_nb p left dn ins) (q_fb z)) q_IM (q_mJ y pd), 34, 31630))) 2 (fun _ _ => rfl) ?_
            refine q_Ru_rsT (g2 := (109, [(3, .int (lin - 4)), (2, .int 1), (1, .int col), (0, .ref 64)], [], (q_cM (q_mA pix smp tr (q_nb p left dn ins) (q_fb z)) q_IM (q_mJ y pd), 34, 31630))) rfl rfl (q_d_neF h175) ?_
            refine q_Ru_seg (g2 := (122, [(3, .int (lin - 4)), (2, .int 1), (1, .int col), (0, .ref 64)], [.long pd, .ref 64], (q_cM (q_mA pix smp tr (q_nb p left dn ins) (q_fb z)) q_IM (q_mJ y pd), 34, 31630))) 5 (fun _ _ => rfl) ?_
            refine q_Ru_seg (g2 := (140, [(3, .int (lin - 4)), (2, .int 1), (1, .int col), (0, .ref 64)], [.long y, .ref 64], (q_cM (q_mA pix smp tr (q_nb p left dn ins) (q_fb z)) q_IM (q_uI (q_mJ y pd) 0 16 (pd + 1)), 34, 31630))) 9 (fun _ _ => rfl) ?_
            refine q_Ru_seg (g2 := (146, [(3, .int (lin - 4)), (2, .int 1), (1, .int col), (0, .ref 64)], [.int 1], (q_cM (q_mA pix smp tr (q_nb p left dn ins) (q_fb z)) q_IM (q_uI (q_uI (q_mJ y pd) 0 16 (pd + 1)) 0 15 (y + 1)), 34, 31630))) 4 (fun _ _ => rfl) ?_
            exact q_Ru_ret rfl rfl
        | false =>
          cases h176 : decide (col < 4) with
          | true =>
            have h177 : decide (col = 23) = false := q_not_tr (q_tbl1 (fun col => !decide (col = 23)) (l := 0) (n := 3) (by decide +kernel) c0 (q_hi1 h176))
            refine ⟨pix, smp, ?_⟩
            refine q_Ca_of (Nat.le_of_ble_eq_true rfl) ?_
            refine q_Ru_seg (g2 := (4, [(0, .ref 64)], [.long y], (q_cM (q_mA pix smp tr (q_nb p left dn ins) (q_fb z)) q_IM (q_mJ y pd), 34, 31630))) 2 (fun _ _ => rfl) ?_
            refine q_Ru_seg (g2 := (9, [(0, .ref 64)], [.int ((y - y / 24 * 24).toInt32)], (q_cM (q_mA pix smp tr (q_nb p left dn ins) (q_fb z)) q_IM (q_mJ y pd), 34, 31630))) 3 (fun _ _ => rfl) ?_
            rw [hC]
            refine q_Ru_seg (g2 := (11, [(1, .int col), (0, .ref 64)], [.int col], (q_cM (q_mA pix smp tr (q_nb p left dn ins) (q_fb z)) q_IM (q_mJ y pd), 34, 31630))) 2 (fun _ _ => rfl) ?_
            refine q_Ru_rsF (g2 := (14, [(1, .int col), (0, .ref 64)], [], (q_cM (q_mA pix smp tr (q_nb p left dn ins) (q_fb z)) q_IM (q_mJ y pd), 34, 31630))) rfl rfl (q_d_neT h170) ?_
            refine q_Ru_seg (g2 := (15, [(1, .int col), (0, .ref 64)], [.ref 64], (q_cM (q_mA pix smp tr (q_nb p left dn ins) (q_fb z)) q_IM (q_mJ y pd), 34, 31630))) 1 (fun _ _ => rfl) ?_
            refine q_Ru_call (v := (some (.int lin))) (h2 := (q_cM (q_mA pix smp tr (q_nb p left dn ins) (q_fb z)) q_IM (q_mJ y pd), 34, 31630)) rfl rfl ?_ ?_
            · refine q_Ca_of (Nat.le_of_ble_eq_true rfl) ?_
              refine q_Ru_seg (g2 := (4, [(0, .ref 64)], [.long y], (q_cM (q_mA pix smp tr (q_nb p left dn ins) (q_fb z)) q_IM (q_mJ y pd), 34, 31630))) 2 (fun _ _ => rfl) ?_
              refine q_Ru_seg (g2 := (13, [(0, .ref 64)], [.int (((y / 24) - (y / 24) / 40 * 40).toInt32)], (q_cM (q_mA pix smp tr (q_nb p left dn ins) (q_fb z)) q_IM (q_mJ y pd), 34, 31630))) 5 (fun _ _ => rfl) ?_
              rw [hM]
              exact q_Ru_ret rfl rfl
            show q_Ru _ _ _ (18, [(1, .int col), (0, .ref 64)], [.int lin], (q_cM (q_mA pix smp tr (q_nb p left dn ins) (q_fb z)) q_IM (q_mJ y pd), 34, 31630)) _
            refine q_Ru_seg (g2 := (25, [(1, .int col), (0, .ref 64)], [.int 0, .int lin], (q_cM (q_mA pix smp tr (q_nb p left dn ins) (q_fb z)) q_IM (q_mJ y pd), 34, 31630))) 4 (fun _ _ => rfl) ?_
            refine q_Ru_rsF (g2 := (28, [(1, .int col), (0, .ref 64)], [], (q_cM (q_mA pix smp tr (q_nb p left dn ins) (q_fb z)) q_IM (q_mJ y pd), 34, 31630))) rfl rfl (q_d_neT h171) ?_
            refine q_Ru_seg (g2 := (36, [(1, .int col), (0, .ref 64)], [.int 1, .int 9, .ref 78], (q_cM (q_mA pix smp tr (q_nb p left dn ins) (q_fb z)) q_IM (q_mJ y pd), 34, 31630))) 5 (fun _ _ => rfl) ?_
            refine q_Ru_seg (g2 := (40, [(1, .int col), (0, .ref 64)], [.ref 64], (q_cM (q_uA (q_mA pix smp tr (q_nb p left dn ins) (q_fb z)) 14 (upd (q_nb p left dn ins) 9 1)) q_IM (q_mJ y pd), 34, 31630))) 4 (fun _ _ => rfl) ?_
            have hA : ∀ i, i < 34 → (q_uA (q_mA pix smp tr (q_nb p left dn ins) (q_fb z)) 14 (upd (q_nb p left dn ins) 9 1)) i = (q_mA pix smp tr (q_nb p left dn ins) (q_fb z)) i := by
              intro i hi
              match i, hi with
              | 0, _ => rfl
              | 1, _ => rfl
              | 2, _ => rfl
              | 3, _ => rfl
              | 4, _ => rfl
              | 5, _ => rfl
              | 6, _ => rfl
              | 7, _ => rfl
              | 8, _ => rfl
              | 9, _ => rfl
              | 10, _ => rfl
              | 11, _ => rfl
              | 12, _ => rfl
              | 13, _ => rfl
              | 14, _ => exact (show (upd (q_nb p left dn ins) 9 1) = (q_nb p left dn ins) by simp only [q_upd_upd, q_upd_z, q_nb_4, q_nb_17, q_nb_19, q_nb_20, q_nb_0, q_nb_9, q_nb_18, q_fb_4, q_fb_0])
              | 15, _ => rfl
              | 16, _ => rfl
              | 17, _ => rfl
              | 18, _ => rfl
              | 19, _ => rfl
              | 20, _ => rfl
              | 21, _ => rfl
              | 22, _ => rfl
              | 23, _ => rfl
              | 24, _ => rfl
              | 25, _ => rfl
              | 26, _ => rfl
              | 27, _ => rfl
              | 28, _ => rfl
              | 29, _ => rfl
              | 30, _ => rfl
              | 31, _ => rfl
              | 32, _ => rfl
              | 33, _ => rfl
              | i + 34, hi => exact absurd hi (by omega)
            rw [q_cM_A (I := q_IM) (J := (q_mJ y pd)) hA]
            refine q_Ru_call (v := (some (.int 1))) (h2 := (q_cM (q_mA pix smp tr (q_nb p left dn ins) (q_fb z)) q_IM (q_mJ y pd), 34, 31630)) rfl rfl ?_ ?_
            · exact (by have e := q_m_picX pix smp tr p left dn ins z y pd col lin p1 p2 hC hM c0 c1 l0 l1 a0 a1 b0 b1 hp0 hp1 hp2 i0 i1; rw [hpic] at e; exact e.le (Nat.le_of_ble_eq_true rfl))
            show q_Ru _ _ _ (43, [(1, .int col), (0, .ref 64)], [.int 1], (q_cM (q_mA pix smp tr (q_nb p left dn ins) (q_fb z)) q_IM (q_mJ y pd), 34, 31630)) _
            refine q_Ru_seg (g2 := (45, [(2, .int 1), (1, .int col), (0, .ref 64)], [.ref 64], (q_cM (q_mA pix smp tr (q_nb p left dn ins) (q_fb z)) q_IM (q_mJ y pd), 34, 31630))) 2 (fun _ _ => rfl) ?_
            refine q_Ru_call (v := (some (.int (lin - 4)))) (h2 := (q_cM (q_mA pix smp tr (q_nb p left dn ins) (q_fb z)) q_IM (q_mJ y pd), 34, 31630)) rfl rfl ?_ ?_
            · refine q_Ca_of (Nat.le_of_ble_eq_true rfl) ?_
              refine q_Ru_seg (g2 := (1, [(0, .ref 64)], [.ref 64], (q_cM (q_mA pix smp tr (q_nb p left dn ins) (q_fb z)) q_IM (q_mJ y pd), 34, 31630))) 1 (fun _ _ => rfl) ?_
              refine q_Ru_call (v := (some (.int lin))) (h2 := (q_cM (q_mA pix smp tr (q_nb p left dn ins) (q_fb z)) q_IM (q_mJ y pd), 34, 31630)) rfl rfl ?_ ?_
              · refine q_Ca_of (Nat.le_of_ble_eq_true rfl) ?_
                refine q_Ru_seg (g2 := (4, [(0, .ref 64)], [.long y], (q_cM (q_mA pix smp tr (q_nb p left dn ins) (q_fb z)) q_IM (q_mJ y pd), 34, 31630))) 2 (fun _ _ => rfl) ?_
                refine q_Ru_seg (g2 := (13, [(0, .ref 64)], [.int (((y / 24) - (y / 24) / 40 * 40).toInt32)], (q_cM (q_mA pix smp tr (q_nb p left dn ins) (q_fb z)) q_IM (q_mJ y pd), 34, 31630))) 5 (fun _ _ => rfl) ?_
                rw [hM]
                exact q_Ru_ret rfl rfl
              show q_Ru _ _ _ (4, [(0, .ref 64)], [.int lin], (q_cM (q_mA pix smp tr (q_nb p left dn ins) (q_fb z)) q_IM (q_mJ y pd), 34, 31630)) _
              refine q_Ru_seg (g2 := (6, [(0, .ref 64)], [.int (lin - 4)], (q_cM (q_mA pix smp tr (q_nb p left dn ins) (q_fb z)) q_IM (q_mJ y pd), 34, 31630))) 2 (fun _ _ => rfl) ?_
              exact q_Ru_ret rfl rfl
            show q_Ru _ _ _ (48, [(2, .int 1), (1, .int col), (0, .ref 64)], [.int (lin - 4)], (q_cM (q_mA pix smp tr (q_nb p left dn ins) (q_fb z)) q_IM (q_mJ y pd), 34, 31630)) _
            refine q_Ru_seg (g2 := (53, [(3, .int (lin - 4)), (2, .int 1), (1, .int col), (0, .ref 64)], [.int 31, .int 0, .int (lin - 4)], (q_cM (q_mA pix smp tr (q_nb p left dn ins) (q_fb z)) q_IM (q_mJ y pd), 34, 31630))) 4 (fun _ _ => rfl) ?_
            refine q_Ru_call (v := (some (.int 1))) (h2 := (q_cM (q_mA pix smp tr (q_nb p left dn ins) (q_fb z)) q_IM (q_mJ y pd), 34, 31630)) rfl rfl ?_ ?_
            · refine q_Ca_of (Nat.le_of_ble_eq_true rfl) ?_
              refine q_Ru_seg (g2 := (2, [(0, .int (lin - 4)), (1, .int 0), (2, .int 31)], [.int 0, .int (lin - 4)], (q_cM (q_mA pix smp tr (q_nb p left dn ins) (q_fb z)) q_IM (q_mJ y pd), 34, 31630))) 2 (fun _ _ => rfl) ?_
              refine q_Ru_rsF (g2 := (5, [(0, .int (lin - 4)), (1, .int 0), (2, .int 31)], [], (q_cM (q_mA pix smp tr (q_nb p left dn ins) (q_fb z)) q_IM (q_mJ y pd), 34, 31630))) rfl rfl h172 ?_
              refine q_Ru_seg (g2 := (7, [(0, .int (lin - 4)), (1, .int 0), (2, .int 31)], [.int 31, .int (lin - 4)], (q_cM (q_mA pix smp tr (q_nb p left dn ins) (q_fb z)) q_IM (q_mJ y pd), 34, 31630))) 2 (fun _ _ => rfl) ?_
              refine q_Ru_rsF (g2 := (10, [(0, .int (lin - 4)), (1, .int 0), (2, .int 31)], [], (q_cM (q_mA pix smp tr (q_nb p left dn ins) (q_fb z)) q_IM (q_mJ y pd), 34, 31630))) rfl rfl h174 ?_
              refine q_Ru_seg (g2 := (15, [(0, .int (lin - 4)), (1, .int 0), (2, .int 31)], [.int 1], (q_cM (q_mA pix smp tr (q_nb p left dn ins) (q_fb z)) q_IM (q_mJ y pd), 34, 31630))) 2 (fun _ _ => rfl) ?_
              exact q_Ru_ret rfl rfl
            show q_Ru _ _ _ (56, [(3, .int (lin - 4)), (2, .int 1), (1, .int col), (0, .ref 64)], [.int 1], (q_cM (q_mA pix smp tr (q_nb p left dn ins) (q_fb z)) q_IM (q_mJ y pd), 34, 31630)) _
            refine q_Ru_seg (g2 := (63, [(3, .int (lin - 4)), (2, .int 1), (1, .int col), (0, .ref 64)], [.int 19, .int 4, .int col], (q_cM (q_mA pix smp tr (q_nb p left dn ins) (q_fb z)) q_IM (q_mJ y pd), 34, 31630))) 4 (fun _ _ => rfl) ?_
            refine q_Ru_call (v := (some (.int 0))) (h2 := (q_cM (q_mA pix smp tr (q_nb p left dn ins) (q_fb z)) q_IM (q_mJ y pd), 34, 31630)) rfl rfl ?_ ?_
            · refine q_Ca_of (Nat.le_of_ble_eq_true rfl) ?_
              refine q_Ru_seg (g2 := (2, [(0, .int col), (1, .int 4), (2, .int 19)], [.int 4, .int col], (q_cM (q_mA pix smp tr (q_nb p left dn ins) (q_fb z)) q_IM (q_mJ y pd), 34, 31630))) 2 (fun _ _ => rfl) ?_
              refine q_Ru_rsT (g2 := (14, [(0, .int col), (1, .int 4), (2, .int 19)], [], (q_cM (q_mA pix smp tr (q_nb p left dn ins) (q_fb z)) q_IM (q_mJ y pd), 34, 31630))) rfl rfl h176 ?_
              refine q_Ru_seg (g2 := (15, [(0, .int col), (1, .int 4), (2, .int 19)], [.int 0], (q_cM (q_mA pix smp tr (q_nb p left dn ins) (q_fb z)) q_IM (q_mJ y pd), 34, 31630))) 1 (fun _ _ => rfl) ?_
              exact q_Ru_ret rfl rfl
            show q_Ru _ _ _ (66, [(3, .int (lin - 4)), (2, .int 1), (1, .int col), (0, .ref 64)], [.int 0], (q_cM (q_mA pix smp tr (q_nb p left dn ins) (q_fb z)) q_IM (q_mJ y pd), 34, 31630)) _
            refine q_Ru_seg (g2 := (92, [(3, .int (lin - 4)), (2, .int 1), (1, .int col), (0, .ref 64)], [.ref 64], (q_cM (q_mA pix smp tr (q_nb p left dn ins) (q_fb z)) q_IM (q_mJ y pd), 34, 31630))) 2 (fun _ _ => rfl) ?_
            refine q_Ru_call (v := none) (h2 := (q_cM (q_mA pix smp tr (q_nb p left dn ins) (q_fb z)) q_IM (q_mJ y pd), 34, 31630)) rfl rfl ?_ ?_
            · exact (q_m_times pix smp tr p left dn ins z y pd col lin p1 p2 hC hM c0 c1 l0 l1 a0 a1 b0 b1 hp0 hp1 hp2 i0 i1  ).le (Nat.le_of_ble_eq_true rfl)
            show q_Ru _ _ _ (95, [(3, .int (lin - 4)), (2, .int 1), (1, .int col), (0, .ref 64)], [], (q_cM (q_mA pix smp tr (q_nb p left dn ins) (q_fb z)) q_IM (q_mJ y pd), 34, 31630)) _
            refine q_Ru_seg (g2 := (96, [(3, .int (lin - 4)), (2, .int 1), (1, .int col), (0, .ref 64)], [.ref 64], (q_cM (q_mA pix smp tr (q_nb p left dn ins) (q_fb z)) q_IM (q_mJ y pd), 34, 31630))) 1 (fun _ _ => rfl) ?_
            refine q_Ru_call (v := none) (h2 := (q_cM (q_mA pix smp tr (q_nb p left dn ins) (q_fb z)) q_IM (q_mJ y pd), 34, 31630)) rfl rfl ?_ ?_
            · exact (q_m_winds pix smp tr p left dn ins z y pd col lin p1 p2 hC hM c0 c1 l0 l1 a0 a1 b0 b1 hp0 hp1 hp2 i0 i1  ).le (Nat.le_of_ble_eq_true rfl)
            show q_Ru _ _ _ (99, [(3, .int (lin - 4)), (2, .int 1), (1, .int col), (0, .ref 64)], [], (q_cM (q_mA pix smp tr (q_nb p left dn ins) (q_fb z)) q_IM (q_mJ y pd), 34, 31630)) _
            refine q_Ru_seg (g2 := (102, [(3, .int (lin - 4)), (2, .int 1), (1, .int col), (0, .ref 64)], [.int 23, .int col], (q_cM (q_mA pix smp tr (q_nb p left dn ins) (q_fb z)) q_IM (q_mJ y pd), 34, 31630))) 2 (fun _ _ => rfl) ?_
            refine q_Ru_rsT (g2 := (109, [(3, .int (lin - 4)), (2, .int 1), (1, .int col), (0, .ref 64)], [], (q_cM (q_mA pix smp tr (q_nb p left dn ins) (q_fb z)) q_IM (q_mJ y pd), 34, 31630))) rfl rfl (q_d_neF h177) ?_
            refine q_Ru_seg (g2 := (122, [(3, .int (lin - 4)), (2, .int 1), (1, .int col), (0, .ref 64)], [.long pd, .ref 64], (q_cM (q_mA pix smp tr (q_nb p left dn ins) (q_fb z)) q_IM (q_mJ y pd), 34, 31630))) 5 (fun _ _ => rfl) ?_
            refine q_Ru_seg (g2 := (140, [(3, .int (lin - 4)), (2, .int 1), (1, .int col), (0, .ref 64)], [.long y, .ref 64], (q_cM (q_mA pix smp tr (q_nb p left dn ins) (q_fb z)) q_IM (q_uI (q_mJ y pd) 0 16 (pd + 1)), 34, 31630))) 9 (fun _ _ => rfl) ?_
            refine q_Ru_seg (g2 := (146, [(3, .int (lin - 4)), (2, .int 1), (1, .int col), (0, .ref 64)], [.int 1], (q_cM (q_mA pix smp tr (q_nb p left dn ins) (q_fb z)) q_IM (q_uI (q_uI (q_mJ y pd) 0 16 (pd + 1)) 0 15 (y + 1)), 34, 31630))) 4 (fun _ _ => rfl) ?_
            exact q_Ru_ret rfl rfl
          | false =>
            cases h178 : decide (19 < col) with
            | true =>
              cases h179 : decide (col = 23) with
              | true =>
                have eh179 := of_decide_eq_true h179
                subst eh179
                obtain ⟨z64a, p64⟩ := q_m_sample pix smp tr p left dn ins z y pd col lin p1 p2 hC hM c0 c1 l0 l1 a0 a1 b0 b1 hp0 hp1 hp2 i0 i1  
                refine ⟨pix, z64a, ?_⟩
                refine q_Ca_of (Nat.le_of_ble_eq_true rfl) ?_
                refine q_Ru_seg (g2 := (4, [(0, .ref 64)], [.long y], (q_cM (q_mA pix smp tr (q_nb p left dn ins) (q_fb z)) q_IM (q_mJ y pd), 34, 31630))) 2 (fun _ _ => rfl) ?_
                refine q_Ru_seg (g2 := (9, [(0, .ref 64)], [.int ((y - y / 24 * 24).toInt32)], (q_cM (q_mA pix smp tr (q_nb p left dn ins) (q_fb z)) q_IM (q_mJ y pd), 34, 31630))) 3 (fun _ _ => rfl) ?_
                rw [hC]
                refine q_Ru_seg (g2 := (11, [(1, .int col), (0, .ref 64)], [.int col], (q_cM (q_mA pix smp tr (q_nb p left dn ins) (q_fb z)) q_IM (q_mJ y pd), 34, 31630))) 2 (fun _ _ => rfl) ?_
                refine q_Ru_rsF (g2 := (14, [(1, .int col), (0, .ref 64)], [], (q_cM (q_mA pix smp tr (q_nb p left dn ins) (q_fb z)) q_IM (q_mJ y pd), 34, 31630))) rfl rfl (q_d_neT h170) ?_
                refine q_Ru_seg (g2 := (15, [(1, .int col), (0, .ref 64)], [.ref 64], (q_cM (q_mA pix smp tr (q_nb p left dn ins) (q_fb z)) q_IM (q_mJ y pd), 34, 31630))) 1 (fun _ _ => rfl) ?_
                refine q_Ru_call (v := (some (.int lin))) (h2 := (q_cM (q_mA pix smp tr (q_nb p left dn ins) (q_fb z)) q_IM (q_mJ y pd), 34, 31630)) rfl rfl ?_ ?_
                · refine q_Ca_of (Nat.le_of_ble_eq_true rfl) ?_
                  refine q_Ru_seg (g2 := (4, [(0, .ref 64)], [.long y], (q_cM (q_mA pix smp tr (q_nb p left dn ins) (q_fb z)) q_IM (q_mJ y pd), 34, 31630))) 2 (fun _ _ => rfl) ?_
                  refine q_Ru_seg (g2 := (13, [(0, .ref 64)], [.int (((y / 24) - (y / 24) / 40 * 40).toInt32)], (q_cM (q_mA pix smp tr (q_nb p left dn ins) (q_fb z)) q_IM (q_mJ y pd), 34, 31630))) 5 (fun _ _ => rfl) ?_
                  rw [hM]
                  exact q_Ru_ret rfl rfl
                show q_Ru _ _ _ (18, [(1, .int col), (0, .ref 64)], [.int lin], (q_cM (q_mA pix smp tr (q_nb p left dn ins) (q_fb z)) q_IM (q_mJ y pd), 34, 31630)) _
                refine q_Ru_seg (g2 := (25, [(1, .int col), (0, .ref 64)], [.int 0, .int lin], (q_cM (q_mA pix smp tr (q_nb p left dn ins) (q_fb z)) q_IM (q_mJ y pd), 34, 31630))) 4 (fun _ _ => rfl) ?_
                refine q_Ru_rsF (g2 := (28, [(1, .int col), (0, .ref 64)], [], (q_cM (q_mA pix smp tr (q_nb p left dn ins) (q_fb z)) q_IM (q_mJ y pd), 34, 31630))) rfl rfl (q_d_neT h171) ?_
                refine q_Ru_seg (g2 := (36, [(1, .int col), (0, .ref 64)], [.int 1, .int 9, .ref 78], (q_cM (q_mA pix smp tr (q_nb p left dn ins) (q_fb z)) q_IM (q_mJ y pd), 34, 31630))) 5 (fun _ _ => rfl) ?_
                refine q_Ru_seg (g2 := (40, [(1, .int col), (0, .ref 64)], [.ref 64], (q_cM (q_uA (q_mA pix smp tr (q_nb p left dn ins) (q_fb z)) 14 (upd (q_nb p left dn ins) 9 1)) q_IM (q_mJ y pd), 34, 31630))) 4 (fun _ _ => rfl) ?_
                have hA : ∀ i, i < 34 → (q_uA (q_mA pix smp tr (q_nb p left dn ins) (q_fb z)) 14 (upd (q_nb p left dn ins) 9 1)) i = (q_mA pix smp tr (q_nb p left dn ins) (q_fb z)) i := by
                  intro i hi
                  match i, hi with
                  | 0, _ => rfl
                  | 1, _ => rfl
                  | 2, _ => rfl
                  | 3, _ => rfl
                  | 4, _ => rfl
                  | 5, _ => rfl
                  | 6, _ => rfl
                  | 7, _ => rfl
                  | 8, _ => rfl
                  | 9, _ => rfl
                  | 10, _ => rfl
                  | 11, _ => rfl
                  | 12, _ => rfl
                  | 13, _ => rfl
                  | 14, _ => exact (show (upd (q_nb p left dn ins) 9 1) = (q_nb p left dn ins) by simp only [q_upd_upd, q_upd_z, q_nb_4, q_nb_17, q_nb_19, q_nb_20, q_nb_0, q_nb_9, q_nb_18, q_fb_4, q_fb_0])
                  | 15, _ => rfl
                  | 16, _ => rfl
                  | 17, _ => rfl
                  | 18, _ => rfl
                  | 19, _ => rfl
                  | 20, _ => rfl
                  | 21, _ => rfl
                  | 22, _ => rfl
                  | 23, _ => rfl
                  | 24, _ => rfl
                  | 25, _ => rfl
                  | 26, _ => rfl
                  | 27, _ => rfl
                  | 28, _ => rfl
                  | 29, _ => rfl
                  | 30, _ => rfl
                  | 31, _ => rfl
                  | 32, _ => rfl
                  | 33, _ => rfl
                  | i + 34, hi => exact absurd hi (by omega)
                rw [q_cM_A (I := q_IM) (J := (q_mJ y pd)) hA]
                refine q_Ru_call (v := (some (.int 1))) (h2 := (q_cM (q_mA pix smp tr (q_nb p left dn ins) (q_fb z)) q_IM (q_mJ y pd), 34, 31630)) rfl rfl ?_ ?_
                · exact (by have e := q_m_picX pix smp tr p left dn ins z y pd col lin p1 p2 hC hM c0 c1 l0 l1 a0 a1 b0 b1 hp0 hp1 hp2 i0 i1; rw [hpic] at e; exact e.le (Nat.le_of_ble_eq_true rfl))
                show q_Ru _ _ _ (43, [(1, .int col), (0, .ref 64)], [.int 1], (q_cM (q_mA pix smp tr (q_nb p left dn ins) (q_fb z)) q_IM (q_mJ y pd), 34, 31630)) _
                refine q_Ru_seg (g2 := (45, [(2, .int 1), (1, .int col), (0, .ref 64)], [.ref 64], (q_cM (q_mA pix smp tr (q_nb p left dn ins) (q_fb z)) q_IM (q_mJ y pd), 34, 31630))) 2 (fun _ _ => rfl) ?_
                refine q_Ru_call (v := (some (.int (lin - 4)))) (h2 := (q_cM (q_mA pix smp tr (q_nb p left dn ins) (q_fb z)) q_IM (q_mJ y pd), 34, 31630)) rfl rfl ?_ ?_
                · refine q_Ca_of (Nat.le_of_ble_eq_true rfl) ?_
                  refine q_Ru_seg (g2 := (1, [(0, .ref 64)], [.ref 64], (q_cM (q_mA pix smp tr (q_nb p left dn ins) (q_fb z)) q_IM (q_mJ y pd), 34, 31630))) 1 (fun _ _ => rfl) ?_
                  refine q_Ru_call (v := (some (.int lin))) (h2 := (q_cM (q_mA pix smp tr (q_nb p left dn ins) (q_fb z)) q_IM (q_mJ y pd), 34, 31630)) rfl rfl ?_ ?_
                  · refine q_Ca_of (Nat.le_of_ble_eq_true rfl) ?_
                    refine q_Ru_seg (g2 := (4, [(0, .ref 64)], [.long y], (q_cM (q_mA pix smp tr (q_nb p left dn ins) (q_fb z)) q_IM (q_mJ y pd), 34, 31630))) 2 (fun _ _ => rfl) ?_
                    refine q_Ru_seg (g2 := (13, [(0, .ref 64)], [.int (((y / 24) - (y / 24) / 40 * 40).toInt32)], (q_cM (q_mA pix smp tr (q_nb p left dn ins) (q_fb z)) q_IM (q_mJ y pd), 34, 31630))) 5 (fun _ _ => rfl) ?_
                    rw [hM]
                    exact q_Ru_ret rfl rfl
                  show q_Ru _ _ _ (4, [(0, .ref 64)], [.int lin], (q_cM (q_mA pix smp tr (q_nb p left dn ins) (q_fb z)) q_IM (q_mJ y pd), 34, 31630)) _
                  refine q_Ru_seg (g2 := (6, [(0, .ref 64)], [.int (lin - 4)], (q_cM (q_mA pix smp tr (q_nb p left dn ins) (q_fb z)) q_IM (q_mJ y pd), 34, 31630))) 2 (fun _ _ => rfl) ?_
                  exact q_Ru_ret rfl rfl
                show q_Ru _ _ _ (48, [(2, .int 1), (1, .int col), (0, .ref 64)], [.int (lin - 4)], (q_cM (q_mA pix smp tr (q_nb p left dn ins) (q_fb z)) q_IM (q_mJ y pd), 34, 31630)) _
                refine q_Ru_seg (g2 := (53, [(3, .int (lin - 4)), (2, .int 1), (1, .int col), (0, .ref 64)], [.int 31, .int 0, .int (lin - 4)], (q_cM (q_mA pix smp tr (q_nb p left dn ins) (q_fb z)) q_IM (q_mJ y pd), 34, 31630))) 4 (fun _ _ => rfl) ?_
                refine q_Ru_call (v := (some (.int 1))) (h2 := (q_cM (q_mA pix smp tr (q_nb p left dn ins) (q_fb z)) q_IM (q_mJ y pd), 34, 31630)) rfl rfl ?_ ?_
                · refine q_Ca_of (Nat.le_of_ble_eq_true rfl) ?_
                  refine q_Ru_seg (g2 := (2, [(0, .int (lin - 4)), (1, .int 0), (2, .int 31)], [.int 0, .int (lin - 4)], (q_cM (q_mA pix smp tr (q_nb p left dn ins) (q_fb z)) q_IM (q_mJ y pd), 34, 31630))) 2 (fun _ _ => rfl) ?_
                  refine q_Ru_rsF (g2 := (5, [(0, .int (lin - 4)), (1, .int 0), (2, .int 31)], [], (q_cM (q_mA pix smp tr (q_nb p left dn ins) (q_fb z)) q_IM (q_mJ y pd), 34, 31630))) rfl rfl h172 ?_
                  refine q_Ru_seg (g2 := (7, [(0, .int (lin - 4)), (1, .int 0), (2, .int 31)], [.int 31, .int (lin - 4)], (q_cM (q_mA pix smp tr (q_nb p left dn ins) (q_fb z)) q_IM (q_mJ y pd), 34, 31630))) 2 (fun _ _ => rfl) ?_
                  refine q_Ru_rsF (g2 := (10, [(0, .int (lin - 4)), (1, .int 0), (2, .int 31)], [], (q_cM (q_mA pix smp tr (q_nb p left dn ins) (q_fb z)) q_IM (q_mJ y pd), 34, 31630))) rfl rfl h174 ?_
                  refine q_Ru_seg (g2 := (15, [(0, .int (lin - 4)), (1, .int 0), (2, .int 31)], [.int 1], (q_cM (q_mA pix smp tr (q_nb p left dn ins) (q_fb z)) q_IM (q_mJ y pd), 34, 31630))) 2 (fun _ _ => rfl) ?_
                  exact q_Ru_ret rfl rfl
                show q_Ru _ _ _ (56, [(3, .int (lin - 4)), (2, .int 1), (1, .int col), (0, .ref 64)], [.int 1], (q_cM (q_mA pix smp tr (q_nb p left dn ins) (q_fb z)) q_IM (q_mJ y pd), 34, 31630)) _
                refine q_Ru_seg (g2 := (63, [(3, .int (lin - 4)), (2, .int 1), (1, .int col), (0, .ref 64)], [.int 19, .int 4, .int col], (q_cM (q_mA pix smp tr (q_nb p left dn ins) (q_fb z)) q_IM (q_mJ y pd), 34, 31630))) 4 (fun _ _ => rfl) ?_
                refine q_Ru_call (v := (some (.int 0))) (h2 := (q_cM (q_mA pix smp tr (q_nb p left dn ins) (q_fb z)) q_IM (q_mJ y pd), 34, 31630)) rfl rfl ?_ ?_
                · refine q_Ca_of (Nat.le_of_ble_eq_true rfl) ?_
                  refine q_Ru_seg (g2 := (2, [(0, .int col), (1, .int 4), (2, .int 19)], [.int 4, .int col], (q_cM (q_mA pix smp tr (q_nb p left dn ins) (q_fb z)) q_IM (q_mJ y pd), 34, 31630))) 2 (fun _ _ => rfl) ?_
                  refine q_Ru_rsF (g2 := (5, [(0, .int col), (1, .int 4), (2, .int 19)], [], (q_cM (q_mA pix smp tr (q_nb p left dn ins) (q_fb z)) q_IM (q_mJ y pd), 34, 31630))) rfl rfl h176 ?_
                  refine q_Ru_seg (g2 := (7, [(0, .int col), (1, .int 4), (2, .int 19)], [.int 19, .int col], (q_cM (q_mA pix smp tr (q_nb p left dn ins) (q_fb z)) q_IM (q_mJ y pd), 34, 31630))) 2 (fun _ _ => rfl) ?_
                  refine q_Ru_rsT (g2 := (14, [(0, .int col), (1, .int 4), (2, .int 19)], [], (q_cM (q_mA pix smp tr (q_nb p left dn ins) (q_fb z)) q_IM (q_mJ y pd), 34, 31630))) rfl rfl h178 ?_
                  refine q_Ru_seg (g2 := (15, [(0, .int col), (1, .int 4), (2, .int 19)], [.int 0], (q_cM (q_mA pix smp tr (q_nb p left dn ins) (q_fb z)) q_IM (q_mJ y pd), 34, 31630))) 1 (fun _ _ => rfl) ?_
                  exact q_Ru_ret rfl rfl
                show q_Ru _ _ _ (66, [(3, .int (lin - 4)), (2, .int 1), (1, .int col), (0, .ref 64)], [.int 0], (q_cM (q_mA pix smp tr (q_nb p left dn ins) (q_fb z)) q_IM (q_mJ y pd), 34, 31630)) _
                refine q_Ru_seg (g2 := (92, [(3, .int (lin - 4)), (2, .int 1), (1, .int col), (0, .ref 64)], [.ref 64], (q_cM (q_mA pix smp tr (q_nb p left dn ins) (q_fb z)) q_IM (q_mJ y pd), 34, 31630))) 2 (fun _ _ => rfl) ?_
                refine q_Ru_call (v := none) (h2 := (q_cM (q_mA pix smp tr (q_nb p left dn ins) (q_fb z)) q_IM (q_mJ y pd), 34, 31630)) rfl rfl ?_ ?_
                · exact (q_m_times pix smp tr p left dn ins z y pd col lin p1 p2 hC hM c0 c1 l0 l1 a0 a1 b0 b1 hp0 hp1 hp2 i0 i1  ).le (Nat.le_of_ble_eq_true rfl)
                show q_Ru _ _ _ (95, [(3, .int (lin - 4)), (2, .int 1), (1, .int col), (0, .ref 64)], [], (q_cM (q_mA pix smp tr (q_nb p left dn ins) (q_fb z)) q_IM (q_mJ y pd), 34, 31630)) _
                refine q_Ru_seg (g2 := (96, [(3, .int (lin - 4)), (2, .int 1), (1, .int col), (0, .ref 64)], [.ref 64], (q_cM (q_mA pix smp tr (q_nb p left dn ins) (q_fb z)) q_IM (q_mJ y pd), 34, 31630))) 1 (fun _ _ => rfl) ?_
                refine q_Ru_call (v := none) (h2 := (q_cM (q_mA pix smp tr (q_nb p left dn ins) (q_fb z)) q_IM (q_mJ y pd), 34, 31630)) rfl rfl ?_ ?_
                · exact (q_m_winds pix smp tr p left dn ins z y pd col lin p1 p2 hC hM c0 c1 l0 l1 a0 a1 b0 b1 hp0 hp1 hp2 i0 i1  ).le (Nat.le_of_ble_eq_true rfl)
                show q_Ru _ _ _ (99, [(3, .int (lin - 4)), (2, .int 1), (1, .int col), (0, .ref 64)], [], (q_cM (q_mA pix smp tr (q_nb p left dn ins) (q_fb z)) q_IM (q_mJ y pd), 34, 31630)) _
                refine q_Ru_seg (g2 := (102, [(3, .int (lin - 4)), (2, .int 1), (1, .int col), (0, .ref 64)], [.int 23, .int col], (q_cM (q_mA pix smp tr (q_nb p left dn ins) (q_fb z)) q_IM (q_mJ y pd), 34, 31630))) 2 (fun _ _ => rfl) ?_
                refine q_Ru_rsF (g2 := (105, [(3, .int (lin - 4)), (2, .int 1), (1, .int col), (0, .ref 64)], [], (q_cM (q_mA pix smp tr (q_nb p left dn ins) (q_fb z)) q_IM (q_mJ y pd), 34, 31630))) rfl rfl (q_d_neT h179) ?_
                refine q_Ru_seg (g2 := (106, [(3, .int (lin - 4)), (2, .int 1), (1, .int col), (0, .ref 64)], [.ref 64], (q_cM (q_mA pix smp tr (q_nb p left dn ins) (q_fb z)) q_IM (q_mJ y pd), 34, 31630))) 1 (fun _ _ => rfl) ?_
                refine q_Ru_call (v := none) (h2 := (q_cM (q_mA pix z64a tr (q_nb p left dn ins) (q_fb z)) q_IM (q_mJ y pd), 34, 31630)) rfl rfl ?_ ?_
                · exact p64.le (Nat.le_of_ble_eq_true rfl)
                show q_Ru _ _ _ (109, [(3, .int (lin - 4)), (2, .int 1), (1, .int col), (0, .ref 64)], [], (q_cM (q_mA pix z64a tr (q_nb p left dn ins) (q_fb z)) q_IM (q_mJ y pd), 34, 31630)) _
                refine q_Ru_seg (g2 := (122, [(3, .int (lin - 4)), (2, .int 1), (1, .int col), (0, .ref 64)], [.long pd, .ref 64], (q_cM (q_mA pix z64a tr (q_nb p left dn ins) (q_fb z)) q_IM (q_mJ y pd), 34, 31630))) 5 (fun _ _ => rfl) ?_
                refine q_Ru_seg (g2 := (140, [(3, .int (lin - 4)), (2, .int 1), (1, .int col), (0, .ref 64)], [.long y, .ref 64], (q_cM (q_mA pix z64a tr (q_nb p left dn ins) (q_fb z)) q_IM (q_uI (q_mJ y pd) 0 16 (pd + 1)), 34, 31630))) 9 (fun _ _ => rfl) ?_
                refine q_Ru_seg (g2 := (146, [(3, .int (lin - 4)), (2, .int 1), (1, .int col), (0, .ref 64)], [.int 1], (q_cM (q_mA pix z64a tr (q_nb p left dn ins) (q_fb z)) q_IM (q_uI (q_uI (q_mJ y pd) 0 16 (pd + 1)) 0 15 (y + 1)), 34, 31630))) 4 (fun _ _ => rfl) ?_
                exact q_Ru_ret rfl rfl
              | false =>
                refine ⟨pix, smp, ?_⟩
                refine q_Ca_of (Nat.le_of_ble_eq_true rfl) ?_
                refine q_Ru_seg (g2 := (4, [(0, .ref 64)], [.long y], (q_cM (q_mA pix smp tr (q_nb p left dn ins) (q_fb z)) q_IM (q_mJ y pd), 34, 31630))) 2 (fun _ _ => rfl) ?_
                refine q_Ru_seg (g2 := (9, [(0, .ref 64)], [.int ((y - y / 24 * 24).toInt32)], (q_cM (q_mA pix smp tr (q_nb p left dn ins) (q_fb z)) q_IM (q_mJ y pd), 34, 31630))) 3 (fun _ _ => rfl) ?_
                rw [hC]
                refine q_Ru_seg (g2 := (11, [(1, .int col), (0, .ref 64)], [.int col], (q_cM (q_mA pix smp tr (q_nb p left dn ins) (q_fb z)) q_IM (q_mJ y pd), 34, 31630))) 2 (fun _ _ => rfl) ?_
                refine q_Ru_rsF (g2 := (14, [(1, .int col), (0, .ref 64)], [], (q_cM (q_mA pix smp tr (q_nb p left dn ins) (q_fb z)) q_IM (q_mJ y pd), 34, 31630))) rfl rfl (q_d_neT h170) ?_
                refine q_Ru_seg (g2 := (15, [(1, .int col), (0, .ref 64)], [.ref 64], (q_cM (q_mA pix smp tr (q_nb p left dn ins) (q_fb z)) q_IM (q_mJ y pd), 34, 31630))) 1 (fun _ _ => rfl) ?_
                refine q_Ru_call (v := (some (.int lin))) (h2 := (q_cM (q_mA pix smp tr (q_nb p left dn ins) (q_fb z)) q_IM (q_mJ y pd), 34, 31630)) rfl rfl ?_ ?_
                · refine q_Ca_of (Nat.le_of_ble_eq_true rfl) ?_
                  refine q_Ru_seg (g2 := (4, [(0, .ref 64)], [.long y], (q_cM (q_mA pix smp tr (q_nb p left dn ins) (q_fb z)) q_IM (q_mJ y pd), 34, 31630))) 2 (fun _ _ => rfl) ?_
                  refine q_Ru_seg (g2 := (13, [(0, .ref 64)], [.int (((y / 24) - (y / 24) / 40 * 40).toInt32)], (q_cM (q_mA pix smp tr (q_nb p left dn ins) (q_fb z)) q_IM (q_mJ y pd), 34, 31630))) 5 (fun _ _ => rfl) ?_
                  rw [hM]
                  exact q_Ru_ret rfl rfl
                show q_Ru _ _ _ (18, [(1, .int col), (0, .ref 64)], [.int lin], (q_cM (q_mA pix smp tr (q_nb p left dn ins) (q_fb z)) q_IM (q_mJ y pd), 34, 31630)) _
                refine q_Ru_seg (g2 := (25, [(1, .int col), (0, .ref 64)], [.int 0, .int lin], (q_cM (q_mA pix smp tr (q_nb p left dn ins) (q_fb z)) q_IM (q_mJ y pd), 34, 31630))) 4 (fun _ _ => rfl) ?_
                refine q_Ru_rsF (g2 := (28, [(1, .int col), (0, .ref 64)], [], (q_cM (q_mA pix smp tr (q_nb p left dn ins) (q_fb z)) q_IM (q_mJ y pd), 34, 31630))) rfl rfl (q_d_neT h171) ?_
                refine q_Ru_seg (g2 := (36, [(1, .int col), (0, .ref 64)], [.int 1, .int 9, .ref 78], (q_cM (q_mA pix smp tr (q_nb p left dn ins) (q_fb z)) q_IM (q_mJ y pd), 34, 31630))) 5 (fun _ _ => rfl) ?_
                refine q_Ru_seg (g2 := (40, [(1, .int col), (0, .ref 64)], [.ref 64], (q_cM (q_uA (q_mA pix smp tr (q_nb p left dn ins) (q_fb z)) 14 (upd (q_nb p left dn ins) 9 1)) q_IM (q_mJ y pd), 34, 31630))) 4 (fun _ _ => rfl) ?_
                have hA : ∀ i, i < 34 → (q_uA (q_mA pix smp tr (q_nb p left dn ins) (q_fb z)) 14 (upd (q_nb p left dn ins) 9 1)) i = (q_mA pix smp tr (q_nb p left dn ins) (q_fb z)) i := by
                  intro i hi
                  match i, hi with
                  | 0, _ => rfl
                  | 1, _ => rfl
                  | 2, _ => rfl
                  | 3, _ => rfl
                  | 4, _ => rfl
                  | 5, _ => rfl
                  | 6, _ => rfl
                  | 7, _ => rfl
                  | 8, _ => rfl
                  | 9, _ => rfl
                  | 10, _ => rfl
                  | 11, _ => rfl
                  | 12, _ => rfl
                  | 13, _ => rfl
                  | 14, _ => exact (show (upd (q_nb p left dn ins) 9 1) = (q_nb p left dn ins) by simp only [q_upd_upd, q_upd_z, q_nb_4, q_nb_17, q_nb_19, q_nb_20, q_nb_0, q_nb_9, q_nb_18, q_fb_4, q_fb_0])
                  | 15, _ => rfl
                  | 16, _ => rfl
                  | 17, _ => rfl
                  | 18, _ => rfl
                  | 19, _ => rfl
                  | 20, _ => rfl
                  | 21, _ => rfl
                  | 22, _ => rfl
                  | 23, _ => rfl
                  | 24, _ => rfl
                  | 25, _ => rfl
                  | 26, _ => rfl
                  | 27, _ => rfl
                  | 28, _ => rfl
                  | 29, _ => rfl
                  | 30, _ => rfl
                  | 31, _ => rfl
                  | 32, _ => rfl
                  | 33, _ => rfl
                  | i + 34, hi => exact absurd hi (by omega)
                rw [q_cM_A (I := q_IM) (J := (q_mJ y pd)) hA]
                refine q_Ru_call (v := (some (.int 1))) (h2 := (q_cM (q_mA pix smp tr (q_nb p left dn ins) (q_fb z)) q_IM (q_mJ y pd), 34, 31630)) rfl rfl ?_ ?_
                · exact (by have e := q_m_picX pix smp tr p left dn ins z y pd col lin p1 p2 hC hM c0 c1 l0 l1 a0 a1 b0 b1 hp0 hp1 hp2 i0 i1; rw [hpic] at e; exact e.le (Nat.le_of_ble_eq_true rfl))
                show q_Ru _ _ _ (43, [(1, .int col), (0, .ref 64)], [.int 1], (q_cM (q_mA pix smp tr (q_nb p left dn ins) (q_fb z)) q_IM (q_mJ y pd), 34, 31630)) _
                refine q_Ru_seg (g2 := (45, [(2, .int 1), (1, .int col), (0, .ref 64)], [.ref 64], (q_cM (q_mA pix smp tr (q_nb p left dn ins) (q_fb z)) q_IM (q_mJ y pd), 34, 31630))) 2 (fun _ _ => rfl) ?_
                refine q_Ru_call (v := (some (.int (lin - 4)))) (h2 := (q_cM (q_mA pix smp tr (q_nb p left dn ins) (q_fb z)) q_IM (q_mJ y pd), 34, 31630)) rfl rfl ?_ ?_
                · refine q_Ca_of (Nat.le_of_ble_eq_true rfl) ?_
                  refine q_Ru_seg (g2 := (1, [(0, .ref 64)], [.ref 64], (q_cM (q_mA pix smp tr (q_nb p left dn ins) (q_fb z)) q_IM (q_mJ y pd), 34, 31630))) 1 (fun _ _ => rfl) ?_
                  refine q_Ru_call (v := (some (.int lin))) (h2 := (q_cM (q_mA pix smp tr (q_nb p left dn ins) (q_fb z)) q_IM (q_mJ y pd), 34, 31630)) rfl rfl ?_ ?_
                  · refine q_Ca_of (Nat.le_of_ble_eq_true rfl) ?_
                    refine q_Ru_seg (g2 := (4, [(0, .ref 64)], [.long y], (q_cM (q_mA pix smp tr (q_nb p left dn ins) (q_fb z)) q_IM (q_mJ y pd), 34, 31630))) 2 (fun _ _ => rfl) ?_
                    refine q_Ru_seg (g2 := (13, [(0, .ref 64)], [.int (((y / 24) - (y / 24) / 40 * 40).toInt32)], (q_cM (q_mA pix smp tr (q_nb p left dn ins) (q_fb z)) q_IM (q_mJ y pd), 34, 31630))) 5 (fun _ _ => rfl) ?_
                    rw [hM]
                    exact q_Ru_ret rfl rfl
                  show q_Ru _ _ _ (4, [(0, .ref 64)], [.int lin], (q_cM (q_mA pix smp tr (q_nb p left dn ins) (q_fb z)) q_IM (q_mJ y pd), 34, 31630)) _
                  refine q_Ru_seg (g2 := (6, [(0, .ref 64)], [.int (lin - 4)], (q_cM (q_mA pix smp tr (q_nb p left dn ins) (q_fb z)) q_IM (q_mJ y pd), 34, 31630))) 2 (fun _ _ => rfl) ?_
                  exact q_Ru_ret rfl rfl
                show q_Ru _ _ _ (48, [(2, .int 1), (1, .int col), (0, .ref 64)], [.int (lin - 4)], (q_cM (q_mA pix smp tr (q_nb p left dn ins) (q_fb z)) q_IM (q_mJ y pd), 34, 31630)) _
                refine q_Ru_seg (g2 := (53, [(3, .int (lin - 4)), (2, .int 1), (1, .int col), (0, .ref 64)], [.int 31, .int 0, .int (lin - 4)], (q_cM (q_mA pix smp tr (q_nb p left dn ins) (q_fb z)) q_IM (q_mJ y pd), 34, 31630))) 4 (fun _ _ => rfl) ?_
                refine q_Ru_call (v := (some (.int 1))) (h2 := (q_cM (q_mA pix smp tr (q_nb p left dn ins) (q_fb z)) q_IM (q_mJ y pd), 34, 31630)) rfl rfl ?_ ?_
                · refine q_Ca_of (Nat.le_of_ble_eq_true rfl) ?_
                  refine q_Ru_seg (g2 := (2, [(0, .int (lin - 4)), (1, .int 0), (2, .int 31)], [.int 0, .int (lin - 4)], (q_cM (q_mA pix smp tr (q_nb p left dn ins) (q_fb z)) q_IM (q_mJ y pd), 34, 31630))) 2 (fun _ _ => rfl) ?_
                  refine q_Ru_rsF (g2 := (5, [(0, .int (lin - 4)), (1, .int 0), (2, .int 31)], [], (q_cM (q_mA pix smp tr (q_nb p left dn ins) (q_fb z)) q_IM (q_mJ y pd), 34, 31630))) rfl rfl h172 ?_
                  refine q_Ru_seg (g2 := (7, [(0, .int (lin - 4)), (1, .int 0), (2, .int 31)], [.int 31, .int (lin - 4)], (q_cM (q_mA pix smp tr (q_nb p left dn ins) (q_fb z)) q_IM (q_mJ y pd), 34, 31630))) 2 (fun _ _ => rfl) ?_
                  refine q_Ru_rsF (g2 := (10, [(0, .int (lin - 4)), (1, .int 0), (2, .int 31)], [], (q_cM (q_mA pix smp tr (q_nb p left dn ins) (q_fb z)) q_IM (q_mJ y pd), 34, 31630))) rfl rfl h174 ?_
                  refine q_Ru_seg (g2 := (15, [(0, .int (lin - 4)), (1, .int 0), (2, .int 31)], [.int 1], (q_cM (q_mA pix smp tr (q_nb p left dn ins) (q_fb z)) q_IM (q_mJ y pd), 34, 31630))) 2 (fun _ _ => rfl) ?_
                  exact q_Ru_ret rfl rfl
                show q_Ru _ _ _ (56, [(3, .int (lin - 4)), (2, .int 1), (1, .int col), (0, .ref 64)], [.int 1], (q_cM (q_mA pix smp tr (q_nb p left dn ins) (q_fb z)) q_IM (q_mJ y pd), 34, 31630)) _
                refine q_Ru_seg (g2 := (63, [(3, .int (lin - 4)), (2, .int 1), (1, .int col), (0, .ref 64)], [.int 19, .int 4, .int col], (q_cM (q_mA pix smp tr (q_nb p left dn ins) (q_fb z)) q_IM (q_mJ y pd), 34, 31630))) 4 (fun _ _ => rfl) ?_
                refine q_Ru_call (v := (some (.int 0))) (h2 := (q_cM (q_mA pix smp tr (q_nb p left dn ins) (q_fb z)) q_IM (q_mJ y pd), 34, 31630)) rfl rfl ?_ ?_
                · refine q_Ca_of (Nat.le_of_ble_eq_true rfl) ?_
                  refine q_Ru_seg (g2 := (2, [(0, .int col), (1, .int 4), (2, .int 19)], [.int 4, .int col], (q_cM (q_mA pix smp tr (q_nb p left dn ins) (q_fb z)) q_IM (q_mJ y pd), 34, 31630))) 2 (fun _ _ => rfl) ?_
                  refine q_Ru_rsF (g2 := (5, [(0, .int col), (1, .int 4), (2, .int 19)], [], (q_cM (q_mA pix smp tr (q_nb p left dn ins) (q_fb z)) q_IM (q_mJ y pd), 34, 31630))) rfl rfl h176 ?_
                  refine q_Ru_seg (g2 := (7, [(0, .int col), (1, .int 4), (2, .int 19)], [.int 19, .int col], (q_cM (q_mA pix smp tr (q_nb p left dn ins) (q_fb z)) q_IM (q_mJ y pd), 34, 31630))) 2 (fun _ _ => rfl) ?_
                  refine q_Ru_rsT (g2 := (14, [(0, .int col), (1, .int 4), (2, .int 19)], [], (q_cM (q_mA pix smp tr (q_nb p left dn ins) (q_fb z)) q_IM (q_mJ y pd), 34, 31630))) rfl rfl h178 ?_
                  refine q_Ru_seg (g2 := (15, [(0, .int col), (1, .int 4), (2, .int 19)], [.int 0], (q_cM (q_mA pix smp tr (q_nb p left dn ins) (q_fb z)) q_IM (q_mJ y pd), 34, 31630))) 1 (fun _ _ => rfl) ?_
                  exact q_Ru_ret rfl rfl
                show q_Ru _ _ _ (66, [(3, .int (lin - 4)), (2, .int 1), (1, .int col), (0, .ref 64)], [.int 0], (q_cM (q_mA pix smp tr (q_nb p left dn ins) (q_fb z)) q_IM (q_mJ y pd), 34, 31630)) _
                refine q_Ru_seg (g2 := (92, [(3, .int (lin - 4)), (2, .int 1), (1, .int col), (0, .ref 64)], [.ref 64], (q_cM (q_mA pix smp tr (q_nb p left dn ins) (q_fb z)) q_IM (q_mJ y pd), 34, 31630))) 2 (fun _ _ => rfl) ?_
                refine q_Ru_call (v := none) (h2 := (q_cM (q_mA pix smp tr (q_nb p left dn ins) (q_fb z)) q_IM (q_mJ y pd), 34, 31630)) rfl rfl ?_ ?_
                · exact (q_m_times pix smp tr p left dn ins z y pd col lin p1 p2 hC hM c0 c1 l0 l1 a0 a1 b0 b1 hp0 hp1 hp2 i0 i1  ).le (Nat.le_of_ble_eq_true rfl)
                show q_Ru _ _ _ (95, [(3, .int (lin - 4)), (2, .int 1), (1, .int col), (0, .ref 64)], [], (q_cM (q_mA pix smp tr (q_nb p left dn ins) (q_fb z)) q_IM (q_mJ y pd), 34, 31630)) _
                refine q_Ru_seg (g2 := (96, [(3, .int (lin - 4)), (2, .int 1), (1, .int col), (0, .ref 64)], [.ref 64], (q_cM (q_mA pix smp tr (q_nb p left dn ins) (q_fb z)) q_IM (q_mJ y pd), 34, 31630))) 1 (fun _ _ => rfl) ?_
                refine q_Ru_call (v := none) (h2 := (q_cM (q_mA pix smp tr (q_nb p left dn ins) (q_fb z)) q_IM (q_mJ y pd), 34, 31630)) rfl rfl ?_ ?_
                · exact (q_m_winds pix smp tr p left dn ins z y pd col lin p1 p2 hC hM c0 c1 l0 l1 a0 a1 b0 b1 hp0 hp1 hp2 i0 i1  ).le (Nat.le_of_ble_eq_true rfl)
                show q_Ru _ _ _ (99, [(3, .int (lin - 4)), (2, .int 1), (1, .int col), (0, .ref 64)], [], (q_cM (q_mA pix smp tr (q_nb p left dn ins) (q_fb z)) q_IM (q_mJ y pd), 34, 31630)) _
                refine q_Ru_seg (g2 := (102, [(3, .int (lin - 4)), (2, .int 1), (1, .int col), (0, .ref 64)], [.int 23, .int col], (q_cM (q_mA pix smp tr (q_nb p left dn ins) (q_fb z)) q_IM (q_mJ y pd), 34, 31630))) 2 (fun _ _ => rfl) ?_
                refine q_Ru_rsT (g2 := (109, [(3, .int (lin - 4)), (2, .int 1), (1, .int col), (0, .ref 64)], [], (q_cM (q_mA pix smp tr (q_nb p left dn ins) (q_fb z)) q_IM (q_mJ y pd), 34, 31630))) rfl rfl (q_d_neF h179) ?_
                refine q_Ru_seg (g2 := (122, [(3, .int (lin - 4)), (2, .int 1), (1, .int col), (0, .ref 64)], [.long pd, .ref 64], (q_cM (q_mA pix smp tr (q_nb p left dn ins) (q_fb z)) q_IM (q_mJ y pd), 34, 31630))) 5 (fun _ _ => rfl) ?_
                refine q_Ru_seg (g2 := (140, [(3, .int (lin - 4)), (2, .int 1), (1, .int col), (0, .ref 64)], [.long y, .ref 64], (q_cM (q_mA pix smp tr (q_nb p left dn ins) (q_fb z)) q_IM (q_uI (q_mJ y pd) 0 16 (pd + 1)), 34, 31630))) 9 (fun _ _ => rfl) ?_
                refine q_Ru_seg (g2 := (146, [(3, .int (lin - 4)), (2, .int 1), (1, .int col), (0, .ref 64)], [.int 1], (q_cM (q_mA pix smp tr (q_nb p left dn ins) (q_fb z)) q_IM (q_uI (q_uI (q_mJ y pd) 0 16 (pd + 1)) 0 15 (y + 1)), 34, 31630))) 4 (fun _ _ => rfl) ?_
                exact q_Ru_ret rfl rfl
            | false =>
              have h180 : decide (col = 23) = false := q_not_tr (q_tbl1 (fun col => !decide (col = 23)) (l := 4) (n := 15) (by decide +kernel) (q_lo1 h176) (q_hi2 h178))
              obtain ⟨x71, p71⟩ := q_m_draws pix smp tr p left dn ins z y pd ((2 * col) - 8) (lin - 4) (of_decide_eq_true (q_tbl1 (fun col => decide (0 ≤ ((2 * col) - 8).toInt ∧ ((2 * col) - 8).toInt ≤ 31)) (l := 4) (n := 15) (by decide +kernel) (q_lo1 h176) (q_hi2 h178))).1 (of_decide_eq_true (q_tbl1 (fun col => decide (0 ≤ ((2 * col) - 8).toInt ∧ ((2 * col) - 8).toInt ≤ 31)) (l := 4) (n := 15) (by decide +kernel) (q_lo1 h176) (q_hi2 h178))).2 (of_decide_eq_true (q_tbl1 (fun lin => decide (0 ≤ (lin - 4).toInt ∧ (lin - 4).toInt ≤ 31)) (l := 4) (n := 31) (by decide +kernel) (q_sub_lo 4 (q_lo1 h172) l0 l1) (q_sub_hi 35 (q_hi2 h174) (q_sub_lo 4 (q_lo1 h172) l0 l1) l1))).1 (of_decide_eq_true (q_tbl1 (fun lin => decide (0 ≤ (lin - 4).toInt ∧ (lin - 4).toInt ≤ 31)) (l := 4) (n := 31) (by decide +kernel) (q_sub_lo 4 (q_lo1 h172) l0 l1) (q_sub_hi 35 (q_hi2 h174) (q_sub_lo 4 (q_lo1 h172) l0 l1) l1))).2
              obtain ⟨x72, p72⟩ := q_m_draws x71 smp tr p left dn ins z y pd ((2 * col) - 7) (lin - 4) (of_decide_eq_true (q_tbl1 (fun col => decide (0 ≤ ((2 * col) - 7).toInt ∧ ((2 * col) - 7).toInt ≤ 31)) (l := 4) (n := 15) (by decide +kernel) (q_lo1 h176) (q_hi2 h178))).1 (of_decide_eq_true (q_tbl1 (fun col => decide (0 ≤ ((2 * col) - 7).toInt ∧ ((2 * col) - 7).toInt ≤ 31)) (l := 4) (n := 15) (by decide +kernel) (q_lo1 h176) (q_hi2 h178))).2 (of_decide_eq_true (q_tbl1 (fun lin => decide (0 ≤ (lin - 4).toInt ∧ (lin - 4).toInt ≤ 31)) (l := 4) (n := 31) (by decide +kernel) (q_sub_lo 4 (q_lo1 h172) l0 l1) (q_sub_hi 35 (q_hi2 h174) (q_sub_lo 4 (q_lo1 h172) l0 l1) l1))).1 (of_decide_eq_true (q_tbl1 (fun lin => decide (0 ≤ (lin - 4).toInt ∧ (lin - 4).toInt ≤ 31)) (l := 4) (n := 31) (by decide +kernel) (q_sub_lo 4 (q_lo1 h172) l0 l1) (q_sub_hi 35 (q_hi2 h174) (q_sub_lo 4 (q_lo1 h172) l0 l1) l1))).2
              refine ⟨x72, smp, ?_⟩
              refine q_Ca_of (Nat.le_of_ble_eq_true rfl) ?_
              refine q_Ru_seg (g2 := (4, [(0, .ref 64)], [.long y], (q_cM (q_mA pix smp tr (q_nb p left dn ins) (q_fb z)) q_IM (q_mJ y pd), 34, 31630))) 2 (fun _ _ => rfl) ?_
              refine q_Ru_seg (g2 := (9, [(0, .ref 64)], [.int ((y - y / 24 * 24).toInt32)], (q_cM (q_mA pix smp tr (q_nb p left dn ins) (q_fb z)) q_IM (q_mJ y pd), 34, 31630))) 3 (fun _ _ => rfl) ?_
              rw [hC]
              refine q_Ru_seg (g2 := (11, [(1, .int col), (0, .ref 64)], [.int col], (q_cM (q_mA pix smp tr (q_nb p left dn ins) (q_fb z)) q_IM (q_mJ y pd), 34, 31630))) 2 (fun _ _ => rfl) ?_
              refine q_Ru_rsF (g2 := (14, [(1, .int col), (0, .ref 64)], [], (q_cM (q_mA pix smp tr (q_nb p left dn ins) (q_fb z)) q_IM (q_mJ y pd), 34, 31630))) rfl rfl (q_d_neT h170) ?_
              refine q_Ru_seg (g2 := (15, [(1, .int col), (0, .ref 64)], [.ref 64], (q_cM (q_mA pix smp tr (q_nb p left dn ins) (q_fb z)) q_IM (q_mJ y pd), 34, 31630))) 1 (fun _ _ => rfl) ?_
              refine q_Ru_call (v := (some (.int lin))) (h2 := (q_cM (q_mA pix smp tr (q_nb p left dn ins) (q_fb z)) q_IM (q_mJ y pd), 34, 31630)) rfl rfl ?_ ?_
              · refine q_Ca_of (Nat.le_of_ble_eq_true rfl) ?_
                refine q_Ru_seg (g2 := (4, [(0, .ref 64)], [.long y], (q_cM (q_mA pix smp tr (q_nb p left dn ins) (q_fb z)) q_IM (q_mJ y pd), 34, 31630))) 2 (fun _ _ => rfl) ?_
                refine q_Ru_seg (g2 := (13, [(0, .ref 64)], [.int (((y / 24) - (y / 24) / 40 * 40).toInt32)], (q_cM (q_mA pix smp tr (q_nb p left dn ins) (q_fb z)) q_IM (q_mJ y pd), 34, 31630))) 5 (fun _ _ => rfl) ?_
                rw [hM]
                exact q_Ru_ret rfl rfl
              show q_Ru _ _ _ (18, [(1, .int col), (0, .ref 64)], [.int lin], (q_cM (q_mA pix smp tr (q_nb p left dn ins) (q_fb z)) q_IM (q_mJ y pd), 34, 31630)) _
              refine q_Ru_seg (g2 := (25, [(1, .int col), (0, .ref 64)], [.int 0, .int lin], (q_cM (q_mA pix smp tr (q_nb p left dn ins) (q_fb z)) q_IM (q_mJ y pd), 34, 31630))) 4 (fun _ _ => rfl) ?_
              refine q_Ru_rsF (g2 := (28, [(1, .int col), (0, .ref 64)], [], (q_cM (q_mA pix smp tr (q_nb p left dn ins) (q_fb z)) q_IM (q_mJ y pd), 34, 31630))) rfl rfl (q_d_neT h171) ?_
              refine q_Ru_seg (g2 := (36, [(1, .int col), (0, .ref 64)], [.int 1, .int 9, .ref 78], (q_cM (q_mA pix smp tr (q_nb p left dn ins) (q_fb z)) q_IM (q_mJ y pd), 34, 31630))) 5 (fun _ _ => rfl) ?_
              refine q_Ru_seg (g2 := (40, [(1, .int col), (0, .ref 64)], [.ref 64], (q_cM (q_uA (q_mA pix smp tr (q_nb p left dn ins) (q_fb z)) 14 (upd (q_nb p left dn ins) 9 1)) q_IM (q_mJ y pd), 34, 31630))) 4 (fun _ _ => rfl) ?_
              have hA : ∀ i, i < 34 → (q_uA (q_mA pix smp tr (q_nb p left dn ins) (q_fb z)) 14 (upd (q_nb p left dn ins) 9 1)) i = (q_mA pix smp tr (q_nb p left dn ins) (q_fb z)) i := by
                intro i hi
                match i, hi with
                | 0, _ => rfl
                | 1, _ => rfl
                | 2, _ => rfl
                | 3, _ => rfl
                | 4, _ => rfl
                | 5, _ => rfl
                | 6, _ => rfl
                | 7, _ => rfl
                | 8, _ => rfl
                | 9, _ => rfl
                | 10, _ => rfl
                | 11, _ => rfl
                | 12, _ => rfl
                | 13, _ => rfl
                | 14, _ => exact (show (upd (q_nb p left dn ins) 9 1) = (q_nb p left dn ins) by simp only [q_upd_upd, q_upd_z, q_nb_4, q_nb_17, q_nb_19, q_nb_20, q_nb_0, q_nb_9, q_nb_18, q_fb_4, q_fb_0])
                | 15, _ => rfl
                | 16, _ => rfl
                | 17, _ => rfl
                | 18, _ => rfl
                | 19, _ => rfl
                | 20, _ => rfl
                | 21, _ => rfl
                | 22, _ => rfl
                | 23, _ => rfl
                | 24, _ => rfl
                | 25, _ => rfl
                | 26, _ => rfl
                | 27, _ => rfl
                | 28, _ => rfl
                | 29, _ => rfl
                | 30, _ => rfl
                | 31, _ => rfl
                | 32, _ => rfl
                | 33, _ => rfl
                | i + 34, hi => exact absurd hi (by omega)
              rw [q_cM_A (I := q_IM) (J := (q_mJ y pd)) hA]
              refine q_Ru_call (v := (some (.int 1))) (h2 := (q_cM (q_mA pix smp tr (q_nb p left dn ins) (q_fb z)) q_IM (q_mJ y pd), 34, 31630)) rfl rfl ?_ ?_
              · exact (by have e := q_m_picX pix smp tr p left dn ins z y pd col lin p1 p2 hC hM c0 c1 l0 l1 a0 a1 b0 b1 hp0 hp1 hp2 i0 i1; rw [hpic] at e; exact e.le (Nat.le_of_ble_eq_true rfl))
              show q_Ru _ _ _ (43, [(1, .int col), (0, .ref 64)], [.int 1], (q_cM (q_mA pix smp tr (q_nb p left dn ins) (q_fb z)) q_IM (q_mJ y pd), 34, 31630)) _
              refine q_Ru_seg (g2 := (45, [(2, .int 1), (1, .int col), (0, .ref 64)], [.ref 64], (q_cM (q_mA pix smp tr (q_nb p left dn ins) (q_fb z)) q_IM (q_mJ y pd), 34, 31630))) 2 (fun _ _ => rfl) ?_
              refine q_Ru_call (v := (some (.int (lin - 4)))) (h2 := (q_cM (q_mA pix smp tr (q_nb p left dn ins) (q_fb z)) q_IM (q_mJ y pd), 34, 31630)) rfl rfl ?_ ?_
              · refine q_Ca_of (Nat.le_of_ble_eq_true rfl) ?_
                refine q_Ru_seg (g2 := (1, [(0, .ref 64)], [.ref 64], (q_cM (q_mA pix smp tr (q_nb p left dn ins) (q_fb z)) q_IM (q_mJ y pd), 34, 31630))) 1 (fun _ _ => rfl) ?_
                refine q_Ru_call (v := (some (.int lin))) (h2 := (q_cM (q_mA pix smp tr (q_nb p left dn ins) (q_fb z)) q_IM (q_mJ y pd), 34, 31630)) rfl rfl ?_ ?_
                · refine q_Ca_of (Nat.le_of_ble_eq_true rfl) ?_
                  refine q_Ru_seg (g2 := (4, [(0, .ref 64)], [.long y], (q_cM (q_mA pix smp tr (q_nb p left dn ins) (q_fb z)) q_IM (q_mJ y pd), 34, 31630))) 2 (fun _ _ => rfl) ?_
                  refine q_Ru_seg (g2 := (13, [(0, .ref 64)], [.int (((y / 24) - (y / 24) / 40 * 40).toInt32)], (q_cM (q_mA pix smp tr (q_nb p left dn ins) (q_fb z)) q_IM (q_mJ y pd), 34, 31630))) 5 (fun _ _ => rfl) ?_
                  rw [hM]
                  exact q_Ru_ret rfl rfl
                show q_Ru _ _ _ (4, [(0, .ref 64)], [.int lin], (q_cM (q_mA pix smp tr (q_nb p left dn ins) (q_fb z)) q_IM (q_mJ y pd), 34, 31630)) _
                refine q_Ru_seg (g2 := (6, [(0, .ref 64)], [.int (lin - 4)], (q_cM (q_mA pix smp tr (q_nb p left dn ins) (q_fb z)) q_IM (q_mJ y pd), 34, 31630))) 2 (fun _ _ => rfl) ?_
                exact q_Ru_ret rfl rfl
              show q_Ru _ _ _ (48, [(2, .int 1), (1, .int col), (0, .ref 64)], [.int (lin - 4)], (q_cM (q_mA pix smp tr (q_nb p left dn ins) (q_fb z)) q_IM (q_mJ y pd), 34, 31630)) _
              refine q_Ru_seg (g2 := (53, [(3, .int (lin - 4)), (2, .int 1), (1, .int col), (0, .ref 64)], [.int 31, .int 0, .int (lin - 4)], (q_cM (q_mA pix smp tr (q_nb p left dn ins) (q_fb z)) q_IM (q_mJ y pd), 34, 31630))) 4 (fun _ _ => rfl) ?_
              refine q_Ru_call (v := (some (.int 1))) (h2 := (q_cM (q_mA pix smp tr (q_nb p left dn ins) (q_fb z)) q_IM (q_mJ y pd), 34, 31630)) rfl rfl ?_ ?_
              · refine q_Ca_of (Nat.le_of_ble_eq_true rfl) ?_
                refine q_Ru_seg (g2 := (2, [(0, .int (lin - 4)), (1, .int 0), (2, .int 31)], [.int 0, .int (lin - 4)], (q_cM (q_mA pix smp tr (q_nb p left dn ins) (q_fb z)) q_IM (q_mJ y pd), 34, 31630))) 2 (fun _ _ => rfl) ?_
                refine q_Ru_rsF (g2 := (5, [(0, .int (lin - 4)), (1, .int 0), (2, .int 31)], [], (q_cM (q_mA pix smp tr (q_nb p left dn ins) (q_fb z)) q_IM (q_mJ y pd), 34, 31630))) rfl rfl h172 ?_
                refine q_Ru_seg (g2 := (7, [(0, .int (lin - 4)), (1, .int 0), (2, .int 31)], [.int 31, .int (lin - 4)], (q_cM (q_mA pix smp tr (q_nb p left dn ins) (q_fb z)) q_IM (q_mJ y pd), 34, 31630))) 2 (fun _ _ => rfl) ?_
                refine q_Ru_rsF (g2 := (10, [(0, .int (lin - 4)), (1, .int 0), (2, .int 31)], [], (q_cM (q_mA pix smp tr (q_nb p left dn ins) (q_fb z)) q_IM (q_mJ y pd), 34, 31630))) rfl rfl h174 ?_
                refine q_Ru_seg (g2 := (15, [(0, .int (lin - 4)), (1, .int 0), (2, .int 31)], [.int 1], (q_cM (q_mA pix smp tr (q_nb p left dn ins) (q_fb z)) q_IM (q_mJ y pd), 34, 31630))) 2 (fun _ _ => rfl) ?_
                exact q_Ru_ret rfl rfl
              show q_Ru _ _ _ (56, [(3, .int (lin - 4)), (2, .int 1), (1, .int col), (0, .ref 64)], [.int 1], (q_cM (q_mA pix smp tr (q_nb p left dn ins) (q_fb z)) q_IM (q_mJ y pd), 34, 31630)) _
              refine q_Ru_seg (g2 := (63, [(3, .int (lin - 4)), (2, .int 1), (1, .int col), (0, .ref 64)], [.int 19, .int 4, .int col], (q_cM (q_mA pix smp tr (q_nb p left dn ins) (q_fb z)) q_IM (q_mJ y pd), 34, 31630))) 4 (fun _ _ => rfl) ?_
              refine q_Ru_call (v := (some (.int 1))) (h2 := (q_cM (q_mA pix smp tr (q_nb p left dn ins) (q_fb z)) q_IM (q_mJ y pd), 34, 31630)) rfl rfl ?_ ?_
              · refine q_Ca_of (Nat.le_of_ble_eq_true rfl) ?_
                refine q_Ru_seg (g2 := (2, [(0, .int col), (1, .int 4), (2, .int 19)], [.int 4, .int col], (q_cM (q_mA pix smp tr (q_nb p left dn ins) (q_fb z)) q_IM (q_mJ y pd), 34, 31630))) 2 (fun _ _ => rfl) ?_
                refine q_Ru_rsF (g2 := (5, [(0, .int col), (1, .int 4), (2, .int 19)], [], (q_cM (q_mA pix smp tr (q_nb p left dn ins) (q_fb z)) q_IM (q_mJ y pd), 34, 31630))) rfl rfl h176 ?_
                refine q_Ru_seg (g2 := (7, [(0, .int col), (1, .int 4), (2, .int 19)], [.int 19, .int col], (q_cM (q_mA pix smp tr (q_nb p left dn ins) (q_fb z)) q_IM (q_mJ y pd), 34, 31630))) 2 (fun _ _ => rfl) ?_
                refine q_Ru_rsF (g2 := (10, [(0, .int col), (1, .int 4), (2, .int 19)], [], (q_cM (q_mA pix smp tr (q_nb p left dn ins) (q_fb z)) q_IM (q_mJ y pd), 34, 31630))) rfl rfl h178 ?_
                refine q_Ru_seg (g2 := (15, [(0, .int col), (1, .int 4), (2, .int 19)], [.int 1], (q_cM (q_mA pix smp tr (q_nb p left dn ins) (q_fb z)) q_IM (q_mJ y pd), 34, 31630))) 2 (fun _ _ => rfl) ?_
                exact q_Ru_ret rfl rfl
              show q_Ru _ _ _ (66, [(3, .int (lin - 4)), (2, .int 1), (1, .int col), (0, .ref 64)], [.int 1], (q_cM (q_mA pix smp tr (q_nb p left dn ins) (q_fb z)) q_IM (q_mJ y pd), 34, 31630)) _
              refine q_Ru_seg (g2 := (77, [(3, .int (lin - 4)), (2, .int 1), (1, .int col), (0, .ref 64)], [.int (lin - 4), .int ((2 * col) - 8), .ref 64], (q_cM (q_mA pix smp tr (q_nb p left dn ins) (q_fb z)) q_IM (q_mJ y pd), 34, 31630))) 8 (fun _ _ => rfl) ?_
              refine q_Ru_call (v := none) (h2 := (q_cM (q_mA x71 smp tr (q_nb p left dn ins) (q_fb z)) q_IM (q_mJ y pd), 34, 31630)) rfl rfl ?_ ?_
              · exact p71.le (Nat.le_of_ble_eq_true rfl)
              show q_Ru _ _ _ (80, [(3, .int (lin - 4)), (2, .int 1), (1, .int col), (0, .ref 64)], [], (q_cM (q_mA x71 smp tr (q_nb p left dn ins) (q_fb z)) q_IM (q_mJ y pd), 34, 31630)) _
              refine q_Ru_seg (g2 := (88, [(3, .int (lin - 4)), (2, .int 1), (1, .int col), (0, .ref 64)], [.int (lin - 4), .int ((2 * col) - 7), .ref 64], (q_cM (q_mA x71 smp tr (q_nb p left dn ins) (q_fb z)) q_IM (q_mJ y pd), 34, 31630))) 7 (fun _ _ => rfl) ?_
              refine q_Ru_call (v := none) (h2 := (q_cM (q_mA x72 smp tr (q_nb p left dn ins) (q_fb z)) q_IM (q_mJ y pd), 34, 31630)) rfl rfl ?_ ?_
              · exact p72.le (Nat.le_of_ble_eq_true rfl)
              show q_Ru _ _ _ (91, [(3, .int (lin - 4)), (2, .int 1), (1, .int col), (0, .ref 64)], [], (q_cM (q_mA x72 smp tr (q_nb p left dn ins) (q_fb z)) q_IM (q_mJ y pd), 34, 31630)) _
              refine q_Ru_seg (g2 := (92, [(3, .int (lin - 4)), (2, .int 1), (1, .int col), (0, .ref 64)], [.ref 64], (q_cM (q_mA x72 smp tr (q_nb p left dn ins) (q_fb z)) q_IM (q_mJ y pd), 34, 31630))) 1 (fun _ _ => rfl) ?_
              refine q_Ru_call (v := none) (h2 := (q_cM (q_mA x72 smp tr (q_nb p left dn ins) (q_fb z)) q_IM (q_mJ y pd), 34, 31630)) rfl rfl ?_ ?_
              · exact (q_m_times x72 smp tr p left dn ins z y pd col lin p1 p2 hC hM c0 c1 l0 l1 a0 a1 b0 b1 hp0 hp1 hp2 i0 i1  ).le (Nat.le_of_ble_eq_true rfl)
              show q_Ru _ _ _ (95, [(3, .int (lin - 4)), (2, .int 1), (1, .int col), (0, .ref 64)], [], (q_cM (q_mA x72 smp tr (q_nb p left dn ins) (q_fb z)) q_IM (q_mJ y pd), 34, 31630)) _
              refine q_Ru_seg (g2 := (96, [(3, .int (lin - 4)), (2, .int 1), (1, .int col), (0, .ref 64)], [.ref 64], (q_cM (q_mA x72 smp tr (q_nb p left dn ins) (q_fb z)) q_IM (q_mJ y pd), 34, 31630))) 1 (fun _ _ => rfl) ?_
              refine q_Ru_call (v := none) (h2 := (q_cM (q_mA x72 smp tr (q_nb p left dn ins) (q_fb z)) q_IM (q_mJ y pd), 34, 31630)) rfl rfl ?_ ?_
              · exact (q_m_winds x72 smp tr p left dn ins z y pd col lin p1 p2 hC hM c0 c1 l0 l1 a0 a1 b0 b1 hp0 hp1 hp2 i0 i1  ).le (Nat.le_of_ble_eq_true rfl)
              show q_Ru _ _ _ (99, [(3, .int (lin - 4)), (2, .int 1), (1, .int col), (0, .ref 64)], [], (q_cM (q_mA x72 smp tr (q_nb p left dn ins) (q_fb z)) q_IM (q_mJ y pd), 34, 31630)) _
              refine q_Ru_seg (g2 := (102, [(3, .int (lin - 4)), (2, .int 1), (1, .int col), (0, .ref 64)], [.int 23, .int col], (q_cM (q_mA x72 smp tr (q_nb p left dn ins) (q_fb z)) q_IM (q_mJ y pd), 34, 31630))) 2 (fun _ _ => rfl) ?_
              refine q_Ru_rsT (g2 := (109, [(3, .int (lin - 4)), (2, .int 1), (1, .int col), (0, .ref 64)], [], (q_cM (q_mA x72 smp tr (q_nb p left dn ins) (q_fb z)) q_IM (q_mJ y pd), 34, 31630))) rfl rfl (q_d_neF h180) ?_
              refine q_Ru_seg (g2 := (122, [(3, .int (lin - 4)), (2, .int 1), (1, .int col), (0, .ref 64)], [.long pd, .ref 64], (q_cM (q_mA x72 smp tr (q_nb p left dn ins) (q_fb z)) q_IM (q_mJ y pd), 34, 31630))) 5 (fun _ _ => rfl) ?_
              refine q_Ru_seg (g2 := (140, [(3, .int (lin - 4)), (2, .int 1), (1, .int col), (0, .ref 64)], [.long y, .ref 64], (q_cM (q_mA x72 smp tr (q_nb p left dn ins) (q_fb z)) q_IM (q_uI (q_mJ y pd) 0 16 (pd + 1)), 34, 31630))) 9 (fun _ _ => rfl) ?_
              refine q_Ru_seg (g2 := (146, [(3, .int (lin - 4)), (2, .int 1), (1, .int col), (0, .ref 64)], [.int 1], (q_cM (q_mA x72 smp tr (q_nb p left dn ins) (q_fb z)) q_IM (q_uI (q_uI (q_mJ y pd) 0 16 (pd + 1)) 0 15 (y + 1)), 34, 31630))) 4 (fun _ _ => rfl) ?_
              exact q_Ru_ret rfl rfl
    | false =>
      cases h181 : decide (lin - 4 < 0) with
      | true =>
        cases h182 : decide (col = 23) with
        | true =>
          have eh182 := of_decide_eq_true h182
          subst eh182
          obtain ⟨z79a, p79⟩ := q_m_sample pix smp tr p left dn ins z y pd col lin p1 p2 hC hM c0 c1 l0 l1 a0 a1 b0 b1 hp0 hp1 hp2 i0 i1  
          refine ⟨pix, z79a, ?_⟩
          refine q_Ca_of (Nat.le_of_ble_eq_true rfl) ?_
          refine q_Ru_seg (g2 := (4, [(0, .ref 64)], [.long y], (q_cM (q_mA pix smp tr (q_nb p left dn ins) (q_fb z)) q_IM (q_mJ y pd), 34, 31630))) 2 (fun _ _ => rfl) ?_
          refine q_Ru_seg (g2 := (9, [(0, .ref 64)], [.int ((y - y / 24 * 24).toInt32)], (q_cM (q_mA pix smp tr (q_nb p left dn ins) (q_fb z)) q_IM (q_mJ y pd), 34, 31630))) 3 (fun _ _ => rfl) ?_
          rw [hC]
          refine q_Ru_seg (g2 := (11, [(1, .int col), (0, .ref 64)], [.int col], (q_cM (q_mA pix smp tr (q_nb p left dn ins) (q_fb z)) q_IM (q_mJ y pd), 34, 31630))) 2 (fun _ _ => rfl) ?_
          refine q_Ru_rsF (g2 := (14, [(1, .int col), (0, .ref 64)], [], (q_cM (q_mA pix smp tr (q_nb p left dn ins) (q_fb z)) q_IM (q_mJ y pd), 34, 31630))) rfl rfl (q_d_neT h170) ?_
          refine q_Ru_seg (g2 := (15, [(1, .int col), (0, .ref 64)], [.ref 64], (q_cM (q_mA pix smp tr (q_nb p left dn ins) (q_fb z)) q_IM (q_mJ y pd), 34, 31630))) 1 (fun _ _ => rfl) ?_
          refine q_Ru_call (v := (some (.int lin))) (h2 := (q_cM (q_mA pix smp tr (q_nb p left dn ins) (q_fb z)) q_IM (q_mJ y pd), 34, 31630)) rfl rfl ?_ ?_
          · refine q_Ca_of (Nat.le_of_ble_eq_true rfl) ?_
            refine q_Ru_seg (g2 := (4, [(0, .ref 64)], [.long y], (q_cM (q_mA pix smp tr (q_nb p left dn ins) (q_fb z)) q_IM (q_mJ y pd), 34, 31630))) 2 (fun _ _ => rfl) ?_
            refine q_Ru_seg (g2 := (13, [(0, .ref 64)], [.int (((y / 24) - (y / 24) / 40 * 40).toInt32)], (q_cM (q_mA pix smp tr (q_nb p left dn ins) (q_fb z)) q_IM (q_mJ y pd), 34, 31630))) 5 (fun _ _ => rfl) ?_
            rw [hM]
            exact q_Ru_ret rfl rfl
          show q_Ru _ _ _ (18, [(1, .int col), (0, .ref 64)], [.int lin], (q_cM (q_mA pix smp tr (q_nb p left dn ins) (q_fb z)) q_IM (q_mJ y pd), 34, 31630)) _
          refine q_Ru_seg (g2 := (25, [(1, .int col), (0, .ref 64)], [.int 0, .int lin], (q_cM (q_mA pix smp tr (q_nb p left dn ins) (q_fb z)) q_IM (q_mJ y pd), 34, 31630))) 4 (fun _ _ => rfl) ?_
          refine q_Ru_rsT (g2 := (39, [(1, .int col), (0, .ref 64)], [], (q_cM (q_mA pix smp tr (q_nb p left dn ins) (q_fb z)) q_IM (q_mJ y pd), 34, 31630))) rfl rfl (q_d_neF h171) ?_
          refine q_Ru_seg (g2 := (40, [(1, .int col), (0, .ref 64)], [.ref 64], (q_cM (q_mA pix smp tr (q_nb p left dn ins) (q_fb z)) q_IM (q_mJ y pd), 34, 31630))) 1 (fun _ _ => rfl) ?_
          refine q_Ru_call (v := (some (.int 1))) (h2 := (q_cM (q_mA pix smp tr (q_nb p left dn ins) (q_fb z)) q_IM (q_mJ y pd), 34, 31630)) rfl rfl ?_ ?_
          · exact (by have e := q_m_picX pix smp tr p left dn ins z y pd col lin p1 p2 hC hM c0 c1 l0 l1 a0 a1 b0 b1 hp0 hp1 hp2 i0 i1; rw [hpic] at e; exact e.le (Nat.le_of_ble_eq_true rfl))
          show q_Ru _ _ _ (43, [(1, .int col), (0, .ref 64)], [.int 1], (q_cM (q_mA pix smp tr (q_nb p left dn ins) (q_fb z)) q_IM (q_mJ y pd), 34, 31630)) _
          refine q_Ru_seg (g2 := (45, [(2, .int 1), (1, .int col), (0, .ref 64)], [.ref 64], (q_cM (q_mA pix smp tr (q_nb p left dn ins) (q_fb z)) q_IM (q_mJ y pd), 34, 31630))) 2 (fun _ _ => rfl) ?_
          refine q_Ru_call (v := (some (.int (lin - 4)))) (h2 := (q_cM (q_mA pix smp tr (q_nb p left dn ins) (q_fb z)) q_IM (q_mJ y pd), 34, 31630)) rfl rfl ?_ ?_
          · refine q_Ca_of (Nat.le_of_ble_eq_true rfl) ?_
            refine q_Ru_seg (g2 := (1, [(0, .ref 64)], [.ref 64], (q_cM (q_mA pix smp tr (q_nb p left dn ins) (q_fb z)) q_IM (q_mJ y pd), 34, 31630))) 1 (fun _ _ => rfl) ?_
            refine q_Ru_call (v := (some (.int lin))) (h2 := (q_cM (q_mA pix smp tr (q_nb p left dn ins) (q_fb z)) q_IM (q_mJ y pd), 34, 31630)) rfl rfl ?_ ?_
            · refine q_Ca_of (Nat.le_of_ble_eq_true rfl) ?_
              refine q_Ru_seg (g2 := (4, [(0, .ref 64)], [.long y], (q_cM (q_mA pix smp tr (q_nb p left dn ins) (q_fb z)) q_IM (q_mJ y pd), 34, 31630))) 2 (fun _ _ => rfl) ?_
              refine q_Ru_seg (g2 := (13, [(0, .ref 64)], [.int (((y / 24) - (y / 24) / 40 * 40).toInt32)], (q_cM (q_mA pix smp tr (q_nb p left dn ins) (q_fb z)) q_IM (q_mJ y pd), 34, 31630))) 5 (fun _ _ => rfl) ?_
              rw [hM]
              exact q_Ru_ret rfl rfl
            show q_Ru _ _ _ (4, [(0, .ref 64)], [.int lin], (q_cM (q_mA pix smp tr (q_nb p left dn ins) (q_fb z)) q_IM (q_mJ y pd), 34, 31630)) _
            refine q_Ru_seg (g2 := (6, [(0, .ref 64)], [.int (lin - 4)], (q_cM (q_mA pix smp tr (q_nb p left dn ins) (q_fb z)) q_IM (q_mJ y pd), 34, 31630))) 2 (fun _ _ => rfl) ?_
            exact q_Ru_ret rfl rfl
          show q_Ru _ _ _ (48, [(2, .int 1), (1, .int col), (0, .ref 64)], [.int (lin - 4)], (q_cM (q_mA pix smp tr (q_nb p left dn ins) (q_fb z)) q_IM (q_mJ y pd), 34, 31630)) _
          refine q_Ru_seg (g2 := (53, [(3, .int (lin - 4)), (2, .int 1), (1, .int col), (0, .ref 64)], [.int 31, .int 0, .int (lin - 4)], (q_cM (q_mA pix smp tr (q_nb p left dn ins) (q_fb z)) q_IM (q_mJ y pd), 34, 31630))) 4 (fun _ _ => rfl) ?_
          refine q_Ru_call (v := (some (.int 0))) (h2 := (q_cM (q_mA pix smp tr (q_nb p left dn ins) (q_fb z)) q_IM (q_mJ y pd), 34, 31630)) rfl rfl ?_ ?_
          · refine q_Ca_of (Nat.le_of_ble_eq_true rfl) ?_
            refine q_Ru_seg (g2 := (2, [(0, .int (lin - 4)), (1, .int 0), (2, .int 31)], [.int 0, .int (lin - 4)], (q_cM (q_mA pix smp tr (q_nb p left dn ins) (q_fb z)) q_IM (q_mJ y pd), 34, 31630))) 2 (fun _ _ => rfl) ?_
            refine q_Ru_rsT (g2 := (14, [(0, .int (lin - 4)), (1, .int 0), (2, .int 31)], [], (q_cM (q_mA pix smp tr (q_nb p left dn ins) (q_fb z)) q_IM (q_mJ y pd), 34, 31630))) rfl rfl h181 ?_
            refine q_Ru_seg (g2 := (15, [(0, .int (lin - 4)), (1, .int 0), (2, .int 31)], [.int 0], (q_cM (q_mA pix smp tr (q_nb p left dn ins) (q_fb z)) q_IM (q_mJ y pd), 34, 31630))) 1 (fun _ _ => rfl) ?_
            exact q_Ru_ret rfl rfl
          show q_Ru _ _ _ (56, [(3, .int (lin - 4)), (2, .int 1), (1, .int col), (0, .ref 64)], [.int 0], (q_cM (q_mA pix smp tr (q_nb p left dn ins) (q_fb z)) q_IM (q_mJ y pd), 34, 31630)) _
          refine q_Ru_seg (g2 := (92, [(3, .int (lin - 4)), (2, .int 1), (1, .int col), (0, .ref 64)], [.ref 64], (q_cM (q_mA pix smp tr (q_nb p left dn ins) (q_fb z)) q_IM (q_mJ y pd), 34, 31630))) 2 (fun _ _ => rfl) ?_
          refine q_Ru_call (v := none) (h2 := (q_cM (q_mA pix smp tr (q_nb p left dn ins) (q_fb z)) q_IM (q_mJ y pd), 34, 31630)) rfl rfl ?_ ?_
          · exact (q_m_times pix smp tr p left dn ins z y pd col lin p1 p2 hC hM c0 c1 l0 l1 a0 a1 b0 b1 hp0 hp1 hp2 i0 i1  ).le (Nat.le_of_ble_eq_true rfl)
          show q_Ru _ _ _ (95, [(3, .int (lin - 4)), (2, .int 1), (1, .int col), (0, .ref 64)], [], (q_cM (q_mA pix smp tr (q_nb p left dn ins) (q_fb z)) q_IM (q_mJ y pd), 34, 31630)) _
          refine q_Ru_seg (g2 := (96, [(3, .int (lin - 4)), (2, .int 1), (1, .int col), (0, .ref 64)], [.ref 64], (q_cM (q_mA pix smp tr (q_nb p left dn ins) (q_fb z)) q_IM (q_mJ y pd), 34, 31630))) 1 (fun _ _ => rfl) ?_
          refine q_Ru_call (v := none) (h2 := (q_cM (q_mA pix smp tr (q_nb p left dn ins) (q_fb z)) q_IM (q_mJ y pd), 34, 31630)) rfl rfl ?_ ?_
          · exact (q_m_winds pix smp tr p left dn ins z y pd col lin p1 p2 hC hM c0 c1 l0 l1 a0 a1 b0 b1 hp0 hp1 hp2 i0 i1  ).le (Nat.le_of_ble_eq_true rfl)
          show q_Ru _ _ _ (99, [(3, .int (lin - 4)), (2, .int 1), (1, .int col), (0, .ref 64)], [], (q_cM (q_mA pix smp tr (q_nb p left dn ins) (q_fb z)) q_IM (q_mJ y pd), 34, 31630)) _
          refine q_Ru_seg (g2 := (102, [(3, .int (lin - 4)), (2, .int 1), (1, .int col), (0, .ref 64)], [.int 23, .int col], (q_cM (q_mA pix smp tr (q_nb p left dn ins) (q_fb z)) q_IM (q_mJ y pd), 34, 31630))) 2 (fun _ _ => rfl) ?_
          refine q_Ru_rsF (g2 := (105, [(3, .int (lin - 4)), (2, .int 1), (1, .int col), (0, .ref 64)], [], (q_cM (q_mA pix smp tr (q_nb p left dn ins) (q_fb z)) q_IM (q_mJ y pd), 34, 31630))) rfl rfl (q_d_neT h182) ?_
          refine q_Ru_seg (g2 := (106, [(3, .int (lin - 4)), (2, .int 1), (1, .int col), (0, .ref 64)], [.ref 64], (q_cM (q_mA pix smp tr (q_nb p left dn ins) (q_fb z)) q_IM (q_mJ y pd), 34, 31630))) 1 (fun _ _ => rfl) ?_
          refine q_Ru_call (v := none) (h2 := (q_cM (q_mA pix z79a tr (q_nb p left dn ins) (q_fb z)) q_IM (q_mJ y pd), 34, 31630)) rfl rfl ?_ ?_
          · exact p79.le (Nat.le_of_ble_eq_true rfl)
          show q_Ru _ _ _ (109, [(3, .int (lin - 4)), (2, .int 1), (1, .int col), (0, .ref 64)], [], (q_cM (q_mA pix z79a tr (q_nb p left dn ins) (q_fb z)) q_IM (q_mJ y pd), 34, 31630)) _
          refine q_Ru_seg (g2 := (122, [(3, .int (lin - 4)), (2, .int 1), (1, .int col), (0, .ref 64)], [.long pd, .ref 64], (q_cM (q_mA pix z79a tr (q_nb p left dn ins) (q_fb z)) q_IM (q_mJ y pd), 34, 31630))) 5 (fun _ _ => rfl) ?_
          refine q_Ru_seg (g2 := (140, [(3, .int (lin - 4)), (2, .int 1), (1, .int col), (0, .ref 64)], [.long y, .ref 64], (q_cM (q_mA pix z79a tr (q_nb p left dn ins) (q_fb z)) q_IM (q_uI (q_mJ y pd) 0 16 (pd + 1)), 34, 31630))) 9 (fun _ _ => rfl) ?_
          refine q_Ru_seg (g2 := (146, [(3, .int (lin - 4)), (2, .int 1), (1, .int col), (0, .ref 64)], [.int 1], (q_cM (q_mA pix z79a tr (q_nb p left dn ins) (q_fb z)) q_IM (q_uI (q_uI (q_mJ y pd) 0 16 (pd + 1)) 0 15 (y + 1)), 34, 31630))) 4 (fun _ _ => rfl) ?_
          exact q_Ru_ret rfl rfl
        | false =>
          refine ⟨pix, smp, ?_⟩
          refine q_Ca_of (Nat.le_of_ble_eq_true rfl) ?_
          refine q_Ru_seg (g2 := (4, [(0, .ref 64)], [.long y], (q_cM (q_mA pix smp tr (q_nb p left dn ins) (q_fb z)) q_IM (q_mJ y pd), 34, 31630))) 2 (fun _ _ => rfl) ?_
          refine q_Ru_seg (g2 := (9, [(0, .ref 64)], [.int ((y - y / 24 * 24).toInt32)], (q_cM (q_mA pix smp tr (q_nb p left dn ins) (q_fb z)) q_IM (q_mJ y pd), 34, 31630))) 3 (fun _ _ => rfl) ?_
          rw [hC]
          refine q_Ru_seg (g2 := (11, [(1, .int col), (0, .ref 64)], [.int col], (q_cM (q_mA pix smp tr (q_nb p left dn ins) (q_fb z)) q_IM (q_mJ y pd), 34, 31630))) 2 (fun _ _ => rfl) ?_
          refine q_Ru_rsF (g2 := (14, [(1, .int col), (0, .ref 64)], [], (q_cM (q_mA pix smp tr (q_nb p left dn ins) (q_fb z)) q_IM (q_mJ y pd), 34, 31630))) rfl rfl (q_d_neT h170) ?_
          refine q_Ru_seg (g2 := (15, [(1, .int col), (0, .ref 64)], [.ref 64], (q_cM (q_mA pix smp tr (q_nb p left dn ins) (q_fb z)) q_IM (q_mJ y pd), 34, 31630))) 1 (fun _ _ => rfl) ?_
          refine q_Ru_call (v := (some (.int lin))) (h2 := (q_cM (q_mA pix smp tr (q_nb p left dn ins) (q_fb z)) q_IM (q_mJ y pd), 34, 31630)) rfl rfl ?_ ?_
          · refine q_Ca_of (Nat.le_of_ble_eq_true rfl) ?_
            refine q_Ru_seg (g2 := (4, [(0, .ref 64)], [.long y], (q_cM (q_mA pix smp tr (q_nb p left dn ins) (q_fb z)) q_IM (q_mJ y pd), 34, 31630))) 2 (fun _ _ => rfl) ?_
            refine q_Ru_seg (g2 := (13, [(0, .ref 64)], [.int (((y / 24) - (y / 24) / 40 * 40).toInt32)], (q_cM (q_mA pix smp tr (q_nb p left dn ins) (q_fb z)) q_IM (q_mJ y pd), 34, 31630))) 5 (fun _ _ => rfl) ?_
            rw [hM]
            exact q_Ru_ret rfl rfl
          show q_Ru _ _ _ (18, [(1, .int col), (0, .ref 64)], [.int lin], (q_cM (q_mA pix smp tr (q_nb p left dn ins) (q_fb z)) q_IM (q_mJ y pd), 34, 31630)) _
          refine q_Ru_seg (g2 := (25, [(1, .int col), (0, .ref 64)], [.int 0, .int lin], (q_cM (q_mA pix smp tr (q_nb p left dn ins) (q_fb z)) q_IM (q_mJ y pd), 34, 31630))) 4 (fun _ _ => rfl) ?_
          refine q_Ru_rsT (g2 := (39, [(1, .int col), (0, .ref 64)], [], (q_cM (q_mA pix smp tr (q_nb p left dn ins) (q_fb z)) q_IM (q_mJ y pd), 34, 31630))) rfl rfl (q_d_neF h171) ?_
          refine q_Ru_seg (g2 := (40, [(1, .int col), (0, .ref 64)], [.ref 64], (q_cM (q_mA pix smp tr (q_nb p left dn ins) (q_fb z)) q_IM (q_mJ y pd), 34, 31630))) 1 (fun _ _ => rfl) ?_
          refine q_Ru_call (v := (some (.int 1))) (h2 := (q_cM (q_mA pix smp tr (q_nb p left dn ins) (q_fb z)) q_IM (q_mJ y pd), 34, 31630)) rfl rfl ?_ ?_
          · exact (by have e := q_m_picX pix smp tr p left dn ins z y pd col lin p1 p2 hC hM c0 c1 l0 l1 a0 a1 b0 b1 hp0 hp1 hp2 i0 i1; rw [hpic] at e; exact e.le (Nat.le_of_ble_eq_true rfl))
          show q_Ru _ _ _ (43, [(1, .int col), (0, .ref 64)], [.int 1], (q_cM (q_mA pix smp tr (q_nb p left dn ins) (q_fb z)) q_IM (q_mJ y pd), 34, 31630)) _
          refine q_Ru_seg (g2 := (45, [(2, .int 1), (1, .int col), (0, .ref 64)], [.ref 64], (q_cM (q_mA pix smp tr (q_nb p left dn ins) (q_fb z)) q_IM (q_mJ y pd), 34, 31630))) 2 (fun _ _ => rfl) ?_
          refine q_Ru_call (v := (some (.int (lin - 4)))) (h2 := (q_cM (q_mA pix smp tr (q_nb p left dn ins) (q_fb z)) q_IM (q_mJ y pd), 34, 31630)) rfl rfl ?_ ?_
          · refine q_Ca_of (Nat.le_of_ble_eq_true rfl) ?_
            refine q_Ru_seg (g2 := (1, [(0, .ref 64)], [.ref 64], (q_cM (q_mA pix smp tr (q_nb p left dn ins) (q_fb z)) q_IM (q_mJ y pd), 34, 31630))) 1 (fun _ _ => rfl) ?_
            refine q_Ru_call (v := (some (.int lin))) (h2 := (q_cM (q_mA pix smp tr (q_nb p left dn ins) (q_fb z)) q_IM (q_mJ y pd), 34, 31630)) rfl rfl ?_ ?_
            · refine q_Ca_of (Nat.le_of_ble_eq_true rfl) ?_
              refine q_Ru_seg (g2 := (4, [(0, .ref 64)], [.long y], (q_cM (q_mA pix smp tr (q_nb p left dn ins) (q_fb z)) q_IM (q_mJ y pd), 34, 31630))) 2 (fun _ _ => rfl) ?_
              refine q_Ru_seg (g2 := (13, [(0, .ref 64)], [.int (((y / 24) - (y / 24) / 40 * 40).toInt32)], (q_cM (q_mA pix smp tr (q_nb p left dn ins) (q_fb z)) q_IM (q_mJ y pd), 34, 31630))) 5 (fun _ _ => rfl) ?_
              rw [hM]
              exact q_Ru_ret rfl rfl
            show q_Ru _ _ _ (4, [(0, .ref 64)], [.int lin], (q_cM (q_mA pix smp tr (q_nb p left dn ins) (q_fb z)) q_IM (q_mJ y pd), 34, 31630)) _
            refine q_Ru_seg (g2 := (6, [(0, .ref 64)], [.int (lin - 4)], (q_cM (q_mA pix smp tr (q_nb p left dn ins) (q_fb z)) q_IM (q_mJ y pd), 34, 31630))) 2 (fun _ _ => rfl) ?_
            exact q_Ru_ret rfl rfl
          show q_Ru _ _ _ (48, [(2, .int 1), (1, .int col), (0, .ref 64)], [.int (lin - 4)], (q_cM (q_mA pix smp tr (q_nb p left dn ins) (q_fb z)) q_IM (q_mJ y pd), 34, 31630)) _
          refine q_Ru_seg (g2 := (53, [(3, .int (lin - 4)), (2, .int 1), (1, .int col), (0, .ref 64)], [.int 31, .int 0, .int (lin - 4)], (q_cM (q_mA pix smp tr (q_nb p left dn ins) (q_fb z)) q_IM (q_mJ y pd), 34, 31630))) 4 (fun _ _ => rfl) ?_
          refine q_Ru_call (v := (some (.int 0))) (h2 := (q_cM (q_mA pix smp tr (q_nb p left dn ins) (q_fb z)) q_IM (q_mJ y pd), 34, 31630)) rfl rfl ?_ ?_
          · refine q_Ca_of (Nat.le_of_ble_eq_true rfl) ?_
            refine q_Ru_seg (g2 := (2, [(0, .int (lin - 4)), (1, .int 0), (2, .int 31)], [.int 0, .int (lin - 4)], (q_cM (q_mA pix smp tr (q_nb p left dn ins) (q_fb z)) q_IM (q_mJ y pd), 34, 31630))) 2 (fun _ _ => rfl) ?_
            refine q_Ru_rsT (g2 := (14, [(0, .int (lin - 4)), (1, .int 0), (2, .int 31)], [], (q_cM (q_mA pix smp tr (q_nb p left dn ins) (q_fb z)) q_IM (q_mJ y pd), 34, 31630))) rfl rfl h181 ?_
            refine q_Ru_seg (g2 := (15, [(0, .int (lin - 4)), (1, .int 0), (2, .int 31)], [.int 0], (q_cM (q_mA pix smp tr (q_nb p left dn ins) (q_fb z)) q_IM (q_mJ y pd), 34, 31630))) 1 (fun _ _ => rfl) ?_
            exact q_Ru_ret rfl rfl
          show q_Ru _ _ _ (56, [(3, .int (lin - 4)), (2, .int 1), (1, .int col), (0, .ref 64)], [.int 0], (q_cM (q_mA pix smp tr (q_nb p left dn ins) (q_fb z)) q_IM (q_mJ y pd), 34, 31630)) _
          refine q_Ru_seg (g2 := (92, [(3, .int (lin - 4)), (2, .int 1), (1, .int col), (0, .ref 64)], [.ref 64], (q_cM (q_mA pix smp tr (q_nb p left dn ins) (q_fb z)) q_IM (q_mJ y pd), 34, 31630))) 2 (fun _ _ => rfl) ?_
          refine q_Ru_call (v := none) (h2 := (q_cM (q_mA pix smp tr (q_nb p left dn ins) (q_fb z)) q_IM (q_mJ y pd), 34, 31630)) rfl rfl ?_ ?_
          · exact (q_m_times pix smp tr p left dn ins z y pd col lin p1 p2 hC hM c0 c1 l0 l1 a0 a1 b0 b1 hp0 hp1 hp2 i0 i1  ).le (Nat.le_of_ble_eq_true rfl)
          show q_Ru _ _ _ (95, [(3, .int (lin - 4)), (2, .int 1), (1, .int col), (0, .ref 64)], [], (q_cM (q_mA pix smp tr (q_nb p left dn ins) (q_fb z)) q_IM (q_mJ y pd), 34, 31630)) _
          refine q_Ru_seg (g2 := (96, [(3, .int (lin - 4)), (2, .int 1), (1, .int col), (0, .ref 64)], [.ref 64], (q_cM (q_mA pix smp tr (q_nb p left dn ins) (q_fb z)) q_IM (q_mJ y pd), 34, 31630))) 1 (fun _ _ => rfl) ?_
          refine q_Ru_call (v := none) (h2 := (q_cM (q_mA pix smp tr (q_nb p left dn ins) (q_fb z)) q_IM (q_mJ y pd), 34, 31630)) rfl rfl ?_ ?_
          · exact (q_m_winds pix smp tr p left dn ins z y pd col lin p1 p2 hC hM c0 c1 l0 l1 a0 a1 b0 b1 hp0 hp1 hp2 i0 i1  ).le (Nat.le_of_ble_eq_true rfl)
          show q_Ru _ _ _ (99, [(3, .int (lin - 4)), (2, .int 1), (1, .int col), (0, .ref 64)], [], (q_cM (q_mA pix smp tr (q_nb p left dn ins) (q_fb z)) q_IM (q_mJ y pd), 34, 31630)) _
          refine q_Ru_seg (g2 := (102, [(3, .int (lin - 4)), (2, .int 1), (1, .int col), (0, .ref 64)], [.int 23, .int col], (q_cM (q_mA pix smp tr (q_nb p left dn ins) (q_fb z)) q_IM (q_mJ y pd), 34, 31630))) 2 (fun _ _ => rfl) ?_
          refine q_Ru_rsT (g2 := (109, [(3, .int (lin - 4)), (2, .int 1), (1, .int col), (0, .ref 64)], [], (q_cM (q_mA pix smp tr (q_nb p left dn ins) (q_fb z)) q_IM (q_mJ y pd), 34, 31630))) rfl rfl (q_d_neF h182) ?_
          refine q_Ru_seg (g2 := (122, [(3, .int (lin - 4)), (2, .int 1), (1, .int col), (0, .ref 64)], [.long pd, .ref 64], (q_cM (q_mA pix smp tr (q_nb p left dn ins) (q_fb z)) q_IM (q_mJ y pd), 34, 31630))) 5 (fun _ _ => rfl) ?_
          refine q_Ru_seg (g2 := (140, [(3, .int (lin - 4)), (2, .int 1), (1, .int col), (0, .ref 64)], [.long y, .ref 64], (q_cM (q_mA pix smp tr (q_nb p left dn ins) (q_fb z)) q_IM (q_uI (q_mJ y pd) 0 16 (pd + 1)), 34, 31630))) 9 (fun _ _ => rfl) ?_
          refine q_Ru_seg (g2 := (146, [(3, .int (lin - 4)), (2, .int 1), (1, .int col), (0, .ref 64)], [.int 1], (q_cM (q_mA pix smp tr (q_nb p left dn ins) (q_fb z)) q_IM (q_uI (q_uI (q_mJ y pd) 0 16 (pd + 1)) 0 15 (y + 1)), 34, 31630))) 4 (fun _ _ => rfl) ?_
          exact q_Ru_ret rfl rfl
      | false =>
        cases h183 : decide (31 < lin - 4) with
        | true =>
          cases h184 : decide (col = 23) with
          | true =>
            have eh184 := of_decide_eq_true h184
            subst eh184
            obtain ⟨z86a, p86⟩ := q_m_sample pix smp tr p left dn ins z y pd col lin p1 p2 hC hM c0 c1 l0 l1 a0 a1 b0 b1 hp0 hp1 hp2 i0 i1  
            refine ⟨pix, z86a, ?_⟩
            refine q_Ca_of (Nat.le_of_ble_eq_true rfl) ?_
            refine q_Ru_seg (g2 := (4, [(0, .ref 64)], [.long y], (q_cM (q_mA pix smp tr (q_nb p left dn ins) (q_fb z)) q_IM (q_mJ y pd), 34, 31630))) 2 (fun _ _ => rfl) ?_
            refine q_Ru_seg (g2 := (9, [(0, .ref 64)], [.int ((y - y / 24 * 24).toInt32)], (q_cM (q_mA pix smp tr (q_nb p left dn ins) (q_fb z)) q_IM (q_mJ y pd), 34, 31630))) 3 (fun _ _ => rfl) ?_
            rw [hC]
            refine q_Ru_seg (g2 := (11, [(1, .int col), (0, .ref 64)], [.int col], (q_cM (q_mA pix smp tr (q_nb p left dn ins) (q_fb z)) q_IM (q_mJ y pd), 34, 31630))) 2 (fun _ _ => rfl) ?_
            refine q_Ru_rsF (g2 := (14, [(1, .int col), (0, .ref 64)], [], (q_cM (q_mA pix smp tr (q_nb p left dn ins) (q_fb z)) q_IM (q_mJ y pd), 34, 31630))) rfl rfl (q_d_neT h170) ?_
            refine q_Ru_seg (g2 := (15, [(1, .int col), (0, .ref 64)], [.ref 64], (q_cM (q_mA pix smp tr (q_nb p left dn ins) (q_fb z)) q_IM (q_mJ y pd), 34, 31630))) 1 (fun _ _ => rfl) ?_
            refine q_Ru_call (v := (some (.int lin))) (h2 := (q_cM (q_mA pix smp tr (q_nb p left dn ins) (q_fb z)) q_IM (q_mJ y pd), 34, 31630)) rfl rfl ?_ ?_
            · refine q_Ca_of (Nat.le_of_ble_eq_true rfl) ?_
              refine q_Ru_seg (g2 := (4, [(0, .ref 64)], [.long y], (q_cM (q_mA pix smp tr (q_nb p left dn ins) (q_fb z)) q_IM (q_mJ y pd), 34, 31630))) 2 (fun _ _ => rfl) ?_
              refine q_Ru_seg (g2 := (13, [(0, .ref 64)], [.int (((y / 24) - (y / 24) / 40 * 40).toInt32)], (q_cM (q_mA pix smp tr (q_nb p left dn ins) (q_fb z)) q_IM (q_mJ y pd), 34, 31630))) 5 (fun _ _ => rfl) ?_
              rw [hM]
              exact q_Ru_ret rfl rfl
            show q_Ru _ _ _ (18, [(1, .int col), (0, .ref 64)], [.int lin], (q_cM (q_mA pix smp tr (q_nb p left dn ins) (q_fb z)) q_IM (q_mJ y pd), 34, 31630)) _
            refine q_Ru_seg (g2 := (25, [(1, .int col), (0, .ref 64)], [.int 0, .int lin], (q_cM (q_mA pix smp tr (q_nb p left dn ins) (q_fb z)) q_IM (q_mJ y pd), 34, 31630))) 4 (fun _ _ => rfl) ?_
            refine q_Ru_rsT (g2 := (39, [(1, .int col), (0, .ref 64)], [], (q_cM (q_mA pix smp tr (q_nb p left dn ins) (q_fb z)) q_IM (q_mJ y pd), 34, 31630))) rfl rfl (q_d_neF h171) ?_
            refine q_Ru_seg (g2 := (40, [(1, .int col), (0, .ref 64)], [.ref 64], (q_cM (q_mA pix smp tr (q_nb p left dn ins) (q_fb z)) q_IM (q_mJ y pd), 34, 31630))) 1 (fun _ _ => rfl) ?_
            refine q_Ru_call (v := (some (.int 1))) (h2 := (q_cM (q_mA pix smp tr (q_nb p left dn ins) (q_fb z)) q_IM (q_mJ y pd), 34, 31630)) rfl rfl ?_ ?_
            · exact (by have e := q_m_picX pix smp tr p left dn ins z y pd col lin p1 p2 hC hM c0 c1 l0 l1 a0 a1 b0 b1 hp0 hp1 hp2 i0 i1; rw [hpic] at e; exact e.le (Nat.le_of_ble_eq_true rfl))
            show q_Ru _ _ _ (43, [(1, .int col), (0, .ref 64)], [.int 1], (q_cM (q_mA pix smp tr (q_nb p left dn ins) (q_fb z)) q_IM (q_mJ y pd), 34, 31630)) _
            refine q_Ru_seg (g2 := (45, [(2, .int 1), (1, .int col), (0, .ref 64)], [.ref 64], (q_cM (q_mA pix smp tr (q_nb p left dn ins) (q_fb z)) q_IM (q_mJ y pd), 34, 31630))) 2 (fun _ _ => rfl) ?_
            refine q_Ru_call (v := (some (.int (lin - 4)))) (h2 := (q_cM (q_mA pix smp tr (q_nb p left dn ins) (q_fb z)) q_IM (q_mJ y pd), 34, 31630)) rfl rfl ?_ ?_
            · refine q_Ca_of (Nat.le_of_ble_eq_true rfl) ?_
              refine q_Ru_seg (g2 := (1, [(0, .ref 64)], [.ref 64], (q_cM (q_mA pix smp tr (q_nb p left dn ins) (q_fb z)) q_IM (q_mJ y pd), 34, 31630))) 1 (fun _ _ => rfl) ?_
              refine q_Ru_call (v := (some (.int lin))) (h2 := (q_cM (q_mA pix smp tr (q_nb p left dn ins) (q_fb z)) q_IM (q_mJ y pd), 34, 31630)) rfl rfl ?_ ?_
              · refine q_Ca_of (Nat.le_of_ble_eq_true rfl) ?_
                refine q_Ru_seg (g2 := (4, [(0, .ref 64)], [.long y], (q_cM (q_mA pix smp tr (q_nb p left dn ins) (q_fb z)) q_IM (q_mJ y pd), 34, 31630))) 2 (fun _ _ => rfl) ?_
                refine q_Ru_seg (g2 := (13, [(0, .ref 64)], [.int (((y / 24) - (y / 24) / 40 * 40).toInt32)], (q_cM (q_mA pix smp tr (q_nb p left dn ins) (q_fb z)) q_IM (q_mJ y pd), 34, 31630))) 5 (fun _ _ => rfl) ?_
                rw [hM]
                exact q_Ru_ret rfl rfl
              show q_Ru _ _ _ (4, [(0, .ref 64)], [.int lin], (q_cM (q_mA pix smp tr (q_nb p left dn ins) (q_fb z)) q_IM (q_mJ y pd), 34, 31630)) _
              refine q_Ru_seg (g2 := (6, [(0, .ref 64)], [.int (lin - 4)], (q_cM (q_mA pix smp tr (q_nb p left dn ins) (q_fb z)) q_IM (q_mJ y pd), 34, 31630))) 2 (fun _ _ => rfl) ?_
              exact q_Ru_ret rfl rfl
            show q_Ru _ _ _ (48, [(2, .int 1), (1, .int col), (0, .ref 64)], [.int (lin - 4)], (q_cM (q_mA pix smp tr (q_nb p left dn ins) (q_fb z)) q_IM (q_mJ y pd), 34, 31630)) _
            refine q_Ru_seg (g2 := (53, [(3, .int (lin - 4)), (2, .int 1), (1, .int col), (0, .ref 64)], [.int 31, .int 0, .int (lin - 4)], (q_cM (q_mA pix smp tr (q_nb p left dn ins) (q_fb z)) q_IM (q_mJ y pd), 34, 31630))) 4 (fun _ _ => rfl) ?_
            refine q_Ru_call (v := (some (.int 0))) (h2 := (q_cM (q_mA pix smp tr (q_nb p left dn ins) (q_fb z)) q_IM (q_mJ y pd), 34, 31630)) rfl rfl ?_ ?_
            · refine q_Ca_of (Nat.le_of_ble_eq_true rfl) ?_
              refine q_Ru_seg (g2 := (2, [(0, .int (lin - 4)), (1, .int 0), (2, .int 31)], [.int 0, .int (lin - 4)], (q_cM (q_mA pix smp tr (q_nb p left dn ins) (q_fb z)) q_IM (q_mJ y pd), 34, 31630))) 2 (fun _ _ => rfl) ?_
              refine q_Ru_rsF (g2 := (5, [(0, .int (lin - 4)), (1, .int 0), (2, .int 31)], [], (q_cM (q_mA pix smp tr (q_nb p left dn ins) (q_fb z)) q_IM (q_mJ y pd), 34, 31630))) rfl rfl h181 ?_
              refine q_Ru_seg (g2 := (7, [(0, .int (lin - 4)), (1, .int 0), (2, .int 31)], [.int 31, .int (lin - 4)], (q_cM (q_mA pix smp tr (q_nb p left dn ins) (q_fb z)) q_IM (q_mJ y pd), 34, 31630))) 2 (fun _ _ => rfl) ?_
              refine q_Ru_rsT (g2 := (14, [(0, .int (lin - 4)), (1, .int 0), (2, .int 31)], [], (q_cM (q_mA pix smp tr (q_nb p left dn ins) (q_fb z)) q_IM (q_mJ y pd), 34, 31630))) rfl rfl h183 ?_
              refine q_Ru_seg (g2 := (15, [(0, .int (lin - 4)), (1, .int 0), (2, .int 31)], [.int 0], (q_cM (q_mA pix smp tr (q_nb p left dn ins) (q_fb z)) q_IM (q_mJ y pd), 34, 31630))) 1 (fun _ _ => rfl) ?_
              exact q_Ru_ret rfl rfl
            show q_Ru _ _ _ (56, [(3, .int (lin - 4)), (2, .int 1), (1, .int col), (0, .ref 64)], [.int 0], (q_cM (q_mA pix smp tr (q_nb p left dn ins) (q_fb z)) q_IM (q_mJ y pd), 34, 31630)) _
            refine q_Ru_seg (g2 := (92, [(3, .int (lin - 4)), (2, .int 1), (1, .int col), (0, .ref 64)], [.ref 64], (q_cM (q_mA pix smp tr (q_nb p left dn ins) (q_fb z)) q_IM (q_mJ y pd), 34, 31630))) 2 (fun _ _ => rfl) ?_
            refine q_Ru_call (v := none) (h2 := (q_cM (q_mA pix smp tr (q_nb p left dn ins) (q_fb z)) q_IM (q_mJ y pd), 34, 31630)) rfl rfl ?_ ?_
            · exact (q_m_times pix smp tr p left dn ins z y pd col lin p1 p2 hC hM c0 c1 l0 l1 a0 a1 b0 b1 hp0 hp1 hp2 i0 i1  ).le (Nat.le_of_ble_eq_true rfl)
            show q_Ru _ _ _ (95, [(3, .int (lin - 4)), (2, .int 1), (1, .int col), (0, .ref 64)], [], (q_cM (q_mA pix smp tr (q_nb p left dn ins) (q_fb z)) q_IM (q_mJ y pd), 34, 31630)) _
            refine q_Ru_seg (g2 := (96, [(3, .int (lin - 4)), (2, .int 1), (1, .int col), (0, .ref 64)], [.ref 64], (q_cM (q_mA pix smp tr (q_nb p left dn ins) (q_fb z)) q_IM (q_mJ y pd), 34, 31630))) 1 (fun _ _ => rfl) ?_
            refine q_Ru_call (v := none) (h2 := (q_cM (q_mA pix smp tr (q_nb p left dn ins) (q_fb z)) q_IM (q_mJ y pd), 34, 31630)) rfl rfl ?_ ?_
            · exact (q_m_winds pix smp tr p left dn ins z y pd col lin p1 p2 hC hM c0 c1 l0 l1 a0 a1 b0 b1 hp0 hp1 hp2 i0 i1  ).le (Nat.le_of_ble_eq_true rfl)
            show q_Ru _ _ _ (99, [(3, .int (lin - 4)), (2, .int 1), (1, .int col), (0, .ref 64)], [], (q_cM (q_mA pix smp tr (q_nb p left dn ins) (q_fb z)) q_IM (q_mJ y pd), 34, 31630)) _
            refine q_Ru_seg (g2 := (102, [(3, .int (lin - 4)), (2, .int 1), (1, .int col), (0, .ref 64)], [.int 23, .int col], (q_cM (q_mA pix smp tr (q_nb p left dn ins) (q_fb z)) q_IM (q_mJ y pd), 34, 31630))) 2 (fun _ _ => rfl) ?_
            refine q_Ru_rsF (g2 := (105, [(3, .int (lin - 4)), (2, .int 1), (1, .int col), (0, .ref 64)], [], (q_cM (q_mA pix smp tr (q_nb p left dn ins) (q_fb z)) q_IM (q_mJ y pd), 34, 31630))) rfl rfl (q_d_neT h184) ?_
            refine q_Ru_seg (g2 := (106, [(3, .int (lin - 4)), (2, .int 1), (1, .int col), (0, .ref 64)], [.ref 64], (q_cM (q_mA pix smp tr (q_nb p left dn ins) (q_fb z)) q_IM (q_mJ y pd), 34, 31630))) 1 (fun _ _ => rfl) ?_
            refine q_Ru_call (v := none) (h2 := (q_cM (q_mA pix z86a tr (q_nb p left dn ins) (q_fb z)) q_IM (q_mJ y pd), 34, 31630)) rfl rfl ?_ ?_
            · exact p86.le (Nat.le_of_ble_eq_true rfl)
            show q_Ru _ _ _ (109, [(3, .int (lin - 4)), (2, .int 1), (1, .int col), (0, .ref 64)], [], (q_cM (q_mA pix z86a tr (q_nb p left dn ins) (q_fb z)) q_IM (q_mJ y pd), 34, 31630)) _
            refine q_Ru_seg (g2 := (122, [(3, .int (lin - 4)), (2, .int 1), (1, .int col), (0, .ref 64)], [.long pd, .ref 64], (q_cM (q_mA pix z86a tr (q_nb p left dn ins) (q_fb z)) q_IM (q_mJ y pd), 34, 31630))) 5 (fun _ _ => rfl) ?_
            refine q_Ru_seg (g2 := (140, [(3, .int (lin - 4)), (2, .int 1), (1, .int col), (0, .ref 64)], [.long y, .ref 64], (q_cM (q_mA pix z86a tr (q_nb p left dn ins) (q_fb z)) q_IM (q_uI (q_mJ y pd) 0 16 (pd + 1)), 34, 31630))) 9 (fun _ _ => rfl) ?_
            refine q_Ru_seg (g2 := (146, [(3, .int (lin - 4)), (2, .int 1), (1, .int col), (0, .ref 64)], [.int 1], (q_cM (q_mA pix z86a tr (q_nb p left dn ins) (q_fb z)) q_IM (q_uI (q_uI (q_mJ y pd) 0 16 (pd + 1)) 0 15 (y + 1)), 34, 31630))) 4 (fun _ _ => rfl) ?_
            exact q_Ru_ret rfl rfl
          | false =>
            refine ⟨pix, smp, ?_⟩
            refine q_Ca_of (Nat.le_of_ble_eq_true rfl) ?_
            refine q_Ru_seg (g2 := (4, [(0, .ref 64)], [.long y], (q_cM (q_mA pix smp tr (q_nb p left dn ins) (q_fb z)) q_IM (q_mJ y pd), 34, 31630))) 2 (fun _ _ => rfl) ?_
            refine q_Ru_seg (g2 := (9, [(0, .ref 64)], [.int ((y - y / 24 * 24).toInt32)], (q_cM (q_mA pix smp tr (q_nb p left dn ins) (q_fb z)) q_IM (q_mJ y pd), 34, 31630))) 3 (fun _ _ => rfl) ?_
            rw [hC]
            refine q_Ru_seg (g2 := (11, [(1, .int col), (0, .ref 64)], [.int col], (q_cM (q_mA pix smp tr (q_nb p left dn ins) (q_fb z)) q_IM (q_mJ y pd), 34, 31630))) 2 (fun _ _ => rfl) ?_
            refine q_Ru_rsF (g2 := (14, [(1, .int col), (0, .ref 64)], [], (q_cM (q_mA pix smp tr (q_nb p left dn ins) (q_fb z)) q_IM (q_mJ y pd), 34, 31630))) rfl rfl (q_d_neT h170) ?_
            refine q_Ru_seg (g2 := (15, [(1, .int col), (0, .ref 64)], [.ref 64], (q_cM (q_mA pix smp tr (q_nb p left dn ins) (q_fb z)) q_IM (q_mJ y pd), 34, 31630))) 1 (fun _ _ => rfl) ?_
            refine q_Ru_call (v := (some (.int lin))) (h2 := (q_cM (q_mA pix smp tr (q_nb p left dn ins) (q_fb z)) q_IM (q_mJ y pd), 34, 31630)) rfl rfl ?_ ?_
            · refine q_Ca_of (Nat.le_of_ble_eq_true rfl) ?_
              refine q_Ru_seg (g2 := (4, [(0, .ref 64)], [.long y], (q_cM (q_mA pix smp tr (q_nb p left dn ins) (q_fb z)) q_IM (q_mJ y pd), 34, 31630))) 2 (fun _ _ => rfl) ?_
              refine q_Ru_seg (g2 := (13, [(0, .ref 64)], [.int (((y / 24) - (y / 24) / 40 * 40).toInt32)], (q_cM (q_mA pix smp tr (q_nb p left dn ins) (q_fb z)) q_IM (q_mJ y pd), 34, 31630))) 5 (fun _ _ => rfl) ?_
              rw [hM]
              exact q_Ru_ret rfl rfl
            show q_Ru _ _ _ (18, [(1, .int col), (0, .ref 64)], [.int lin], (q_cM (q_mA pix smp tr (q_nb p left dn ins) (q_fb z)) q_IM (q_mJ y pd), 34, 31630)) _
            refine q_Ru_seg (g2 := (25, [(1, .int col), (0, .ref 64)], [.int 0, .int lin], (q_cM (q_mA pix smp tr (q_nb p left dn ins) (q_fb z)) q_IM (q_mJ y pd), 34, 31630))) 4 (fun _ _ => rfl) ?_
            refine q_Ru_rsT (g2 := (39, [(1, .int col), (0, .ref 64)], [], (q_cM (q_mA pix smp tr (q_nb p left dn ins) (q_fb z)) q_IM (q_mJ y pd), 34, 31630))) rfl rfl (q_d_neF h171) ?_
            refine q_Ru_seg (g2 := (40, [(1, .int col), (0, .ref 64)], [.ref 64], (q_cM (q_mA pix smp tr (q_nb p left dn ins) (q_fb z)) q_IM (q_mJ y pd), 34, 31630))) 1 (fun _ _ => rfl) ?_
            refine q_Ru_call (v := (some (.int 1))) (h2 := (q_cM (q_mA pix smp tr (q_nb p left dn ins) (q_fb z)) q_IM (q_mJ y pd), 34, 31630)) rfl rfl ?_ ?_
            · exact (by have e := q_m_picX pix smp tr p left dn ins z y pd col lin p1 p2 hC hM c0 c1 l0 l1 a0 a1 b0 b1 hp0 hp1 hp2 i0 i1; rw [hpic] at e; exact e.le (Nat.le_of_ble_eq_true rfl))
            show q_Ru _ _ _ (43, [(1, .int col), (0, .ref 64)], [.int 1], (q_cM (q_mA pix smp tr (q_nb p left dn ins) (q_fb z)) q_IM (q_mJ y pd), 34, 31630)) _
            refine q_Ru_seg (g2 := (45, [(2, .int 1), (1, .int col), (0, .ref 64)], [.ref 64], (q_cM (q_mA pix smp tr (q_nb p left dn ins) (q_fb z)) q_IM (q_mJ y pd), 34, 31630))) 2 (fun _ _ => rfl) ?_
            refine q_Ru_call (v := (some (.int (lin - 4)))) (h2 := (q_cM (q_mA pix smp tr (q_nb p left dn ins) (q_fb z)) q_IM (q_mJ y pd), 34, 31630)) rfl rfl ?_ ?_
            · refine q_Ca_of (Nat.le_of_ble_eq_true rfl) ?_
              refine q_Ru_seg (g2 := (1, [(0, .ref 64)], [.ref 64], (q_cM (q_mA pix smp tr (q_nb p left dn ins) (q_fb z)) q_IM (q_mJ y pd), 34, 31630))) 1 (fun _ _ => rfl) ?_
              refine q_Ru_call (v := (some (.int lin))) (h2 := (q_cM (q_mA pix smp tr (q_nb p left dn ins) (q_fb z)) q_IM (q_mJ y pd), 34, 31630)) rfl rfl ?_ ?_
              · refine q_Ca_of (Nat.le_of_ble_eq_true rfl) ?_
                refine q_Ru_seg (g2 := (4, [(0, .ref 64)], [.long y], (q_cM (q_mA pix smp tr (q_nb p left dn ins) (q_fb z)) q_IM (q_mJ y pd), 34, 31630))) 2 (fun _ _ => rfl) ?_
                refine q_Ru_seg (g2 := (13, [(0, .ref 64)], [.int (((y / 24) - (y / 24) / 40 * 40).toInt32)], (q_cM (q_mA pix smp tr (q_nb p left dn ins) (q_fb z)) q_IM (q_mJ y pd), 34, 31630))) 5 (fun _ _ => rfl) ?_
                rw [hM]
                exact q_Ru_ret rfl rfl
              show q_Ru _ _ _ (4, [(0, .ref 64)], [.int lin], (q_cM (q_mA pix smp tr (q_nb p left dn ins) (q_fb z)) q_IM (q_mJ y pd), 34, 31630)) _
              refine q_Ru_seg (g2 := (6, [(0, .ref 64)], [.int (lin - 4)], (q_cM (q_mA pix smp tr (q_nb p left dn ins) (q_fb z)) q_IM (q_mJ y pd), 34, 31630))) 2 (fun _ _ => rfl) ?_
              exact q_Ru_ret rfl rfl
            show q_Ru _ _ _ (48, [(2, .int 1), (1, .int col), (0, .ref 64)], [.int (lin - 4)], (q_cM (q_mA pix smp tr (q_nb p left dn ins) (q_fb z)) q_IM (q_mJ y pd), 34, 31630)) _
            refine q_Ru_seg (g2 := (53, [(3, .int (lin - 4)), (2, .int 1), (1, .int col), (0, .ref 64)], [.int 31, .int 0, .int (lin - 4)], (q_cM (q_mA pix smp tr (q_nb p left dn ins) (q_fb z)) q_IM (q_mJ y pd), 34, 31630))) 4 (fun _ _ => rfl) ?_
            refine q_Ru_call (v := (some (.int 0))) (h2 := (q_cM (q_mA pix smp tr (q_nb p left dn ins) (q_fb z)) q_IM (q_mJ y pd), 34, 31630)) rfl rfl ?_ ?_
            · refine q_Ca_of (Nat.le_of_ble_eq_true rfl) ?_
              refine q_Ru_seg (g2 := (2, [(0, .int (lin - 4)), (1, .int 0), (2, .int 31)], [.int 0, .int (lin - 4)], (q_cM (q_mA pix smp tr (q_nb p left dn ins) (q_fb z)) q_IM (q_mJ y pd), 34, 31630))) 2 (fun _ _ => rfl) ?_
              refine q_Ru_rsF (g2 := (5, [(0, .int (lin - 4)), (1, .int 0), (2, .int 31)], [], (q_cM (q_mA pix smp tr (q_nb p left dn ins) (q_fb z)) q_IM (q_mJ y pd), 34, 31630))) rfl rfl h181 ?_
              refine q_Ru_seg (g2 := (7, [(0, .int (lin - 4)), (1, .int 0), (2, .int 31)], [.int 31, .int (lin - 4)], (q_cM (q_mA pix smp tr (q_nb p left dn ins) (q_fb z)) q_IM (q_mJ y pd), 34, 31630))) 2 (fun _ _ => rfl) ?_
              refine q_Ru_rsT (g2 := (14, [(0, .int (lin - 4)), (1, .int 0), (2, .int 31)], [], (q_cM (q_mA pix smp tr (q_nb p left dn ins) (q_fb z)) q_IM (q_mJ y pd), 34, 31630))) rfl rfl h183 ?_
              refine q_Ru_seg (g2 := (15, [(0, .int (lin - 4)), (1, .int 0), (2, .int 31)], [.int 0], (q_cM (q_mA pix smp tr (q_nb p left dn ins) (q_fb z)) q_IM (q_mJ y pd), 34, 31630))) 1 (fun _ _ => rfl) ?_
              exact q_Ru_ret rfl rfl
            show q_Ru _ _ _ (56, [(3, .int (lin - 4)), (2, .int 1), (1, .int col), (0, .ref 64)], [.int 0], (q_cM (q_mA pix smp tr (q_nb p left dn ins) (q_fb z)) q_IM (q_mJ y pd), 34, 31630)) _
            refine q_Ru_seg (g2 := (92, [(3, .int (lin - 4)), (2, .int 1), (1, .int col), (0, .ref 64)], [.ref 64], (q_cM (q_mA pix smp tr (q_nb p left dn ins) (q_fb z)) q_IM (q_mJ y pd), 34, 31630))) 2 (fun _ _ => rfl) ?_
            refine q_Ru_call (v := none) (h2 := (q_cM (q_mA pix smp tr (q_nb p left dn ins) (q_fb z)) q_IM (q_mJ y pd), 34, 31630)) rfl rfl ?_ ?_
            · exact (q_m_times pix smp tr p left dn ins z y pd col lin p1 p2 hC hM c0 c1 l0 l1 a0 a1 b0 b1 hp0 hp1 hp2 i0 i1  ).le (Nat.le_of_ble_eq_true rfl)
            show q_Ru _ _ _ (95, [(3, .int (lin - 4)), (2, .int 1), (1, .int col), (0, .ref 64)], [], (q_cM (q_mA pix smp tr (q_nb p left dn ins) (q_fb z)) q_IM (q_mJ y pd), 34, 31630)) _
            refine q_Ru_seg (g2 := (96, [(3, .int (lin - 4)), (2, .int 1), (1, .int col), (0, .ref 64)], [.ref 64], (q_cM (q_mA pix smp tr (q_nb p left dn ins) (q_fb z)) q_IM (q_mJ y pd), 34, 31630))) 1 (fun _ _ => rfl) ?_
            refine q_Ru_call (v := none) (h2 := (q_cM (q_mA pix smp tr (q_nb p left dn ins) (q_fb z)) q_IM (q_mJ y pd), 34, 31630)) rfl rfl ?_ ?_
            · exact (q_m_winds pix smp tr p left dn ins z y pd col lin p1 p2 hC hM c0 c1 l0 l1 a0 a1 b0 b1 hp0 hp1 hp2 i0 i1  ).le (Nat.le_of_ble_eq_true rfl)
            show q_Ru _ _ _ (99, [(3, .int (lin - 4)), (2, .int 1), (1, .int col), (0, .ref 64)], [], (q_cM (q_mA pix smp tr (q_nb p left dn ins) (q_fb z)) q_IM (q_mJ y pd), 34, 31630)) _
            refine q_Ru_seg (g2 := (102, [(3, .int (lin - 4)), (2, .int 1), (1, .int col), (0, .ref 64)], [.int 23, .int col], (q_cM (q_mA pix smp tr (q_nb p left dn ins) (q_fb z)) q_IM (q_mJ y pd), 34, 31630))) 2 (fun _ _ => rfl) ?_
            refine q_Ru_rsT (g2 := (109, [(3, .int (lin - 4)), (2, .int 1), (1, .int col), (0, .ref 64)], [], (q_cM (q_mA pix smp tr (q_nb p left dn ins) (q_fb z)) q_IM (q_mJ y pd), 34, 31630))) rfl rfl (q_d_neF h184) ?_
            refine q_Ru_seg (g2 := (122, [(3, .int (lin - 4)), (2, .int 1), (1, .int col), (0, .ref 64)], [.long pd, .ref 64], (q_cM (q_mA pix smp tr (q_nb p left dn ins) (q_fb z)) q_IM (q_mJ y pd), 34, 31630))) 5 (fun _ _ => rfl) ?_
            refine q_Ru_seg (g2 := (140, [(3, .int (lin - 4)), (2, .int 1), (1, .int col), (0, .ref 64)], [.long y, .ref 64], (q_cM (q_mA pix smp tr (q_nb p left dn ins) (q_fb z)) q_IM (q_uI (q_mJ y pd) 0 16 (pd + 1)), 34, 31630))) 9 (fun _ _ => rfl) ?_
            refine q_Ru_seg (g2 := (146, [(3, .int (lin - 4)), (2, .int 1), (1, .int col), (0, .ref 64)], [.int 1], (q_cM (q_mA pix smp tr (q_nb p left dn ins) (q_fb z)) q_IM (q_uI (q_uI (q_mJ y pd) 0 16 (pd + 1)) 0 15 (y + 1)), 34, 31630))) 4 (fun _ _ => rfl) ?_
            exact q_Ru_ret rfl rfl
        | false =>
          cases h185 : decide (col < 4) with
          | true =>
            have h186 : decide (col = 23) = false := q_not_tr (q_tbl1 (fun col => !decide (col = 23)) (l := 0) (n := 3) (by decide +kernel) c0 (q_hi1 h185))
            refine ⟨pix, smp, ?_⟩
            refine q_Ca_of (Nat.le_of_ble_eq_true rfl) ?_
            refine q_Ru_seg (g2 := (4, [(0, .ref 64)], [.long y], (q_cM (q_mA pix smp tr (q_nb p left dn ins) (q_fb z)) q_IM (q_mJ y pd), 34, 31630))) 2 (fun _ _ => rfl) ?_
            refine q_Ru_seg (g2 := (9, [(0, .ref 64)], [.int ((y - y / 24 * 24).toInt32)], (q_cM (q_mA pix smp tr (q_nb p left dn ins) (q_fb z)) q_IM (q_mJ y pd), 34, 31630))) 3 (fun _ _ => rfl) ?_
            rw [hC]
            refine q_Ru_seg (g2 := (11, [(1, .int col), (0, .ref 64)], [.int col], (q_cM (q_mA pix smp tr (q_nb p left dn ins) (q_fb z)) q_IM (q_mJ y pd), 34, 31630))) 2 (fun _ _ => rfl) ?_
            refine q_Ru_rsF (g2 := (14, [(1, .int col), (0, .ref 64)], [], (q_cM (q_mA pix smp tr (q_nb p left dn ins) (q_fb z)) q_IM (q_mJ y pd), 34, 31630))) rfl rfl (q_d_neT h170) ?_
            refine q_Ru_seg (g2 := (15, [(1, .int col), (0, .ref 64)], [.ref 64], (q_cM (q_mA pix smp tr (q_nb p left dn ins) (q_fb z)) q_IM (q_mJ y pd), 34, 31630))) 1 (fun _ _ => rfl) ?_
            refine q_Ru_call (v := (some (.int lin))) (h2 := (q_cM (q_mA pix smp tr (q_nb p left dn ins) (q_fb z)) q_IM (q_mJ y pd), 34, 31630)) rfl rfl ?_ ?_
            · refine q_Ca_of (Nat.le_of_ble_eq_true rfl) ?_
              refine q_Ru_seg (g2 := (4, [(0, .ref 64)], [.long y], (q_cM (q_mA pix smp tr (q_nb p left dn ins) (q_fb z)) q_IM (q_mJ y pd), 34, 31630))) 2 (fun _ _ => rfl) ?_
              refine q_Ru_seg (g2 := (13, [(0, .ref 64)], [.int (((y / 24) - (y / 24) / 40 * 40).toInt32)], (q_cM (q_mA pix smp tr (q_nb p left dn ins) (q_fb z)) q_IM (q_mJ y pd), 34, 31630))) 5 (fun _ _ => rfl) ?_
              rw [hM]
              exact q_Ru_ret rfl rfl
            show q_Ru _ _ _ (18, [(1, .int col), (0, .ref 64)], [.int lin], (q_cM (q_mA pix smp tr (q_nb p left dn ins) (q_fb z)) q_IM (q_mJ y pd), 34, 31630)) _
            refine q_Ru_seg (g2 := (25, [(1, .int col), (0, .ref 64)], [.int 0, .int lin], (q_cM (q_mA pix smp tr (q_nb p left dn ins) (q_fb z)) q_IM (q_mJ y pd), 34, 31630))) 4 (fun _ _ => rfl) ?_
            refine q_Ru_rsT (g2 := (39, [(1, .int col), (0, .ref 64)], [], (q_cM (q_mA pix smp tr (q_nb p left dn ins) (q_fb z)) q_IM (q_mJ y pd), 34, 31630))) rfl rfl (q_d_neF h171) ?_
            refine q_Ru_seg (g2 := (40, [(1, .int col), (0, .ref 64)], [.ref 64], (q_cM (q_mA pix smp tr (q_nb p left dn ins) (q_fb z)) q_IM (q_mJ y pd), 34, 31630))) 1 (fun _ _ => rfl) ?_
            refine q_Ru_call (v := (some (.int 1))) (h2 := (q_cM (q_mA pix smp tr (q_nb p left dn ins) (q_fb z)) q_IM (q_mJ y pd), 34, 31630)) rfl rfl ?_ ?_
            · exact (by have e := q_m_picX pix smp tr p left dn ins z y pd col lin p1 p2 hC hM c0 c1 l0 l1 a0 a1 b0 b1 hp0 hp1 hp2 i0 i1; rw [hpic] at e; exact e.le (Nat.le_of_ble_eq_true rfl))
            show q_Ru _ _ _ (43, [(1, .int col), (0, .ref 64)], [.int 1], (q_cM (q_mA pix smp tr (q_nb p left dn ins) (q_fb z)) q_IM (q_mJ y pd), 34, 31630)) _
            refine q_Ru_seg (g2 := (45, [(2, .int 1), (1, .int col), (0, .ref 64)], [.ref 64], (q_cM (q_mA pix smp tr (q_nb p left dn ins) (q_fb z)) q_IM (q_mJ y pd), 34, 31630))) 2 (fun _ _ => rfl) ?_
            refine q_Ru_call (v := (some (.int (lin - 4)))) (h2 := (q_cM (q_mA pix smp tr (q_nb p left dn ins) (q_fb z)) q_IM (q_mJ y pd), 34, 31630)) rfl rfl ?_ ?_
            · refine q_Ca_of (Nat.le_of_ble_eq_true rfl) ?_
              refine q_Ru_seg (g2 := (1, [(0, .ref 64)], [.ref 64], (q_cM (q_mA pix smp tr (q_nb p left dn ins) (q_fb z)) q_IM (q_mJ y pd), 34, 31630))) 1 (fun _ _ => rfl) ?_
              refine q_Ru_call (v := (some (.int lin))) (h2 := (q_cM (q_mA pix smp tr (q_nb p left dn ins) (q_fb z)) q_IM (q_mJ y pd), 34, 31630)) rfl rfl ?_ ?_
              · refine q_Ca_of (Nat.le_of_ble_eq_true rfl) ?_
                refine q_Ru_seg (g2 := (4, [(0, .ref 64)], [.long y], (q_cM (q_mA pix smp tr (q_nb p left dn ins) (q_fb z)) q_IM (q_mJ y pd), 34, 31630))) 2 (fun _ _ => rfl) ?_
                refine q_Ru_seg (g2 := (13, [(0, .ref 64)], [.int (((y / 24) - (y / 24) / 40 * 40).toInt32)], (q_cM (q_mA pix smp tr (q_nb p left dn ins) (q_fb z)) q_IM (q_mJ y pd), 34, 31630))) 5 (fun _ _ => rfl) ?_
                rw [hM]
                exact q_Ru_ret rfl rfl
              show q_Ru _ _ _ (4, [(0, .ref 64)], [.int lin], (q_cM (q_mA pix smp tr (q_nb p left dn ins) (q_fb z)) q_IM (q_mJ y pd), 34, 31630)) _
              refine q_Ru_seg (g2 := (6, [(0, .ref 64)], [.int (lin - 4)], (q_cM (q_mA pix smp tr (q_nb p left dn ins) (q_fb z)) q_IM (q_mJ y pd), 34, 31630))) 2 (fun _ _ => rfl) ?_
              exact q_Ru_ret rfl rfl
            show q_Ru _ _ _ (48, [(2, .int 1), (1, .int col), (0, .ref 64)], [.int (lin - 4)], (q_cM (q_mA pix smp tr (q_nb p left dn ins) (q_fb z)) q_IM (q_mJ y pd), 34, 31630)) _
            refine q_Ru_seg (g2 := (53, [(3, .int (lin - 4)), (2, .int 1), (1, .int col), (0, .ref 64)], [.int 31, .int 0, .int (lin - 4)], (q_cM (q_mA pix smp tr (q_nb p left dn ins) (q_fb z)) q_IM (q_mJ y pd), 34, 31630))) 4 (fun _ _ => rfl) ?_
            refine q_Ru_call (v := (some (.int 1))) (h2 := (q_cM (q_mA pix smp tr (q_nb p left dn ins) (q_fb z)) q_IM (q_mJ y pd), 34, 31630)) rfl rfl ?_ ?_
            · refine q_Ca_of (Nat.le_of_ble_eq_true rfl) ?_
              refine q_Ru_seg (g2 := (2, [(0, .int (lin - 4)), (1, .int 0), (2, .int 31)], [.int 0, .int (lin - 4)], (q_cM (q_mA pix smp tr (q_nb p left dn ins) (q_fb z)) q_IM (q_mJ y pd), 34, 31630))) 2 (fun _ _ => rfl) ?_
              refine q_Ru_rsF (g2 := (5, [(0, .int (lin - 4)), (1, .int 0), (2, .int 31)], [], (q_cM (q_mA pix smp tr (q_nb p left dn ins) (q_fb z)) q_IM (q_mJ y pd), 34, 31630))) rfl rfl h181 ?_
              refine q_Ru_seg (g2 := (7, [(0, .int (lin - 4)), (1, .int 0), (2, .int 31)], [.int 31, .int (lin - 4)], (q_cM (q_mA pix smp tr (q_nb p left dn ins) (q_fb z)) q_IM (q_mJ y pd), 34, 31630))) 2 (fun _ _ => rfl) ?_
              refine q_Ru_rsF (g2 := (10, [(0, .int (lin - 4)), (1, .int 0), (2, .int 31)], [], (q_cM (q_mA pix smp tr (q_nb p left dn ins) (q_fb z)) q_IM (q_mJ y pd), 34, 31630))) rfl rfl h183 ?_
              refine q_Ru_seg (g2 := (15, [(0, .int (lin - 4)), (1, .int 0), (2, .int 31)], [.int 1], (q_cM (q_mA pix smp tr (q_nb p left dn ins) (q_fb z)) q_IM (q_mJ y pd), 34, 31630))) 2 (fun _ _ => rfl) ?_
              exact q_Ru_ret rfl rfl
            show q_Ru _ _ _ (56, [(3, .int (lin - 4)), (2, .int 1), (1, .int col), (0, .ref 64)], [.int 1], (q_cM (q_mA pix smp tr (q_nb p left dn ins) (q_fb z)) q_IM (q_mJ y pd), 34, 31630)) _
            refine q_Ru_seg (g2 := (63, [(3, .int (lin - 4)), (2, .int 1), (1, .int col), (0, .ref 64)], [.int 19, .int 4, .int col], (q_cM (q_mA pix smp tr (q_nb p left dn ins) (q_fb z)) q_IM (q_mJ y pd), 34, 31630))) 4 (fun _ _ => rfl) ?_
            refine q_Ru_call (v := (some (.int 0))) (h2 := (q_cM (q_mA pix smp tr (q_nb p left dn ins) (q_fb z)) q_IM (q_mJ y pd), 34, 31630)) rfl rfl ?_ ?_
            · refine q_Ca_of (Nat.le_of_ble_eq_true rfl) ?_
              refine q_Ru_seg (g2 := (2, [(0, .int col), (1, .int 4), (2, .int 19)], [.int 4, .int col], (q_cM (q_mA pix smp tr (q_nb p left dn ins) (q_fb z)) q_IM (q_mJ y pd), 34, 31630))) 2 (fun _ _ => rfl) ?_
              refine q_Ru_rsT (g2 := (14, [(0, .int col), (1, .int 4), (2, .int 19)], [], (q_cM (q_mA pix smp tr (q_nb p left dn ins) (q_fb z)) q_IM (q_mJ y pd), 34, 31630))) rfl rfl h185 ?_
              refine q_Ru_seg (g2 := (15, [(0, .int col), (1, .int 4), (2, .int 19)], [.int 0], (q_cM (q_mA pix smp tr (q_nb p left dn ins) (q_fb z)) q_IM (q_mJ y pd), 34, 31630))) 1 (fun _ _ => rfl) ?_
              exact q_Ru_ret rfl rfl
            show q_Ru _ _ _ (66, [(3, .int (lin - 4)), (2, .int 1), (1, .int col), (0, .ref 64)], [.int 0], (q_cM (q_mA pix smp tr (q_nb p left dn ins) (q_fb z)) q_IM (q_mJ y pd), 34, 31630)) _
            refine q_Ru_seg (g2 := (92, [(3, .int (lin - 4)), (2, .int 1), (1, .int col), (0, .ref 64)], [.ref 64], (q_cM (q_mA pix smp tr (q_nb p left dn ins) (q_fb z)) q_IM (q_mJ y pd), 34, 31630))) 2 (fun _ _ => rfl) ?_
            refine q_Ru_call (v := none) (h2 := (q_cM (q_mA pix smp tr (q_nb p left dn ins) (q_fb z)) q_IM (q_mJ y pd), 34, 31630)) rfl rfl ?_ ?_
            · exact (q_m_times pix smp tr p left dn ins z y pd col lin p1 p2 hC hM c0 c1 l0 l1 a0 a1 b0 b1 hp0 hp1 hp2 i0 i1  ).le (Nat.le_of_ble_eq_true rfl)
            show q_Ru _ _ _ (95, [(3, .int (lin - 4)), (2, .int 1), (1, .int col), (0, .ref 64)], [], (q_cM (q_mA pix smp tr (q_nb p left dn ins) (q_fb z)) q_IM (q_mJ y pd), 34, 31630)) _
            refine q_Ru_seg (g2 := (96, [(3, .int (lin - 4)), (2, .int 1), (1, .int col), (0, .ref 64)], [.ref 64], (q_cM (q_mA pix smp tr (q_nb p left dn ins) (q_fb z)) q_IM (q_mJ y pd), 34, 31630))) 1 (fun _ _ => rfl) ?_
            refine q_Ru_call (v := none) (h2 := (q_cM (q_mA pix smp tr (q_nb p left dn ins) (q_fb z)) q_IM (q_mJ y pd), 34, 31630)) rfl rfl ?_ ?_
            · exact (q_m_winds pix smp tr p left dn ins z y pd col lin p1 p2 hC hM c0 c1 l0 l1 a0 a1 b0 b1 hp0 hp1 hp2 i0 i1  ).le (Nat.le_of_ble_eq_true rfl)
            show q_Ru _ _ _ (99, [(3, .int (lin - 4)), (2, .int 1), (1, .int col), (0, .ref 64)], [], (q_cM (q_mA pix smp tr (q_nb p left dn ins) (q_fb z)) q_IM (q_mJ y pd), 34, 31630)) _
            refine q_Ru_seg (g2 := (102, [(3, .int (lin - 4)), (2, .int 1), (1, .int col), (0, .ref 64)], [.int 23, .int col], (q_cM (q_mA pix smp tr (q_nb p left dn ins) (q_fb z)) q_IM (q_mJ y pd), 34, 31630))) 2 (fun _ _ => rfl) ?_
            refine q_Ru_rsT (g2 := (109, [(3, .int (lin - 4)), (2, .int 1), (1, .int col), (0, .ref 64)], [], (q_cM (q_mA pix smp tr (q_nb p left dn ins) (q_fb z)) q_IM (q_mJ y pd), 34, 31630))) rfl rfl (q_d_neF h186) ?_
            refine q_Ru_seg (g2 := (122, [(3, .int (lin - 4)), (2, .int 1), (1, .int col), (0, .ref 64)], [.long pd, .ref 64], (q_cM (q_mA pix smp tr (q_nb p left dn ins) (q_fb z)) q_IM (q_mJ y pd), 34, 31630))) 5 (fun _ _ => rfl) ?_
            refine q_Ru_seg (g2 := (140, [(3, .int (lin - 4)), (2, .int 1), (1, .int col), (0, .ref 64)], [.long y, .ref 64], (q_cM (q_mA pix smp tr (q_nb p left dn ins) (q_fb z)) q_IM (q_uI (q_mJ y pd) 0 16 (pd + 1)), 34, 31630))) 9 (fun _ _ => rfl) ?_
            refine q_Ru_seg (g2 := (146, [(3, .int (lin - 4)), (2, .int 1), (1, .int col), (0, .ref 64)], [.int 1], (q_cM (q_mA pix smp tr (q_nb p left dn ins) (q_fb z)) q_IM (q_uI (q_uI (q_mJ y pd) 0 16 (pd + 1)) 0 15 (y + 1)), 34, 31630))) 4 (fun _ _ => rfl) ?_
            exact q_Ru_ret rfl rfl
          | false =>
            cases h187 : decide (19 < col) with
            | true =>
              cases h188 : decide (col = 23) with
              | true =>
                have eh188 := of_decide_eq_true h188
                subst eh188
                obtain ⟨z97a, p97⟩ := q_m_sample pix smp tr p left dn ins z y pd col lin p1 p2 hC hM c0 c1 l0 l1 a0 a1 b0 b1 hp0 hp1 hp2 i0 i1  
                refine ⟨pix, z97a, ?_⟩
                refine q_Ca_of (Nat.le_of_ble_eq_true rfl) ?_
                refine q_Ru_seg (g2 := (4, [(0, .ref 64)], [.long y], (q_cM (q_mA pix smp tr (q_nb p left dn ins) (q_fb z)) q_IM (q_mJ y pd), 34, 31630))) 2 (fun _ _ => rfl) ?_
                refine q_Ru_seg (g2 := (9, [(0, .ref 64)], [.int ((y - y / 24 * 24).toInt32)], (q_cM (q_mA pix smp tr (q_nb p left dn ins) (q_fb z)) q_IM (q_mJ y pd), 34, 31630))) 3 (fun _ _ => rfl) ?_
                rw [hC]
                refine q_Ru_seg (g2 := (11, [(1, .int col), (0, .ref 64)], [.int col], (q_cM (q_mA pix smp tr (q_nb p left dn ins) (q_fb z)) q_IM (q_mJ y pd), 34, 31630))) 2 (fun _ _ => rfl) ?_
                refine q_Ru_rsF (g2 := (14, [(1, .int col), (0, .ref 64)], [], (q_cM (q_mA pix smp tr (q_nb p left dn ins) (q_fb z)) q_IM (q_mJ y pd), 34, 31630))) rfl rfl (q_d_neT h170) ?_
                refine q_Ru_seg (g2 := (15, [(1, .int col), (0, .ref 64)], [.ref 64], (q_cM (q_mA pix smp tr (q_nb p left dn ins) (q_fb z)) q_IM (q_mJ y pd), 34, 31630))) 1 (fun _ _ => rfl) ?_
                refine q_Ru_call (v := (some (.int lin))) (h2 := (q_cM (q_mA pix smp tr (q_nb p left dn ins) (q_fb z)) q_IM (q_mJ y pd), 34, 31630)) rfl rfl ?_ ?_
                · refine q_Ca_of (Nat.le_of_ble_eq_true rfl) ?_
                  refine q_Ru_seg (g2 := (4, [(0, .ref 64)], [.long y], (q_cM (q_mA pix smp tr (q_nb p left dn ins) (q_fb z)) q_IM (q_mJ y pd), 34, 31630))) 2 (fun _ _ => rfl) ?_
                  refine q_Ru_seg (g2 := (13, [(0, .ref 64)], [.int (((y / 24) - (y / 24) / 40 * 40).toInt32)], (q_cM (q_mA pix smp tr (q_nb p left dn ins) (q_fb z)) q_IM (q_mJ y pd), 34, 31630))) 5 (fun _ _ => rfl) ?_
                  rw [hM]
                  exact q_Ru_ret rfl rfl
                show q_Ru _ _ _ (18, [(1, .int col), (0, .ref 64)], [.int lin], (q_cM (q_mA pix smp tr (q_nb p left dn ins) (q_fb z)) q_IM (q_mJ y pd), 34, 31630)) _
                refine q_Ru_seg (g2 := (25, [(1, .int col), (0, .ref 64)], [.int 0, .int lin], (q_cM (q_mA pix smp tr (q_nb p left dn ins) (q_fb z)) q_IM (q_mJ y pd), 34, 31630))) 4 (fun _ _ => rfl) ?_
                refine q_Ru_rsT (g2 := (39, [(1, .int col), (0, .ref 64)], [], (q_cM (q_mA pix smp tr (q_nb p left dn ins) (q_fb z)) q_IM (q_mJ y pd), 34, 31630))) rfl rfl (q_d_neF h171) ?_
                refine q_Ru_seg (g2 := (40, [(1, .int col), (0, .ref 64)], [.ref 64], (q_cM (q_mA pix smp tr (q_nb p left dn ins) (q_fb z)) q_IM (q_mJ y pd), 34, 31630))) 1 (fun _ _ => rfl) ?_
                refine q_Ru_call (v := (some (.int 1))) (h2 := (q_cM (q_mA pix smp tr (q_nb p left dn ins) (q_fb z)) q_IM (q_mJ y pd), 34, 31630)) rfl rfl ?_ ?_
                · exact (by have e := q_m_picX pix smp tr p left dn ins z y pd col lin p1 p2 hC hM c0 c1 l0 l1 a0 a1 b0 b1 hp0 hp1 hp2 i0 i1; rw [hpic] at e; exact e.le (Nat.le_of_ble_eq_true rfl))
                show q_Ru _ _ _ (43, [(1, .int col), (0, .ref 64)], [.int 1], (q_cM (q_mA pix smp tr (q_nb p left dn ins) (q_fb z)) q_IM (q_mJ y pd), 34, 31630)) _
                refine q_Ru_seg (g2 := (45, [(2, .int 1), (1, .int col), (0, .ref 64)], [.ref 64], (q_cM (q_mA pix smp tr (q_nb p left dn ins) (q_fb z)) q_IM (q_mJ y pd), 34, 31630))) 2 (fun _ _ => rfl) ?_
                refine q_Ru_call (v := (some (.int (lin - 4)))) (h2 := (q_cM (q_mA pix smp tr (q_nb p left dn ins) (q_fb z)) q_IM (q_mJ y pd), 34, 31630)) rfl rfl ?_ ?_
                · refine q_Ca_of (Nat.le_of_ble_eq_true rfl) ?_
                  refine q_Ru_seg (g2 := (1, [(0, .ref 64)], [.ref 64], (q_cM (q_mA pix smp tr (q_nb p left dn ins) (q_fb z)) q_IM (q_mJ y pd), 34, 31630))) 1 (fun _ _ => rfl) ?_
                  refine q_Ru_call (v := (some (.int lin))) (h2 := (q_cM (q_mA pix smp tr (q_nb p left dn ins) (q_fb z)) q_IM (q_mJ y pd), 34, 31630)) rfl rfl ?_ ?_
                  · refine q_Ca_of (Nat.le_of_ble_eq_true rfl) ?_
                    refine q_Ru_seg (g2 := (4, [(0, .ref 64)], [.long y], (q_cM (q_mA pix smp tr (q_nb p left dn ins) (q_fb z)) q_IM (q_mJ y pd), 34, 31630))) 2 (fun _ _ => rfl) ?_
                    refine q_Ru_seg (g2 := (13, [(0, .ref 64)], [.int (((y / 24) - (y / 24) / 40 * 40).toInt32)], (q_cM (q_mA pix smp tr (q_nb p left dn ins) (q_fb z)) q_IM (q_mJ y pd), 34, 31630))) 5 (fun _ _ => rfl) ?_
                    rw [hM]
                    exact q_Ru_ret rfl rfl
                  show q_Ru _ _ _ (4, [(0, .ref 64)], [.int lin], (q_cM (q_mA pix smp tr (q_nb p left dn ins) (q_fb z)) q_IM (q_mJ y pd), 34, 31630)) _
                  refine q_Ru_seg (g2 := (6, [(0, .ref 64)], [.int (lin - 4)], (q_cM (q_mA pix smp tr (q_nb p left dn ins) (q_fb z)) q_IM (q_mJ y pd), 34, 31630))) 2 (fun _ _ => rfl) ?_
                  exact q_Ru_ret rfl rfl
                show q_Ru _ _ _ (48, [(2, .int 1), (1, .int col), (0, .ref 64)], [.int (lin - 4)], (q_cM (q_mA pix smp tr (q_nb p left dn ins) (q_fb z)) q_IM (q_mJ y pd), 34, 31630)) _
                refine q_Ru_seg (g2 := (53, [(3, .int (lin - 4)), (2, .int 1), (1, .int col), (0, .ref 64)], [.int 31, .int 0, .int (lin - 4)], (q_cM (q_mA pix smp tr (q_nb p left dn ins) (q_fb z)) q_IM (q_mJ y pd), 34, 31630))) 4 (fun _ _ => rfl) ?_
                refine q_Ru_call (v := (some (.int 1))) (h2 := (q_cM (q_mA pix smp tr (q_nb p left dn ins) (q_fb z)) q_IM (q_mJ y pd), 34, 31630)) rfl rfl ?_ ?_
                · refine q_Ca_of (Nat.le_of_ble_eq_true rfl) ?_
                  refine q_Ru_seg (g2 := (2, [(0, .int (lin - 4)), (1, .int 0), (2, .int 31)], [.int 0, .int (lin - 4)], (q_cM (q_mA pix smp tr (q_nb p left dn ins) (q_fb z)) q_IM (q_mJ y pd), 34, 31630))) 2 (fun _ _ => rfl) ?_
                  refine q_Ru_rsF (g2 := (5, [(0, .int (lin - 4)), (1, .int 0), (2, .int 31)], [], (q_cM (q_mA pix smp tr (q_nb p left dn ins) (q_fb z)) q_IM (q_mJ y pd), 34, 31630))) rfl rfl h181 ?_
                  refine q_Ru_seg (g2 := (7, [(0, .int (lin - 4)), (1, .int 0), (2, .int 31)], [.int 31, .int (lin - 4)], (q_cM (q_mA pix smp tr (q_nb p left dn ins) (q_fb z)) q_IM (q_mJ y pd), 34, 31630))) 2 (fun _ _ => rfl) ?_
                  refine q_Ru_rsF (g2 := (10, [(0, .int (lin - 4)), (1, .int 0), (2, .int 31)], [], (q_cM (q_mA pix smp tr (q_nb p left dn ins) (q_fb z)) q_IM (q_mJ y pd), 34, 31630))) rfl rfl h183 ?_
                  refine q_Ru_seg (g2 := (15, [(0, .int (lin - 4)), (1, .int 0), (2, .int 31)], [.int 1], (q_cM (q_mA pix smp tr (q_nb p left dn ins) (q_fb z)) q_IM (q_mJ y pd), 34, 31630))) 2 (fun _ _ => rfl) ?_
                  exact q_Ru_ret rfl rfl
                show q_Ru _ _ _ (56, [(3, .int (lin - 4)), (2, .int 1), (1, .int col), (0, .ref 64)], [.int 1], (q_cM (q_mA pix smp tr (q_nb p left dn ins) (q_fb z)) q_IM (q_mJ y pd), 34, 31630)) _
                refine q_Ru_seg (g2 := (63, [(3, .int (lin - 4)), (2, .int 1), (1, .int col), (0, .ref 64)], [.int 19, .int 4, .int col], (q_cM (q_mA pix smp tr (q_nb p left dn ins) (q_fb z)) q_IM (q_mJ y pd), 34, 31630))) 4 (fun _ _ => rfl) ?_
                refine q_Ru_call (v := (some (.int 0))) (h2 := (q_cM (q_mA pix smp tr (q_nb p left dn ins) (q_fb z)) q_IM (q_mJ y pd), 34, 31630)) rfl rfl ?_ ?_
                · refine q_Ca_of (Nat.le_of_ble_eq_true rfl) ?_
                  refine q_Ru_seg (g2 := (2, [(0, .int col), (1, .int 4), (2, .int 19)], [.int 4, .int col], (q_cM (q_mA pix smp tr (q_nb p left dn ins) (q_fb z)) q_IM (q_mJ y pd), 34, 31630))) 2 (fun _ _ => rfl) ?_
                  refine q_Ru_rsF (g2 := (5, [(0, .int col), (1, .int 4), (2, .int 19)], [], (q_cM (q_mA pix smp tr (q_nb p left dn ins) (q_fb z)) q_IM (q_mJ y pd), 34, 31630))) rfl rfl h185 ?_
                  refine q_Ru_seg (g2 := (7, [(0, .int col), (1, .int 4), (2, .int 19)], [.int 19, .int col], (q_cM (q_mA pix smp tr (q_nb p left dn ins) (q_fb z)) q_IM (q_mJ y pd), 34, 31630))) 2 (fun _ _ => rfl) ?_
                  refine q_Ru_rsT (g2 := (14, [(0, .int col), (1, .int 4), (2, .int 19)], [], (q_cM (q_mA pix smp tr (q_nb p left dn ins) (q_fb z)) q_IM (q_mJ y pd), 34, 31630))) rfl rfl h187 ?_
                  refine q_Ru_seg (g2 := (15, [(0, .int col), (1, .int 4), (2, .int 19)], [.int 0], (q_cM (q_mA pix smp tr (q_nb p left dn ins) (q_fb z)) q_IM (q_mJ y pd), 34, 31630))) 1 (fun _ _ => rfl) ?_
                  exact q_Ru_ret rfl rfl
                show q_Ru _ _ _ (66, [(3, .int (lin - 4)), (2, .int 1), (1, .int col), (0, .ref 64)], [.int 0], (q_cM (q_mA pix smp tr (q_nb p left dn ins) (q_fb z)) q_IM (q_mJ y pd), 34, 31630)) _
                refine q_Ru_seg (g2 := (92, [(3, .int (lin - 4)), (2, .int 1), (1, .int col), (0, .ref 64)], [.ref 64], (q_cM (q_mA pix smp tr (q_nb p left dn ins) (q_fb z)) q_IM (q_mJ y pd), 34, 31630))) 2 (fun _ _ => rfl) ?_
                refine q_Ru_call (v := none) (h2 := (q_cM (q_mA pix smp tr (q_nb p left dn ins) (q_fb z)) q_IM (q_mJ y pd), 34, 31630)) rfl rfl ?_ ?_
                · exact (q_m_times pix smp tr p left dn ins z y pd col lin p1 p2 hC hM c0 c1 l0 l1 a0 a1 b0 b1 hp0 hp1 hp2 i0 i1  ).le (Nat.le_of_ble_eq_true rfl)
                show q_Ru _ _ _ (95, [(3, .int (lin - 4)), (2, .int 1), (1, .int col), (0, .ref 64)], [], (q_cM (q_mA pix smp tr (q_nb p left dn ins) (q_fb z)) q_IM (q_mJ y pd), 34, 31630)) _
                refine q_Ru_seg (g2 := (96, [(3, .int (lin - 4)), (2, .int 1), (1, .int col), (0, .ref 64)], [.ref 64], (q_cM (q_mA pix smp tr (q_nb p left dn ins) (q_fb z)) q_IM (q_mJ y pd), 34, 31630))) 1 (fun _ _ => rfl) ?_
                refine q_Ru_call (v := none) (h2 := (q_cM (q_mA pix smp tr (q_nb p left dn ins) (q_fb z)) q_IM (q_mJ y pd), 34, 31630)) rfl rfl ?_ ?_
                · exact (q_m_winds pix smp tr p left dn ins z y pd col lin p1 p2 hC hM c0 c1 l0 l1 a0 a1 b0 b1 hp0 hp1 hp2 i0 i1  ).le (Nat.le_of_ble_eq_true rfl)
                show q_Ru _ _ _ (99, [(3, .int (lin - 4)), (2, .int 1), (1, .int col), (0, .ref 64)], [], (q_cM (q_mA pix smp tr (q_nb p left dn ins) (q_fb z)) q_IM (q_mJ y pd), 34, 31630)) _
                refine q_Ru_seg (g2 := (102, [(3, .int (lin - 4)), (2, .int 1), (1, .int col), (0, .ref 64)], [.int 23, .int col], (q_cM (q_mA pix smp tr (q_nb p left dn ins) (q_fb z)) q_IM (q_mJ y pd), 34, 31630))) 2 (fun _ _ => rfl) ?_
                refine q_Ru_rsF (g2 := (105, [(3, .int (lin - 4)), (2, .int 1), (1, .int col), (0, .ref 64)], [], (q_cM (q_mA pix smp tr (q_nb p left dn ins) (q_fb z)) q_IM (q_mJ y pd), 34, 31630))) rfl rfl (q_d_neT h188) ?_
                refine q_Ru_seg (g2 := (106, [(3, .int (lin - 4)), (2, .int 1), (1, .int col), (0, .ref 64)], [.ref 64], (q_cM (q_mA pix smp tr (q_nb p left dn ins) (q_fb z)) q_IM (q_mJ y pd), 34, 31630))) 1 (fun _ _ => rfl) ?_
                refine q_Ru_call (v := none) (h2 := (q_cM (q_mA pix z97a tr (q_nb p left dn ins) (q_fb z)) q_IM (q_mJ y pd), 34, 31630)) rfl rfl ?_ ?_
                · exact p97.le (Nat.le_of_ble_eq_true rfl)
                show q_Ru _ _ _ (109, [(3, .int (lin - 4)), (2, .int 1), (1, .int col), (0, .ref 64)], [], (q_cM (q_mA pix z97a tr (q_nb p left dn ins) (q_fb z)) q_IM (q_mJ y pd), 34, 31630)) _
                refine q_Ru_seg (g2 := (122, [(3, .int (lin - 4)), (2, .int 1), (1, .int col), (0, .ref 64)], [.long pd, .ref 64], (q_cM (q_mA pix z97a tr (q_nb p left dn ins) (q_fb z)) q_IM (q_mJ y pd), 34, 31630))) 5 (fun _ _ => rfl) ?_
                refine q_Ru_seg (g2 := (140, [(3, .int (lin - 4)), (2, .int 1), (1, .int col), (0, .ref 64)], [.long y, .ref 64], (q_cM (q_mA pix z97a tr (q_nb p left dn ins) (q_fb z)) q_IM (q_uI (q_mJ y pd) 0 16 (pd + 1)), 34, 31630))) 9 (fun _ _ => rfl) ?_
                refine q_Ru_seg (g2 := (146, [(3, .int (lin - 4)), (2, .int 1), (1, .int col), (0, .ref 64)], [.int 1], (q_cM (q_mA pix z97a tr (q_nb p left dn ins) (q_fb z)) q_IM (q_uI (q_uI (q_mJ y pd) 0 16 (pd + 1)) 0 15 (y + 1)), 34, 31630))) 4 (fun _ _ => rfl) ?_
                exact q_Ru_ret rfl rfl
              | false =>
                refine ⟨pix, smp, ?_⟩
                refine q_Ca_of (Nat.le_of_ble_eq_true rfl) ?_
                refine q_Ru_seg (g2 := (4, [(0, .ref 64)], [.long y], (q_cM (q_mA pix smp tr (q_nb p left dn ins) (q_fb z)) q_IM (q_mJ y pd), 34, 31630))) 2 (fun _ _ => rfl) ?_
                refine q_Ru_seg (g2 := (9, [(0, .ref 64)], [.int ((y - y / 24 * 24).toInt32)], (q_cM (q_mA pix smp tr (q_nb p left dn ins) (q_fb z)) q_IM (q_mJ y pd), 34, 31630))) 3 (fun _ _ => rfl) ?_
                rw [hC]
                refine q_Ru_seg (g2 := (11, [(1, .int col), (0, .ref 64)], [.int col], (q_cM (q_mA pix smp tr (q_nb p left dn ins) (q_fb z)) q_IM (q_mJ y pd), 34, 31630))) 2 (fun _ _ => rfl) ?_
                refine q_Ru_rsF (g2 := (14, [(1, .int col), (0, .ref 64)], [], (q_cM (q_mA pix smp tr (q_nb p left dn ins) (q_fb z)) q_IM (q_mJ y pd), 34, 31630))) rfl rfl (q_d_neT h170) ?_
                refine q_Ru_seg (g2 := (15, [(1, .int col), (0, .ref 64)], [.ref 64], (q_cM (q_mA pix smp tr (q_nb p left dn ins) (q_fb z)) q_IM (q_mJ y pd), 34, 31630))) 1 (fun _ _ => rfl) ?_
                refine q_Ru_call (v := (some (.int lin))) (h2 := (q_cM (q_mA pix smp tr (q_nb p left dn ins) (q_fb z)) q_IM (q_mJ y pd), 34, 31630)) rfl rfl ?_ ?_
                · refine q_Ca_of (Nat.le_of_ble_eq_true rfl) ?_
                  refine q_Ru_seg (g2 := (4, [(0, .ref 64)], [.long y], (q_cM (q_mA pix smp tr (q_nb p left dn ins) (q_fb z)) q_IM (q_mJ y pd), 34, 31630))) 2 (fun _ _ => rfl) ?_
                  refine q_Ru_seg (g2 := (13, [(0, .ref 64)], [.int (((y / 24) - (y / 24) / 40 * 40).toInt32)], (q_cM (q_mA pix smp tr (q_nb p left dn ins) (q_fb z)) q_IM (q_mJ y pd), 34, 31630))) 5 (fun _ _ => rfl) ?_
                  rw [hM]
                  exact q_Ru_ret rfl rfl
                show q_Ru _ _ _ (18, [(1, .int col), (0, .ref 64)], [.int lin], (q_cM (q_mA pix smp tr (q_nb p left dn ins) (q_fb z)) q_IM (q_mJ y pd), 34, 31630)) _
                refine q_Ru_seg (g2 := (25, [(1, .int col), (0, .ref 64)], [.int 0, .int lin], (q_cM (q_mA pix smp tr (q_nb p left dn ins) (q_fb z)) q_IM (q_mJ y pd), 34, 31630))) 4 (fun _ _ => rfl) ?_
                refine q_Ru_rsT (g2 := (39, [(1, .int col), (0, .ref 64)], [], (q_cM (q_mA pix smp tr (q_nb p left dn ins) (q_fb z)) q_IM (q_mJ y pd), 34, 31630))) rfl rfl (q_d_neF h171) ?_
                refine q_Ru_seg (g2 := (40, [(1, .int col), (0, .ref 64)], [.ref 64], (q_cM (q_mA pix smp tr (q_nb p left dn ins) (q_fb z)) q_IM (q_mJ y pd), 34, 31630))) 1 (fun _ _ => rfl) ?_
                refine q_Ru_call (v := (some (.int 1))) (h2 := (q_cM (q_mA pix smp tr (q_nb p left dn ins) (q_fb z)) q_IM (q_mJ y pd), 34, 31630)) rfl rfl ?_ ?_
                · exact (by have e := q_m_picX pix smp tr p left dn ins z y pd col lin p1 p2 hC hM c0 c1 l0 l1 a0 a1 b0 b1 hp0 hp1 hp2 i0 i1; rw [hpic] at e; exact e.le (Nat.le_of_ble_eq_true rfl))
                show q_Ru _ _ _ (43, [(1, .int col), (0, .ref 64)], [.int 1], (q_cM (q_mA pix smp tr (q_nb p left dn ins) (q_fb z)) q_IM (q_mJ y pd), 34, 31630)) _
                refine q_Ru_seg (g2 := (45, [(2, .int 1), (1, .int col), (0, .ref 64)], [.ref 64], (q_cM (q_mA pix smp tr (q_nb p left dn ins) (q_fb z)) q_IM (q_mJ y pd), 34, 31630))) 2 (fun _ _ => rfl) ?_
                refine q_Ru_call (v := (some (.int (lin - 4)))) (h2 := (q_cM (q_mA pix smp tr (q_nb p left dn ins) (q_fb z)) q_IM (q_mJ y pd), 34, 31630)) rfl rfl ?_ ?_
                · refine q_Ca_of (Nat.le_of_ble_eq_true rfl) ?_
                  refine q_Ru_seg (g2 := (1, [(0, .ref 64)], [.ref 64], (q_cM (q_mA pix smp tr (q_nb p left dn ins) (q_fb z)) q_IM (q_mJ y pd), 34, 31630))) 1 (fun _ _ => rfl) ?_
                  refine q_Ru_call (v := (some (.int lin))) (h2 := (q_cM (q_mA pix smp tr (q_nb p left dn ins) (q_fb z)) q_IM (q_mJ y pd), 34, 31630)) rfl rfl ?_ ?_
                  · refine q_Ca_of (Nat.le_of_ble_eq_true rfl) ?_
                    refine q_Ru_seg (g2 := (4, [(0, .ref 64)], [.long y], (q_cM (q_mA pix smp tr (q_nb p left dn ins) (q_fb z)) q_IM (q_mJ y pd), 34, 31630))) 2 (fun _ _ => rfl) ?_
                    refine q_Ru_seg (g2 := (13, [(0, .ref 64)], [.int (((y / 24) - (y / 24) / 40 * 40).toInt32)], (q_cM (q_mA pix smp tr (q_nb p left dn ins) (q_fb z)) q_IM (q_mJ y pd), 34, 31630))) 5 (fun _ _ => rfl) ?_
                    rw [hM]
                    exact q_Ru_ret rfl rfl
                  show q_Ru _ _ _ (4, [(0, .ref 64)], [.int lin], (q_cM (q_mA pix smp tr (q_nb p left dn ins) (q_fb z)) q_IM (q_mJ y pd), 34, 31630)) _
                  refine q_Ru_seg (g2 := (6, [(0, .ref 64)], [.int (lin - 4)], (q_cM (q_mA pix smp tr (q_nb p left dn ins) (q_fb z)) q_IM (q_mJ y pd), 34, 31630))) 2 (fun _ _ => rfl) ?_
                  exact q_Ru_ret rfl rfl
                show q_Ru _ _ _ (48, [(2, .int 1), (1, .int col), (0, .ref 64)], [.int (lin - 4)], (q_cM (q_mA pix smp tr (q_nb p left dn ins) (q_fb z)) q_IM (q_mJ y pd), 34, 31630)) _
                refine q_Ru_seg (g2 := (53, [(3, .int (lin - 4)), (2, .int 1), (1, .int col), (0, .ref 64)], [.int 31, .int 0, .int (lin - 4)], (q_cM (q_mA pix smp tr (q_nb p left dn ins) (q_fb z)) q_IM (q_mJ y pd), 34, 31630))) 4 (fun _ _ => rfl) ?_
                refine q_Ru_call (v := (some (.int 1))) (h2 := (q_cM (q_mA pix smp tr (q_nb p left dn ins) (q_fb z)) q_IM (q_mJ y pd), 34, 31630)) rfl rfl ?_ ?_
                · refine q_Ca_of (Nat.le_of_ble_eq_true rfl) ?_
                  refine q_Ru_seg (g2 := (2, [(0, .int (lin - 4)), (1, .int 0), (2, .int 31)], [.int 0, .int (lin - 4)], (q_cM (q_mA pix smp tr (q_nb p left dn ins) (q_fb z)) q_IM (q_mJ y pd), 34, 31630))) 2 (fun _ _ => rfl) ?_
                  refine q_Ru_rsF (g2 := (5, [(0, .int (lin - 4)), (1, .int 0), (2, .int 31)], [], (q_cM (q_mA pix smp tr (q_nb p left dn ins) (q_fb z)) q_IM (q_mJ y pd), 34, 31630))) rfl rfl h181 ?_
                  refine q_Ru_seg (g2 := (7, [(0, .int (lin - 4)), (1, .int 0), (2, .int 31)], [.int 31, .int (lin - 4)], (q_cM (q_mA pix smp tr (q_nb p left dn ins) (q_fb z)) q_IM (q_mJ y pd), 34, 31630))) 2 (fun _ _ => rfl) ?_
                  refine q_Ru_rsF (g2 := (10, [(0, .int (lin - 4)), (1, .int 0), (2, .int 31)], [], (q_cM (q_mA pix smp tr (q_nb p left dn ins) (q_fb z)) q_IM (q_mJ y pd), 34, 31630))) rfl rfl h183 ?_
                  refine q_Ru_seg (g2 := (15, [(0, .int (lin - 4)), (1, .int 0), (2, .int 31)], [.int 1], (q_cM (q_mA pix smp tr (q_nb p left dn ins) (q_fb z)) q_IM (q_mJ y pd), 34, 31630))) 2 (fun _ _ => rfl) ?_
                  exact q_Ru_ret rfl rfl
                show q_Ru _ _ _ (56, [(3, .int (lin - 4)), (2, .int 1), (1, .int col), (0, .ref 64)], [.int 1], (q_cM (q_mA pix smp tr (q_nb p left dn ins) (q_fb z)) q_IM (q_mJ y pd), 34, 31630)) _
                refine q_Ru_seg (g2 := (63, [(3, .int (lin - 4)), (2, .int 1), (1, .int col), (0, .ref 64)], [.int 19, .int 4, .int col], (q_cM (q_mA pix smp tr (q_nb p left dn ins) (q_fb z)) q_IM (q_mJ y pd), 34, 31630))) 4 (fun _ _ => rfl) ?_
                refine q_Ru_call (v := (some (.int 0))) (h2 := (q_cM (q_mA pix smp tr (q_nb p left dn ins) (q_fb z)) q_IM (q_mJ y pd), 34, 31630)) rfl rfl ?_ ?_
                · refine q_Ca_of (Nat.le_of_ble_eq_true rfl) ?_
                  refine q_Ru_seg (g2 := (2, [(0, .int col), (1, .int 4), (2, .int 19)], [.int 4, .int col], (q_cM (q_mA pix smp tr (q_nb p left dn ins) (q_fb z)) q_IM (q_mJ y pd), 34, 31630))) 2 (fun _ _ => rfl) ?_
                  refine q_Ru_rsF (g2 := (5, [(0, .int col), (1, .int 4), (2, .int 19)], [], (q_cM (q_mA pix smp tr (q_nb p left dn ins) (q_fb z)) q_IM (q_mJ y pd), 34, 31630))) rfl rfl h185 ?_
                  refine q_Ru_seg (g2 := (7, [(0, .int col), (1, .int 4), (2, .int 19)], [.int 19, .int col], (q_cM (q_mA pix smp tr (q_nb p left dn ins) (q_fb z)) q_IM (q_mJ y pd), 34, 31630))) 2 (fun _ _ => rfl) ?_
                  refine q_Ru_rsT (g2 := (14, [(0, .int col), (1, .int 4), (2, .int 19)], [], (q_cM (q_mA pix smp tr (q_nb p left dn ins) (q_fb z)) q_IM (q_mJ y pd), 34, 31630))) rfl rfl h187 ?_
                  refine q_Ru_seg (g2 := (15, [(0, .int col), (1, .int 4), (2, .int 19)], [.int 0], (q_cM (q_mA pix smp tr (q_nb p left dn ins) (q_fb z)) q_IM (q_mJ y pd), 34, 31630))) 1 (fun _ _ => rfl) ?_
                  exact q_Ru_ret rfl rfl
                show q_Ru _ _ _ (66, [(3, .int (lin - 4)), (2, .int 1), (1, .int col), (0, .ref 64)], [.int 0], (q_cM (q_mA pix smp tr (q_nb p left dn ins) (q_fb z)) q_IM (q_mJ y pd), 34, 31630)) _
                refine q_Ru_seg (g2 := (92, [(3, .int (lin - 4)), (2, .int 1), (1, .int col), (0, .ref 64)], [.ref 64], (q_cM (q_mA pix smp tr (q_nb p left dn ins) (q_fb z)) q_IM (q_mJ y pd), 34, 31630))) 2 (fun _ _ => rfl) ?_
                refine q_Ru_call (v := none) (h2 := (q_cM (q_mA pix smp tr (q_nb p left dn ins) (q_fb z)) q_IM (q_mJ y pd), 34, 31630)) rfl rfl ?_ ?_
                · exact (q_m_times pix smp tr p left dn ins z y pd col lin p1 p2 hC hM c0 c1 l0 l1 a0 a1 b0 b1 hp0 hp1 hp2 i0 i1  ).le (Nat.le_of_ble_eq_true rfl)
                show q_Ru _ _ _ (95, [(3, .int (lin - 4)), (2, .int 1), (1, .int col), (0, .ref 64)], [], (q_cM (q_mA pix smp tr (q_nb p left dn ins) (q_fb z)) q_IM (q_mJ y pd), 34, 31630)) _
                refine q_Ru_seg (g2 := (96, [(3, .int (lin - 4)), (2, .int 1), (1, .int col), (0, .ref 64)], [.ref 64], (q_cM (q_mA pix smp tr (q_nb p left dn ins) (q_fb z)) q_IM (q_mJ y pd), 34, 31630))) 1 (fun _ _ => rfl) ?_
                refine q_Ru_call (v := none) (h2 := (q_cM (q_mA pix smp tr (q_nb p left dn ins) (q_fb z)) q_IM (q_mJ y pd), 34, 31630)) rfl rfl ?_ ?_
                · exact (q_m_winds pix smp tr p left dn ins z y pd col lin p1 p2 hC hM c0 c1 l0 l1 a0 a1 b0 b1 hp0 hp1 hp2 i0 i1  ).le (Nat.le_of_ble_eq_true rfl)
                show q_Ru _ _ _ (99, [(3, .int (lin - 4)), (2, .int 1), (1, .int col), (0, .ref 64)], [], (q_cM (q_mA pix smp tr (q_nb p left dn ins) (q_fb z)) q_IM (q_mJ y pd), 34, 31630)) _
                refine q_Ru_seg (g2 := (102, [(3, .int (lin - 4)), (2, .int 1), (1, .int col), (0, .ref 64)], [.int 23, .int col], (q_cM (q_mA pix smp tr (q_nb p left dn ins) (q_fb z)) q_IM (q_mJ y pd), 34, 31630))) 2 (fun _ _ => rfl) ?_
                refine q_Ru_rsT (g2 := (109, [(3, .int (lin - 4)), (2, .int 1), (1, .int col), (0, .ref 64)], [], (q_cM (q_mA pix smp tr (q_nb p left dn ins) (q_fb z)) q_IM (q_mJ y pd), 34, 31630))) rfl rfl (q_d_neF h188) ?_
                refine q_Ru_seg (g2 := (122, [(3, .int (lin - 4)), (2, .int 1), (1, .int col), (0, .ref 64)], [.long pd, .ref 64], (q_cM (q_mA pix smp tr (q_nb p left dn ins) (q_fb z)) q_IM (q_mJ y pd), 34, 31630))) 5 (fun _ _ => rfl) ?_
                refine q_Ru_seg (g2 := (140, [(3, .int (lin - 4)), (2, .int 1), (1, .int col), (0, .ref 64)], [.long y, .ref 64], (q_cM (q_mA pix smp tr (q_nb p left dn ins) (q_fb z)) q_IM (q_uI (q_mJ y pd) 0 16 (pd + 1)), 34, 31630))) 9 (fun _ _ => rfl) ?_
                refine q_Ru_seg (g2 := (146, [(3, .int (lin - 4)), (2, .int 1), (1, .int col), (0, .ref 64)], [.int 1], (q_cM (q_mA pix smp tr (q_nb p left dn ins) (q_fb z)) q_IM (q_uI (q_uI (q_mJ y pd) 0 16 (pd + 1)) 0 15 (y + 1)), 34, 31630))) 4 (fun _ _ => rfl) ?_
                exact q_Ru_ret rfl rfl
            | false =>
              have h189 : decide (col = 23) = false := q_not_tr (q_tbl1 (fun col => !decide (col = 23)) (l := 4) (n := 15) (by decide +kernel) (q_lo1 h185) (q_hi2 h187))
              obtain ⟨x104, p104⟩ := q_m_draws pix smp tr p left dn ins z y pd ((2 * col) - 8) (lin - 4) (of_decide_eq_true (q_tbl1 (fun col => decide (0 ≤ ((2 * col) - 8).toInt ∧ ((2 * col) - 8).toInt ≤ 31)) (l := 4) (n := 15) (by decide +kernel) (q_lo1 h185) (q_hi2 h187))).1 (of_decide_eq_true (q_tbl1 (fun col => decide (0 ≤ ((2 * col) - 8).toInt ∧ ((2 * col) - 8).toInt ≤ 31)) (l := 4) (n := 15) (by decide +kernel) (q_lo1 h185) (q_hi2 h187))).2 (of_decide_eq_true (q_tbl1 (fun lin => decide (0 ≤ (lin - 4).toInt ∧ (lin - 4).toInt ≤ 31)) (l := 4) (n := 31) (by decide +kernel) (q_sub_lo 4 (q_lo1 h181) l0 l1) (q_sub_hi 35 (q_hi2 h183) (q_sub_lo 4 (q_lo1 h181) l0 l1) l1))).1 (of_decide_eq_true (q_tbl1 (fun lin => decide (0 ≤ (lin - 4).toInt ∧ (lin - 4).toInt ≤ 31)) (l := 4) (n := 31) (by decide +kernel) (q_sub_lo 4 (q_lo1 h181) l0 l1) (q_sub_hi 35 (q_hi2 h183) (q_sub_lo 4 (q_lo1 h181) l0 l1) l1))).2
              obtain ⟨x105, p105⟩ := q_m_draws x104 smp tr p left dn ins z y pd ((2 * col) - 7) (lin - 4) (of_decide_eq_true (q_tbl1 (fun col => decide (0 ≤ ((2 * col) - 7).toInt ∧ ((2 * col) - 7).toInt ≤ 31)) (l := 4) (n := 15) (by decide +kernel) (q_lo1 h185) (q_hi2 h187))).1 (of_decide_eq_true (q_tbl1 (fun col => decide (0 ≤ ((2 * col) - 7).toInt ∧ ((2 * col) - 7).toInt ≤ 31)) (l := 4) (n := 15) (by decide +kernel) (q_lo1 h185) (q_hi2 h187))).2 (of_decide_eq_true (q_tbl1 (fun lin => decide (0 ≤ (lin - 4).toInt ∧ (lin - 4).toInt ≤ 31)) (l := 4) (n := 31) (by decide +kernel) (q_sub_lo 4 (q_lo1 h181) l0 l1) (q_sub_hi 35 (q_hi2 h183) (q_sub_lo 4 (q_lo1 h181) l0 l1) l1))).1 (of_decide_eq_true (q_tbl1 (fun lin => decide (0 ≤ (lin - 4).toInt ∧ (lin - 4).toInt ≤ 31)) (l := 4) (n := 31) (by decide +kernel) (q_sub_lo 4 (q_lo1 h181) l0 l1) (q_sub_hi 35 (q_hi2 h183) (q_sub_lo 4 (q_lo1 h181) l0 l1) l1))).2
              refine ⟨x105, smp, ?_⟩
              refine q_Ca_of (Nat.le_of_ble_eq_true rfl) ?_
              refine q_Ru_seg (g2 := (4, [(0, .ref 64)], [.long y], (q_cM (q_mA pix smp tr (q_nb p left dn ins) (q_fb z)) q_IM (q_mJ y pd), 34, 31630))) 2 (fun _ _ => rfl) ?_
              refine q_Ru_seg (g2 := (9, [(0, .ref 64)], [.int ((y - y / 24 * 24).toInt32)], (q_cM (q_mA pix smp tr (q_nb p left dn ins) (q_fb z)) q_IM (q_mJ y pd), 34, 31630))) 3 (fun _ _ => rfl) ?_
              rw [hC]
              refine q_Ru_seg (g2 := (11, [(1, .int col), (0, .ref 64)], [.int col], (q_cM (q_mA pix smp tr (q_nb p left dn ins) (q_fb z)) q_IM (q_mJ y pd), 34, 31630))) 2 (fun _ _ => rfl) ?_
              refine q_Ru_rsF (g2 := (14, [(1, .int col), (0, .ref 64)], [], (q_cM (q_mA pix smp tr (q_nb p left dn ins) (q_fb z)) q_IM (q_mJ y pd), 34, 31630))) rfl rfl (q_d_neT h170) ?_
              refine q_Ru_seg (g2 := (15, [(1, .int col), (0, .ref 64)], [.ref 64], (q_cM (q_mA pix smp tr (q_nb p left dn ins) (q_fb z)) q_IM (q_mJ y pd), 34, 31630))) 1 (fun _ _ => rfl) ?_
              refine q_Ru_call (v := (some (.int lin))) (h2 := (q_cM (q_mA pix smp tr (q_nb p left dn ins) (q_fb z)) q_IM (q_mJ y pd), 34, 31630)) rfl rfl ?_ ?_
              · refine q_Ca_of (Nat.le_of_ble_eq_true rfl) ?_
                refine q_Ru_seg (g2 := (4, [(0, .ref 64)], [.long y], (q_cM (q_mA pix smp tr (q_nb p left dn ins) (q_fb z)) q_IM (q_mJ y pd), 34, 31630))) 2 (fun _ _ => rfl) ?_
                refine q_Ru_seg (g2 := (13, [(0, .ref 64)], [.int (((y / 24) - (y / 24) / 40 * 40).toInt32)], (q_cM (q_mA pix smp tr (q_nb p left dn ins) (q_fb z)) q_IM (q_mJ y pd), 34, 31630))) 5 (fun _ _ => rfl) ?_
                rw [hM]
                exact q_Ru_ret rfl rfl
              show q_Ru _ _ _ (18, [(1, .int col), (0, .ref 64)], [.int lin], (q_cM (q_mA pix smp tr (q_nb p left dn ins) (q_fb z)) q_IM (q_mJ y pd), 34, 31630)) _
              refine q_Ru_seg (g2 := (25, [(1, .int col), (0, .ref 64)], [.int 0, .int lin], (q_cM (q_mA pix smp tr (q_nb p left dn ins) (q_fb z)) q_IM (q_mJ y pd), 34, 31630))) 4 (fun _ _ => rfl) ?_
              refine q_Ru_rsT (g2 := (39, [(1, .int col), (0, .ref 64)], [], (q_cM (q_mA pix smp tr (q_nb p left dn ins) (q_fb z)) q_IM (q_mJ y pd), 34, 31630))) rfl rfl (q_d_neF h171) ?_
              refine q_Ru_seg (g2 := (40, [(1, .int col), (0, .ref 64)], [.ref 64], (q_cM (q_mA pix smp tr (q_nb p left dn ins) (q_fb z)) q_IM (q_mJ y pd), 34, 31630))) 1 (fun _ _ => rfl) ?_
              refine q_Ru_call (v := (some (.int 1))) (h2 := (q_cM (q_mA pix smp tr (q_nb p left dn ins) (q_fb z)) q_IM (q_mJ y pd), 34, 31630)) rfl rfl ?_ ?_
              · exact (by have e := q_m_picX pix smp tr p left dn ins z y pd col lin p1 p2 hC hM c0 c1 l0 l1 a0 a1 b0 b1 hp0 hp1 hp2 i0 i1; rw [hpic] at e; exact e.le (Nat.le_of_ble_eq_true rfl))
              show q_Ru _ _ _ (43, [(1, .int col), (0, .ref 64)], [.int 1], (q_cM (q_mA pix smp tr (q_nb p left dn ins) (q_fb z)) q_IM (q_mJ y pd), 34, 31630)) _
              refine q_Ru_seg (g2 := (45, [(2, .int 1), (1, .int col), (0, .ref 64)], [.ref 64], (q_cM (q_mA pix smp tr (q_nb p left dn ins) (q_fb z)) q_IM (q_mJ y pd), 34, 31630))) 2 (fun _ _ => rfl) ?_
              refine q_Ru_call (v := (some (.int (lin - 4)))) (h2 := (q_cM (q_mA pix smp tr (q_nb p left dn ins) (q_fb z)) q_IM (q_mJ y pd), 34, 31630)) rfl rfl ?_ ?_
              · refine q_Ca_of (Nat.le_of_ble_eq_true rfl) ?_
                refine q_Ru_seg (g2 := (1, [(0, .ref 64)], [.ref 64], (q_cM (q_mA pix smp tr (q_nb p left dn ins) (q_fb z)) q_IM (q_mJ y pd), 34, 31630))) 1 (fun _ _ => rfl) ?_
                refine q_Ru_call (v := (some (.int lin))) (h2 := (q_cM (q_mA pix smp tr (q_nb p left dn ins) (q_fb z)) q_IM (q_mJ y pd), 34, 31630)) rfl rfl ?_ ?_
                · refine q_Ca_of (Nat.le_of_ble_eq_true rfl) ?_
                  refine q_Ru_seg (g2 := (4, [(0, .ref 64)], [.long y], (q_cM (q_mA pix smp tr (q_nb p left dn ins) (q_fb z)) q_IM (q_mJ y pd), 34, 31630))) 2 (fun _ _ => rfl) ?_
                  refine q_Ru_seg (g2 := (13, [(0, .ref 64)], [.int (((y / 24) - (y / 24) / 40 * 40).toInt32)], (q_cM (q_mA pix smp tr (q_nb p left dn ins) (q_fb z)) q_IM (q_mJ y pd), 34, 31630))) 5 (fun _ _ => rfl) ?_
                  rw [hM]
                  exact q_Ru_ret rfl rfl
                show q_Ru _ _ _ (4, [(0, .ref 64)], [.int lin], (q_cM (q_mA pix smp tr (q_nb p left dn ins) (q_fb z)) q_IM (q_mJ y pd), 34, 31630)) _
                refine q_Ru_seg (g2 := (6, [(0, .ref 64)], [.int (lin - 4)], (q_cM (q_mA pix smp tr (q_nb p left dn ins) (q_fb z)) q_IM (q_mJ y pd), 34, 31630))) 2 (fun _ _ => rfl) ?_
                exact q_Ru_ret rfl rfl
              show q_Ru _ _ _ (48, [(2, .int 1), (1, .int col), (0, .ref 64)], [.int (lin - 4)], (q_cM (q_mA pix smp tr (q_nb p left dn ins) (q_fb z)) q_IM (q_mJ y pd), 34, 31630)) _
              refine q_Ru_seg (g2 := (53, [(3, .int (lin - 4)), (2, .int 1), (1, .int col), (0, .ref 64)], [.int 31, .int 0, .int (lin - 4)], (q_cM (q_mA pix smp tr (q_nb p left dn ins) (q_fb z)) q_IM (q_mJ y pd), 34, 31630))) 4 (fun _ _ => rfl) ?_
              refine q_Ru_call (v := (some (.int 1))) (h2 := (q_cM (q_mA pix smp tr (q_nb p left dn ins) (q_fb z)) q_IM (q_mJ y pd), 34, 31630)) rfl rfl ?_ ?_
              · refine q_Ca_of (Nat.le_of_ble_eq_true rfl) ?_
                refine q_Ru_seg (g2 := (2, [(0, .int (lin - 4)), (1, .int 0), (2, .int 31)], [.int 0, .int (lin - 4)], (q_cM (q_mA pix smp tr (q_nb p left dn ins) (q_fb z)) q_IM (q_mJ y pd), 34, 31630))) 2 (fun _ _ => rfl) ?_
                refine q_Ru_rsF (g2 := (5, [(0, .int (lin - 4)), (1, .int 0), (2, .int 31)], [], (q_cM (q_mA pix smp tr (q_nb p left dn ins) (q_fb z)) q_IM (q_mJ y pd), 34, 31630))) rfl rfl h181 ?_
                refine q_Ru_seg (g2 := (7, [(0, .int (lin - 4)), (1, .int 0), (2, .int 31)], [.int 31, .int (lin - 4)], (q_cM (q_mA pix smp tr (q_nb p left dn ins) (q_fb z)) q_IM (q_mJ y pd), 34, 31630))) 2 (fun _ _ => rfl) ?_
                refine q_Ru_rsF (g2 := (10, [(0, .int (lin - 4)), (1, .int 0), (2, .int 31)], [], (q_cM (q_mA pix smp tr (q_nb p left dn ins) (q_fb z)) q_IM (q_mJ y pd), 34, 31630))) rfl rfl h183 ?_
                refine q_Ru_seg (g2 := (15, [(0, .int (lin - 4)), (1, .int 0), (2, .int 31)], [.int 1], (q_cM (q_mA pix smp tr (q_nb p left dn ins) (q_fb z)) q_IM (q_mJ y pd), 34, 31630))) 2 (fun _ _ => rfl) ?_
                exact q_Ru_ret rfl rfl
              show q_Ru _ _ _ (56, [(3, .int (lin - 4)), (2, .int 1), (1, .int col), (0, .ref 64)], [.int 1], (q_cM (q_mA pix smp tr (q_nb p left dn ins) (q_fb z)) q_IM (q_mJ y pd), 34, 31630)) _
              refine q_Ru_seg (g2 := (63, [(3, .int (lin - 4)), (2, .int 1), (1, .int col), (0, .ref 64)], [.int 19, .int 4, .int col], (q_cM (q_mA pix smp tr (q_nb p left dn ins) (q_fb z)) q_IM (q_mJ y pd), 34, 31630))) 4 (fun _ _ => rfl) ?_
              refine q_Ru_call (v := (some (.int 1))) (h2 := (q_cM (q_mA pix smp tr (q_nb p left dn ins) (q_fb z)) q_IM (q_mJ y pd), 34, 31630)) rfl rfl ?_ ?_
              · refine q_Ca_of (Nat.le_of_ble_eq_true rfl) ?_
                refine q_Ru_seg (g2 := (2, [(0, .int col), (1, .int 4), (2, .int 19)], [.int 4, .int col], (q_cM (q_mA pix smp tr (q_nb p left dn ins) (q_fb z)) q_IM (q_mJ y pd), 34, 31630))) 2 (fun _ _ => rfl) ?_
                refine q_Ru_rsF (g2 := (5, [(0, .int col), (1, .int 4), (2, .int 19)], [], (q_cM (q_mA pix smp tr (q_nb p left dn ins) (q_fb z)) q_IM (q_mJ y pd), 34, 31630))) rfl rfl h185 ?_
                refine q_Ru_seg (g2 := (7, [(0, .int col), (1, .int 4), (2, .int 19)], [.int 19, .int col], (q_cM (q_mA pix smp tr (q_nb p left dn ins) (q_fb z)) q_IM (q_mJ y pd), 34, 31630))) 2 (fun _ _ => rfl) ?_
                refine q_Ru_rsF (g2 := (10, [(0, .int col), (1, .int 4), (2, .int 19)], [], (q_cM (q_mA pix smp tr (q_nb p left dn ins) (q_fb z)) q_IM (q_mJ y pd), 34, 31630))) rfl rfl h187 ?_
                refine q_Ru_seg (g2 := (15, [(0, .int col), (1, .int 4), (2, .int 19)], [.int 1], (q_cM (q_mA pix smp tr (q_nb p left dn ins) (q_fb z)) q_IM (q_mJ y pd), 34, 31630))) 2 (fun _ _ => rfl) ?_
                exact q_Ru_ret rfl rfl
              show q_Ru _ _ _ (66, [(3, .int (lin - 4)), (2, .int 1), (1, .int col), (0, .ref 64)], [.int 1], (q_cM (q_mA pix smp tr (q_nb p left dn ins) (q_fb z)) q_IM (q_mJ y pd), 34, 31630)) _
              refine q_Ru_seg (g2 := (77, [(3, .int (lin - 4)), (2, .int 1), (1, .int col), (0, .ref 64)], [.int (lin - 4), .int ((2 * col) - 8), .ref 64], (q_cM (q_mA pix smp tr (q_nb p left dn ins) (q_fb z)) q_IM (q_mJ y pd), 34, 31630))) 8 (fun _ _ => rfl) ?_
              refine q_Ru_call (v := none) (h2 := (q_cM (q_mA x104 smp tr (q_nb p left dn ins) (q_fb z)) q_IM (q_mJ y pd), 34, 31630)) rfl rfl ?_ ?_
              · exact p104.le (Nat.le_of_ble_eq_true rfl)
              show q_Ru _ _ _ (80, [(3, .int (lin - 4)), (2, .int 1), (1, .int col), (0, .ref 64)], [], (q_cM (q_mA x104 smp tr (q_nb p left dn ins) (q_fb z)) q_IM (q_mJ y pd), 34, 31630)) _
              refine q_Ru_seg (g2 := (88, [(3, .int (lin - 4)), (2, .int 1), (1, .int col), (0, .ref 64)], [.int (lin - 4), .int ((2 * col) - 7), .ref 64], (q_cM (q_mA x104 smp tr (q_nb p left dn ins) (q_fb z)) q_IM (q_mJ y pd), 34, 31630))) 7 (fun _ _ => rfl) ?_
              refine q_Ru_call (v := none) (h2 := (q_cM (q_mA x105 smp tr (q_nb p left dn ins) (q_fb z)) q_IM (q_mJ y pd), 34, 31630)) rfl rfl ?_ ?_
              · exact p105.le (Nat.le_of_ble_eq_true rfl)
              show q_Ru _ _ _ (91, [(3, .int (lin - 4)), (2, .int 1), (1, .int col), (0, .ref 64)], [], (q_cM (q_mA x105 smp tr (q_nb p left dn ins) (q_fb z)) q_IM (q_mJ y pd), 34, 31630)) _
              refine q_Ru_seg (g2 := (92, [(3, .int (lin - 4)), (2, .int 1), (1, .int col), (0, .ref 64)], [.ref 64], (q_cM (q_mA x105 smp tr (q_nb p left dn ins) (q_fb z)) q_IM (q_mJ y pd), 34, 31630))) 1 (fun _ _ => rfl) ?_
              refine q_Ru_call (v := none) (h2 := (q_cM (q_mA x105 smp tr (q_nb p left dn ins) (q_fb z)) q_IM (q_mJ y pd), 34, 31630)) rfl rfl ?_ ?_
              · exact (q_m_times x105 smp tr p left dn ins z y pd col lin p1 p2 hC hM c0 c1 l0 l1 a0 a1 b0 b1 hp0 hp1 hp2 i0 i1  ).le (Nat.le_of_ble_eq_true rfl)
              show q_Ru _ _ _ (95, [(3, .int (lin - 4)), (2, .int 1), (1, .int col), (0, .ref 64)], [], (q_cM (q_mA x105 smp tr (q_nb p left dn ins) (q_fb z)) q_IM (q_mJ y pd), 34, 31630)) _
              refine q_Ru_seg (g2 := (96, [(3, .int (lin - 4)), (2, .int 1), (1, .int col), (0, .ref 64)], [.ref 64], (q_cM (q_mA x105 smp tr (q_nb p left dn ins) (q_fb z)) q_IM (q_mJ y pd), 34, 31630))) 1 (fun _ _ => rfl) ?_
              refine q_Ru_call (v := none) (h2 := (q_cM (q_mA x105 smp tr (q_nb p left dn ins) (q_fb z)) q_IM (q_mJ y pd), 34, 31630)) rfl rfl ?_ ?_
              · exact (q_m_winds x105 smp tr p left dn ins z y pd col lin p1 p2 hC hM c0 c1 l0 l1 a0 a1 b0 b1 hp0 hp1 hp2 i0 i1  ).le (Nat.le_of_ble_eq_true rfl)
              show q_Ru _ _ _ (99, [(3, .int (lin - 4)), (2, .int 1), (1, .int col), (0, .ref 64)], [], (q_cM (q_mA x105 smp tr (q_nb p left dn ins) (q_fb z)) q_IM (q_mJ y pd), 34, 31630)) _
              refine q_Ru_seg (g2 := (102, [(3, .int (lin - 4)), (2, .int 1), (1, .int col), (0, .ref 64)], [.int 23, .int col], (q_cM (q_mA x105 smp tr (q_nb p left dn ins) (q_fb z)) q_IM (q_mJ y pd), 34, 31630))) 2 (fun _ _ => rfl) ?_
              refine q_Ru_rsT (g2 := (109, [(3, .int (lin - 4)), (2, .int 1), (1, .int col), (0, .ref 64)], [], (q_cM (q_mA x105 smp tr (q_nb p left dn ins) (q_fb z)) q_IM (q_mJ y pd), 34, 31630))) rfl rfl (q_d_neF h189) ?_
              refine q_Ru_seg (g2 := (122, [(3, .int (lin - 4)), (2, .int 1), (1, .int col), (0, .ref 64)], [.long pd, .ref 64], (q_cM (q_mA x105 smp tr (q_nb p left dn ins) (q_fb z)) q_IM (q_mJ y pd), 34, 31630))) 5 (fun _ _ => rfl) ?_
              refine q_Ru_seg (g2 := (140, [(3, .int (lin - 4)), (2, .int 1), (1, .int col), (0, .ref 64)], [.long y, .ref 64], (q_cM (q_mA x105 smp tr (q_nb p left dn ins) (q_fb z)) q_IM (q_uI (q_mJ y pd) 0 16 (pd + 1)), 34, 31630))) 9 (fun _ _ => rfl) ?_
              refine q_Ru_seg (g2 := (146, [(3, .int (lin - 4)), (2, .int 1), (1, .int col), (0, .ref 64)], [.int 1], (q_cM (q_mA x105 smp tr (q_nb p left dn ins) (q_fb z)) q_IM (q_uI (q_uI (q_mJ y pd) 0 16 (pd + 1)) 0 15 (y + 1)), 34, 31630))) 4 (fun _ _ => rfl) ?_
              exact q_Ru_ret rfl rfl
  | false =>
    cases h190 : decide (lin - 4 < 0) with
    | true =>
      cases h191 : decide (col = 23) with
      | true =>
        have eh191 := of_decide_eq_true h191
        subst eh191
        obtain ⟨z112a, p112⟩ := q_m_sample pix smp tr p left dn ins z y pd col lin p1 p2 hC hM c0 c1 l0 l1 a0 a1 b0 b1 hp0 hp1 hp2 i0 i1  
        refine ⟨pix, z112a, ?_⟩
        refine q_Ca_of (Nat.le_of_ble_eq_true rfl) ?_
        refine q_Ru_seg (g2 := (4, [(0, .ref 64)], [.long y], (q_cM (q_mA pix smp tr (q_nb p left dn ins) (q_fb z)) q_IM (q_mJ y pd), 34, 31630))) 2 (fun _ _ => rfl) ?_
        refine q_Ru_seg (g2 := (9, [(0, .ref 64)], [.int ((y - y / 24 * 24).toInt32)], (q_cM (q_mA pix smp tr (q_nb p left dn ins) (q_fb z)) q_IM (q_mJ y pd), 34, 31630))) 3 (fun _ _ => rfl) ?_
        rw [hC]
        refine q_Ru_seg (g2 := (11, [(1, .int col), (0, .ref 64)], [.int col], (q_cM (q_mA pix smp tr (q_nb p left dn ins) (q_fb z)) q_IM (q_mJ y pd), 34, 31630))) 2 (fun _ _ => rfl) ?_
        refine q_Ru_rsT (g2 := (39, [(1, .int col), (0, .ref 64)], [], (q_cM (q_mA pix smp tr (q_nb p left dn ins) (q_fb z)) q_IM (q_mJ y pd), 34, 31630))) rfl rfl (q_d_neF h170) ?_
        refine q_Ru_seg (g2 := (40, [(1, .int col), (0, .ref 64)], [.ref 64], (q_cM (q_mA pix smp tr (q_nb p left dn ins) (q_fb z)) q_IM (q_mJ y pd), 34, 31630))) 1 (fun _ _ => rfl) ?_
        refine q_Ru_call (v := (some (.int 1))) (h2 := (q_cM (q_mA pix smp tr (q_nb p left dn ins) (q_fb z)) q_IM (q_mJ y pd), 34, 31630)) rfl rfl ?_ ?_
        · exact (by have e := q_m_picX pix smp tr p left dn ins z y pd col lin p1 p2 hC hM c0 c1 l0 l1 a0 a1 b0 b1 hp0 hp1 hp2 i0 i1; rw [hpic] at e; exact e.le (Nat.le_of_ble_eq_true rfl))
        show q_Ru _ _ _ (43, [(1, .int col), (0, .ref 64)], [.int 1], (q_cM (q_mA pix smp tr (q_nb p left dn ins) (q_fb z)) q_IM (q_mJ y pd), 34, 31630)) _
        refine q_Ru_seg (g2 := (45, [(2, .int 1), (1, .int col), (0, .ref 64)], [.ref 64], (q_cM (q_mA pix smp tr (q_nb p left dn ins) (q_fb z)) q_IM (q_mJ y pd), 34, 31630))) 2 (fun _ _ => rfl) ?_
        refine q_Ru_call (v := (some (.int (lin - 4)))) (h2 := (q_cM (q_mA pix smp tr (q_nb p left dn ins) (q_fb z)) q_IM (q_mJ y pd), 34, 31630)) rfl rfl ?_ ?_
        · refine q_Ca_of (Nat.le_of_ble_eq_true rfl) ?_
          refine q_Ru_seg (g2 := (1, [(0, .ref 64)], [.ref 64], (q_cM (q_mA pix smp tr (q_nb p left dn ins) (q_fb z)) q_IM (q_mJ y pd), 34, 31630))) 1 (fun _ _ => rfl) ?_
          refine q_Ru_call (v := (some (.int lin))) (h2 := (q_cM (q_mA pix smp tr (q_nb p left dn ins) (q_fb z)) q_IM (q_mJ y pd), 34, 31630)) rfl rfl ?_ ?_
          · refine q_Ca_of (Nat.le_of_ble_eq_true rfl) ?_
            refine q_Ru_seg (g2 := (4, [(0, .ref 64)], [.long y], (q_cM (q_mA pix smp tr (q_nb p left dn ins) (q_fb z)) q_IM (q_mJ y pd), 34, 31630))) 2 (fun _ _ => rfl) ?_
            refine q_Ru_seg (g2 := (13, [(0, .ref 64)], [.int (((y / 24) - (y / 24) / 40 * 40).toInt32)], (q_cM (q_mA pix smp tr (q_nb p left dn ins) (q_fb z)) q_IM (q_mJ y pd), 34, 31630))) 5 (fun _ _ => rfl) ?_
            rw [hM]
            exact q_Ru_ret rfl rfl
          show q_Ru _ _ _ (4, [(0, .ref 64)], [.int lin], (q_cM (q_mA pix smp tr (q_nb p left dn ins) (q_fb z)) q_IM (q_mJ y pd), 34, 31630)) _
          refine q_Ru_seg (g2 := (6, [(0, .ref 64)], [.int (lin - 4)], (q_cM (q_mA pix smp tr (q_nb p left dn ins) (q_fb z)) q_IM (q_mJ y pd), 34, 31630))) 2 (fun _ _ => rfl) ?_
          exact q_Ru_ret rfl rfl
        show q_Ru _ _ _ (48, [(2, .int 1), (1, .int col), (0, .ref 64)], [.int (lin - 4)], (q_cM (q_mA pix smp tr (q_nb p left dn ins) (q_fb z)) q_IM (q_mJ y pd), 34, 31630)) _
        refine q_Ru_seg (g2 := (53, [(3, .int (lin - 4)), (2, .int 1), (1, .int col), (0, .ref 64)], [.int 31, .int 0, .int (lin - 4)], (q_cM (q_mA pix smp tr (q_nb p left dn ins) (q_fb z)) q_IM (q_mJ y pd), 34, 31630))) 4 (fun _ _ => rfl) ?_
        refine q_Ru_call (v := (some (.int 0))) (h2 := (q_cM (q_mA pix smp tr (q_nb p left dn ins) (q_fb z)) q_IM (q_mJ y pd), 34, 31630)) rfl rfl ?_ ?_
        · refine q_Ca_of (Nat.le_of_ble_eq_true rfl) ?_
          refine q_Ru_seg (g2 := (2, [(0, .int (lin - 4)), (1, .int 0), (2, .int 31)], [.int 0, .int (lin - 4)], (q_cM (q_mA pix smp tr (q_nb p left dn ins) (q_fb z)) q_IM (q_mJ y pd), 34, 31630))) 2 (fun _ _ => rfl) ?_
          refine q_Ru_rsT (g2 := (14, [(0, .int (lin - 4)), (1, .int 0), (2, .int 31)], [], (q_cM (q_mA pix smp tr (q_nb p left dn ins) (q_fb z)) q_IM (q_mJ y pd), 34, 31630))) rfl rfl h190 ?_
          refine q_Ru_seg (g2 := (15, [(0, .int (lin - 4)), (1, .int 0), (2, .int 31)], [.int 0], (q_cM (q_mA pix smp tr (q_nb p left dn ins) (q_fb z)) q_IM (q_mJ y pd), 34, 31630))) 1 (fun _ _ => rfl) ?_
          exact q_Ru_ret rfl rfl
        show q_Ru _ _ _ (56, [(3, .int (lin - 4)), (2, .int 1), (1, .int col), (0, .ref 64)], [.int 0], (q_cM (q_mA pix smp tr (q_nb p left dn ins) (q_fb z)) q_IM (q_mJ y pd), 34, 31630)) _
        refine q_Ru_seg (g2 := (92, [(3, .int (lin - 4)), (2, .int 1), (1, .int col), (0, .ref 64)], [.ref 64], (q_cM (q_mA pix smp tr (q_nb p left dn ins) (q_fb z)) q_IM (q_mJ y pd), 34, 31630))) 2 (fun _ _ => rfl) ?_
        refine q_Ru_call (v := none) (h2 := (q_cM (q_mA pix smp tr (q_nb p left dn ins) (q_fb z)) q_IM (q_mJ y pd), 34, 31630)) rfl rfl ?_ ?_
        · exact (q_m_times pix smp tr p left dn ins z y pd col lin p1 p2 hC hM c0 c1 l0 l1 a0 a1 b0 b1 hp0 hp1 hp2 i0 i1  ).le (Nat.le_of_ble_eq_true rfl)
        show q_Ru _ _ _ (95, [(3, .int (lin - 4)), (2, .int 1), (1, .int col), (0, .ref 64)], [], (q_cM (q_mA pix smp tr (q_nb p left dn ins) (q_fb z)) q_IM (q_mJ y pd), 34, 31630)) _
        refine q_Ru_seg (g2 := (96, [(3, .int (lin - 4)), (2, .int 1), (1, .int col), (0, .ref 64)], [.ref 64], (q_cM (q_mA pix smp tr (q_nb p left dn ins) (q_fb z)) q_IM (q_mJ y pd), 34, 31630))) 1 (fun _ _ => rfl) ?_
        refine q_Ru_call (v := none) (h2 := (q_cM (q_mA pix smp tr (q_nb p left dn ins) (q_fb z)) q_IM (q_mJ y pd), 34, 31630)) rfl rfl ?_ ?_
        · exact (q_m_winds pix smp tr p left dn ins z y pd col lin p1 p2 hC hM c0 c1 l0 l1 a0 a1 b0 b1 hp0 hp1 hp2 i0 i1  ).le (Nat.le_of_ble_eq_true rfl)
        show q_Ru _ _ _ (99, [(3, .int (lin - 4)), (2, .int 1), (1, .int col), (0, .ref 64)], [], (q_cM (q_mA pix smp tr (q_nb p left dn ins) (q_fb z)) q_IM (q_mJ y pd), 34, 31630)) _
        refine q_Ru_seg (g2 := (102, [(3, .int (lin - 4)), (2, .int 1), (1, .int col), (0, .ref 64)], [.int 23, .int col], (q_cM (q_mA pix smp tr (q_nb p left dn ins) (q_fb z)) q_IM (q_mJ y pd), 34, 31630))) 2 (fun _ _ => rfl) ?_
        refine q_Ru_rsF (g2 := (105, [(3, .int (lin - 4)), (2, .int 1), (1, .int col), (0, .ref 64)], [], (q_cM (q_mA pix smp tr (q_nb p left dn ins) (q_fb z)) q_IM (q_mJ y pd), 34, 31630))) rfl rfl (q_d_neT h191) ?_
        refine q_Ru_seg (g2 := (106, [(3, .int (lin - 4)), (2, .int 1), (1, .int col), (0, .ref 64)], [.ref 64], (q_cM (q_mA pix smp tr (q_nb p left dn ins) (q_fb z)) q_IM (q_mJ y pd), 34, 31630))) 1 (fun _ _ => rfl) ?_
        refine q_Ru_call (v := none) (h2 := (q_cM (q_mA pix z112a tr (q_nb p left dn ins) (q_fb z)) q_IM (q_mJ y pd), 34, 31630)) rfl rfl ?_ ?_
        · exact p112.le (Nat.le_of_ble_eq_true rfl)
        show q_Ru _ _ _ (109, [(3, .int (lin - 4)), (2, .int 1), (1, .int col), (0, .ref 64)], [], (q_cM (q_mA pix z112a tr (q_nb p left dn ins) (q_fb z)) q_IM (q_mJ y pd), 34, 31630)) _
        refine q_Ru_seg (g2 := (122, [(3, .int (lin - 4)), (2, .int 1), (1, .int col), (0, .ref 64)], [.long pd, .ref 64], (q_cM (q_mA pix z112a tr (q_nb p left dn ins) (q_fb z)) q_IM (q_mJ y pd), 34, 31630))) 5 (fun _ _ => rfl) ?_
        refine q_Ru_seg (g2 := (140, [(3, .int (lin - 4)), (2, .int 1), (1, .int col), (0, .ref 64)], [.long y, .ref 64], (q_cM (q_mA pix z112a tr (q_nb p left dn ins) (q_fb z)) q_IM (q_uI (q_mJ y pd) 0 16 (pd + 1)), 34, 31630))) 9 (fun _ _ => rfl) ?_
        refine q_Ru_seg (g2 := (146, [(3, .int (lin - 4)), (2, .int 1), (1, .int col), (0, .ref 64)], [.int 1], (q_cM (q_mA pix z112a tr (q_nb p left dn ins) (q_fb z)) q_IM (q_uI (q_uI (q_mJ y pd) 0 16 (pd + 1)) 0 15 (y + 1)), 34, 31630))) 4 (fun _ _ => rfl) ?_
        exact q_Ru_ret rfl rfl
      | false =>
        refine ⟨pix, smp, ?_⟩
        refine q_Ca_of (Nat.le_of_ble_eq_true rfl) ?_
        refine q_Ru_seg (g2 := (4, [(0, .ref 64)], [.long y], (q_cM (q_mA pix smp tr (q_nb p left dn ins) (q_fb z)) q_IM (q_mJ y pd), 34, 31630))) 2 (fun _ _ => rfl) ?_
        refine q_Ru_seg (g2 := (9, [(0, .ref 64)], [.int ((y - y / 24 * 24).toInt32)], (q_cM (q_mA pix smp tr (q_nb p left dn ins) (q_fb z)) q_IM (q_mJ y pd), 34, 31630))) 3 (fun _ _ => rfl) ?_
        rw [hC]
        refine q_Ru_seg (g2 := (11, [(1, .int col), (0, .ref 64)], [.int col], (q_cM (q_mA pix smp tr (q_nb p left dn ins) (q_fb z)) q_IM (q_mJ y pd), 34, 31630))) 2 (fun _ _ => rfl) ?_
        refine q_Ru_rsT (g2 := (39, [(1, .int col), (0, .ref 64)], [], (q_cM (q_mA pix smp tr (q_nb p left dn ins) (q_fb z)) q_IM (q_mJ y pd), 34, 31630))) rfl rfl (q_d_neF h170) ?_
        refine q_Ru_seg (g2 := (40, [(1, .int col), (0, .ref 64)], [.ref 64], (q_cM (q_mA pix smp tr (q_nb p left dn ins) (q_fb z)) q_IM (q_mJ y pd), 34, 31630))) 1 (fun _ _ => rfl) ?_
        refine q_Ru_call (v := (some (.int 1))) (h2 := (q_cM (q_mA pix smp tr (q_nb p left dn ins) (q_fb z)) q_IM (q_mJ y pd), 34, 31630)) rfl rfl ?_ ?_
        · exact (by have e := q_m_picX pix smp tr p left dn ins z y pd col lin p1 p2 hC hM c0 c1 l0 l1 a0 a1 b0 b1 hp0 hp1 hp2 i0 i1; rw [hpic] at e; exact e.le (Nat.le_of_ble_eq_true rfl))
        show q_Ru _ _ _ (43, [(1, .int col), (0, .ref 64)], [.int 1], (q_cM (q_mA pix smp tr (q_nb p left dn ins) (q_fb z)) q_IM (q_mJ y pd), 34, 31630)) _
        refine q_Ru_seg (g2 := (45, [(2, .int 1), (1, .int col), (0, .ref 64)], [.ref 64], (q_cM (q_mA pix smp tr (q_nb p left dn ins) (q_fb z)) q_IM (q_mJ y pd), 34, 31630))) 2 (fun _ _ => rfl) ?_
        refine q_Ru_call (v := (some (.int (lin - 4)))) (h2 := (q_cM (q_mA pix smp tr (q_nb p left dn ins) (q_fb z)) q_IM (q_mJ y pd), 34, 31630)) rfl rfl ?_ ?_
        · refine q_Ca_of (Nat.le_of_ble_eq_true rfl) ?_
          refine q_Ru_seg (g2 := (1, [(0, .ref 64)], [.ref 64], (q_cM (q_mA pix smp tr (q_nb p left dn ins) (q_fb z)) q_IM (q_mJ y pd), 34, 31630))) 1 (fun _ _ => rfl) ?_
          refine q_Ru_call (v := (some (.int lin))) (h2 := (q_cM (q_mA pix smp tr (q_nb p left dn ins) (q_fb z)) q_IM (q_mJ y pd), 34, 31630)) rfl rfl ?_ ?_
          · refine q_Ca_of (Nat.le_of_ble_eq_true rfl) ?_
            refine q_Ru_seg (g2 := (4, [(0, .ref 64)], [.long y], (q_cM (q_mA pix smp tr (q_nb p left dn ins) (q_fb z)) q_IM (q_mJ y pd), 34, 31630))) 2 (fun _ _ => rfl) ?_
            refine q_Ru_seg (g2 := (13, [(0, .ref 64)], [.int (((y / 24) - (y / 24) / 40 * 40).toInt32)], (q_cM (q_mA pix smp tr (q_nb p left dn ins) (q_fb z)) q_IM (q_mJ y pd), 34, 31630))) 5 (fun _ _ => rfl) ?_
            rw [hM]
            exact q_Ru_ret rfl rfl
          show q_Ru _ _ _ (4, [(0, .ref 64)], [.int lin], (q_cM (q_mA pix smp tr (q_nb p left dn ins) (q_fb z)) q_IM (q_mJ y pd), 34, 31630)) _
          refine q_Ru_seg (g2 := (6, [(0, .ref 64)], [.int (lin - 4)], (q_cM (q_mA pix smp tr (q_nb p left dn ins) (q_fb z)) q_IM (q_mJ y pd), 34, 31630))) 2 (fun _ _ => rfl) ?_
          exact q_Ru_ret rfl rfl
        show q_Ru _ _ _ (48, [(2, .int 1), (1, .int col), (0, .ref 64)], [.int (lin - 4)], (q_cM (q_mA pix smp tr (q_nb p left dn ins) (q_fb z)) q_IM (q_mJ y pd), 34, 31630)) _
        refine q_Ru_seg (g2 := (53, [(3, .int (lin - 4)), (2, .int 1), (1, .int col), (0, .ref 64)], [.int 31, .int 0, .int (lin - 4)], (q_cM (q_mA pix smp tr (q_nb p left dn ins) (q_fb z)) q_IM (q_mJ y pd), 34, 31630))) 4 (fun _ _ => rfl) ?_
        refine q_Ru_call (v := (some (.int 0))) (h2 := (q_cM (q_mA pix smp tr (q_nb p left dn ins) (q_fb z)) q_IM (q_mJ y pd), 34, 31630)) rfl rfl ?_ ?_
        · refine q_Ca_of (Nat.le_of_ble_eq_true rfl) ?_
          refine q_Ru_seg (g2 := (2, [(0, .int (lin - 4)), (1, .int 0), (2, .int 31)], [.int 0, .int (lin - 4)], (q_cM (q_mA pix smp tr (q_nb p left dn ins) (q_fb z)) q_IM (q_mJ y pd), 34, 31630))) 2 (fun _ _ => rfl) ?_
          refine q_Ru_rsT (g2 := (14, [(0, .int (lin - 4)), (1, .int 0), (2, .int 31)], [], (q_cM (q_mA pix smp tr (q_nb p left dn ins) (q_fb z)) q_IM (q_mJ y pd), 34, 31630))) rfl rfl h190 ?_
          refine q_Ru_seg (g2 := (15, [(0, .int (lin - 4)), (1, .int 0), (2, .int 31)], [.int 0], (q_cM (q_mA pix smp tr (q_nb p left dn ins) (q_fb z)) q_IM (q_mJ y pd), 34, 31630))) 1 (fun _ _ => rfl) ?_
          exact q_Ru_ret rfl rfl
        show q_Ru _ _ _ (56, [(3, .int (lin - 4)), (2, .int 1), (1, .int col), (0, .ref 64)], [.int 0], (q_cM (q_mA pix smp tr (q_nb p left dn ins) (q_fb z)) q_IM (q_mJ y pd), 34, 31630)) _
        refine q_Ru_seg (g2 := (92, [(3, .int (lin - 4)), (2, .int 1), (1, .int col), (0, .ref 64)], [.ref 64], (q_cM (q_mA pix smp tr (q_nb p left dn ins) (q_fb z)) q_IM (q_mJ y pd), 34, 31630))) 2 (fun _ _ => rfl) ?_
        refine q_Ru_call (v := none) (h2 := (q_cM (q_mA pix smp tr (q_nb p left dn ins) (q_fb z)) q_IM (q_mJ y pd), 34, 31630)) rfl rfl ?_ ?_
        · exact (q_m_times pix smp tr p left dn ins z y pd col lin p1 p2 hC hM c0 c1 l0 l1 a0 a1 b0 b1 hp0 hp1 hp2 i0 i1  ).le (Nat.le_of_ble_eq_true rfl)
        show q_Ru _ _ _ (95, [(3, .int (lin - 4)), (2, .int 1), (1, .int col), (0, .ref 64)], [], (q_cM (q_mA pix smp tr (q_nb p left dn ins) (q_fb z)) q_IM (q_mJ y pd), 34, 31630)) _
        refine q_Ru_seg (g2 := (96, [(3, .int (lin - 4)), (2, .int 1), (1, .int col), (0, .ref 64)], [.ref 64], (q_cM (q_mA pix smp tr (q_nb p left dn ins) (q_fb z)) q_IM (q_mJ y pd), 34, 31630))) 1 (fun _ _ => rfl) ?_
        refine q_Ru_call (v := none) (h2 := (q_cM (q_mA pix smp tr (q_nb p left dn ins) (q_fb z)) q_IM (q_mJ y pd), 34, 31630)) rfl rfl ?_ ?_
        · exact (q_m_winds pix smp tr p left dn ins z y pd col lin p1 p2 hC hM c0 c1 l0 l1 a0 a1 b0 b1 hp0 hp1 hp2 i0 i1  ).le (Nat.le_of_ble_eq_true rfl)
        show q_Ru _ _ _ (99, [(3, .int (lin - 4)), (2, .int 1), (1, .int col), (0, .ref 64)], [], (q_cM (q_mA pix smp tr (q_nb p left dn ins) (q_fb z)) q_IM (q_mJ y pd), 34, 31630)) _
        refine q_Ru_seg (g2 := (102, [(3, .int (lin - 4)), (2, .int 1), (1, .int col), (0, .ref 64)], [.int 23, .int col], (q_cM (q_mA pix smp tr (q_nb p left dn ins) (q_fb z)) q_IM (q_mJ y pd), 34, 31630))) 2 (fun _ _ => rfl) ?_
        refine q_Ru_rsT (g2 := (109, [(3, .int (lin - 4)), (2, .int 1), (1, .int col), (0, .ref 64)], [], (q_cM (q_mA pix smp tr (q_nb p left dn ins) (q_fb z)) q_IM (q_mJ y pd), 34, 31630))) rfl rfl (q_d_neF h191) ?_
        refine q_Ru_seg (g2 := (122, [(3, .int (lin - 4)), (2, .int 1), (1, .int col), (0, .ref 64)], [.long pd, .ref 64], (q_cM (q_mA pix smp tr (q_nb p left dn ins) (q_fb z)) q_IM (q_mJ y pd), 34, 31630))) 5 (fun _ _ => rfl) ?_
        refine q_Ru_seg (g2 := (140, [(3, .int (lin - 4)), (2, .int 1), (1, .int col), (0, .ref 64)], [.long y, .ref 64], (q_cM (q_mA pix smp tr (q_nb p left dn ins) (q_fb z)) q_IM (q_uI (q_mJ y pd) 0 16 (pd + 1)), 34, 31630))) 9 (fun _ _ => rfl) ?_
        refine q_Ru_seg (g2 := (146, [(3, .int (lin - 4)), (2, .int 1), (1, .int col), (0, .ref 64)], [.int 1], (q_cM (q_mA pix smp tr (q_nb p left dn ins) (q_fb z)) q_IM (q_uI (q_uI (q_mJ y pd) 0 16 (pd + 1)) 0 15 (y + 1)), 34, 31630))) 4 (fun _ _ => rfl) ?_
        exact q_Ru_ret rfl rfl
    | false =>
      cases h192 : decide (31 < lin - 4) with
      | true =>
        cases h193 : decide (col = 23) with
        | true =>
          have eh193 := of_decide_eq_true h193
          subst eh193
          obtain ⟨z119a, p119⟩ := q_m_sample pix smp tr p left dn ins z y pd col lin p1 p2 hC hM c0 c1 l0 l1 a0 a1 b0 b1 hp0 hp1 hp2 i0 i1  
          refine ⟨pix, z119a, ?_⟩
          refine q_Ca_of (Nat.le_of_ble_eq_true rfl) ?_
          refine q_Ru_seg (g2 := (4, [(0, .ref 64)], [.long y], (q_cM (q_mA pix smp tr (q_nb p left dn ins) (q_fb z)) q_IM (q_mJ y pd), 34, 31630))) 2 (fun _ _ => rfl) ?_
          refine q_Ru_seg (g2 := (9, [(0, .ref 64)], [.int ((y - y / 24 * 24).toInt32)], (q_cM (q_mA pix smp tr (q_nb p left dn ins) (q_fb z)) q_IM (q_mJ y pd), 34, 31630))) 3 (fun _ _ => rfl) ?_
          rw [hC]
          refine q_Ru_seg (g2 := (11, [(1, .int col), (0, .ref 64)], [.int col], (q_cM (q_mA pix smp tr (q_nb p left dn ins) (q_fb z)) q_IM (q_mJ y pd), 34, 31630))) 2 (fun _ _ => rfl) ?_
          refine q_Ru_rsT (g2 := (39, [(1, .int col), (0, .ref 64)], [], (q_cM (q_mA pix smp tr (q_nb p left dn ins) (q_fb z)) q_IM (q_mJ y pd), 34, 31630))) rfl rfl (q_d_neF h170) ?_
          refine q_Ru_seg (g2 := (40, [(1, .int col), (0, .ref 64)], [.ref 64], (q_cM (q_mA pix smp tr (q_nb p left dn ins) (q_fb z)) q_IM (q_mJ y pd), 34, 31630))) 1 (fun _ _ => rfl) ?_
          refine q_Ru_call (v := (some (.int 1))) (h2 := (q_cM (q_mA pix smp tr (q_nb p left dn ins) (q_fb z)) q_IM (q_mJ y pd), 34, 31630)) rfl rfl ?_ ?_
          · exact (by have e := q_m_picX pix smp tr p left dn ins z y pd col lin p1 p2 hC hM c0 c1 l0 l1 a0 a1 b0 b1 hp0 hp1 hp2 i0 i1; rw [hpic] at e; exact e.le (Nat.le_of_ble_eq_true rfl))
          show q_Ru _ _ _ (43, [(1, .int col), (0, .ref 64)], [.int 1], (q_cM (q_mA pix smp tr (q_nb p left dn ins) (q_fb z)) q_IM (q_mJ y pd), 34, 31630)) _
          refine q_Ru_seg (g2 := (45, [(2, .int 1), (1, .int col), (0, .ref 64)], [.ref 64], (q_cM (q_mA pix smp tr (q_nb p left dn ins) (q_fb z)) q_IM (q_mJ y pd), 34, 31630))) 2 (fun _ _ => rfl) ?_
          refine q_Ru_call (v := (some (.int (lin - 4)))) (h2 := (q_cM (q_mA pix smp tr (q_nb p left dn ins) (q_fb z)) q_IM (q_mJ y pd), 34, 31630)) rfl rfl ?_ ?_
          · refine q_Ca_of (Nat.le_of_ble_eq_true rfl) ?_
            refine q_Ru_seg (g2 := (1, [(0, .ref 64)], [.ref 64], (q_cM (q_mA pix smp tr (q_nb p left dn ins) (q_fb z)) q_IM (q_mJ y pd), 34, 31630))) 1 (fun _ _ => rfl) ?_
            refine q_Ru_call (v := (some (.int lin))) (h2 := (q_cM (q_mA pix smp tr (q_nb p left dn ins) (q_fb z)) q_IM (q_mJ y pd), 34, 31630)) rfl rfl ?_ ?_
            · refine q_Ca_of (Nat.le_of_ble_eq_true rfl) ?_
              refine q_Ru_seg (g2 := (4, [(0, .ref 64)], [.long y], (q_cM (q_mA pix smp tr (q_nb p left dn ins) (q_fb z)) q_IM (q_mJ y pd), 34, 31630))) 2 (fun _ _ => rfl) ?_
              refine q_Ru_seg (g2 := (13, [(0, .ref 64)], [.int (((y / 24) - (y / 24) / 40 * 40).toInt32)], (q_cM (q_mA pix smp tr (q_nb p left dn ins) (q_fb z)) q_IM (q_mJ y pd), 34, 31630))) 5 (fun _ _ => rfl) ?_
              rw [hM]
              exact q_Ru_ret rfl rfl
            show q_Ru _ _ _ (4, [(0, .ref 64)], [.int lin], (q_cM (q_mA pix smp tr (q_nb p left dn ins) (q_fb z)) q_IM (q_mJ y pd), 34, 31630)) _
            refine q_Ru_seg (g2 := (6, [(0, .ref 64)], [.int (lin - 4)], (q_cM (q_mA pix smp tr (q_nb p left dn ins) (q_fb z)) q_IM (q_mJ y pd), 34, 31630))) 2 (fun _ _ => rfl) ?_
            exact q_Ru_ret rfl rfl
          show q_Ru _ _ _ (48, [(2, .int 1), (1, .int col), (0, .ref 64)], [.int (lin - 4)], (q_cM (q_mA pix smp tr (q_nb p left dn ins) (q_fb z)) q_IM (q_mJ y pd), 34, 31630)) _
          refine q_Ru_seg (g2 := (53, [(3, .int (lin - 4)), (2, .int 1), (1, .int col), (0, .ref 64)], [.int 31, .int 0, .int (lin - 4)], (q_cM (q_mA pix smp tr (q_nb p left dn ins) (q_fb z)) q_IM (q_mJ y pd), 34, 31630))) 4 (fun _ _ => rfl) ?_
          refine q_Ru_call (v := (some (.int 0))) (h2 := (q_cM (q_mA pix smp tr (q_nb p left dn ins) (q_fb z)) q_IM (q_mJ y pd), 34, 31630)) rfl rfl ?_ ?_
          · refine q_Ca_of (Nat.le_of_ble_eq_true rfl) ?_
            refine q_Ru_seg (g2 := (2, [(0, .int (lin - 4)), (1, .int 0), (2, .int 31)], [.int 0, .int (lin - 4)], (q_cM (q_mA pix smp tr (q_nb p left dn ins) (q_fb z)) q_IM (q_mJ y pd), 34, 31630))) 2 (fun _ _ => rfl) ?_
            refine q_Ru_rsF (g2 := (5, [(0, .int (lin - 4)), (1, .int 0), (2, .int 31)], [], (q_cM (q_mA pix smp tr (q_nb p left dn ins) (q_fb z)) q_IM (q_mJ y pd), 34, 31630))) rfl rfl h190 ?_
            refine q_Ru_seg (g2 := (7, [(0, .int (lin - 4)), (1, .int 0), (2, .int 31)], [.int 31, .int (lin - 4)], (q_cM (q_mA pix smp tr (q_nb p left dn ins) (q_fb z)) q_IM (q_mJ y pd), 34, 31630))) 2 (fun _ _ => rfl) ?_
            refine q_Ru_rsT (g2 := (14, [(0, .int (lin - 4)), (1, .int 0), (2, .int 31)], [], (q_cM (q_mA pix smp tr (q_nb p left dn ins) (q_fb z)) q_IM (q_mJ y pd), 34, 31630))) rfl rfl h192 ?_
            refine q_Ru_seg (g2 := (15, [(0, .int (lin - 4)), (1, .int 0), (2, .int 31)], [.int 0], (q_cM (q_mA pix smp tr (q_nb p left dn ins) (q_fb z)) q_IM (q_mJ y pd), 34, 31630))) 1 (fun _ _ => rfl) ?_
            exact q_Ru_ret rfl rfl
          show q_Ru _ _ _ (56, [(3, .int (lin - 4)), (2, .int 1), (1, .int col), (0, .ref 64)], [.int 0], (q_cM (q_mA pix smp tr (q_nb p left dn ins) (q_fb z)) q_IM (q_mJ y pd), 34, 31630)) _
          refine q_Ru_seg (g2 := (92, [(3, .int (lin - 4)), (2, .int 1), (1, .int col), (0, .ref 64)], [.ref 64], (q_cM (q_mA pix smp tr (q_nb p left dn ins) (q_fb z)) q_IM (q_mJ y pd), 34, 31630))) 2 (fun _ _ => rfl) ?_
          refine q_Ru_call (v := none) (h2 := (q_cM (q_mA pix smp tr (q_nb p left dn ins) (q_fb z)) q_IM (q_mJ y pd), 34, 31630)) rfl rfl ?_ ?_
          · exact (q_m_times pix smp tr p left dn ins z y pd col lin p1 p2 hC hM c0 c1 l0 l1 a0 a1 b0 b1 hp0 hp1 hp2 i0 i1  ).le (Nat.le_of_ble_eq_true rfl)
          show q_Ru _ _ _ (95, [(3, .int (lin - 4)), (2, .int 1), (1, .int col), (0, .ref 64)], [], (q_cM (q_mA pix smp tr (q_nb p left dn ins) (q_fb z)) q_IM (q_mJ y pd), 34, 31630)) _
          refine q_Ru_seg (g2 := (96, [(3, .int (lin - 4)), (2, .int 1), (1, .int col), (0, .ref 64)], [.ref 64], (q_cM (q_mA pix smp tr (q_nb p left dn ins) (q_fb z)) q_IM (q_mJ y pd), 34, 31630))) 1 (fun _ _ => rfl) ?_
          refine q_Ru_call (v := none) (h2 := (q_cM (q_mA pix smp tr (q_nb p left dn ins) (q_fb z)) q_IM (q_mJ y pd), 34, 31630)) rfl rfl ?_ ?_
          · exact (q_m_winds pix smp tr p left dn ins z y pd col lin p1 p2 hC hM c0 c1 l0 l1 a0 a1 b0 b1 hp0 hp1 hp2 i0 i1  ).le (Nat.le_of_ble_eq_true rfl)
          show q_Ru _ _ _ (99, [(3, .int (lin - 4)), (2, .int 1), (1, .int col), (0, .ref 64)], [], (q_cM (q_mA pix smp tr (q_nb p left dn ins) (q_fb z)) q_IM (q_mJ y pd), 34, 31630)) _
          refine q_Ru_seg (g2 := (102, [(3, .int (lin - 4)), (2, .int 1), (1, .int col), (0, .ref 64)], [.int 23, .int col], (q_cM (q_mA pix smp tr (q_nb p left dn ins) (q_fb z)) q_IM (q_mJ y pd), 34, 31630))) 2 (fun _ _ => rfl) ?_
          refine q_Ru_rsF (g2 := (105, [(3, .int (lin - 4)), (2, .int 1), (1, .int col), (0, .ref 64)], [], (q_cM (q_mA pix smp tr (q_nb p left dn ins) (q_fb z)) q_IM (q_mJ y pd), 34, 31630))) rfl rfl (q_d_neT h193) ?_
          refine q_Ru_seg (g2 := (106, [(3, .int (lin - 4)), (2, .int 1), (1, .int col), (0, .ref 64)], [.ref 64], (q_cM (q_mA pix smp tr (q_nb p left dn ins) (q_fb z)) q_IM (q_mJ y pd), 34, 31630))) 1 (fun _ _ => rfl) ?_
          refine q_Ru_call (v := none) (h2 := (q_cM (q_mA pix z119a tr (q_nb p left dn ins) (q_fb z)) q_IM (q_mJ y pd), 34, 31630)) rfl rfl ?_ ?_
          · exact p119.le (Nat.le_of_ble_eq_true rfl)
          show q_Ru _ _ _ (109, [(3, .int (lin - 4)), (2, .int 1), (1, .int col), (0, .ref 64)], [], (q_cM (q_mA pix z119a tr (q_nb p left dn ins) (q_fb z)) q_IM (q_mJ y pd), 34, 31630)) _
          refine q_Ru_seg (g2 := (122, [(3, .int (lin - 4)), (2, .int 1), (1, .int col), (0, .ref 64)], [.long pd, .ref 64], (q_cM (q_mA pix z119a tr (q_nb p left dn ins) (q_fb z)) q_IM (q_mJ y pd), 34, 31630))) 5 (fun _ _ => rfl) ?_
          refine q_Ru_seg (g2 := (140, [(3, .int (lin - 4)), (2, .int 1), (1, .int col), (0, .ref 64)], [.long y, .ref 64], (q_cM (q_mA pix z119a tr (q_nb p left dn ins) (q_fb z)) q_IM (q_uI (q_mJ y pd) 0 16 (pd + 1)), 34, 31630))) 9 (fun _ _ => rfl) ?_
          refine q_Ru_seg (g2 := (146, [(3, .int (lin - 4)), (2, .int 1), (1, .int col), (0, .ref 64)], [.int 1], (q_cM (q_mA pix z119a tr (q_nb p left dn ins) (q_fb z)) q_IM (q_uI (q_uI (q_mJ y pd) 0 16 (pd + 1)) 0 15 (y + 1)), 34, 31630))) 4 (fun _ _ => rfl) ?_
          exact q_Ru_ret rfl rfl
        | false =>
          refine ⟨pix, smp, ?_⟩
          refine q_Ca_of (Nat.le_of_ble_eq_true rfl) ?_
          refine q_Ru_seg (g2 := (4, [(0, .ref 64)], [.long y], (q_cM (q_mA pix smp tr (q_nb p left dn ins) (q_fb z)) q_IM (q_mJ y pd), 34, 31630))) 2 (fun _ _ => rfl) ?_
          refine q_Ru_seg (g2 := (9, [(0, .ref 64)], [.int ((y - y / 24 * 24).toInt32)], (q_cM (q_mA pix smp tr (q_nb p left dn ins) (q_fb z)) q_IM (q_mJ y pd), 34, 31630))) 3 (fun _ _ => rfl) ?_
          rw [hC]
          refine q_Ru_seg (g2 := (11, [(1, .int col), (0, .ref 64)], [.int col], (q_cM (q_mA pix smp tr (q_nb p left dn ins) (q_fb z)) q_IM (q_mJ y pd), 34, 31630))) 2 (fun _ _ => rfl) ?_
          refine q_Ru_rsT (g2 := (39, [(1, .int col), (0, .ref 64)], [], (q_cM (q_mA pix smp tr (q_nb p left dn ins) (q_fb z)) q_IM (q_mJ y pd), 34, 31630))) rfl rfl (q_d_neF h170) ?_
          refine q_Ru_seg (g2 := (40, [(1, .int col), (0, .ref 64)], [.ref 64], (q_cM (q_mA pix smp tr (q_nb p left dn ins) (q_fb z)) q_IM (q_mJ y pd), 34, 31630))) 1 (fun _ _ => rfl) ?_
          refine q_Ru_call (v := (some (.int 1))) (h2 := (q_cM (q_mA pix smp tr (q_nb p left dn ins) (q_fb z)) q_IM (q_mJ y pd), 34, 31630)) rfl rfl ?_ ?_
          · exact (by have e := q_m_picX pix smp tr p left dn ins z y pd col lin p1 p2 hC hM c0 c1 l0 l1 a0 a1 b0 b1 hp0 hp1 hp2 i0 i1; rw [hpic] at e; exact e.le (Nat.le_of_ble_eq_true rfl))
          show q_Ru _ _ _ (43, [(1, .int col), (0, .ref 64)], [.int 1], (q_cM (q_mA pix smp tr (q_nb p left dn ins) (q_fb z)) q_IM (q_mJ y pd), 34, 31630)) _
          refine q_Ru_seg (g2 := (45, [(2, .int 1), (1, .int col), (0, .ref 64)], [.ref 64], (q_cM (q_mA pix smp tr (q_nb p left dn ins) (q_fb z)) q_IM (q_mJ y pd), 34, 31630))) 2 (fun _ _ => rfl) ?_
          refine q_Ru_call (v := (some (.int (lin - 4)))) (h2 := (q_cM (q_mA pix smp tr (q_nb p left dn ins) (q_fb z)) q_IM (q_mJ y pd), 34, 31630)) rfl rfl ?_ ?_
          · refine q_Ca_of (Nat.le_of_ble_eq_true rfl) ?_
            refine q_Ru_seg (g2 := (1, [(0, .ref 64)], [.ref 64], (q_cM (q_mA pix smp tr (q_nb p left dn ins) (q_fb z)) q_IM (q_mJ y pd), 34, 31630))) 1 (fun _ _ => rfl) ?_
            refine q_Ru_call (v := (some (.int lin))) (h2 := (q_cM (q_mA pix smp tr (q_nb p left dn ins) (q_fb z)) q_IM (q_mJ y pd), 34, 31630)) rfl rfl ?_ ?_
            · refine q_Ca_of (Nat.le_of_ble_eq_true rfl) ?_
              refine q_Ru_seg (g2 := (4, [(0, .ref 64)], [.long y], (q_cM (q_mA pix smp tr (q_nb p left dn ins) (q_fb z)) q_IM (q_mJ y pd), 34, 31630))) 2 (fun _ _ => rfl) ?_
              refine q_Ru_seg (g2 := (13, [(0, .ref 64)], [.int (((y / 24) - (y / 24) / 40 * 40).toInt32)], (q_cM (q_mA pix smp tr (q_nb p left dn ins) (q_fb z)) q_IM (q_mJ y pd), 34, 31630))) 5 (fun _ _ => rfl) ?_
              rw [hM]
              exact q_Ru_ret rfl rfl
            show q_Ru _ _ _ (4, [(0, .ref 64)], [.int lin], (q_cM (q_mA pix smp tr (q_nb p left dn ins) (q_fb z)) q_IM (q_mJ y pd), 34, 31630)) _
            refine q_Ru_seg (g2 := (6, [(0, .ref 64)], [.int (lin - 4)], (q_cM (q_mA pix smp tr (q_nb p left dn ins) (q_fb z)) q_IM (q_mJ y pd), 34, 31630))) 2 (fun _ _ => rfl) ?_
            exact q_Ru_ret rfl rfl
          show q_Ru _ _ _ (48, [(2, .int 1), (1, .int col), (0, .ref 64)], [.int (lin - 4)], (q_cM (q_mA pix smp tr (q_nb p left dn ins) (q_fb z)) q_IM (q_mJ y pd), 34, 31630)) _
          refine q_Ru_seg (g2 := (53, [(3, .int (lin - 4)), (2, .int 1), (1, .int col), (0, .ref 64)], [.int 31, .int 0, .int (lin - 4)], (q_cM (q_mA pix smp tr (q_nb p left dn ins) (q_fb z)) q_IM (q_mJ y pd), 34, 31630))) 4 (fun _ _ => rfl) ?_
          refine q_Ru_call (v := (some (.int 0))) (h2 := (q_cM (q_mA pix smp tr (q_nb p left dn ins) (q_fb z)) q_IM (q_mJ y pd), 34, 31630)) rfl rfl ?_ ?_
          · refine q_Ca_of (Nat.le_of_ble_eq_true rfl) ?_
            refine q_Ru_seg (g2 := (2, [(0, .int (lin - 4)), (1, .int 0), (2, .int 31)], [.int 0, .int (lin - 4)], (q_cM (q_mA pix smp tr (q_nb p left dn ins) (q_fb z)) q_IM (q_mJ y pd), 34, 31630))) 2 (fun _ _ => rfl) ?_
            refine q_Ru_rsF (g2 := (5, [(0, .int (lin - 4)), (1, .int 0), (2, .int 31)], [], (q_cM (q_mA pix smp tr (q_nb p left dn ins) (q_fb z)) q_IM (q_mJ y pd), 34, 31630))) rfl rfl h190 ?_
            refine q_Ru_seg (g2 := (7, [(0, .int (lin - 4)), (1, .int 0), (2, .int 31)], [.int 31, .int (lin - 4)], (q_cM (q_mA pix smp tr (q_nb p left dn ins) (q_fb z)) q_IM (q_mJ y pd), 34, 31630))) 2 (fun _ _ => rfl) ?_
            refine q_Ru_rsT (g2 := (14, [(0, .int (lin - 4)), (1, .int 0), (2, .int 31)], [], (q_cM (q_mA pix smp tr (q_nb p left dn ins) (q_fb z)) q_IM (q_mJ y pd), 34, 31630))) rfl rfl h192 ?_
            refine q_Ru_seg (g2 := (15, [(0, .int (lin - 4)), (1, .int 0), (2, .int 31)], [.int 0], (q_cM (q_mA pix smp tr (q_nb p left dn ins) (q_fb z)) q_IM (q_mJ y pd), 34, 31630))) 1 (fun _ _ => rfl) ?_
            exact q_Ru_ret rfl rfl
          show q_Ru _ _ _ (56, [(3, .int (lin - 4)), (2, .int 1), (1, .int col), (0, .ref 64)], [.int 0], (q_cM (q_mA pix smp tr (q_nb p left dn ins) (q_fb z)) q_IM (q_mJ y pd), 34, 31630)) _
          refine q_Ru_seg (g2 := (92, [(3, .int (lin - 4)), (2, .int 1), (1, .int col), (0, .ref 64)], [.ref 64], (q_cM (q_mA pix smp tr (q_nb p left dn ins) (q_fb z)) q_IM (q_mJ y pd), 34, 31630))) 2 (fun _ _ => rfl) ?_
          refine q_Ru_call (v := none) (h2 := (q_cM (q_mA pix smp tr (q_nb p left dn ins) (q_fb z)) q_IM (q_mJ y pd), 34, 31630)) rfl rfl ?_ ?_
          · exact (q_m_times pix smp tr p left dn ins z y pd col lin p1 p2 hC hM c0 c1 l0 l1 a0 a1 b0 b1 hp0 hp1 hp2 i0 i1  ).le (Nat.le_of_ble_eq_true rfl)
          show q_Ru _ _ _ (95, [(3, .int (lin - 4)), (2, .int 1), (1, .int col), (0, .ref 64)], [], (q_cM (q_mA pix smp tr (q_nb p left dn ins) (q_fb z)) q_IM (q_mJ y pd), 34, 31630)) _
          refine q_Ru_seg (g2 := (96, [(3, .int (lin - 4)), (2, .int 1), (1, .int col), (0, .ref 64)], [.ref 64], (q_cM (q_mA pix smp tr (q_nb p left dn ins) (q_fb z)) q_IM (q_mJ y pd), 34, 31630))) 1 (fun _ _ => rfl) ?_
          refine q_Ru_call (v := none) (h2 := (q_cM (q_mA pix smp tr (q_nb p left dn ins) (q_fb z)) q_IM (q_mJ y pd), 34, 31630)) rfl rfl ?_ ?_
          · exact (q_m_winds pix smp tr p left dn ins z y pd col lin p1 p2 hC hM c0 c1 l0 l1 a0 a1 b0 b1 hp0 hp1 hp2 i0 i1  ).le (Nat.le_of_ble_eq_true rfl)
          show q_Ru _ _ _ (99, [(3, .int (lin - 4)), (2, .int 1), (1, .int col), (0, .ref 64)], [], (q_cM (q_mA pix smp tr (q_nb p left dn ins) (q_fb z)) q_IM (q_mJ y pd), 34, 31630)) _
          refine q_Ru_seg (g2 := (102, [(3, .int (lin - 4)), (2, .int 1), (1, .int col), (0, .ref 64)], [.int 23, .int col], (q_cM (q_mA pix smp tr (q_nb p left dn ins) (q_fb z)) q_IM (q_mJ y pd), 34, 31630))) 2 (fun _ _ => rfl) ?_
          refine q_Ru_rsT (g2 := (109, [(3, .int (lin - 4)), (2, .int 1), (1, .int col), (0, .ref 64)], [], (q_cM (q_mA pix smp tr (q_nb p left dn ins) (q_fb z)) q_IM (q_mJ y pd), 34, 31630))) rfl rfl (q_d_neF h193) ?_
          refine q_Ru_seg (g2 := (122, [(3, .int (lin - 4)), (2, .int 1), (1, .int col), (0, .ref 64)], [.long pd, .ref 64], (q_cM (q_mA pix smp tr (q_nb p left dn ins) (q_fb z)) q_IM (q_mJ y pd), 34, 31630))) 5 (fun _ _ => rfl) ?_
          refine q_Ru_seg (g2 := (140, [(3, .int (lin - 4)), (2, .int 1), (1, .int col), (0, .ref 64)], [.long y, .ref 64], (q_cM (q_mA pix smp tr (q_nb p left dn ins) (q_fb z)) q_IM (q_uI (q_mJ y pd) 0 16 (pd + 1)), 34, 31630))) 9 (fun _ _ => rfl) ?_
          refine q_Ru_seg (g2 := (146, [(3, .int (lin - 4)), (2, .int 1), (1, .int col), (0, .ref 64)], [.int 1], (q_cM (q_mA pix smp tr (q_nb p left dn ins) (q_fb z)) q_IM (q_uI (q_uI (q_mJ y pd) 0 16 (pd + 1)) 0 15 (y + 1)), 34, 31630))) 4 (fun _ _ => rfl) ?_
          exact q_Ru_ret rfl rfl
      | false =>
        cases h194 : decide (col < 4) with
        | true =>
          have h195 : decide (col = 23) = false := q_not_tr (q_tbl1 (fun col => !decide (col = 23)) (l := 0) (n := 3) (by decide +kernel) c0 (q_hi1 h194))
          refine ⟨pix, smp, ?_⟩
          refine q_Ca_of (Nat.le_of_ble_eq_true rfl) ?_
          refine q_Ru_seg (g2 := (4, [(0, .ref 64)], [.long y], (q_cM (q_mA pix smp tr (q_nb p left dn ins) (q_fb z)) q_IM (q_mJ y pd), 34, 31630))) 2 (fun _ _ => rfl) ?_
          refine q_Ru_seg (g2 := (9, [(0, .ref 64)], [.int ((y - y / 24 * 24).toInt32)], (q_cM (q_mA pix smp tr (q_nb p left dn ins) (q_fb z)) q_IM (q_mJ y pd), 34, 31630))) 3 (fun _ _ => rfl) ?_
          rw [hC]
          refine q_Ru_seg (g2 := (11, [(1, .int col), (0, .ref 64)], [.int col], (q_cM (q_mA pix smp tr (q_nb p left dn ins) (q_fb z)) q_IM (q_mJ y pd), 34, 31630))) 2 (fun _ _ => rfl) ?_
          refine q_Ru_rsT (g2 := (39, [(1, .int col), (0, .ref 64)], [], (q_cM (q_mA pix smp tr (q_nb p left dn ins) (q_fb z)) q_IM (q_mJ y pd), 34, 31630))) rfl rfl (q_d_neF h170) ?_
          refine q_Ru_seg (g2 := (40, [(1, .int col), (0, .ref 64)], [.ref 64], (q_cM (q_mA pix smp tr (q_nb p left dn ins) (q_fb z)) q_IM (q_mJ y pd), 34, 31630))) 1 (fun _ _ => rfl) ?_
          refine q_Ru_call (v := (some (.int 1))) (h2 := (q_cM (q_mA pix smp tr (q_nb p left dn ins) (q_fb z)) q_IM (q_mJ y pd), 34, 31630)) rfl rfl ?_ ?_
          · exact (by have e := q_m_picX pix smp tr p left dn ins z y pd col lin p1 p2 hC hM c0 c1 l0 l1 a0 a1 b0 b1 hp0 hp1 hp2 i0 i1; rw [hpic] at e; exact e.le (Nat.le_of_ble_eq_true rfl))
          show q_Ru _ _ _ (43, [(1, .int col), (0, .ref 64)], [.int 1], (q_cM (q_mA pix smp tr (q_nb p left dn ins) (q_fb z)) q_IM (q_mJ y pd), 34, 31630)) _
          refine q_Ru_seg (g2 := (45, [(2, .int 1), (1, .int col), (0, .ref 64)], [.ref 64], (q_cM (q_mA pix smp tr (q_nb p left dn ins) (q_fb z)) q_IM (q_mJ y pd), 34, 31630))) 2 (fun _ _ => rfl) ?_
          refine q_Ru_call (v := (some (.int (lin - 4)))) (h2 := (q_cM (q_mA pix smp tr (q_nb p left dn ins) (q_fb z)) q_IM (q_mJ y pd), 34, 31630)) rfl rfl ?_ ?_
          · refine q_Ca_of (Nat.le_of_ble_eq_true rfl) ?_
            refine q_Ru_seg (g2 := (1, [(0, .ref 64)], [.ref 64], (q_cM (q_mA pix smp tr (q_nb p left dn ins) (q_fb z)) q_IM (q_mJ y pd), 34, 31630))) 1 (fun _ _ => rfl) ?_
            refine q_Ru_call (v := (some (.int lin))) (h2 := (q_cM (q_mA pix smp tr (q_nb p left dn ins) (q_fb z)) q_IM (q_mJ y pd), 34, 31630)) rfl rfl ?_ ?_
            · refine q_Ca_of (Nat.le_of_ble_eq_true rfl) ?_
              refine q_Ru_seg (g2 := (4, [(0, .ref 64)], [.long y], (q_cM (q_mA pix smp tr (q_nb p left dn ins) (q_fb z)) q_IM (q_mJ y pd), 34, 31630))) 2 (fun _ _ => rfl) ?_
              refine q_Ru_seg (g2 := (13, [(0, .ref 64)], [.int (((y / 24) - (y / 24) / 40 * 40).toInt32)], (q_cM (q_mA pix smp tr (q_nb p left dn ins) (q_fb z)) q_IM (q_mJ y pd), 34, 31630))) 5 (fun _ _ => rfl) ?_
              rw [hM]
              exact q_Ru_ret rfl rfl
            show q_Ru _ _ _ (4, [(0, .ref 64)], [.int lin], (q_cM (q_mA pix smp tr (q_nb p left dn ins) (q_fb z)) q_IM (q_mJ y pd), 34, 31630)) _
            refine q_Ru_seg (g2 := (6, [(0, .ref 64)], [.int (lin - 4)], (q_cM (q_mA pix smp tr (q_nb p left dn ins) (q_fb z)) q_IM (q_mJ y pd), 34, 31630))) 2 (fun _ _ => rfl) ?_
            exact q_Ru_ret rfl rfl
          show q_Ru _ _ _ (48, [(2, .int 1), (1, .int col), (0, .ref 64)], [.int (lin - 4)], (q_cM (q_mA pix smp tr (q_nb p left dn ins) (q_fb z)) q_IM (q_mJ y pd), 34, 31630)) _
          refine q_Ru_seg (g2 := (53, [(3, .int (lin - 4)), (2, .int 1), (1, .int col), (0, .ref 64)], [.int 31, .int 0, .int (lin - 4)], (q_cM (q_mA pix smp tr (q_nb p left dn ins) (q_fb z)) q_IM (q_mJ y pd), 34, 31630))) 4 (fun _ _ => rfl) ?_
          refine q_Ru_call (v := (some (.int 1))) (h2 := (q_cM (q_mA pix smp tr (q_nb p left dn ins) (q_fb z)) q_IM (q_mJ y pd), 34, 31630)) rfl rfl ?_ ?_
          · refine q_Ca_of (Nat.le_of_ble_eq_true rfl) ?_
            refine q_Ru_seg (g2 := (2, [(0, .int (lin - 4)), (1, .int 0), (2, .int 31)], [.int 0, .int (lin - 4)], (q_cM (q_mA pix smp tr (q_nb p left dn ins) (q_fb z)) q_IM (q_mJ y pd), 34, 31630))) 2 (fun _ _ => rfl) ?_
            refine q_Ru_rsF (g2 := (5, [(0, .int (lin - 4)), (1, .int 0), (2, .int 31)], [], (q_cM (q_mA pix smp tr (q_nb p left dn ins) (q_fb z)) q_IM (q_mJ y pd), 34, 31630))) rfl rfl h190 ?_
            refine q_Ru_seg (g2 := (7, [(0, .int (lin - 4)), (1, .int 0), (2, .int 31)], [.int 31, .int (lin - 4)], (q_cM (q_mA pix smp tr (q_nb p left dn ins) (q_fb z)) q_IM (q_mJ y pd), 34, 31630))) 2 (fun _ _ => rfl) ?_
            refine q_Ru_rsF (g2 := (10, [(0, .int (lin - 4)), (1, .int 0), (2, .int 31)], [], (q_cM (q_mA pix smp tr (q_nb p left dn ins) (q_fb z)) q_IM (q_mJ y pd), 34, 31630))) rfl rfl h192 ?_
            refine q_Ru_seg (g2 := (15, [(0, .int (lin - 4)), (1, .int 0), (2, .int 31)], [.int 1], (q_cM (q_mA pix smp tr (q_nb p left dn ins) (q_fb z)) q_IM (q_mJ y pd), 34, 31630))) 2 (fun _ _ => rfl) ?_
            exact q_Ru_ret rfl rfl
          show q_Ru _ _ _ (56, [(3, .int (lin - 4)), (2, .int 1), (1, .int col), (0, .ref 64)], [.int 1], (q_cM (q_mA pix smp tr (q_nb p left dn ins) (q_fb z)) q_IM (q_mJ y pd), 34, 31630)) _
          refine q_Ru_seg (g2 := (63, [(3, .int (lin - 4)), (2, .int 1), (1, .int col), (0, .ref 64)], [.int 19, .int 4, .int col], (q_cM (q_mA pix smp tr (q_nb p left dn ins) (q_fb z)) q_IM (q_mJ y pd), 34, 31630))) 4 (fun _ _ => rfl) ?_
          refine q_Ru_call (v := (some (.int 0))) (h2 := (q_cM (q_mA pix smp tr (q_nb p left dn ins) (q_fb z)) q_IM (q_mJ y pd), 34, 31630)) rfl rfl ?_ ?_
          · refine q_Ca_of (Nat.le_of_ble_eq_true rfl) ?_
            refine q_Ru_seg (g2 := (2, [(0, .int col), (1, .int 4), (2, .int 19)], [.int 4, .int col], (q_cM (q_mA pix smp tr (q_nb p left dn ins) (q_fb z)) q_IM (q_mJ y pd), 34, 31630))) 2 (fun _ _ => rfl) ?_
            refine q_Ru_rsT (g2 := (14, [(0, .int col), (1, .int 4), (2, .int 19)], [], (q_cM (q_mA pix smp tr (q_nb p left dn ins) (q_fb z)) q_IM (q_mJ y pd), 34, 31630))) rfl rfl h194 ?_
            refine q_Ru_seg (g2 := (15, [(0, .int col), (1, .int 4), (2, .int 19)], [.int 0], (q_cM (q_mA pix smp tr (q_nb p left dn ins) (q_fb z)) q_IM (q_mJ y pd), 34, 31630))) 1 (fun _ _ => rfl) ?_
            exact q_Ru_ret rfl rfl
          show q_Ru _ _ _ (66, [(3, .int (lin - 4)), (2, .int 1), (1, .int col), (0, .ref 64)], [.int 0], (q_cM (q_mA pix smp tr (q_nb p left dn ins) (q_fb z)) q_IM (q_mJ y pd), 34, 31630)) _
          refine q_Ru_seg (g2 := (92, [(3, .int (lin - 4)), (2, .int 1), (1, .int col), (0, .ref 64)], [.ref 64], (q_cM (q_mA pix smp tr (q_nb p left dn ins) (q_fb z)) q_IM (q_mJ y pd), 34, 31630))) 2 (fun _ _ => rfl) ?_
          refine q_Ru_call (v := none) (h2 := (q_cM (q_mA pix smp tr (q_nb p left dn ins) (q_fb z)) q_IM (q_mJ y pd), 34, 31630)) rfl rfl ?_ ?_
          · exact (q_m_times pix smp tr p left dn ins z y pd col lin p1 p2 hC hM c0 c1 l0 l1 a0 a1 b0 b1 hp0 hp1 hp2 i0 i1  ).le (Nat.le_of_ble_eq_true rfl)
          show q_Ru _ _ _ (95, [(3, .int (lin - 4)), (2, .int 1), (1, .int col), (0, .ref 64)], [], (q_cM (q_mA pix smp tr (q_nb p left dn ins) (q_fb z)) q_IM (q_mJ y pd), 34, 31630)) _
          refine q_Ru_seg (g2 := (96, [(3, .int (lin - 4)), (2, .int 1), (1, .int col), (0, .ref 64)], [.ref 64], (q_cM (q_mA pix smp tr (q_nb p left dn ins) (q_fb z)) q_IM (q_mJ y pd), 34, 31630))) 1 (fun _ _ => rfl) ?_
          refine q_Ru_call (v := none) (h2 := (q_cM (q_mA pix smp tr (q_nb p left dn ins) (q_fb z)) q_IM (q_mJ y pd), 34, 31630)) rfl rfl ?_ ?_
          · exact (q_m_winds pix smp tr p left dn ins z y pd col lin p1 p2 hC hM c0 c1 l0 l1 a0 a1 b0 b1 hp0 hp1 hp2 i0 i1  ).le (Nat.le_of_ble_eq_true rfl)
          show q_Ru _ _ _ (99, [(3, .int (lin - 4)), (2, .int 1), (1, .int col), (0, .ref 64)], [], (q_cM (q_mA pix smp tr (q_nb p left dn ins) (q_fb z)) q_IM (q_mJ y pd), 34, 31630)) _
          refine q_Ru_seg (g2 := (102, [(3, .int (lin - 4)), (2, .int 1), (1, .int col), (0, .ref 64)], [.int 23, .int col], (q_cM (q_mA pix smp tr (q_nb p left dn ins) (q_fb z)) q_IM (q_mJ y pd), 34, 31630))) 2 (fun _ _ => rfl) ?_
          refine q_Ru_rsT (g2 := (109, [(3, .int (lin - 4)), (2, .int 1), (1, .int col), (0, .ref 64)], [], (q_cM (q_mA pix smp tr (q_nb p left dn ins) (q_fb z)) q_IM (q_mJ y pd), 34, 31630))) rfl rfl (q_d_neF h195) ?_
          refine q_Ru_seg (g2 := (122, [(3, .int (lin - 4)), (2, .int 1), (1, .int col), (0, .ref 64)], [.long pd, .ref 64], (q_cM (q_mA pix smp tr (q_nb p left dn ins) (q_fb z)) q_IM (q_mJ y pd), 34, 31630))) 5 (fun _ _ => rfl) ?_
          refine q_Ru_seg (g2 := (140, [(3, .int (lin - 4)), (2, .int 1), (1, .int col), (0, .ref 64)], [.long y, .ref 64], (q_cM (q_mA pix smp tr (q_nb p left dn ins) (q_fb z)) q_IM (q_uI (q_mJ y pd) 0 16 (pd + 1)), 34, 31630))) 9 (fun _ _ => rfl) ?_
          refine q_Ru_seg (g2 := (146, [(3, .int (lin - 4)), (2, .int 1), (1, .int col), (0, .ref 64)], [.int 1], (q_cM (q_mA pix smp tr (q_nb p left dn ins) (q_fb z)) q_IM (q_uI (q_uI (q_mJ y pd) 0 16 (pd + 1)) 0 15 (y + 1)), 34, 31630))) 4 (fun _ _ => rfl) ?_
          exact q_Ru_ret rfl rfl
        | false =>
          cases h196 : decide (19 < col) with
          | true =>
            cases h197 : decide (col = 23) with
            | true =>
              have eh197 := of_decide_eq_true h197
              subst eh197
              obtain ⟨z130a, p130⟩ := q_m_sample pix smp tr p left dn ins z y pd col lin p1 p2 hC hM c0 c1 l0 l1 a0 a1 b0 b1 hp0 hp1 hp2 i0 i1  
              refine ⟨pix, z130a, ?_⟩
              refine q_Ca_of (Nat.le_of_ble_eq_true rfl) ?_
              refine q_Ru_seg (g2 := (4, [(0, .ref 64)], [.long y], (q_cM (q_mA pix smp tr (q_nb p left dn ins) (q_fb z)) q_IM (q_mJ y pd), 34, 31630))) 2 (fun _ _ => rfl) ?_
              refine q_Ru_seg (g2 := (9, [(0, .ref 64)], [.int ((y - y / 24 * 24).toInt32)], (q_cM (q_mA pix smp tr (q_nb p left dn ins) (q_fb z)) q_IM (q_mJ y pd), 34, 31630))) 3 (fun _ _ => rfl) ?_
              rw [hC]
              refine q_Ru_seg (g2 := (11, [(1, .int col), (0, .ref 64)], [.int col], (q_cM (q_mA pix smp tr (q_nb p left dn ins) (q_fb z)) q_IM (q_mJ y pd), 34, 31630))) 2 (fun _ _ => rfl) ?_
              refine q_Ru_rsT (g2 := (39, [(1, .int col), (0, .ref 64)], [], (q_cM (q_mA pix smp tr (q_nb p left dn ins) (q_fb z)) q_IM (q_mJ y pd), 34, 31630))) rfl rfl (q_d_neF h170) ?_
              refine q_Ru_seg (g2 := (40, [(1, .int col), (0, .ref 64)], [.ref 64], (q_cM (q_mA pix smp tr (q_nb p left dn ins) (q_fb z)) q_IM (q_mJ y pd), 34, 31630))) 1 (fun _ _ => rfl) ?_
              refine q_Ru_call (v := (some (.int 1))) (h2 := (q_cM (q_mA pix smp tr (q_nb p left dn ins) (q_fb z)) q_IM (q_mJ y pd), 34, 31630)) rfl rfl ?_ ?_
              · exact (by have e := q_m_picX pix smp tr p left dn ins z y pd col lin p1 p2 hC hM c0 c1 l0 l1 a0 a1 b0 b1 hp0 hp1 hp2 i0 i1; rw [hpic] at e; exact e.le (Nat.le_of_ble_eq_true rfl))
              show q_Ru _ _ _ (43, [(1, .int col), (0, .ref 64)], [.int 1], (q_cM (q_mA pix smp tr (q_nb p left dn ins) (q_fb z)) q_IM (q_mJ y pd), 34, 31630)) _
              refine q_Ru_seg (g2 := (45, [(2, .int 1), (1, .int col), (0, .ref 64)], [.ref 64], (q_cM (q_mA pix smp tr (q_nb p left dn ins) (q_fb z)) q_IM (q_mJ y pd), 34, 31630))) 2 (fun _ _ => rfl) ?_
              refine q_Ru_call (v := (some (.int (lin - 4)))) (h2 := (q_cM (q_mA pix smp tr (q_nb p left dn ins) (q_fb z)) q_IM (q_mJ y pd), 34, 31630)) rfl rfl ?_ ?_
              · refine q_Ca_of (Nat.le_of_ble_eq_true rfl) ?_
                refine q_Ru_seg (g2 := (1, [(0, .ref 64)], [.ref 64], (q_cM (q_mA pix smp tr (q_nb p left dn ins) (q_fb z)) q_IM (q_mJ y pd), 34, 31630))) 1 (fun _ _ => rfl) ?_
                refine q_Ru_call (v := (some (.int lin))) (h2 := (q_cM (q_mA pix smp tr (q_nb p left dn ins) (q_fb z)) q_IM (q_mJ y pd), 34, 31630)) rfl rfl ?_ ?_
                · refine q_Ca_of (Nat.le_of_ble_eq_true rfl) ?_
                  refine q_Ru_seg (g2 := (4, [(0, .ref 64)], [.long y], (q_cM (q_mA pix smp tr (q_nb p left dn ins) (q_fb z)) q_IM (q_mJ y pd), 34, 31630))) 2 (fun _ _ => rfl) ?_
                  refine q_Ru_seg (g2 := (13, [(0, .ref 64)], [.int (((y / 24) - (y / 24) / 40 * 40).toInt32)], (q_cM (q_mA pix smp tr (q_nb p left dn ins) (q_fb z)) q_IM (q_mJ y pd), 34, 31630))) 5 (fun _ _ => rfl) ?_
                  rw [hM]
                  exact q_Ru_ret rfl rfl
                show q_Ru _ _ _ (4, [(0, .ref 64)], [.int lin], (q_cM (q_mA pix smp tr (q_nb p left dn ins) (q_fb z)) q_IM (q_mJ y pd), 34, 31630)) _
                refine q_Ru_seg (g2 := (6, [(0, .ref 64)], [.int (lin - 4)], (q_cM (q_mA pix smp tr (q_nb p left dn ins) (q_fb z)) q_IM (q_mJ y pd), 34, 31630))) 2 (fun _ _ => rfl) ?_
                exact q_Ru_ret rfl rfl
              show q_Ru _ _ _ (48, [(2, .int 1), (1, .int col), (0, .ref 64)], [.int (lin - 4)], (q_cM (q_mA pix smp tr (q_nb p left dn ins) (q_fb z)) q_IM (q_mJ y pd), 34, 31630)) _
              refine q_Ru_seg (g2 := (53, [(3, .int (lin - 4)), (2, .int 1), (1, .int col), (0, .ref 64)], [.int 31, .int 0, .int (lin - 4)], (q_cM (q_mA pix smp tr (q_nb p left dn ins) (q_fb z)) q_IM (q_mJ y pd), 34, 31630))) 4 (fun _ _ => rfl) ?_
              refine q_Ru_call (v := (some (.int 1))) (h2 := (q_cM (q_mA pix smp tr (q_nb p left dn ins) (q_fb z)) q_IM (q_mJ y pd), 34, 31630)) rfl rfl ?_ ?_
              · refine q_Ca_of (Nat.le_of_ble_eq_true rfl) ?_
                refine q_Ru_seg (g2 := (2, [(0, .int (lin - 4)), (1, .int 0), (2, .int 31)], [.int 0, .int (lin - 4)], (q_cM (q_mA pix smp tr (q_nb p left dn ins) (q_fb z)) q_IM (q_mJ y pd), 34, 31630))) 2 (fun _ _ => rfl) ?_
                refine q_Ru_rsF (g2 := (5, [(0, .int (lin - 4)), (1, .int 0), (2, .int 31)], [], (q_cM (q_mA pix smp tr (q_nb p left dn ins) (q_fb z)) q_IM (q_mJ y pd), 34, 31630))) rfl rfl h190 ?_
                refine q_Ru_seg (g2 := (7, [(0, .int (lin - 4)), (1, .int 0), (2, .int 31)], [.int 31, .int (lin - 4)], (q_cM (q_mA pix smp tr (q_nb p left dn ins) (q_fb z)) q_IM (q_mJ y pd), 34, 31630))) 2 (fun _ _ => rfl) ?_
                refine q_Ru_rsF (g2 := (10, [(0, .int (lin - 4)), (1, .int 0), (2, .int 31)], [], (q_cM (q_mA pix smp tr (q_nb p left dn ins) (q_fb z)) q_IM (q_mJ y pd), 34, 31630))) rfl rfl h192 ?_
                refine q_Ru_seg (g2 := (15, [(0, .int (lin - 4)), (1, .int 0), (2, .int 31)], [.int 1], (q_cM (q_mA pix smp tr (q_nb p left dn ins) (q_fb z)) q_IM (q_mJ y pd), 34, 31630))) 2 (fun _ _ => rfl) ?_
                exact q_Ru_ret rfl rfl
              show q_Ru _ _ _ (56, [(3, .int (lin - 4)), (2, .int 1), (1, .int col), (0, .ref 64)], [.int 1], (q_cM (q_mA pix smp tr (q_nb p left dn ins) (q_fb z)) q_IM (q_mJ y pd), 34, 31630)) _
              refine q_Ru_seg (g2 := (63, [(3, .int (lin - 4)), (2, .int 1), (1, .int col), (0, .ref 64)], [.int 19, .int 4, .int col], (q_cM (q_mA pix smp tr (q_nb p left dn ins) (q_fb z)) q_IM (q_mJ y pd), 34, 31630))) 4 (fun _ _ => rfl) ?_
              refine q_Ru_call (v := (some (.int 0))) (h2 := (q_cM (q_mA pix smp tr (q_nb p left dn ins) (q_fb z)) q_IM (q_mJ y pd), 34, 31630)) rfl rfl ?_ ?_
              · refine q_Ca_of (Nat.le_of_ble_eq_true rfl) ?_
                refine q_Ru_seg (g2 := (2, [(0, .int col), (1, .int 4), (2, .int 19)], [.int 4, .int col], (q_cM (q_mA pix smp tr (q_nb p left dn ins) (q_fb z)) q_IM (q_mJ y pd), 34, 31630))) 2 (fun _ _ => rfl) ?_
                refine q_Ru_rsF (g2 := (5, [(0, .int col), (1, .int 4), (2, .int 19)], [], (q_cM (q_mA pix smp tr (q_nb p left dn ins) (q_fb z)) q_IM (q_mJ y pd), 34, 31630))) rfl rfl h194 ?_
                refine q_Ru_seg (g2 := (7, [(0, .int col), (1, .int 4), (2, .int 19)], [.int 19, .int col], (q_cM (q_mA pix smp tr (q_nb p left dn ins) (q_fb z)) q_IM (q_mJ y pd), 34, 31630))) 2 (fun _ _ => rfl) ?_
                refine q_Ru_rsT (g2 := (14, [(0, .int col), (1, .int 4), (2, .int 19)], [], (q_cM (q_mA pix smp tr (q_nb p left dn ins) (q_fb z)) q_IM (q_mJ y pd), 34, 31630))) rfl rfl h196 ?_
                refine q_Ru_seg (g2 := (15, [(0, .int col), (1, .int 4), (2, .int 19)], [.int 0], (q_cM (q_mA pix smp tr (q_nb p left dn ins) (q_fb z)) q_IM (q_mJ y pd), 34, 31630))) 1 (fun _ _ => rfl) ?_
                exact q_Ru_ret rfl rfl
              show q_Ru _ _ _ (66, [(3, .int (lin - 4)), (2, .int 1), (1, .int col), (0, .ref 64)], [.int 0], (q_cM (q_mA pix smp tr (q_nb p left dn ins) (q_fb z)) q_IM (q_mJ y pd), 34, 31630)) _
              refine q_Ru_seg (g2 := (92, [(3, .int (lin - 4)), (2, .int 1), (1, .int col), (0, .ref 64)], [.ref 64], (q_cM (q_mA pix smp tr (q_nb p left dn ins) (q_fb z)) q_IM (q_mJ y pd), 34, 31630))) 2 (fun _ _ => rfl) ?_
              refine q_Ru_call (v := none) (h2 := (q_cM (q_mA pix smp tr (q_nb p left dn ins) (q_fb z)) q_IM (q_mJ y pd), 34, 31630)) rfl rfl ?_ ?_
              · exact (q_m_times pix smp tr p left dn ins z y pd col lin p1 p2 hC hM c0 c1 l0 l1 a0 a1 b0 b1 hp0 hp1 hp2 i0 i1  ).le (Nat.le_of_ble_eq_true rfl)
              show q_Ru _ _ _ (95, [(3, .int (lin - 4)), (2, .int 1), (1, .int col), (0, .ref 64)], [], (q_cM (q_mA pix smp tr (q_nb p left dn ins) (q_fb z)) q_IM (q_mJ y pd), 34, 31630)) _
              refine q_Ru_seg (g2 := (96, [(3, .int (lin - 4)), (2, .int 1), (1, .int col), (0, .ref 64)], [.ref 64], (q_cM (q_mA pix smp tr (q_nb p left dn ins) (q_fb z)) q_IM (q_mJ y pd), 34, 31630))) 1 (fun _ _ => rfl) ?_
              refine q_Ru_call (v := none) (h2 := (q_cM (q_mA pix smp tr (q_nb p left dn ins) (q_fb z)) q_IM (q_mJ y pd), 34, 31630)) rfl rfl ?_ ?_
              · exact (q_m_winds pix smp tr p left dn ins z y pd col lin p1 p2 hC hM c0 c1 l0 l1 a0 a1 b0 b1 hp0 hp1 hp2 i0 i1  ).le (Nat.le_of_ble_eq_true rfl)
              show q_Ru _ _ _ (99, [(3, .int (lin - 4)), (2, .int 1), (1, .int col), (0, .ref 64)], [], (q_cM (q_mA pix smp tr (q_nb p left dn ins) (q_fb z)) q_IM (q_mJ y pd), 34, 31630)) _
              refine q_Ru_seg (g2 := (102, [(3, .int (lin - 4)), (2, .int 1), (1, .int col), (0, .ref 64)], [.int 23, .int col], (q_cM (q_mA pix smp tr (q_nb p left dn ins) (q_fb z)) q_IM (q_mJ y pd), 34, 31630))) 2 (fun _ _ => rfl) ?_
              refine q_Ru_rsF (g2 := (105, [(3, .int (lin - 4)), (2, .int 1), (1, .int col), (0, .ref 64)], [], (q_cM (q_mA pix smp tr (q_nb p left dn ins) (q_fb z)) q_IM (q_mJ y pd), 34, 31630))) rfl rfl (q_d_neT h197) ?_
              refine q_Ru_seg (g2 := (106, [(3, .int (lin - 4)), (2, .int 1), (1, .int col), (0, .ref 64)], [.ref 64], (q_cM (q_mA pix smp tr (q_nb p left dn ins) (q_fb z)) q_IM (q_mJ y pd), 34, 31630))) 1 (fun _ _ => rfl) ?_
              refine q_Ru_call (v := none) (h2 := (q_cM (q_mA pix z130a tr (q_nb p left dn ins) (q_fb z)) q_IM (q_mJ y pd), 34, 31630)) rfl rfl ?_ ?_
              · exact p130.le (Nat.le_of_ble_eq_true rfl)
              show q_Ru _ _ _ (109, [(3, .int (lin - 4)), (2, .int 1), (1, .int col), (0, .ref 64)], [], (q_cM (q_mA pix z130a tr (q_nb p left dn ins) (q_fb z)) q_IM (q_mJ y pd), 34, 31630)) _
              refine q_Ru_seg (g2 := (122, [(3, .int (lin - 4)), (2, .int 1), (1, .int col), (0, .ref 64)], [.long pd, .ref 64], (q_cM (q_mA pix z130a tr (q_nb p left dn ins) (q_fb z)) q_IM (q_mJ y pd), 34, 31630))) 5 (fun _ _ => rfl) ?_
              refine q_Ru_seg (g2 := (140, [(3, .int (lin - 4)), (2, .int 1), (1, .int col), (0, .ref 64)], [.long y, .ref 64], (q_cM (q_mA pix z130a tr (q_nb p left dn ins) (q_fb z)) q_IM (q_uI (q_mJ y pd) 0 16 (pd + 1)), 34, 31630))) 9 (fun _ _ => rfl) ?_
              refine q_Ru_seg (g2 := (146, [(3, .int (lin - 4)), (2, .int 1), (1, .int col), (0, .ref 64)], [.int 1], (q_cM (q_mA pix z130a tr (q_nb p left dn ins) (q_fb z)) q_IM (q_uI (q_uI (q_mJ y pd) 0 16 (pd + 1)) 0 15 (y + 1)), 34, 31630))) 4 (fun _ _ => rfl) ?_
              exact q_Ru_ret rfl rfl
            | false =>
              refine ⟨pix, smp, ?_⟩
              refine q_Ca_of (Nat.le_of_ble_eq_true rfl) ?_
              refine q_Ru_seg (g2 := (4, [(0, .ref 64)], [.long y], (q_cM (q_mA pix smp tr (q_nb p left dn ins) (q_fb z)) q_IM (q_mJ y pd), 34, 31630))) 2 (fun _ _ => rfl) ?_
              refine q_Ru_seg (g2 := (9, [(0, .ref 64)], [.int ((y - y / 24 * 24).toInt32)], (q_cM (q_mA pix smp tr (q_nb p left dn ins) (q_fb z)) q_IM (q_mJ y pd), 34, 31630))) 3 (fun _ _ => rfl) ?_
              rw [hC]
              refine q_Ru_seg (g2 := (11, [(1, .int col), (0, .ref 64)], [.int col], (q_cM (q_mA pix smp tr (q_nb p left dn ins) (q_fb z)) q_IM (q_mJ y pd), 34, 31630))) 2 (fun _ _ => rfl) ?_
              refine q_Ru_rsT (g2 := (39, [(1, .int col), (0, .ref 64)], [], (q_cM (q_mA pix smp tr (q_nb p left dn ins) (q_fb z)) q_IM (q_mJ y pd), 34, 31630))) rfl rfl (q_d_neF h170) ?_
              refine q_Ru_seg (g2 := (40, [(1, .int col), (0, .ref 64)], [.ref 64], (q_cM (q_mA pix smp tr (q_nb p left dn ins) (q_fb z)) q_IM (q_mJ y pd), 34, 31630))) 1 (fun _ _ => rfl) ?_
              refine q_Ru_call (v := (some (.int 1))) (h2 := (q_cM (q_mA pix smp tr (q_nb p left dn ins) (q_fb z)) q_IM (q_mJ y pd), 34, 31630)) rfl rfl ?_ ?_
              · exact (by have e := q_m_picX pix smp tr p left dn ins z y pd col lin p1 p2 hC hM c0 c1 l0 l1 a0 a1 b0 b1 hp0 hp1 hp2 i0 i1; rw [hpic] at e; exact e.le (Nat.le_of_ble_eq_true rfl))
              show q_Ru _ _ _ (43, [(1, .int col), (0, .ref 64)], [.int 1], (q_cM (q_mA pix smp tr (q_nb p left dn ins) (q_fb z)) q_IM (q_mJ y pd), 34, 31630)) _
              refine q_Ru_seg (g2 := (45, [(2, .int 1), (1, .int col), (0, .ref 64)], [.ref 64], (q_cM (q_mA pix smp tr (q_nb p left dn ins) (q_fb z)) q_IM (q_mJ y pd), 34, 31630))) 2 (fun _ _ => rfl) ?_
              refine q_Ru_call (v := (some (.int (lin - 4)))) (h2 := (q_cM (q_mA pix smp tr (q_nb p left dn ins) (q_fb z)) q_IM (q_mJ y pd), 34, 31630)) rfl rfl ?_ ?_
              · refine q_Ca_of (Nat.le_of_ble_eq_true rfl) ?_
                refine q_Ru_seg (g2 := (1, [(0, .ref 64)], [.ref 64], (q_cM (q_mA pix smp tr (q_nb p left dn ins) (q_fb z)) q_IM (q_mJ y pd), 34, 31630))) 1 (fun _ _ => rfl) ?_
                refine q_Ru_call (v := (some (.int lin))) (h2 := (q_cM (q_mA pix smp tr (q_nb p left dn ins) (q_fb z)) q_IM (q_mJ y pd), 34, 31630)) rfl rfl ?_ ?_
                · refine q_Ca_of (Nat.le_of_ble_eq_true rfl) ?_
                  refine q_Ru_seg (g2 := (4, [(0, .ref 64)], [.long y], (q_cM (q_mA pix smp tr (q_nb p left dn ins) (q_fb z)) q_IM (q_mJ y pd), 34, 31630))) 2 (fun _ _ => rfl) ?_
                  refine q_Ru_seg (g2 := (13, [(0, .ref 64)], [.int (((y / 24) - (y / 24) / 40 * 40).toInt32)], (q_cM (q_mA pix smp tr (q_nb p left dn ins) (q_fb z)) q_IM (q_mJ y pd), 34, 31630))) 5 (fun _ _ => rfl) ?_
                  rw [hM]
                  exact q_Ru_ret rfl rfl
                show q_Ru _ _ _ (4, [(0, .ref 64)], [.int lin], (q_cM (q_mA pix smp tr (q_nb p left dn ins) (q_fb z)) q_IM (q_mJ y pd), 34, 31630)) _
                refine q_Ru_seg (g2 := (6, [(0, .ref 64)], [.int (lin - 4)], (q_cM (q_mA pix smp tr (q_nb p left dn ins) (q_fb z)) q_IM (q_mJ y pd), 34, 31630))) 2 (fun _ _ => rfl) ?_
                exact q_Ru_ret rfl rfl
              show q_Ru _ _ _ (48, [(2, .int 1), (1, .int col), (0, .ref 64)], [.int (lin - 4)], (q_cM (q_mA pix smp tr (q_nb p left dn ins) (q_fb z)) q_IM (q_mJ y pd), 34, 31630)) _
              refine q_Ru_seg (g2 := (53, [(3, .int (lin - 4)), (2, .int 1), (1, .int col), (0, .ref 64)], [.int 31, .int 0, .int (lin - 4)], (q_cM (q_mA pix smp tr (q_nb p left dn ins) (q_fb z)) q_IM (q_mJ y pd), 34, 31630))) 4 (fun _ _ => rfl) ?_
              refine q_Ru_call (v := (some (.int 1))) (h2 := (q_cM (q_mA pix smp tr (q_nb p left dn ins) (q_fb z)) q_IM (q_mJ y pd), 34, 31630)) rfl rfl ?_ ?_
              · refine q_Ca_of (Nat.le_of_ble_eq_true rfl) ?_
                refine q_Ru_seg (g2 := (2, [(0, .int (lin - 4)), (1, .int 0), (2, .int 31)], [.int 0, .int (lin - 4)], (q_cM (q_mA pix smp tr (q_nb p left dn ins) (q_fb z)) q_IM (q_mJ y pd), 34, 31630))) 2 (fun _ _ => rfl) ?_
                refine q_Ru_rsF (g2 := (5, [(0, .int (lin - 4)), (1, .int 0), (2, .int 31)], [], (q_cM (q_mA pix smp tr (q_nb p left dn ins) (q_fb z)) q_IM (q_mJ y pd), 34, 31630))) rfl rfl h190 ?_
                refine q_Ru_seg (g2 := (7, [(0, .int (lin - 4)), (1, .int 0), (2, .int 31)], [.int 31, .int (lin - 4)], (q_cM (q_mA pix smp tr (q_nb p left dn ins) (q_fb z)) q_IM (q_mJ y pd), 34, 31630))) 2 (fun _ _ => rfl) ?_
                refine q_Ru_rsF (g2 := (10, [(0, .int (lin - 4)), (1, .int 0), (2, .int 31)], [], (q_cM (q_mA pix smp tr (q_nb p left dn ins) (q_fb z)) q_IM (q_mJ y pd), 34, 31630))) rfl rfl h192 ?_
                refine q_Ru_seg (g2 := (15, [(0, .int (lin - 4)), (1, .int 0), (2, .int 31)], [.int 1], (q_cM (q_mA pix smp tr (q_nb p left dn ins) (q_fb z)) q_IM (q_mJ y pd), 34, 31630))) 2 (fun _ _ => rfl) ?_
                exact q_Ru_ret rfl rfl
              show q_Ru _ _ _ (56, [(3, .int (lin - 4)), (2, .int 1), (1, .int col), (0, .ref 64)], [.int 1], (q_cM (q_mA pix smp tr (q_nb p left dn ins) (q_fb z)) q_IM (q_mJ y pd), 34, 31630)) _
              refine q_Ru_seg (g2 := (63, [(3, .int (lin - 4)), (2, .int 1), (1, .int col), (0, .ref 64)], [.int 19, .int 4, .int col], (q_cM (q_mA pix smp tr (q_nb p left dn ins) (q_fb z)) q_IM (q_mJ y pd), 34, 31630))) 4 (fun _ _ => rfl) ?_
              refine q_Ru_call (v := (some (.int 0))) (h2 := (q_cM (q_mA pix smp tr (q_nb p left dn ins) (q_fb z)) q_IM (q_mJ y pd), 34, 31630)) rfl rfl ?_ ?_
              · refine q_Ca_of (Nat.le_of_ble_eq_true rfl) ?_
                refine q_Ru_seg (g2 := (2, [(0, .int col), (1, .int 4), (2, .int 19)], [.int 4, .int col], (q_cM (q_mA pix smp tr (q_nb p left dn ins) (q_fb z)) q_IM (q_mJ y pd), 34, 31630))) 2 (fun _ _ => rfl) ?_
                refine q_Ru_rsF (g2 := (5, [(0, .int col), (1, .int 4), (2, .int 19)], [], (q_cM (q_mA pix smp tr (q_nb p left dn ins) (q_fb z)) q_IM (q_mJ y pd), 34, 31630))) rfl rfl h194 ?_
                refine q_Ru_seg (g2 := (7, [(0, .int col), (1, .int 4), (2, .int 19)], [.int 19, .int col], (q_cM (q_mA pix smp tr (q_nb p left dn ins) (q_fb z)) q_IM (q_mJ y pd), 34, 31630))) 2 (fun _ _ => rfl) ?_
                refine q_Ru_rsT (g2 := (14, [(0, .int col), (1, .int 4), (2, .int 19)], [], (q_cM (q_mA pix smp tr (q_nb p left dn ins) (q_fb z)) q_IM (q_mJ y pd), 34, 31630))) rfl rfl h196 ?_
                refine q_Ru_seg (g2 := (15, [(0, .int col), (1, .int 4), (2, .int 19)], [.int 0], (q_cM (q_mA pix smp tr (q_nb p left dn ins) (q_fb z)) q_IM (q_mJ y pd), 34, 31630))) 1 (fun _ _ => rfl) ?_
                exact q_Ru_ret rfl rfl
              show q_Ru _ _ _ (66, [(3, .int (lin - 4)), (2, .int 1), (1, .int col), (0, .ref 64)], [.int 0], (q_cM (q_mA pix smp tr (q_nb p left dn ins) (q_fb z)) q_IM (q_mJ y pd), 34, 31630)) _
              refine q_Ru_seg (g2 := (92, [(3, .int (lin - 4)), (2, .int 1), (1, .int col), (0, .ref 64)], [.ref 64], (q_cM (q_mA pix smp tr (q_nb p left dn ins) (q_fb z)) q_IM (q_mJ y pd), 34, 31630))) 2 (fun _ _ => rfl) ?_
              refine q_Ru_call (v := none) (h2 := (q_cM (q_mA pix smp tr (q_nb p left dn ins) (q_fb z)) q_IM (q_mJ y pd), 34, 31630)) rfl rfl ?_ ?_
              · exact (q_m_times pix smp tr p left dn ins z y pd col lin p1 p2 hC hM c0 c1 l0 l1 a0 a1 b0 b1 hp0 hp1 hp2 i0 i1  ).le (Nat.le_of_ble_eq_true rfl)
              show q_Ru _ _ _ (95, [(3, .int (lin - 4)), (2, .int 1), (1, .int col), (0, .ref 64)], [], (q_cM (q_mA pix smp tr (q_nb p left dn ins) (q_fb z)) q_IM (q_mJ y pd), 34, 31630)) _
              refine q_Ru_seg (g2 := (96, [(3, .int (lin - 4)), (2, .int 1), (1, .int col), (0, .ref 64)], [.ref 64], (q_cM (q_mA pix smp tr (q_nb p left dn ins) (q_fb z)) q_IM (q_mJ y pd), 34, 31630))) 1 (fun _ _ => rfl) ?_
              refine q_Ru_call (v := none) (h2 := (q_cM (q_mA pix smp tr (q_nb p left dn ins) (q_fb z)) q_IM (q_mJ y pd), 34, 31630)) rfl rfl ?_ ?_
              · exact (q_m_winds pix smp tr p left dn ins z y pd col lin p1 p2 hC hM c0 c1 l0 l1 a0 a1 b0 b1 hp0 hp1 hp2 i0 i1  ).le (Nat.le_of_ble_eq_true rfl)
              show q_Ru _ _ _ (99, [(3, .int (lin - 4)), (2, .int 1), (1, .int col), (0, .ref 64)], [], (q_cM (q_mA pix smp tr (q_nb p left dn ins) (q_fb z)) q_IM (q_mJ y pd), 34, 31630)) _
              refine q_Ru_seg (g2 := (102, [(3, .int (lin - 4)), (2, .int 1), (1, .int col), (0, .ref 64)], [.int 23, .int col], (q_cM (q_mA pix smp tr (q_nb p left dn ins) (q_fb z)) q_IM (q_mJ y pd), 34, 31630))) 2 (fun _ _ => rfl) ?_
              refine q_Ru_rsT (g2 := (109, [(3, .int (lin - 4)), (2, .int 1), (1, .int col), (0, .ref 64)], [], (q_cM (q_mA pix smp tr (q_nb p left dn ins) (q_fb z)) q_IM (q_mJ y pd), 34, 31630))) rfl rfl (q_d_neF h197) ?_
              refine q_Ru_seg (g2 := (122, [(3, .int (lin - 4)), (2, .int 1), (1, .int col), (0, .ref 64)], [.long pd, .ref 64], (q_cM (q_mA pix smp tr (q_nb p left dn ins) (q_fb z)) q_IM (q_mJ y pd), 34, 31630))) 5 (fun _ _ => rfl) ?_
              refine q_Ru_seg (g2 := (140, [(3, .int (lin - 4)), (2, .int 1), (1, .int col), (0, .ref 64)], [.long y, .ref 64], (q_cM (q_mA pix smp tr (q_nb p left dn ins) (q_fb z)) q_IM (q_uI (q_mJ y pd) 0 16 (pd + 1)), 34, 31630))) 9 (fun _ _ => rfl) ?_
              refine q_Ru_seg (g2 := (146, [(3, .int (lin - 4)), (2, .int 1), (1, .int col), (0, .ref 64)], [.int 1], (q_cM (q_mA pix smp tr (q_nb p left dn ins) (q_fb z)) q_IM (q_uI (q_uI (q_mJ y pd) 0 16 (pd + 1)) 0 15 (y + 1)), 34, 31630))) 4 (fun _ _ => rfl) ?_
              exact q_Ru_ret rfl rfl
          | false =>
            have h198 : decide (col = 23) = false := q_not_tr (q_tbl1 (fun col => !decide (col = 23)) (l := 4) (n := 15) (by decide +kernel) (q_lo1 h194) (q_hi2 h196))
            obtain ⟨x137, p137⟩ := q_m_draws pix smp tr p left dn ins z y pd ((2 * col) - 8) (lin - 4) (of_decide_eq_true (q_tbl1 (fun col => decide (0 ≤ ((2 * col) - 8).toInt ∧ ((2 * col) - 8).toInt ≤ 31)) (l := 4) (n := 15) (by decide +kernel) (q_lo1 h194) (q_hi2 h196))).1 (of_decide_eq_true (q_tbl1 (fun col => decide (0 ≤ ((2 * col) - 8).toInt ∧ ((2 * col) - 8).toInt ≤ 31)) (l := 4) (n := 15) (by decide +kernel) (q_lo1 h194) (q_hi2 h196))).2 (of_decide_eq_true (q_tbl1 (fun lin => decide (0 ≤ (lin - 4).toInt ∧ (lin - 4).toInt ≤ 31)) (l := 4) (n := 31) (by decide +kernel) (q_sub_lo 4 (q_lo1 h190) l0 l1) (q_sub_hi 35 (q_hi2 h192) (q_sub_lo 4 (q_lo1 h190) l0 l1) l1))).1 (of_decide_eq_true (q_tbl1 (fun lin => decide (0 ≤ (lin - 4).toInt ∧ (lin - 4).toInt ≤ 31)) (l := 4) (n := 31) (by decide +kernel) (q_sub_lo 4 (q_lo1 h190) l0 l1) (q_sub_hi 35 (q_hi2 h192) (q_sub_lo 4 (q_lo1 h190) l0 l1) l1))).2
            obtain ⟨x138, p138⟩ := q_m_draws x137 smp tr p left dn ins z y pd ((2 * col) - 7) (lin - 4) (of_decide_eq_true (q_tbl1 (fun col => decide (0 ≤ ((2 * col) - 7).toInt ∧ ((2 * col) - 7).toInt ≤ 31)) (l := 4) (n := 15) (by decide +kernel) (q_lo1 h194) (q_hi2 h196))).1 (of_decide_eq_true (q_tbl1 (fun col => decide (0 ≤ ((2 * col) - 7).toInt ∧ ((2 * col) - 7).toInt ≤ 31)) (l := 4) (n := 15) (by decide +kernel) (q_lo1 h194) (q_hi2 h196))).2 (of_decide_eq_true (q_tbl1 (fun lin => decide (0 ≤ (lin - 4).toInt ∧ (lin - 4).toInt ≤ 31)) (l := 4) (n := 31) (by decide +kernel) (q_sub_lo 4 (q_lo1 h190) l0 l1) (q_sub_hi 35 (q_hi2 h192) (q_sub_lo 4 (q_lo1 h190) l0 l1) l1))).1 (of_decide_eq_true (q_tbl1 (fun lin => decide (0 ≤ (lin - 4).toInt ∧ (lin - 4).toInt ≤ 31)) (l := 4) (n := 31) (by decide +kernel) (q_sub_lo 4 (q_lo1 h190) l0 l1) (q_sub_hi 35 (q_hi2 h192) (q_sub_lo 4 (q_lo1 h190) l0 l1) l1))).2
            refine ⟨x138, smp, ?_⟩
            refine q_Ca_of (Nat.le_of_ble_eq_true rfl) ?_
            refine q_Ru_seg (g2 := (4, [(0, .ref 64)], [.long y], (q_cM (q_mA pix smp tr (q_nb p left dn ins) (q_fb z)) q_IM (q_mJ y pd), 34, 31630))) 2 (fun _ _ => rfl) ?_
            refine q_Ru_seg (g2 := (9, [(0, .ref 64)], [.int ((y - y / 24 * 24).toInt32)], (q_cM (q_mA pix smp tr (q_nb p left dn ins) (q_fb z)) q_IM (q_mJ y pd), 34, 31630))) 3 (fun _ _ => rfl) ?_
            rw [hC]
            refine q_Ru_seg (g2 := (11, [(1, .int col), (0, .ref 64)], [.int col], (q_cM (q_mA pix smp tr (q_nb p left dn ins) (q_fb z)) q_IM (q_mJ y pd), 34, 31630))) 2 (fun _ _ => rfl) ?_
            refine q_Ru_rsT (g2 := (39, [(1, .int col), (0, .ref 64)], [], (q_cM (q_mA pix smp tr (q_nb p left dn ins) (q_fb z)) q_IM (q_mJ y pd), 34, 31630))) rfl rfl (q_d_neF h170) ?_
            refine q_Ru_seg (g2 := (40, [(1, .int col), (0, .ref 64)], [.ref 64], (q_cM (q_mA pix smp tr (q_nb p left dn ins) (q_fb z)) q_IM (q_mJ y pd), 34, 31630))) 1 (fun _ _ => rfl) ?_
            refine q_Ru_call (v := (some (.int 1))) (h2 := (q_cM (q_mA pix smp tr (q_nb p left dn ins) (q_fb z)) q_IM (q_mJ y pd), 34, 31630)) rfl rfl ?_ ?_
            · exact (by have e := q_m_picX pix smp tr p left dn ins z y pd col lin p1 p2 hC hM c0 c1 l0 l1 a0 a1 b0 b1 hp0 hp1 hp2 i0 i1; rw [hpic] at e; exact e.le (Nat.le_of_ble_eq_true rfl))
            show q_Ru _ _ _ (43, [(1, .int col), (0, .ref 64)], [.int 1], (q_cM (q_mA pix smp tr (q_nb p left dn ins) (q_fb z)) q_IM (q_mJ y pd), 34, 31630)) _
            refine q_Ru_seg (g2 := (45, [(2, .int 1), (1, .int col), (0, .ref 64)], [.ref 64], (q_cM (q_mA pix smp tr (q_nb p left dn ins) (q_fb z)) q_IM (q_mJ y pd), 34, 31630))) 2 (fun _ _ => rfl) ?_
            refine q_Ru_call (v := (some (.int (lin - 4)))) (h2 := (q_cM (q_mA pix smp tr (q_nb p left dn ins) (q_fb z)) q_IM (q_mJ y pd), 34, 31630)) rfl rfl ?_ ?_
            · refine q_Ca_of (Nat.le_of_ble_eq_true rfl) ?_
              refine q_Ru_seg (g2 := (1, [(0, .ref 64)], [.ref 64], (q_cM (q_mA pix smp tr (q_nb p left dn ins) (q_fb z)) q_IM (q_mJ y pd), 34, 31630))) 1 (fun _ _ => rfl) ?_
              refine q_Ru_call (v := (some (.int lin))) (h2 := (q_cM (q_mA pix smp tr (q_nb p left dn ins) (q_fb z)) q_IM (q_mJ y pd), 34, 31630)) rfl rfl ?_ ?_
              · refine q_Ca_of (Nat.le_of_ble_eq_true rfl) ?_
                refine q_Ru_seg (g2 := (4, [(0, .ref 64)], [.long y], (q_cM (q_mA pix smp tr (q_nb p left dn ins) (q_fb z)) q_IM (q_mJ y pd), 34, 31630))) 2 (fun _ _ => rfl) ?_
                refine q_Ru_seg (g2 := (13, [(0, .ref 64)], [.int (((y / 24) - (y / 24) / 40 * 40).toInt32)], (q_cM (q_mA pix smp tr (q_nb p left dn ins) (q_fb z)) q_IM (q_mJ y pd), 34, 31630))) 5 (fun _ _ => rfl) ?_
                rw [hM]
                exact q_Ru_ret rfl rfl
              show q_Ru _ _ _ (4, [(0, .ref 64)], [.int lin], (q_cM (q_mA pix smp tr (q_nb p left dn ins) (q_fb z)) q_IM (q_mJ y pd), 34, 31630)) _
              refine q_Ru_seg (g2 := (6, [(0, .ref 64)], [.int (lin - 4)], (q_cM (q_mA pix smp tr (q_nb p left dn ins) (q_fb z)) q_IM (q_mJ y pd), 34, 31630))) 2 (fun _ _ => rfl) ?_
              exact q_Ru_ret rfl rfl
            show q_Ru _ _ _ (48, [(2, .int 1), (1, .int col), (0, .ref 64)], [.int (lin - 4)], (q_cM (q_mA pix smp tr (q_nb p left dn ins) (q_fb z)) q_IM (q_mJ y pd), 34, 31630)) _
            refine q_Ru_seg (g2 := (53, [(3, .int (lin - 4)), (2, .int 1), (1, .int col), (0, .ref 64)], [.int 31, .int 0, .int (lin - 4)], (q_cM (q_mA pix smp tr (q_nb p left dn ins) (q_fb z)) q_IM (q_mJ y pd), 34, 31630))) 4 (fun _ _ => rfl) ?_
            refine q_Ru_call (v := (some (.int 1))) (h2 := (q_cM (q_mA pix smp tr (q_nb p left dn ins) (q_fb z)) q_IM (q_mJ y pd), 34, 31630)) rfl rfl ?_ ?_
            · refine q_Ca_of (Nat.le_of_ble_eq_true rfl) ?_
              refine q_Ru_seg (g2 := (2, [(0, .int (lin - 4)), (1, .int 0), (2, .int 31)], [.int 0, .int (lin - 4)], (q_cM (q_mA pix smp tr (q_nb p left dn ins) (q_fb z)) q_IM (q_mJ y pd), 34, 31630))) 2 (fun _ _ => rfl) ?_
              refine q_Ru_rsF (g2 := (5, [(0, .int (lin - 4)), (1, .int 0), (2, .int 31)], [], (q_cM (q_mA pix smp tr (q_nb p left dn ins) (q_fb z)) q_IM (q_mJ y pd), 34, 31630))) rfl rfl h190 ?_
              refine q_Ru_seg (g2 := (7, [(0, .int (lin - 4)), (1, .int 0), (2, .int 31)], [.int 31, .int (lin - 4)], (q_cM (q_mA pix smp tr (q_nb p left dn ins) (q_fb z)) q_IM (q_mJ y pd), 34, 31630))) 2 (fun _ _ => rfl) ?_
              refine q_Ru_rsF (g2 := (10, [(0, .int (lin - 4)), (1, .int 0), (2, .int 31)], [], (q_cM (q_mA pix smp tr (q_nb p left dn ins) (q_fb z)) q_IM (q_mJ y pd), 34, 31630))) rfl rfl h192 ?_
              refine q_Ru_seg (g2 := (15, [(0, .int (lin - 4)), (1, .int 0), (2, .int 31)], [.int 1], (q_cM (q_mA pix smp tr (q_nb p left dn ins) (q_fb z)) q_IM (q_mJ y pd), 34, 31630))) 2 (fun _ _ => rfl) ?_
              exact q_Ru_ret rfl rfl
            show q_Ru _ _ _ (56, [(3, .int (lin - 4)), (2, .int 1), (1, .int col), (0, .ref 64)], [.int 1], (q_cM (q_mA pix smp tr (q_nb p left dn ins) (q_fb z)) q_IM (q_mJ y pd), 34, 31630)) _
            refine q_Ru_seg (g2 := (63, [(3, .int (lin - 4)), (2, .int 1), (1, .int col), (0, .ref 64)], [.int 19, .int 4, .int col], (q_cM (q_mA pix smp tr (q_nb p left dn ins) (q_fb z)) q_IM (q_mJ y pd), 34, 31630))) 4 (fun _ _ => rfl) ?_
            refine q_Ru_call (v := (some (.int 1))) (h2 := (q_cM (q_mA pix smp tr (q_nb p left dn ins) (q_fb z)) q_IM (q_mJ y pd), 34, 31630)) rfl rfl ?_ ?_
            · refine q_Ca_of (Nat.le_of_ble_eq_true rfl) ?_
              refine q_Ru_seg (g2 := (2, [(0, .int col), (1, .int 4), (2, .int 19)], [.int 4, .int col], (q_cM (q_mA pix smp tr (q_nb p left dn ins) (q_fb z)) q_IM (q_mJ y pd), 34, 31630))) 2 (fun _ _ => rfl) ?_
              refine q_Ru_rsF (g2 := (5, [(0, .int col), (1, .int 4), (2, .int 19)], [], (q_cM (q_mA pix smp tr (q_nb p left dn ins) (q_fb z)) q_IM (q_mJ y pd), 34, 31630))) rfl rfl h194 ?_
              refine q_Ru_seg (g2 := (7, [(0, .int col), (1, .int 4), (2, .int 19)], [.int 19, .int col], (q_cM (q_mA pix smp tr (q_nb p left dn ins) (q_fb z)) q_IM (q_mJ y pd), 34, 31630))) 2 (fun _ _ => rfl) ?_
              refine q_Ru_rsF (g2 := (10, [(0, .int col), (1, .int 4), (2, .int 19)], [], (q_cM (q_mA pix smp tr (q_nb p left dn ins) (q_fb z)) q_IM (q_mJ y pd), 34, 31630))) rfl rfl h196 ?_
              refine q_Ru_seg (g2 := (15, [(0, .int col), (1, .int 4), (2, .int 19)], [.int 1], (q_cM (q_mA pix smp tr (q_nb p left dn ins) (q_fb z)) q_IM (q_mJ y pd), 34, 31630))) 2 (fun _ _ => rfl) ?_
              exact q_Ru_ret rfl rfl
            show q_Ru _ _ _ (66, [(3, .int (lin - 4)), (2, .int 1), (1, .int col), (0, .ref 64)], [.int 1], (q_cM (q_mA pix smp tr (q_nb p left dn ins) (q_fb z)) q_IM (q_mJ y pd), 34, 31630)) _
            refine q_Ru_seg (g2 := (77, [(3, .int (lin - 4)), (2, .int 1), (1, .int col), (0, .ref 64)], [.int (lin - 4), .int ((2 * col) - 8), .ref 64], (q_cM (q_mA pix smp tr (q_nb p left dn ins) (q_fb z)) q_IM (q_mJ y pd), 34, 31630))) 8 (fun _ _ => rfl) ?_
            refine q_Ru_call (v := none) (h2 := (q_cM (q_mA x137 smp tr (q_nb p left dn ins) (q_fb z)) q_IM (q_mJ y pd), 34, 31630)) rfl rfl ?_ ?_
            · exact p137.le (Nat.le_of_ble_eq_true rfl)
            show q_Ru _ _ _ (80, [(3, .int (lin - 4)), (2, .int 1), (1, .int col), (0, .ref 64)], [], (q_cM (q_mA x137 smp tr (q_nb p left dn ins) (q_fb z)) q_IM (q_mJ y pd), 34, 31630)) _
            refine q_Ru_seg (g2 := (88, [(3, .int (lin - 4)), (2, .int 1), (1, .int col), (0, .ref 64)], [.int (lin - 4), .int ((2 * col) - 7), .ref 64], (q_cM (q_mA x137 smp tr (q_nb p left dn ins) (q_fb z)) q_IM (q_mJ y pd), 34, 31630))) 7 (fun _ _ => rfl) ?_
            refine q_Ru_call (v := none) (h2 := (q_cM (q_mA x138 smp tr (q_nb p left dn ins) (q_fb z)) q_IM (q_mJ y pd), 34, 31630)) rfl rfl ?_ ?_
            · exact p138.le (Nat.le_of_ble_eq_true rfl)
            show q_Ru _ _ _ (91, [(3, .int (lin - 4)), (2, .int 1), (1, .int col), (0, .ref 64)], [], (q_cM (q_mA x138 smp tr (q_nb p left dn ins) (q_fb z)) q_IM (q_mJ y pd), 34, 31630)) _
            refine q_Ru_seg (g2 := (92, [(3, .int (lin - 4)), (2, .int 1), (1, .int col), (0, .ref 64)], [.ref 64], (q_cM (q_mA x138 smp tr (q_nb p left dn ins) (q_fb z)) q_IM (q_mJ y pd), 34, 31630))) 1 (fun _ _ => rfl) ?_
            refine q_Ru_call (v := none) (h2 := (q_cM (q_mA x138 smp tr (q_nb p left dn ins) (q_fb z)) q_IM (q_mJ y pd), 34, 31630)) rfl rfl ?_ ?_
            · exact (q_m_times x138 smp tr p left dn ins z y pd col lin p1 p2 hC hM c0 c1 l0 l1 a0 a1 b0 b1 hp0 hp1 hp2 i0 i1  ).le (Nat.le_of_ble_eq_true rfl)
            show q_Ru _ _ _ (95, [(3, .int (lin - 4)), (2, .int 1), (1, .int col), (0, .ref 64)], [], (q_cM (q_mA x138 smp tr (q_nb p left dn ins) (q_fb z)) q_IM (q_mJ y pd), 34, 31630)) _
            refine q_Ru_seg (g2 := (96, [(3, .int (lin - 4)), (2, .int 1), (1, .int col), (0, .ref 64)], [.ref 64], (q_cM (q_mA x138 smp tr (q_nb p left dn ins) (q_fb z)) q_IM (q_mJ y pd), 34, 31630))) 1 (fun _ _ => rfl) ?_
            refine q_Ru_call (v := none) (h2 := (q_cM (q_mA x138 smp tr (q_nb p left dn ins) (q_fb z)) q_IM (q_mJ y pd), 34, 31630)) rfl rfl ?_ ?_
            · exact (q_m_winds x138 smp tr p left dn ins z y pd col lin p1 p2 hC hM c0 c1 l0 l1 a0 a1 b0 b1 hp0 hp1 hp2 i0 i1  ).le (Nat.le_of_ble_eq_true rfl)
            show q_Ru _ _ _ (99, [(3, .int (lin - 4)), (2, .int 1), (1, .int col), (0, .ref 64)], [], (q_cM (q_mA x138 smp tr (q_nb p left dn ins) (q_fb z)) q_IM (q_mJ y pd), 34, 31630)) _
            refine q_Ru_seg (g2 := (102, [(3, .int (lin - 4)), (2, .int 1), (1, .int col), (0, .ref 64)], [.int 23, .int col], (q_cM (q_mA x138 smp tr (q_nb p left dn ins) (q_fb z)) q_IM (q_mJ y pd), 34, 31630))) 2 (fun _ _ => rfl) ?_
            refine q_Ru_rsT (g2 := (109, [(3, .int (lin - 4)), (2, .int 1), (1, .int col), (0, .ref 64)], [], (q_cM (q_mA x138 smp tr (q_nb p left dn ins) (q_fb z)) q_IM (q_mJ y pd), 34, 31630))) rfl rfl (q_d_neF h198) ?_
            refine q_Ru_seg (g2 := (122, [(3, .int (lin - 4)), (2, .int 1), (1, .int col), (0, .ref 64)], [.long pd, .ref 64], (q_cM (q_mA x138 smp tr (q_nb p left dn ins) (q_fb z)) q_IM (q_mJ y pd), 34, 31630))) 5 (fun _ _ => rfl) ?_
            refine q_Ru_seg (g2 := (140, [(3, .int (lin - 4)), (2, .int 1), (1, .int col), (0, .ref 64)], [.long y, .ref 64], (q_cM (q_mA x138 smp tr (q_nb p left dn ins) (q_fb z)) q_IM (q_uI (q_mJ y pd) 0 16 (pd + 1)), 34, 31630))) 9 (fun _ _ => rfl) ?_
            refine q_Ru_seg (g2 := (146, [(3, .int (lin - 4)), (2, .int 1), (1, .int col), (0, .ref 64)], [.int 1], (q_cM (q_mA x138 smp tr (q_nb p left dn ins) (q_fb z)) q_IM (q_uI (q_uI (q_mJ y pd) 0 16 (pd + 1)) 0 15 (y + 1)), 34, 31630))) 4 (fun _ _ => rfl) ?_
            exact q_Ru_ret rfl rfl
set_option maxHeartbeats 4000000 in
theorem q_m_pass00 (pix smp tr : Nat → Int32) (p dn ins z : Int32) (y pd : Int64) (col lin p1 p2 : Int32) (hC : (y - y / 24 * 24).toInt32 = col) (hM : (y / 24 - y / 24 / 40 * 40).toInt32 = lin) (c0 : 0 ≤ col.toInt) (c1 : col.toInt ≤ 23) (l0 : 0 ≤ lin.toInt) (l1 : lin.toInt ≤ 39) (a0 : 0 ≤ p.toInt) (a1 : p.toInt ≤ 3839) (b0 : 0 ≤ p1.toInt) (b1 : p1.toInt ≤ 3839) (hp0 : p &&& 4095 = p) (hp1 : (p + 1) &&& 4095 = p1) (hp2 : (p + 2) &&& 4095 = p2) (i0 : 0 ≤ ins.toInt) (i1 : ins.toInt ≤ 1000) (hpic : q_picX lin col = 0) : ∃ pix2 smp2, q_Ca q_TB0 9 235 [.ref 64] (q_cM (q_mA pix smp tr (q_nb p 0 dn ins) (q_fb z)) q_IM (q_mJ y pd), 34, 31630) (.inl (some (.int 0)), (q_cM (q_mA pix2 smp2 tr (q_nb p 1 dn ins) (q_fb z)) q_IM (q_mJ (y + 1) (pd + 0)), 34, 31630)) := by
  cases h199 : decide (col = 0) with
  | true =>
    have eh199 := of_decide_eq_true h199
    subst eh199
    cases h200 : decide (lin = 0) with
    | true =>
      have eh200 := of_decide_eq_true h200
      subst eh200
      cases h201 : decide (lin - 4 < 0) with
      | true =>
        cases h202 : decide (col = 23) with
        | true =>
          have eh202 := of_decide_eq_true h202
          subst eh202
          obtain ⟨z145a, p145⟩ := q_m_sample pix smp tr p 0 dn ins z y pd col lin p1 p2 hC hM c0 c1 l0 l1 a0 a1 b0 b1 hp0 hp1 hp2 i0 i1  
          refine ⟨pix, z145a, ?_⟩
          refine q_Ca_of (Nat.le_of_ble_eq_true rfl) ?_
          refine q_Ru_seg (g2 := (4, [(0, .ref 64)], [.long y], (q_cM (q_mA pix smp tr (q_nb p 0 dn ins) (q_fb z)) q_IM (q_mJ y pd), 34, 31630))) 2 (fun _ _ => rfl) ?_
          refine q_Ru_seg (g2 := (9, [(0, .ref 64)], [.int ((y - y / 24 * 24).toInt32)], (q_cM (q_mA pix smp tr (q_nb p 0 dn ins) (q_fb z)) q_IM (q_mJ y pd), 34, 31630))) 3 (fun _ _ => rfl) ?_
          rw [hC]
          refine q_Ru_seg (g2 := (11, [(1, .int col), (0, .ref 64)], [.int col], (q_cM (q_mA pix smp tr (q_nb p 0 dn ins) (q_fb z)) q_IM (q_mJ y pd), 34, 31630))) 2 (fun _ _ => rfl) ?_
          refine q_Ru_rsF (g2 := (14, [(1, .int col), (0, .ref 64)], [], (q_cM (q_mA pix smp tr (q_nb p 0 dn ins) (q_fb z)) q_IM (q_mJ y pd), 34, 31630))) rfl rfl (q_d_neT h199) ?_
          refine q_Ru_seg (g2 := (15, [(1, .int col), (0, .ref 64)], [.ref 64], (q_cM (q_mA pix smp tr (q_nb p 0 dn ins) (q_fb z)) q_IM (q_mJ y pd), 34, 31630))) 1 (fun _ _ => rfl) ?_
          refine q_Ru_call (v := (some (.int lin))) (h2 := (q_cM (q_mA pix smp tr (q_nb p 0 dn ins) (q_fb z)) q_IM (q_mJ y pd), 34, 31630)) rfl rfl ?_ ?_
          · refine q_Ca_of (Nat.le_of_ble_eq_true rfl) ?_
            refine q_Ru_seg (g2 := (4, [(0, .ref 64)], [.long y], (q_cM (q_mA pix smp tr (q_nb p 0 dn ins) (q_fb z)) q_IM (q_mJ y pd), 34, 31630))) 2 (fun _ _ => rfl) ?_
            refine q_Ru_seg (g2 := (13, [(0, .ref 64)], [.int (((y / 24) - (y / 24) / 40 * 40).toInt32)], (q_cM (q_mA pix smp tr (q_nb p 0 dn ins) (q_fb z)) q_IM (q_mJ y pd), 34, 31630))) 5 (fun _ _ => rfl) ?_
            rw [hM]
            exact q_Ru_ret rfl rfl
          show q_Ru _ _ _ (18, [(1, .int col), (0, .ref 64)], [.int lin], (q_cM (q_mA pix smp tr (q_nb p 0 dn ins) (q_fb z)) q_IM (q_mJ y pd), 34, 31630)) _
          refine q_Ru_seg (g2 := (25, [(1, .int col), (0, .ref 64)], [.int 0, .int lin], (q_cM (q_mA pix smp tr (q_nb p 0 dn ins) (q_fb z)) q_IM (q_mJ y pd), 34, 31630))) 4 (fun _ _ => rfl) ?_
          refine q_Ru_rsF (g2 := (28, [(1, .int col), (0, .ref 64)], [], (q_cM (q_mA pix smp tr (q_nb p 0 dn ins) (q_fb z)) q_IM (q_mJ y pd), 34, 31630))) rfl rfl (q_d_neT h200) ?_
          refine q_Ru_seg (g2 := (36, [(1, .int col), (0, .ref 64)], [.int 1, .int 9, .ref 78], (q_cM (q_mA pix smp tr (q_nb p 0 dn ins) (q_fb z)) q_IM (q_mJ y pd), 34, 31630))) 5 (fun _ _ => rfl) ?_
          refine q_Ru_seg (g2 := (40, [(1, .int col), (0, .ref 64)], [.ref 64], (q_cM (q_uA (q_mA pix smp tr (q_nb p 0 dn ins) (q_fb z)) 14 (upd (q_nb p 0 dn ins) 9 1)) q_IM (q_mJ y pd), 34, 31630))) 4 (fun _ _ => rfl) ?_
          have hA : ∀ i, i < 34 → (q_uA (q_mA pix smp tr (q_nb p 0 dn ins) (q_fb z)) 14 (upd (q_nb p 0 dn ins) 9 1)) i = (q_mA pix smp tr (q_nb p 0 dn ins) (q_fb z)) i := by
            intro i hi
            match i, hi with
            | 0, _ => rfl
            | 1, _ => rfl
            | 2, _ => rfl
            | 3, _ => rfl
            | 4, _ => rfl
            | 5, _ => rfl
            | 6, _ => rfl
            | 7, _ => rfl
            | 8, _ => rfl
            | 9, _ => rfl
            | 10, _ => rfl
            | 11, _ => rfl
            | 12, _ => rfl
            | 13, _ => rfl
            | 14, _ => exact (show (upd (q_nb p 0 dn ins) 9 1) = (q_nb p 0 dn ins) by simp only [q_upd_upd, q_upd_z, q_nb_4, q_nb_17, q_nb_19, q_nb_20, q_nb_0, q_nb_9, q_nb_18, q_fb_4, q_fb_0])
            | 15, _ => rfl
            | 16, _ => rfl
            | 17, _ => rfl
            | 18, _ => rfl
            | 19, _ => rfl
            | 20, _ => rfl
            | 21, _ => rfl
            | 22, _ => rfl
            | 23, _ => rfl
            | 24, _ => rfl
            | 25, _ => rfl
            | 26, _ => rfl
            | 27, _ => rfl
            | 28, _ => rfl
            | 29, _ => rfl
            | 30, _ => rfl
            | 31, _ => rfl
            | 32, _ => rfl
            | 33, _ => rfl
            | i + 34, hi => exact absurd hi (by omega)
          rw [q_cM_A (I := q_IM) (J := (q_mJ y pd)) hA]
          refine q_Ru_call (v := (some (.int 0))) (h2 := (q_cM (q_mA pix smp tr (q_nb p 0 dn ins) (q_fb z)) q_IM (q_mJ y pd), 34, 31630)) rfl rfl ?_ ?_
          · exact (by have e := q_m_picX pix smp tr p 0 dn ins z y pd col lin p1 p2 hC hM c0 c1 l0 l1 a0 a1 b0 b1 hp0 hp1 hp2 i0 i1; rw [hpic] at e; exact e.le (Nat.le_of_ble_eq_true rfl))
          show q_Ru _ _ _ (43, [(1, .int col), (0, .ref 64)], [.int 0], (q_cM (q_mA pix smp tr (q_nb p 0 dn ins) (q_fb z)) q_IM (q_mJ y pd), 34, 31630)) _
          refine q_Ru_seg (g2 := (45, [(2, .int 0), (1, .int col), (0, .ref 64)], [.ref 64], (q_cM (q_mA pix smp tr (q_nb p 0 dn ins) (q_fb z)) q_IM (q_mJ y pd), 34, 31630))) 2 (fun _ _ => rfl) ?_
          refine q_Ru_call (v := (some (.int (lin - 4)))) (h2 := (q_cM (q_mA pix smp tr (q_nb p 0 dn ins) (q_fb z)) q_IM (q_mJ y pd), 34, 31630)) rfl rfl ?_ ?_
          · refine q_Ca_of (Nat.le_of_ble_eq_true rfl) ?_
            refine q_Ru_seg (g2 := (1, [(0, .ref 64)], [.ref 64], (q_cM (q_mA pix smp tr (q_nb p 0 dn ins) (q_fb z)) q_IM (q_mJ y pd), 34, 31630))) 1 (fun _ _ => rfl) ?_
            refine q_Ru_call (v := (some (.int lin))) (h2 := (q_cM (q_mA pix smp tr (q_nb p 0 dn ins) (q_fb z)) q_IM (q_mJ y pd), 34, 31630)) rfl rfl ?_ ?_
            · refine q_Ca_of (Nat.le_of_ble_eq_true rfl) ?_
              refine q_Ru_seg (g2 := (4, [(0, .ref 64)], [.long y], (q_cM (q_mA pix smp tr (q_nb p 0 dn ins) (q_fb z)) q_IM (q_mJ y pd), 34, 31630))) 2 (fun _ _ => rfl) ?_
              refine q_Ru_seg (g2 := (13, [(0, .ref 64)], [.int (((y / 24) - (y / 24) / 40 * 40).toInt32)], (q_cM (q_mA pix smp tr (q_nb p 0 dn ins) (q_fb z)) q_IM (q_mJ y pd), 34, 31630))) 5 (fun _ _ => rfl) ?_
              rw [hM]
              exact q_Ru_ret rfl rfl
            show q_Ru _ _ _ (4, [(0, .ref 64)], [.int lin], (q_cM (q_mA pix smp tr (q_nb p 0 dn ins) (q_fb z)) q_IM (q_mJ y pd), 34, 31630)) _
            refine q_Ru_seg (g2 := (6, [(0, .ref 64)], [.int (lin - 4)], (q_cM (q_mA pix smp tr (q_nb p 0 dn ins) (q_fb z)) q_IM (q_mJ y pd), 34, 31630))) 2 (fun _ _ => rfl) ?_
            exact q_Ru_ret rfl rfl
          show q_Ru _ _ _ (48, [(2, .int 0), (1, .int col), (0, .ref 64)], [.int (lin - 4)], (q_cM (q_mA pix smp tr (q_nb p 0 dn ins) (q_fb z)) q_IM (q_mJ y pd), 34, 31630)) _
          refine q_Ru_seg (g2 := (53, [(3, .int (lin - 4)), (2, .int 0), (1, .int col), (0, .ref 64)], [.int 31, .int 0, .int (lin - 4)], (q_cM (q_mA pix smp tr (q_nb p 0 dn ins) (q_fb z)) q_IM (q_mJ y pd), 34, 31630))) 4 (fun _ _ => rfl) ?_
          refine q_Ru_call (v := (some (.int 0))) (h2 := (q_cM (q_mA pix smp tr (q_nb p 0 dn ins) (q_fb z)) q_IM (q_mJ y pd), 34, 31630)) rfl rfl ?_ ?_
          · refine q_Ca_of (Nat.le_of_ble_eq_true rfl) ?_
            refine q_Ru_seg (g2 := (2, [(0, .int (lin - 4)), (1, .int 0), (2, .int 31)], [.int 0, .int (lin - 4)], (q_cM (q_mA pix smp tr (q_nb p 0 dn ins) (q_fb z)) q_IM (q_mJ y pd), 34, 31630))) 2 (fun _ _ => rfl) ?_
            refine q_Ru_rsT (g2 := (14, [(0, .int (lin - 4)), (1, .int 0), (2, .int 31)], [], (q_cM (q_mA pix smp tr (q_nb p 0 dn ins) (q_fb z)) q_IM (q_mJ y pd), 34, 31630))) rfl rfl h201 ?_
            refine q_Ru_seg (g2 := (15, [(0, .int (lin - 4)), (1, .int 0), (2, .int 31)], [.int 0], (q_cM (q_mA pix smp tr (q_nb p 0 dn ins) (q_fb z)) q_IM (q_mJ y pd), 34, 31630))) 1 (fun _ _ => rfl) ?_
            exact q_Ru_ret rfl rfl
          show q_Ru _ _ _ (56, [(3, .int (lin - 4)), (2, .int 0), (1, .int col), (0, .ref 64)], [.int 0], (q_cM (q_mA pix smp tr (q_nb p 0 dn ins) (q_fb z)) q_IM (q_mJ y pd), 34, 31630)) _
          refine q_Ru_seg (g2 := (92, [(3, .int (lin - 4)), (2, .int 0), (1, .int col), (0, .ref 64)], [.ref 64], (q_cM (q_mA pix smp tr (q_nb p 0 dn ins) (q_fb z)) q_IM (q_mJ y pd), 34, 31630))) 2 (fun _ _ => rfl) ?_
          refine q_Ru_call (v := none) (h2 := (q_cM (q_mA pix smp tr (q_nb p 0 dn ins) (q_fb z)) q_IM (q_mJ y pd), 34, 31630)) rfl rfl ?_ ?_
          · exact (q_m_times pix smp tr p 0 dn ins z y pd col lin p1 p2 hC hM c0 c1 l0 l1 a0 a1 b0 b1 hp0 hp1 hp2 i0 i1  ).le (Nat.le_of_ble_eq_true rfl)
          show q_Ru _ _ _ (95, [(3, .int (lin - 4)), (2, .int 0), (1, .int col), (0, .ref 64)], [], (q_cM (q_mA pix smp tr (q_nb p 0 dn ins) (q_fb z)) q_IM (q_mJ y pd), 34, 31630)) _
          refine q_Ru_seg (g2 := (96, [(3, .int (lin - 4)), (2, .int 0), (1, .int col), (0, .ref 64)], [.ref 64], (q_cM (q_mA pix smp tr (q_nb p 0 dn ins) (q_fb z)) q_IM (q_mJ y pd), 34, 31630))) 1 (fun _ _ => rfl) ?_
          refine q_Ru_call (v := none) (h2 := (q_cM (q_mA pix smp tr (q_nb p 0 dn ins) (q_fb z)) q_IM (q_mJ y pd), 34, 31630)) rfl rfl ?_ ?_
          · exact (q_m_winds pix smp tr p 0 dn ins z y pd col lin p1 p2 hC hM c0 c1 l0 l1 a0 a1 b0 b1 hp0 hp1 hp2 i0 i1  ).le (Nat.le_of_ble_eq_true rfl)
          show q_Ru _ _ _ (99, [(3, .int (lin - 4)), (2, .int 0), (1, .int col), (0, .ref 64)], [], (q_cM (q_mA pix smp tr (q_nb p 0 dn ins) (q_fb z)) q_IM (q_mJ y pd), 34, 31630)) _
          refine q_Ru_seg (g2 := (102, [(3, .int (lin - 4)), (2, .int 0), (1, .int col), (0, .ref 64)], [.int 23, .int col], (q_cM (q_mA pix smp tr (q_nb p 0 dn ins) (q_fb z)) q_IM (q_mJ y pd), 34, 31630))) 2 (fun _ _ => rfl) ?_
          refine q_Ru_rsF (g2 := (105, [(3, .int (lin - 4)), (2, .int 0), (1, .int col), (0, .ref 64)], [], (q_cM (q_mA pix smp tr (q_nb p 0 dn ins) (q_fb z)) q_IM (q_mJ y pd), 34, 31630))) rfl rfl (q_d_neT h202) ?_
          refine q_Ru_seg (g2 := (106, [(3, .int (lin - 4)), (2, .int 0), (1, .int col), (0, .ref 64)], [.ref 64], (q_cM (q_mA pix smp tr (q_nb p 0 dn ins) (q_fb z)) q_IM (q_mJ y pd), 34, 31630))) 1 (fun _ _ => rfl) ?_
          refine q_Ru_call (v := none) (h2 := (q_cM (q_mA pix z145a tr (q_nb p 0 dn ins) (q_fb z)) q_IM (q_mJ y pd), 34, 31630)) rfl rfl ?_ ?_
          · exact p145.le (Nat.le_of_ble_eq_true rfl)
          show q_Ru _ _ _ (109, [(3, .int (lin - 4)), (2, .int 0), (1, .int col), (0, .ref 64)], [], (q_cM (q_mA pix z145a tr (q_nb p 0 dn ins) (q_fb z)) q_IM (q_mJ y pd), 34, 31630)) _
          refine q_Ru_seg (g2 := (114, [(3, .int (lin - 4)), (2, .int 0), (1, .int col), (0, .ref 64)], [.ref 64], (q_cM (q_mA pix z145a tr (q_nb p 0 dn ins) (q_fb z)) q_IM (q_mJ y pd), 34, 31630))) 3 (fun _ _ => rfl) ?_
          refine q_Ru_call (v := none) (h2 := (q_cM (q_mA pix z145a tr (q_nb p 1 dn ins) (q_fb z)) q_IM (q_mJ y pd), 34, 31630)) rfl rfl ?_ ?_
          · exact (q_m_go0 pix z145a tr p dn ins z y pd col lin p1 p2 hC hM c0 c1 l0 l1 a0 a1 b0 b1 hp0 hp1 hp2 i0 i1  ).le (Nat.le_of_ble_eq_true rfl)
          show q_Ru _ _ _ (117, [(3, .int (lin - 4)), (2, .int 0), (1, .int col), (0, .ref 64)], [], (q_cM (q_mA pix z145a tr (q_nb p 1 dn ins) (q_fb z)) q_IM (q_mJ y pd), 34, 31630)) _
          refine q_Ru_seg (g2 := (122, [(3, .int (lin - 4)), (2, .int 0), (1, .int col), (0, .ref 64)], [.long pd, .ref 64], (q_cM (q_mA pix z145a tr (q_nb p 1 dn ins) (q_fb z)) q_IM (q_mJ y pd), 34, 31630))) 3 (fun _ _ => rfl) ?_
          refine q_Ru_seg (g2 := (140, [(3, .int (lin - 4)), (2, .int 0), (1, .int col), (0, .ref 64)], [.long y, .ref 64], (q_cM (q_mA pix z145a tr (q_nb p 1 dn ins) (q_fb z)) q_IM (q_uI (q_mJ y pd) 0 16 (pd + 0)), 34, 31630))) 8 (fun _ _ => rfl) ?_
          refine q_Ru_seg (g2 := (146, [(3, .int (lin - 4)), (2, .int 0), (1, .int col), (0, .ref 64)], [.int 0], (q_cM (q_mA pix z145a tr (q_nb p 1 dn ins) (q_fb z)) q_IM (q_uI (q_uI (q_mJ y pd) 0 16 (pd + 0)) 0 15 (y + 1)), 34, 31630))) 4 (fun _ _ => rfl) ?_
          exact q_Ru_ret rfl rfl
        | false =>
          refine ⟨pix, smp, ?_⟩
          refine q_Ca_of (Nat.le_of_ble_eq_true rfl) ?_
          refine q_Ru_seg (g2 := (4, [(0, .ref 64)], [.long y], (q_cM (q_mA pix smp tr (q_nb p 0 dn ins) (q_fb z)) q_IM (q_mJ y pd), 34, 31630))) 2 (fun _ _ => rfl) ?_
          refine q_Ru_seg (g2 := (9, [(0, .ref 64)], [.int ((y - y / 24 * 24).toInt32)], (q_cM (q_mA pix smp tr (q_nb p 0 dn ins) (q_fb z)) q_IM (q_mJ y pd), 34, 31630))) 3 (fun _ _ => rfl) ?_
          rw [hC]
          refine q_Ru_seg (g2 := (11, [(1, .int col), (0, .ref 64)], [.int col], (q_cM (q_mA pix smp tr (q_nb p 0 dn ins) (q_fb z)) q_IM (q_mJ y pd), 34, 31630))) 2 (fun _ _ => rfl) ?_
          refine q_Ru_rsF (g2 := (14, [(1, .int col), (0, .ref 64)], [], (q_cM (q_mA pix smp tr (q_nb p 0 dn ins) (q_fb z)) q_IM (q_mJ y pd), 34, 31630))) rfl rfl (q_d_neT h199) ?_
          refine q_Ru_seg (g2 := (15, [(1, .int col), (0, .ref 64)], [.ref 64], (q_cM (q_mA pix smp tr (q_nb p 0 dn ins) (q_fb z)) q_IM (q_mJ y pd), 34, 31630))) 1 (fun _ _ => rfl) ?_
          refine q_Ru_call (v := (some (.int lin))) (h2 := (q_cM (q_mA pix smp tr (q_nb p 0 dn ins) (q_fb z)) q_IM (q_mJ y pd), 34, 31630)) rfl rfl ?_ ?_
          · refine q_Ca_of (Nat.le_of_ble_eq_true rfl) ?_
            refine q_Ru_seg (g2 := (4, [(0, .ref 64)], [.long y], (q_cM (q_mA pix smp tr (q_nb p 0 dn ins) (q_fb z)) q_IM (q_mJ y pd), 34, 31630))) 2 (fun _ _ => rfl) ?_
            refine q_Ru_seg (g2 := (13, [(0, .ref 64)], [.int (((y / 24) - (y / 24) / 40 * 40).toInt32)], (q_cM (q_mA pix smp tr (q_nb p 0 dn ins) (q_fb z)) q_IM (q_mJ y pd), 34, 31630))) 5 (fun _ _ => rfl) ?_
            rw [hM]
            exact q_Ru_ret rfl rfl
          show q_Ru _ _ _ (18, [(1, .int col), (0, .ref 64)], [.int lin], (q_cM (q_mA pix smp tr (q_nb p 0 dn ins) (q_fb z)) q_IM (q_mJ y pd), 34, 31630)) _
          refine q_Ru_seg (g2 := (25, [(1, .int col), (0, .ref 64)], [.int 0, .int lin], (q_cM (q_mA pix smp tr (q_nb p 0 dn ins) (q_fb z)) q_IM (q_mJ y pd), 34, 31630))) 4 (fun _ _ => rfl) ?_
          refine q_Ru_rsF (g2 := (28, [(1, .int col), (0, .ref 64)], [], (q_cM (q_mA pix smp tr (q_nb p 0 dn ins) (q_fb z)) q_IM (q_mJ y pd), 34, 31630))) rfl rfl (q_d_neT h200) ?_
          refine q_Ru_seg (g2 := (36, [(1, .int col), (0, .ref 64)], [.int 1, .int 9, .ref 78], (q_cM (q_mA pix smp tr (q_nb p 0 dn ins) (q_fb z)) q_IM (q_mJ y pd), 34, 31630))) 5 (fun _ _ => rfl) ?_
          refine q_Ru_seg (g2 := (40, [(1, .int col), (0, .ref 64)], [.ref 64], (q_cM (q_uA (q_mA pix smp tr (q_nb p 0 dn ins) (q_fb z)) 14 (upd (q_nb p 0 dn ins) 9 1)) q_IM (q_mJ y pd), 34, 31630))) 4 (fun _ _ => rfl) ?_
          have hA : ∀ i, i < 34 → (q_uA (q_mA pix smp tr (q_nb p 0 dn ins) (q_fb z)) 14 (upd (q_nb p 0 dn ins) 9 1)) i = (q_mA pix smp tr (q_nb p 0 dn ins) (q_fb z)) i := by
            intro i hi
            match i, hi with
            | 0, _ => rfl
            | 1, _ => rfl
            | 2, _ => rfl
            | 3, _ => rfl
            | 4, _ => rfl
            | 5, _ => rfl
            | 6, _ => rfl
            | 7, _ => rfl
            | 8, _ => rfl
            | 9, _ => rfl
            | 10, _ => rfl
            | 11, _ => rfl
            | 12, _ => rfl
            | 13, _ => rfl
            | 14, _ => exact (show (upd (q_nb p 0 dn ins) 9 1) = (q_nb p 0 dn ins) by simp only [q_upd_upd, q_upd_z, q_nb_4, q_nb_17, q_nb_19, q_nb_20, q_nb_0, q_nb_9, q_nb_18, q_fb_4, q_fb_0])
            | 15, _ => rfl
            | 16, _ => rfl
            | 17, _ => rfl
            | 18, _ => rfl
            | 19, _ => rfl
            | 20, _ => rfl
            | 21, _ => rfl
            | 22, _ => rfl
            | 23, _ => rfl
            | 24, _ => rfl
            | 25, _ => rfl
            | 26, _ => rfl
            | 27, _ => rfl
            | 28, _ => rfl
            | 29, _ => rfl
            | 30, _ => rfl
            | 31, _ => rfl
            | 32, _ => rfl
            | 33, _ => rfl
            | i + 34, hi => exact absurd hi (by omega)
          rw [q_cM_A (I := q_IM) (J := (q_mJ y pd)) hA]
          refine q_Ru_call (v := (some (.int 0))) (h2 := (q_cM (q_mA pix smp tr (q_nb p 0 dn ins) (q_fb z)) q_IM (q_mJ y pd), 34, 31630)) rfl rfl ?_ ?_
          · exact (by have e := q_m_picX pix smp tr p 0 dn ins z y pd col lin p1 p2 hC hM c0 c1 l0 l1 a0 a1 b0 b1 hp0 hp1 hp2 i0 i1; rw [hpic] at e; exact e.le (Nat.le_of_ble_eq_true rfl))
          show q_Ru _ _ _ (43, [(1, .int col), (0, .ref 64)], [.int 0], (q_cM (q_mA pix smp tr (q_nb p 0 dn ins) (q_fb z)) q_IM (q_mJ y pd), 34, 31630)) _
          refine q_Ru_seg (g2 := (45, [(2, .int 0), (1, .int col), (0, .ref 64)], [.ref 64], (q_cM (q_mA pix smp tr (q_nb p 0 dn ins) (q_fb z)) q_IM (q_mJ y pd), 34, 31630))) 2 (fun _ _ => rfl) ?_
          refine q_Ru_call (v := (some (.int (lin - 4)))) (h2 := (q_cM (q_mA pix smp tr (q_nb p 0 dn ins) (q_fb z)) q_IM (q_mJ y pd), 34, 31630)) rfl rfl ?_ ?_
          · refine q_Ca_of (Nat.le_of_ble_eq_true rfl) ?_
            refine q_Ru_seg (g2 := (1, [(0, .ref 64)], [.ref 64], (q_cM (q_mA pix smp tr (q_nb p 0 dn ins) (q_fb z)) q_IM (q_mJ y pd), 34, 31630))) 1 (fun _ _ => rfl) ?_
            refine q_Ru_call (v := (some (.int lin))) (h2 := (q_cM (q_mA pix smp tr (q_nb p 0 dn ins) (q_fb z)) q_IM (q_mJ y pd), 34, 31630)) rfl rfl ?_ ?_
            · refine q_Ca_of (Nat.le_of_ble_eq_true rfl) ?_
              refine q_Ru_seg (g2 := (4, [(0, .ref 64)], [.long y], (q_cM (q_mA pix smp tr (q_nb p 0 dn ins) (q_fb z)) q_IM (q_mJ y pd), 34, 31630))) 2 (fun _ _ => rfl) ?_
              refine q_Ru_seg (g2 := (13, [(0, .ref 64)], [.int (((y / 24) - (y / 24) / 40 * 40).toInt32)], (q_cM (q_mA pix smp tr (q_nb p 0 dn ins) (q_fb z)) q_IM (q_mJ y pd), 34, 31630))) 5 (fun _ _ => rfl) ?_
              rw [hM]
              exact q_Ru_ret rfl rfl
            show q_Ru _ _ _ (4, [(0, .ref 64)], [.int lin], (q_cM (q_mA pix smp tr (q_nb p 0 dn ins) (q_fb z)) q_IM (q_mJ y pd), 34, 31630)) _
            refine q_Ru_seg (g2 := (6, [(0, .ref 64)], [.int (lin - 4)], (q_cM (q_mA pix smp tr (q_nb p 0 dn ins) (q_fb z)) q_IM (q_mJ y pd), 34, 31630))) 2 (fun _ _ => rfl) ?_
            exact q_Ru_ret rfl rfl
          show q_Ru _ _ _ (48, [(2, .int 0), (1, .int col), (0, .ref 64)], [.int (lin - 4)], (q_cM (q_mA pix smp tr (q_nb p 0 dn ins) (q_fb z)) q_IM (q_mJ y pd), 34, 31630)) _
          refine q_Ru_seg (g2 := (53, [(3, .int (lin - 4)), (2, .int 0), (1, .int col), (0, .ref 64)], [.int 31, .int 0, .int (lin - 4)], (q_cM (q_mA pix smp tr (q_nb p 0 dn ins) (q_fb z)) q_IM (q_mJ y pd), 34, 31630))) 4 (fun _ _ => rfl) ?_
          refine q_Ru_call (v := (some (.int 0))) (h2 := (q_cM (q_mA pix smp tr (q_nb p 0 dn ins) (q_fb z)) q_IM (q_mJ y pd), 34, 31630)) rfl rfl ?_ ?_
          · refine q_Ca_of (Nat.le_of_ble_eq_true rfl) ?_
            refine q_Ru_seg (g2 := (2, [(0, .int (lin - 4)), (1, .int 0), (2, .int 31)], [.int 0, .int (lin - 4)], (q_cM (q_mA pix smp tr (q_nb p 0 dn ins) (q_fb z)) q_IM (q_mJ y pd), 34, 31630))) 2 (fun _ _ => rfl) ?_
            refine q_Ru_rsT (g2 := (14, [(0, .int (lin - 4)), (1, .int 0), (2, .int 31)], [], (q_cM (q_mA pix smp tr (q_nb p 0 dn ins) (q_fb z)) q_IM (q_mJ y pd), 34, 31630))) rfl rfl h201 ?_
            refine q_Ru_seg (g2 := (15, [(0, .int (lin - 4)), (1, .int 0), (2, .int 31)], [.int 0], (q_cM (q_mA pix smp tr (q_nb p 0 dn ins) (q_fb z)) q_IM (q_mJ y pd), 34, 31630))) 1 (fun _ _ => rfl) ?_
            exact q_Ru_ret rfl rfl
          show q_Ru _ _ _ (56, [(3, .int (lin - 4)), (2, .int 0), (1, .int col), (0, .ref 64)], [.int 0], (q_cM (q_mA pix smp tr (q_nb p 0 dn ins) (q_fb z)) q_IM (q_mJ y pd), 34, 31630)) _
          refine q_Ru_seg (g2 := (92, [(3, .int (lin - 4)), (2, .int 0), (1, .int col), (0, .ref 64)], [.ref 64], (q_cM (q_mA pix smp tr (q_nb p 0 dn ins) (q_fb z)) q_IM (q_mJ y pd), 34, 31630))) 2 (fun _ _ => rfl) ?_
          refine q_Ru_call (v := none) (h2 := (q_cM (q_mA pix smp tr (q_nb p 0 dn ins) (q_fb z)) q_IM (q_mJ y pd), 34, 31630)) rfl rfl ?_ ?_
          · exact (q_m_times pix smp tr p 0 dn ins z y pd col lin p1 p2 hC hM c0 c1 l0 l1 a0 a1 b0 b1 hp0 hp1 hp2 i0 i1  ).le (Nat.le_of_ble_eq_true rfl)
          show q_Ru _ _ _ (95, [(3, .int (lin - 4)), (2, .int 0), (1, .int col), (0, .ref 64)], [], (q_cM (q_mA pix smp tr (q_nb p 0 dn ins) (q_fb z)) q_IM (q_mJ y pd), 34, 31630)) _
          refine q_Ru_seg (g2 := (96, [(3, .int (lin - 4)), (2, .int 0), (1, .int col), (0, .ref 64)], [.ref 64], (q_cM (q_mA pix smp tr (q_nb p 0 dn ins) (q_fb z)) q_IM (q_mJ y pd), 34, 31630))) 1 (fun _ _ => rfl) ?_
          refine q_Ru_call (v := none) (h2 := (q_cM (q_mA pix smp tr (q_nb p 0 dn ins) (q_fb z)) q_IM (q_mJ y pd), 34, 31630)) rfl rfl ?_ ?_
          · exact (q_m_winds pix smp tr p 0 dn ins z y pd col lin p1 p2 hC hM c0 c1 l0 l1 a0 a1 b0 b1 hp0 hp1 hp2 i0 i1  ).le (Nat.le_of_ble_eq_true rfl)
          show q_Ru _ _ _ (99, [(3, .int (lin - 4)), (2, .int 0), (1, .int col), (0, .ref 64)], [], (q_cM (q_mA pix smp tr (q_nb p 0 dn ins) (q_fb z)) q_IM (q_mJ y pd), 34, 31630)) _
          refine q_Ru_seg (g2 := (102, [(3, .int (lin - 4)), (2, .int 0), (1, .int col), (0, .ref 64)], [.int 23, .int col], (q_cM (q_mA pix smp tr (q_nb p 0 dn ins) (q_fb z)) q_IM (q_mJ y pd), 34, 31630))) 2 (fun _ _ => rfl) ?_
          refine q_Ru_rsT (g2 := (109, [(3, .int (lin - 4)), (2, .int 0), (1, .int col), (0, .ref 64)], [], (q_cM (q_mA pix smp tr (q_nb p 0 dn ins) (q_fb z)) q_IM (q_mJ y pd), 34, 31630))) rfl rfl (q_d_neF h202) ?_
          refine q_Ru_seg (g2 := (114, [(3, .int (lin - 4)), (2, .int 0), (1, .int col), (0, .ref 64)], [.ref 64], (q_cM (q_mA pix smp tr (q_nb p 0 dn ins) (q_fb z)) q_IM (q_mJ y pd), 34, 31630))) 3 (fun _ _ => rfl) ?_
          refine q_Ru_call (v := none) (h2 := (q_cM (q_mA pix smp tr (q_nb p 1 dn ins) (q_fb z)) q_IM (q_mJ y pd), 34, 31630)) rfl rfl ?_ ?_
          · exact (q_m_go0 pix smp tr p dn ins z y pd col lin p1 p2 hC hM c0 c1 l0 l1 a0 a1 b0 b1 hp0 hp1 hp2 i0 i1  ).le (Nat.le_of_ble_eq_true rfl)
          show q_Ru _ _ _ (117, [(3, .int (lin - 4)), (2, .int 0), (1, .int col), (0, .ref 64)], [], (q_cM (q_mA pix smp tr (q_nb p 1 dn ins) (q_fb z)) q_IM (q_mJ y pd), 34, 31630)) _
          refine q_Ru_seg (g2 := (122, [(3, .int (lin - 4)), (2, .int 0), (1, .int col), (0, .ref 64)], [.long pd, .ref 64], (q_cM (q_mA pix smp tr (q_nb p 1 dn ins) (q_fb z)) q_IM (q_mJ y pd), 34, 31630))) 3 (fun _ _ => rfl) ?_
          refine q_Ru_seg (g2 := (140, [(3, .int (lin - 4)), (2, .int 0), (1, .int col), (0, .ref 64)], [.long y, .ref 64], (q_cM (q_mA pix smp tr (q_nb p 1 dn ins) (q_fb z)) q_IM (q_uI (q_mJ y pd) 0 16 (pd + 0)), 34, 31630))) 8 (fun _ _ => rfl) ?_
          refine q_Ru_seg (g2 := (146, [(3, .int (lin - 4)), (2, .int 0), (1, .int col), (0, .ref 64)], [.int 0], (q_cM (q_mA pix smp tr (q_nb p 1 dn ins) (q_fb z)) q_IM (q_uI (q_uI (q_mJ y pd) 0 16 (pd + 0)) 0 15 (y + 1)), 34, 31630))) 4 (fun _ _ => rfl) ?_
          exact q_Ru_ret rfl rfl
      | false =>
        cases h203 : decide (31 < lin - 4) with
        | true =>
          cases h204 : decide (col = 23) with
          | true =>
            have eh204 := of_decide_eq_true h204
            subst eh204
            obtain ⟨z154a, p154⟩ := q_m_sample pix smp tr p 0 dn ins z y pd col lin p1 p2 hC hM c0 c1 l0 l1 a0 a1 b0 b1 hp0 hp1 hp2 i0 i1  
            refine ⟨pix, z154a, ?_⟩
            refine q_Ca_of (Nat.le_of_ble_eq_true rfl) ?_
            refine q_Ru_seg (g2 := (4, [(0, .ref 64)], [.long y], (q_cM (q_mA pix smp tr (q_nb p 0 dn ins) (q_fb z)) q_IM (q_mJ y pd), 34, 31630))) 2 (fun _ _ => rfl) ?_
            refine q_Ru_seg (g2 := (9, [(0, .ref 64)], [.int ((y - y / 24 * 24).toInt32)], (q_cM (q_mA pix smp tr (q_nb p 0 dn ins) (q_fb z)) q_IM (q_mJ y pd), 34, 31630))) 3 (fun _ _ => rfl) ?_
            rw [hC]
            refine q_Ru_seg (g2 := (11, [(1, .int col), (0, .ref 64)], [.int col], (q_cM (q_mA pix smp tr (q_nb p 0 dn ins) (q_fb z)) q_IM (q_mJ y pd), 34, 31630))) 2 (fun _ _ => rfl) ?_
            refine q_Ru_rsF (g2 := (14, [(1, .int col), (0, .ref 64)], [], (q_cM (q_mA pix smp tr (q_nb p 0 dn ins) (q_fb z)) q_IM (q_mJ y pd), 34, 31630))) rfl rfl (q_d_neT h199) ?_
            refine q_Ru_seg (g2 := (15, [(1, .int col), (0, .ref 64)], [.ref 64], (q_cM (q_mA pix smp tr (q_nb p 0 dn ins) (q_fb z)) q_IM (q_mJ y pd), 34, 31630))) 1 (fun _ _ => rfl) ?_
            refine q_Ru_call (v := (some (.int lin))) (h2 := (q_cM (q_mA pix smp tr (q_nb p 0 dn ins) (q_fb z)) q_IM (q_mJ y pd), 34, 31630)) rfl rfl ?_ ?_
            · refine q_Ca_of (Nat.le_of_ble_eq_true rfl) ?_
              refine q_Ru_seg (g2 := (4, [(0, .ref 64)], [.long y], (q_cM (q_mA pix smp tr (q_nb p 0 dn ins) (q_fb z)) q_IM (q_mJ y pd), 34, 31630))) 2 (fun _ _ => rfl) ?_
              refine q_Ru_seg (g2 := (13, [(0, .ref 64)], [.int (((y / 24) - (y / 24) / 40 * 40).toInt32)], (q_cM (q_mA pix smp tr (q_nb p 0 dn ins) (q_fb z)) q_IM (q_mJ y pd), 34, 31630))) 5 (fun _ _ => rfl) ?_
              rw [hM]
              exact q_Ru_ret rfl rfl
            show q_Ru _ _ _ (18, [(1, .int col), (0, .ref 64)], [.int lin], (q_cM (q_mA pix smp tr (q_nb p 0 dn ins) (q_fb z)) q_IM (q_mJ y pd), 34, 31630)) _
            refine q_Ru_seg (g2 := (25, [(1, .int col), (0, .ref 64)], [.int 0, .int lin], (q_cM (q_mA pix smp tr (q_nb p 0 dn ins) (q_fb z)) q_IM (q_mJ y pd), 34, 31630))) 4 (fun _ _ => rfl) ?_
            refine q_Ru_rsF (g2 := (28, [(1, .int col), (0, .ref 64)], [], (q_cM (q_mA pix smp tr (q_nb p 0 dn ins) (q_fb z)) q_IM (q_mJ y pd), 34, 31630))) rfl rfl (q_d_neT h200) ?_
            refine q_Ru_seg (g2 := (36, [(1, .int col), (0, .ref 64)], [.int 1, .int 9, .ref 78], (q_cM (q_mA pix smp tr (q_nb p 0 dn ins) (q_fb z)) q_IM (q_mJ y pd), 34, 31630))) 5 (fun _ _ => rfl) ?_
            refine q_Ru_seg (g2 := (40, [(1, .int col), (0, .ref 64)], [.ref 64], (q_cM (q_uA (q_mA pix smp tr (q_nb p 0 dn ins) (q_fb z)) 14 (upd (q_nb p 0 dn ins) 9 1)) q_IM (q_mJ y pd), 34, 31630))) 4 (fun _ _ => rfl) ?_
            have hA : ∀ i, i < 34 → (q_uA (q_mA pix smp tr (q_nb p 0 dn ins) (q_fb z)) 14 (upd (q_nb p 0 dn ins) 9 1)) i = (q_mA pix smp tr (q_nb p 0 dn ins) (q_fb z)) i := by
              intro i hi
              match i, hi with
              | 0, _ => rfl
              | 1, _ => rfl
              | 2, _ => rfl
              | 3, _ => rfl
              | 4, _ => rfl
              | 5, _ => rfl
              | 6, _ => rfl
              | 7, _ => rfl
              | 8, _ => rfl
              | 9, _ => rfl
              | 10, _ => rfl
              | 11, _ => rfl
              | 12, _ => rfl
              | 13, _ => rfl
              | 14, _ => exact (show (upd (q_nb p 0 dn ins) 9 1) = (q_nb p 0 dn ins) by simp only [q_upd_upd, q_upd_z, q_nb_4, q_nb_17, q_nb_19, q_nb_20, q_nb_0, q_nb_9, q_nb_18, q_fb_4, q_fb_0])
              | 15, _ => rfl
              | 16, _ => rfl
              | 17, _ => rfl
              | 18, _ => rfl
              | 19, _ => rfl
              | 20, _ => rfl
              | 21, _ => rfl
              | 22, _ => rfl
              | 23, _ => rfl
              | 24, _ => rfl
              | 25, _ => rfl
              | 26, _ => rfl
              | 27, _ => rfl
              | 28, _ => rfl
              | 29, _ => rfl
              | 30, _ => rfl
              | 31, _ => rfl
              | 32, _ => rfl
              | 33, _ => rfl
              | i + 34, hi => exact absurd hi (by omega)
            rw [q_cM_A (I := q_IM) (J := (q_mJ y pd)) hA]
            refine q_Ru_call (v := (some (.int 0))) (h2 := (q_cM (q_mA pix smp tr (q_nb p 0 dn ins) (q_fb z)) q_IM (q_mJ y pd), 34, 31630)) rfl rfl ?_ ?_
            · exact (by have e := q_m_picX pix smp tr p 0 dn ins z y pd col lin p1 p2 hC hM c0 c1 l0 l1 a0 a1 b0 b1 hp0 hp1 hp2 i0 i1; rw [hpic] at e; exact e.le (Nat.le_of_ble_eq_true rfl))
            show q_Ru _ _ _ (43, [(1, .int col), (0, .ref 64)], [.int 0], (q_cM (q_mA pix smp tr (q_nb p 0 dn ins) (q_fb z)) q_IM (q_mJ y pd), 34, 31630)) _
            refine q_Ru_seg (g2 := (45, [(2, .int 0), (1, .int col), (0, .ref 64)], [.ref 64], (q_cM (q_mA pix smp tr (q_nb p 0 dn ins) (q_fb z)) q_IM (q_mJ y pd), 34, 31630))) 2 (fun _ _ => rfl) ?_
            refine q_Ru_call (v := (some (.int (lin - 4)))) (h2 := (q_cM (q_mA pix smp tr (q_nb p 0 dn ins) (q_fb z)) q_IM (q_mJ y pd), 34, 31630)) rfl rfl ?_ ?_
            · refine q_Ca_of (Nat.le_of_ble_eq_true rfl) ?_
              refine q_Ru_seg (g2 := (1, [(0, .ref 64)], [.ref 64], (q_cM (q_mA pix smp tr (q_nb p 0 dn ins) (q_fb z)) q_IM (q_mJ y pd), 34, 31630))) 1 (fun _ _ => rfl) ?_
              refine q_Ru_call (v := (some (.int lin))) (h2 := (q_cM (q_mA pix smp tr (q_nb p 0 dn ins) (q_fb z)) q_IM (q_mJ y pd), 34, 31630)) rfl rfl ?_ ?_
              · refine q_Ca_of (Nat.le_of_ble_eq_true rfl) ?_
                refine q_Ru_seg (g2 := (4, [(0, .ref 64)], [.long y], (q_cM (q_mA pix smp tr (q_nb p 0 dn ins) (q_fb z)) q_IM (q_mJ y pd), 34, 31630))) 2 (fun _ _ => rfl) ?_
                refine q_Ru_seg (g2 := (13, [(0, .ref 64)], [.int (((y / 24) - (y / 24) / 40 * 40).toInt32)], (q_cM (q_mA pix smp tr (q_nb p 0 dn ins) (q_fb z)) q_IM (q_mJ y pd), 34, 31630))) 5 (fun _ _ => rfl) ?_
                rw [hM]
                exact q_Ru_ret rfl rfl
              show q_Ru _ _ _ (4, [(0, .ref 64)], [.int lin], (q_cM (q_mA pix smp tr (q_nb p 0 dn ins) (q_fb z)) q_IM (q_mJ y pd), 34, 31630)) _
              refine q_Ru_seg (g2 := (6, [(0, .ref 64)], [.int (lin - 4)], (q_cM (q_mA pix smp tr (q_nb p 0 dn ins) (q_fb z)) q_IM (q_mJ y pd), 34, 31630))) 2 (fun _ _ => rfl) ?_
              exact q_Ru_ret rfl rfl
            show q_Ru _ _ _ (48, [(2, .int 0), (1, .int col), (0, .ref 64)], [.int (lin - 4)], (q_cM (q_mA pix smp tr (q_nb p 0 dn ins) (q_fb z)) q_IM (q_mJ y pd), 34, 31630)) _
            refine q_Ru_seg (g2 := (53, [(3, .int (lin - 4)), (2, .int 0), (1, .int col), (0, .ref 64)], [.int 31, .int 0, .int (lin - 4)], (q_cM (q_mA pix smp tr (q_nb p 0 dn ins) (q_fb z)) q_IM (q_mJ y pd), 34, 31630))) 4 (fun _ _ => rfl) ?_
            refine q_Ru_call (v := (some (.int 0))) (h2 := (q_cM (q_mA pix smp tr (q_nb p 0 dn ins) (q_fb z)) q_IM (q_mJ y pd), 34, 31630)) rfl rfl ?_ ?_
            · refine q_Ca_of (Nat.le_of_ble_eq_true rfl) ?_
              refine q_Ru_seg (g2 := (2, [(0, .int (lin - 4)), (1, .int 0), (2, .int 31)], [.int 0, .int (lin - 4)], (q_cM (q_mA pix smp tr (q_nb p 0 dn ins) (q_fb z)) q_IM (q_mJ y pd), 34, 31630))) 2 (fun _ _ => rfl) ?_
              refine q_Ru_rsF (g2 := (5, [(0, .int (lin - 4)), (1, .int 0), (2, .int 31)], [], (q_cM (q_mA pix smp tr (q_nb p 0 dn ins) (q_fb z)) q_IM (q_mJ y pd), 34, 31630))) rfl rfl h201 ?_
              refine q_Ru_seg (g2 := (7, [(0, .int (lin - 4)), (1, .int 0), (2, .int 31)], [.int 31, .int (lin - 4)], (q_cM (q_mA pix smp tr (q_nb p 0 dn ins) (q_fb z)) q_IM (q_mJ y pd), 34, 31630))) 2 (fun _ _ => rfl) ?_
              refine q_Ru_rsT (g2 := (14, [(0, .int (lin - 4)), (1, .int 0), (2, .int 31)], [], (q_cM (q_mA pix smp tr (q_nb p 0 dn ins) (q_fb z)) q_IM (q_mJ y pd), 34, 31630))) rfl rfl h203 ?_
              refine q_Ru_seg (g2 := (15, [(0, .int (lin - 4)), (1, .int 0), (2, .int 31)], [.int 0], (q_cM (q_mA pix smp tr (q_nb p 0 dn ins) (q_fb z)) q_IM (q_mJ y pd), 34, 31630))) 1 (fun _ _ => rfl) ?_
              exact q_Ru_ret rfl rfl
            show q_Ru _ _ _ (56, [(3, .int (lin - 4)), (2, .int 0), (1, .int col), (0, .ref 64)], [.int 0], (q_cM (q_mA pix smp tr (q_nb p 0 dn ins) (q_fb z)) q_IM (q_mJ y pd), 34, 31630)) _
            refine q_Ru_seg (g2 := (92, [(3, .int (lin - 4)), (2, .int 0), (1, .int col), (0, .ref 64)], [.ref 64], (q_cM (q_mA pix smp tr (q_nb p 0 dn ins) (q_fb z)) q_IM (q_mJ y pd), 34, 31630))) 2 (fun _ _ => rfl) ?_
            refine q_Ru_call (v := none) (h2 := (q_cM (q_mA pix smp tr (q_nb p 0 dn ins) (q_fb z)) q_IM (q_mJ y pd), 34, 31630)) rfl rfl ?_ ?_
            · exact (q_m_times pix smp tr p 0 dn ins z y pd col lin p1 p2 hC hM c0 c1 l0 l1 a0 a1 b0 b1 hp0 hp1 hp2 i0 i1  ).le (Nat.le_of_ble_eq_true rfl)
            show q_Ru _ _ _ (95, [(3, .int (lin - 4)), (2, .int 0), (1, .int col), (0, .ref 64)], [], (q_cM (q_mA pix smp tr (q_nb p 0 dn ins) (q_fb z)) q_IM (q_mJ y pd), 34, 31630)) _
            refine q_Ru_seg (g2 := (96, [(3, .int (lin - 4)), (2, .int 0), (1, .int col), (0, .ref 64)], [.ref 64], (q_cM (q_mA pix smp tr (q_nb p 0 dn ins) (q_fb z)) q_IM (q_mJ y pd), 34, 31630))) 1 (fun _ _ => rfl) ?_
            refine q_Ru_call (v := none) (h2 := (q_cM (q_mA pix smp tr (q_nb p 0 dn ins) (q_fb z)) q_IM (q_mJ y pd), 34, 31630)) rfl rfl ?_ ?_
            · exact (q_m_winds pix smp tr p 0 dn ins z y pd col lin p1 p2 hC hM c0 c1 l0 l1 a0 a1 b0 b1 hp0 hp1 hp2 i0 i1  ).le (Nat.le_of_ble_eq_true rfl)
            show q_Ru _ _ _ (99, [(3, .int (lin - 4)), (2, .int 0), (1, .int col), (0, .ref 64)], [], (q_cM (q_mA pix smp tr (q_nb p 0 dn ins) (q_fb z)) q_IM (q_mJ y pd), 34, 31630)) _
            refine q_Ru_seg (g2 := (102, [(3, .int (lin - 4)), (2, .int 0), (1, .int col), (0, .ref 64)], [.int 23, .int col], (q_cM (q_mA pix smp tr (q_nb p 0 dn ins) (q_fb z)) q_IM (q_mJ y pd), 34, 31630))) 2 (fun _ _ => rfl) ?_
            refine q_Ru_rsF (g2 := (105, [(3, .int (lin - 4)), (2, .int 0), (1, .int col), (0, .ref 64)], [], (q_cM (q_mA pix smp tr (q_nb p 0 dn ins) (q_fb z)) q_IM (q_mJ y pd), 34, 31630))) rfl rfl (q_d_neT h204) ?_
            refine q_Ru_seg (g2 := (106, [(3, .int (lin - 4)), (2, .int 0), (1, .int col), (0, .ref 64)], [.ref 64], (q_cM (q_mA pix smp tr (q_nb p 0 dn ins) (q_fb z)) q_IM (q_mJ y pd), 34, 31630))) 1 (fun _ _ => rfl) ?_
            refine q_Ru_call (v := none) (h2 := (q_cM (q_mA pix z154a tr (q_nb p 0 dn ins) (q_fb z)) q_IM (q_mJ y pd), 34, 31630)) rfl rfl ?_ ?_
            · exact p154.le (Nat.le_of_ble_eq_true rfl)
            show q_Ru _ _ _ (109, [(3, .int (lin - 4)), (2, .int 0), (1, .int col), (0, .ref 64)], [], (q_cM (q_mA pix z154a tr (q_nb p 0 dn ins) (q_fb z)) q_IM (q_mJ y pd), 34, 31630)) _
            refine q_Ru_seg (g2 := (114, [(3, .int (lin - 4)), (2, .int 0), (1, .int col), (0, .ref 64)], [.ref 64], (q_cM (q_mA pix z154a tr (q_nb p 0 dn ins) (q_fb z)) q_IM (q_mJ y pd), 34, 31630))) 3 (fun _ _ => rfl) ?_
            refine q_Ru_call (v := none) (h2 := (q_cM (q_mA pix z154a tr (q_nb p 1 dn ins) (q_fb z)) q_IM (q_mJ y pd), 34, 31630)) rfl rfl ?_ ?_
            · exact (q_m_go0 pix z154a tr p dn ins z y pd col lin p1 p2 hC hM c0 c1 l0 l1 a0 a1 b0 b1 hp0 hp1 hp2 i0 i1  ).le (Nat.le_of_ble_eq_true rfl)
            show q_Ru _ _ _ (117, [(3, .int (lin - 4)), (2, .int 0), (1, .int col), (0, .ref 64)], [], (q_cM (q_mA pix z154a tr (q_nb p 1 dn ins) (q_fb z)) q_IM (q_mJ y pd), 34, 31630)) _
            refine q_Ru_seg (g2 := (122, [(3, .int (lin - 4)), (2, .int 0), (1, .int col), (0, .ref 64)], [.long pd, .ref 64], (q_cM (q_mA pix z154a tr (q_nb p 1 dn ins) (q_fb z)) q_IM (q_mJ y pd), 34, 31630))) 3 (fun _ _ => rfl) ?_
            refine q_Ru_seg (g2 := (140, [(3, .int (lin - 4)), (2, .int 0), (1, .int col), (0, .ref 64)], [.long y, .ref 64], (q_cM (q_mA pix z154a tr (q_nb p 1 dn ins) (q_fb z)) q_IM (q_uI (q_mJ y pd) 0 16 (pd + 0)), 34, 31630))) 8 (fun _ _ => rfl) ?_
            refine q_Ru_seg (g2 := (146, [(3, .int (lin - 4)), (2, .int 0), (1, .int col), (0, .ref 64)], [.int 0], (q_cM (q_mA pix z154a tr (q_nb p 1 dn ins) (q_fb z)) q_IM (q_uI (q_uI (q_mJ y pd) 0 16 (pd + 0)) 0 15 (y + 1)), 34, 31630))) 4 (fun _ _ => rfl) ?_
            exact q_Ru_ret rfl rfl
          | false =>
            refine ⟨pix, smp, ?_⟩
            refine q_Ca_of (Nat.le_of_ble_eq_true rfl) ?_
            refine q_Ru_seg (g2 := (4, [(0, .ref 64)], [.long y], (q_cM (q_mA pix smp tr (q_nb p 0 dn ins) (q_fb z)) q_IM (q_mJ y pd), 34, 31630))) 2 (fun _ _ => rfl) ?_
            refine q_Ru_seg (g2 := (9, [(0, .ref 64)], [.int ((y - y / 24 * 24).toInt32)], (q_cM (q_mA pix smp tr (q_nb p 0 dn ins) (q_fb z)) q_IM (q_mJ y pd), 34, 31630))) 3 (fun _ _ => rfl) ?_
            rw [hC]
            refine q_Ru_seg (g2 := (11, [(1, .int col), (0, .ref 64)], [.int col], (q_cM (q_mA pix smp tr (q_nb p 0 dn ins) (q_fb z)) q_IM (q_mJ y pd), 34, 31630))) 2 (fun _ _ => rfl) ?_
            refine q_Ru_rsF (g2 := (14, [(1, .int col), (0, .ref 64)], [], (q_cM (q_mA pix smp tr (q_nb p 0 dn ins) (q_fb z)) q_IM (q_mJ y pd), 34, 31630))) rfl rfl (q_d_neT h199) ?_
            refine q_Ru_seg (g2 := (15, [(1, .int col), (0, .ref 64)], [.ref 64], (q_cM (q_mA pix smp tr (q_nb p 0 dn ins) (q_fb z)) q_IM (q_mJ y pd), 34, 31630))) 1 (fun _ _ => rfl) ?_
            refine q_Ru_call (v := (some (.int lin))) (h2 := (q_cM (q_mA pix smp tr (q_nb p 0 dn ins) (q_fb z)) q_IM (q_mJ y pd), 34, 31630)) rfl rfl ?_ ?_
            · refine q_Ca_of (Nat.le_of_ble_eq_true rfl) ?_
              refine q_Ru_seg (g2 := (4, [(0, .ref 64)], [.long y], (q_cM (q_mA pix smp tr (q_nb p 0 dn ins) (q_fb z)) q_IM (q_mJ y pd), 34, 31630))) 2 (fun _ _ => rfl) ?_
              refine q_Ru_seg (g2 := (13, [(0, .ref 64)], [.int (((y / 24) - (y / 24) / 40 * 40).toInt32)], (q_cM (q_mA pix smp tr (q_nb p 0 dn ins) (q_fb z)) q_IM (q_mJ y pd), 34, 31630))) 5 (fun _ _ => rfl) ?_
              rw [hM]
              exact q_Ru_ret rfl rfl
            show q_Ru _ _ _ (18, [(1, .int col), (0, .ref 64)], [.int lin], (q_cM (q_mA pix smp tr (q_nb p 0 dn ins) (q_fb z)) q_IM (q_mJ y pd), 34, 31630)) _
            refine q_Ru_seg (g2 := (25, [(1, .int col), (0, .ref 64)], [.int 0, .int lin], (q_cM (q_mA pix smp tr (q_nb p 0 dn ins) (q_fb z)) q_IM (q_mJ y pd), 34, 31630))) 4 (fun _ _ => rfl) ?_
            refine q_Ru_rsF (g2 := (28, [(1, .int col), (0, .ref 64)], [], (q_cM (q_mA pix smp tr (q_nb p 0 dn ins) (q_fb z)) q_IM (q_mJ y pd), 34, 31630))) rfl rfl (q_d_neT h200) ?_
            refine q_Ru_seg (g2 := (36, [(1, .int col), (0, .ref 64)], [.int 1, .int 9, .ref 78], (q_cM (q_mA pix smp tr (q_nb p 0 dn ins) (q_fb z)) q_IM (q_mJ y pd), 34, 31630))) 5 (fun _ _ => rfl) ?_
            refine q_Ru_seg (g2 := (40, [(1, .int col), (0, .ref 64)], [.ref 64], (q_cM (q_uA (q_mA pix smp tr (q_nb p 0 dn ins) (q_fb z)) 14 (upd (q_nb p 0 dn ins) 9 1)) q_IM (q_mJ y pd), 34, 31630))) 4 (fun _ _ => rfl) ?_
            have hA : ∀ i, i < 34 → (q_uA (q_mA pix smp tr (q_nb p 0 dn ins) (q_fb z)) 14 (upd (q_nb p 0 dn ins) 9 1)) i = (q_mA pix smp tr (q_nb p 0 dn ins) (q_fb z)) i := by
              intro i hi
              match i, hi with
              | 0, _ => rfl
              | 1, _ => rfl
              | 2, _ => rfl
              | 3, _ => rfl
              | 4, _ => rfl
              | 5, _ => rfl
              | 6, _ => rfl
              | 7, _ => rfl
              | 8, _ => rfl
              | 9, _ => rfl
              | 10, _ => rfl
              | 11, _ => rfl
              | 12, _ => rfl
              | 13, _ => rfl
              | 14, _ => exact (show (upd (q_nb p 0 dn ins) 9 1) = (q_nb p 0 dn ins) by simp only [q_upd_upd, q_upd_z, q_nb_4, q_nb_17, q_nb_19, q_nb_20, q_nb_0, q_nb_9, q_nb_18, q_fb_4, q_fb_0])
              | 15, _ => rfl
              | 16, _ => rfl
              | 17, _ => rfl
              | 18, _ => rfl
              | 19, _ => rfl
              | 20, _ => rfl
              | 21, _ => rfl
              | 22, _ => rfl
              | 23, _ => rfl
              | 24, _ => rfl
              | 25, _ => rfl
              | 26, _ => rfl
              | 27, _ => rfl
              | 28, _ => rfl
              | 29, _ => rfl
              | 30, _ => rfl
              | 31, _ => rfl
              | 32, _ => rfl
              | 33, _ => rfl
              | i + 34, hi => exact absurd hi (by omega)
            rw [q_cM_A (I := q_IM) (J := (q_mJ y pd)) hA]
            refine q_Ru_call (v := (some (.int 0))) (h2 := (q_cM (q_mA pix smp tr (q_nb p 0 dn ins) (q_fb z)) q_IM (q_mJ y pd), 34, 31630)) rfl rfl ?_ ?_
            · exact (by have e := q_m_picX pix smp tr p 0 dn ins z y pd col lin p1 p2 hC hM c0 c1 l0 l1 a0 a1 b0 b1 hp0 hp1 hp2 i0 i1; rw [hpic] at e; exact e.le (Nat.le_of_ble_eq_true rfl))
            show q_Ru _ _ _ (43, [(1, .int col), (0, .ref 64)], [.int 0], (q_cM (q_mA pix smp tr (q_nb p 0 dn ins) (q_fb z)) q_IM (q_mJ y pd), 34, 31630)) _
            refine q_Ru_seg (g2 := (45, [(2, .int 0), (1, .int col), (0, .ref 64)], [.ref 64], (q_cM (q_mA pix smp tr (q_nb p 0 dn ins) (q_fb z)) q_IM (q_mJ y pd), 34, 31630))) 2 (fun _ _ => rfl) ?_
            refine q_Ru_call (v := (some (.int (lin - 4)))) (h2 := (q_cM (q_mA pix smp tr (q_nb p 0 dn ins) (q_fb z)) q_IM (q_mJ y pd), 34, 31630)) rfl rfl ?_ ?_
            · refine q_Ca_of (Nat.le_of_ble_eq_true rfl) ?_
              refine q_Ru_seg (g2 := (1, [(0, .ref 64)], [.ref 64], (q_cM (q_mA pix smp tr (q_nb p 0 dn ins) (q_fb z)) q_IM (q_mJ y pd), 34, 31630))) 1 (fun _ _ => rfl) ?_
              refine q_Ru_call (v := (some (.int lin))) (h2 := (q_cM (q_mA pix smp tr (q_nb p 0 dn ins) (q_fb z)) q_IM (q_mJ y pd), 34, 31630)) rfl rfl ?_ ?_
              · refine q_Ca_of (Nat.le_of_ble_eq_true rfl) ?_
                refine q_Ru_seg (g2 := (4, [(0, .ref 64)], [.long y], (q_cM (q_mA pix smp tr (q_nb p 0 dn ins) (q_fb z)) q_IM (q_mJ y pd), 34, 31630))) 2 (fun _ _ => rfl) ?_
                refine q_Ru_seg (g2 := (13, [(0, .ref 64)], [.int (((y / 24) - (y / 24) / 40 * 40).toInt32)], (q_cM (q_mA pix smp tr (q_nb p 0 dn ins) (q_fb z)) q_IM (q_mJ y pd), 34, 31630))) 5 (fun _ _ => rfl) ?_
                rw [hM]
                exact q_Ru_ret rfl rfl
              show q_Ru _ _ _ (4, [(0, .ref 64)], [.int lin], (q_cM (q_mA pix smp tr (q_nb p 0 dn ins) (q_fb z)) q_IM (q_mJ y pd), 34, 31630)) _
              refine q_Ru_seg (g2 := (6, [(0, .ref 64)], [.int (lin - 4)], (q_cM (q_mA pix smp tr (q_nb p 0 dn ins) (q_fb z)) q_IM (q_mJ y pd), 34, 31630))) 2 (fun _ _ => rfl) ?_
              exact q_Ru_ret rfl rfl
            show q_Ru _ _ _ (48, [(2, .int 0), (1, .int col), (0, .ref 64)], [.int (lin - 4)], (q_cM (q_mA pix smp tr (q_nb p 0 dn ins) (q_fb z)) q_IM (q_mJ y pd), 34, 31630)) _
            refine q_Ru_seg (g2 := (53, [(3, .int (lin - 4)), (2, .int 0), (1, .int col), (0, .ref 64)], [.int 31, .int 0, .int (lin - 4)], (q_cM (q_mA pix smp tr (q_nb p 0 dn ins) (q_fb z)) q_IM (q_mJ y pd), 34, 31630))) 4 (fun _ _ => rfl) ?_
            refine q_Ru_call (v := (some (.int 0))) (h2 := (q_cM (q_mA pix smp tr (q_nb p 0 dn ins) (q_fb z)) q_IM (q_mJ y pd), 34, 31630)) rfl rfl ?_ ?_
            · refine q_Ca_of (Nat.le_of_ble_eq_true rfl) ?_
              refine q_Ru_seg (g2 := (2, [(0, .int (lin - 4)), (1, .int 0), (2, .int 31)], [.int 0, .int (lin - 4)], (q_cM (q_mA pix smp tr (q_nb p 0 dn ins) (q_fb z)) q_IM (q_mJ y pd), 34, 31630))) 2 (fun _ _ => rfl) ?_
              refine q_Ru_rsF (g2 := (5, [(0, .int (lin - 4)), (1, .int 0), (2, .int 31)], [], (q_cM (q_mA pix smp tr (q_nb p 0 dn ins) (q_fb z)) q_IM (q_mJ y pd), 34, 31630))) rfl rfl h201 ?_
              refine q_Ru_seg (g2 := (7, [(0, .int (lin - 4)), (1, .int 0), (2, .int 31)], [.int 31, .int (lin - 4)], (q_cM (q_mA pix smp tr (q_nb p 0 dn ins) (q_fb z)) q_IM (q_mJ y pd), 34, 31630))) 2 (fun _ _ => rfl) ?_
              refine q_Ru_rsT (g2 := (14, [(0, .int (lin - 4)), (1, .int 0), (2, .int 31)], [], (q_cM (q_mA pix smp tr (q_nb p 0 dn ins) (q_fb z)) q_IM (q_mJ y pd), 34, 31630))) rfl rfl h203 ?_
              refine q_Ru_seg (g2 := (15, [(0, .int (lin - 4)), (1, .int 0), (2, .int 31)], [.int 0], (q_cM (q_mA pix smp tr (q_nb p 0 dn ins) (q_fb z)) q_IM (q_mJ y pd), 34, 31630))) 1 (fun _ _ => rfl) ?_
              exact q_Ru_ret rfl rfl
            show q_Ru _ _ _ (56, [(3, .int (lin - 4)), (2, .int 0), (1, .int col), (0, .ref 64)], [.int 0], (q_cM (q_mA pix smp tr (q_nb p 0 dn ins) (q_fb z)) q_IM (q_mJ y pd), 34, 31630)) _
            refine q_Ru_seg (g2 := (92, [(3, .int (lin - 4)), (2, .int 0), (1, .int col), (0, .ref 64)], [.ref 64], (q_cM (q_mA pix smp tr (q_nb p 0 dn ins) (q_fb z)) q_IM (q_mJ y pd), 34, 31630))) 2 (fun _ _ => rfl) ?_
            refine q_Ru_call (v := none) (h2 := (q_cM (q_mA pix smp tr (q_nb p 0 dn ins) (q_fb z)) q_IM (q_mJ y pd), 34, 31630)) rfl rfl ?_ ?_
            · exact (q_m_times pix smp tr p 0 dn ins z y pd col lin p1 p2 hC hM c0 c1 l0 l1 a0 a1 b0 b1 hp0 hp1 hp2 i0 i1  ).le (Nat.le_of_ble_eq_true rfl)
            show q_Ru _ _ _ (95, [(3, .int (lin - 4)), (2, .int 0), (1, .int col), (0, .ref 64)], [], (q_cM (q_mA pix smp tr (q_nb p 0 dn ins) (q_fb z)) q_IM (q_mJ y pd), 34, 31630)) _
            refine q_Ru_seg (g2 := (96, [(3, .int (lin - 4)), (2, .int 0), (1, .int col), (0, .ref 64)], [.ref 64], (q_cM (q_mA pix smp tr (q_nb p 0 dn ins) (q_fb z)) q_IM (q_mJ y pd), 34, 31630))) 1 (fun _ _ => rfl) ?_
            refine q_Ru_call (v := none) (h2 := (q_cM (q_mA pix smp tr (q_nb p 0 dn ins) (q_fb z)) q_IM (q_mJ y pd), 34, 31630)) rfl rfl ?_ ?_
            · exact (q_m_winds pix smp tr p 0 dn ins z y pd col lin p1 p2 hC hM c0 c1 l0 l1 a0 a1 b0 b1 hp0 hp1 hp2 i0 i1  ).le (Nat.le_of_ble_eq_true rfl)
            show q_Ru _ _ _ (99, [(3, .int (lin - 4)), (2, .int 0), (1, .int col), (0, .ref 64)], [], (q_cM (q_mA pix smp tr (q_nb p 0 dn ins) (q_fb z)) q_IM (q_mJ y pd), 34, 31630)) _
            refine q_Ru_seg (g2 := (102, [(3, .int (lin - 4)), (2, .int 0), (1, .int col), (0, .ref 64)], [.int 23, .int col], (q_cM (q_mA pix smp tr (q_nb p 0 dn ins) (q_fb z)) q_IM (q_mJ y pd), 34, 31630))) 2 (fun _ _ => rfl) ?_
            refine q_Ru_rsT (g2 := (109, [(3, .int (lin - 4)), (2, .int 0), (1, .int col), (0, .ref 64)], [], (q_cM (q_mA pix smp tr (q_nb p 0 dn ins) (q_fb z)) q_IM (q_mJ y pd), 34, 31630))) rfl rfl (q_d_neF h204) ?_
            refine q_Ru_seg (g2 := (114, [(3, .int (lin - 4)), (2, .int 0), (1, .int col), (0, .ref 64)], [.ref 64], (q_cM (q_mA pix smp tr (q_nb p 0 dn ins) (q_fb z)) q_IM (q_mJ y pd), 34, 31630))) 3 (fun _ _ => rfl) ?_
            refine q_Ru_call (v := none) (h2 := (q_cM (q_mA pix smp tr (q_nb p 1 dn ins) (q_fb z)) q_IM (q_mJ y pd), 34, 31630)) rfl rfl ?_ ?_
            · exact (q_m_go0 pix smp tr p dn ins z y pd col lin p1 p2 hC hM c0 c1 l0 l1 a0 a1 b0 b1 hp0 hp1 hp2 i0 i1  ).le (Nat.le_of_ble_eq_true rfl)
            show q_Ru _ _ _ (117, [(3, .int (lin - 4)), (2, .int 0), (1, .int col), (0, .ref 64)], [], (q_cM (q_mA pix smp tr (q_nb p 1 dn ins) (q_fb z)) q_IM (q_mJ y pd), 34, 31630)) _
            refine q_Ru_seg (g2 := (122, [(3, .int (lin - 4)), (2, .int 0), (1, .int col), (0, .ref 64)], [.long pd, .ref 64], (q_cM (q_mA pix smp tr (q_nb p 1 dn ins) (q_fb z)) q_IM (q_mJ y pd), 34, 31630))) 3 (fun _ _ => rfl) ?_
            refine q_Ru_seg (g2 := (140, [(3, .int (lin - 4)), (2, .int 0), (1, .int col), (0, .ref 64)], [.long y, .ref 64], (q_cM (q_mA pix smp tr (q_nb p 1 dn ins) (q_fb z)) q_IM (q_uI (q_mJ y pd) 0 16 (pd + 0)), 34, 31630))) 8 (fun _ _ => rfl) ?_
            refine q_Ru_seg (g2 := (146, [(3, .int (lin - 4)), (2, .int 0), (1, .int col), (0, .ref 64)], [.int 0], (q_cM (q_mA pix smp tr (q_nb p 1 dn ins) (q_fb z)) q_IM (q_uI (q_uI (q_mJ y pd) 0 16 (pd + 0)) 0 15 (y + 1)), 34, 31630))) 4 (fun _ _ => rfl) ?_
            exact q_Ru_ret rfl rfl
        | false =>
          cases h205 : decide (col < 4) with
          | true =>
            have h206 : decide (col = 23) = false := q_not_tr (q_tbl1 (fun col => !decide (col = 23)) (l := 0) (n := 3) (by decide +kernel) c0 (q_hi1 h205))
            refine ⟨pix, smp, ?_⟩
            refine q_Ca_of (Nat.le_of_ble_eq_true rfl) ?_
            refine q_Ru_seg (g2 := (4, [(0, .ref 64)], [.long y], (q_cM (q_mA pix smp tr (q_nb p 0 dn ins) (q_fb z)) q_IM (q_mJ y pd), 34, 31630))) 2 (fun _ _ => rfl) ?_
            refine q_Ru_seg (g2 := (9, [(0, .ref 64)], [.int ((y - y / 24 * 24).toInt32)], (q_cM (q_mA pix smp tr (q_nb p 0 dn ins) (q_fb z)) q_IM (q_mJ y pd), 34, 31630))) 3 (fun _ _ => rfl) ?_
            rw [hC]
            refine q_Ru_seg (g2 := (11, [(1, .int col), (0, .ref 64)], [.int col], (q_cM (q_mA pix smp tr (q_nb p 0 dn ins) (q_fb z)) q_IM (q_mJ y pd), 34, 31630))) 2 (fun _ _ => rfl) ?_
            refine q_Ru_rsF (g2 := (14, [(1, .int col), (0, .ref 64)], [], (q_cM (q_mA pix smp tr (q_nb p 0 dn ins) (q_fb z)) q_IM (q_mJ y pd), 34, 31630))) rfl rfl (q_d_neT h199) ?_
            refine q_Ru_seg (g2 := (15, [(1, .int col), (0, .ref 64)], [.ref 64], (q_cM (q_mA pix smp tr (q_nb p 0 dn ins) (q_fb z)) q_IM (q_mJ y pd), 34, 31630))) 1 (fun _ _ => rfl) ?_
            refine q_Ru_call (v := (some (.int lin))) (h2 := (q_cM (q_mA pix smp tr (q_nb p 0 dn ins) (q_fb z)) q_IM (q_mJ y pd), 34, 31630)) rfl rfl ?_ ?_
            · refine q_Ca_of (Nat.le_of_ble_eq_true rfl) ?_
              refine q_Ru_seg (g2 := (4, [(0, .ref 64)], [.long y], (q_cM (q_mA pix smp tr (q_nb p 0 dn ins) (q_fb z)) q_IM (q_mJ y pd), 34, 31630))) 2 (fun _ _ => rfl) ?_
              refine q_Ru_seg (g2 := (13, [(0, .ref 64)], [.int (((y / 24) - (y / 24) / 40 * 40).toInt32)], (q_cM (q_mA pix smp tr (q_nb p 0 dn ins) (q_fb z)) q_IM (q_mJ y pd), 34, 31630))) 5 (fun _ _ => rfl) ?_
              rw [hM]
              exact q_Ru_ret rfl rfl
            show q_Ru _ _ _ (18, [(1, .int col), (0, .ref 64)], [.int lin], (q_cM (q_mA pix smp tr (q_nb p 0 dn ins) (q_fb z)) q_IM (q_mJ y pd), 34, 31630)) _
            refine q_Ru_seg (g2 := (25, [(1, .int col), (0, .ref 64)], [.int 0, .int lin], (q_cM (q_mA pix smp tr (q_nb p 0 dn ins) (q_fb z)) q_IM (q_mJ y pd), 34, 31630))) 4 (fun _ _ => rfl) ?_
            refine q_Ru_rsF (g2 := (28, [(1, .int col), (0, .ref 64)], [], (q_cM (q_mA pix smp tr (q_nb p 0 dn ins) (q_fb z)) q_IM (q_mJ y pd), 34, 31630))) rfl rfl (q_d_neT h200) ?_
            refine q_Ru_seg (g2 := (36, [(1, .int col), (0, .ref 64)], [.int 1, .int 9, .ref 78], (q_cM (q_mA pix smp tr (q_nb p 0 dn ins) (q_fb z)) q_IM (q_mJ y pd), 34, 31630))) 5 (fun _ _ => rfl) ?_
            refine q_Ru_seg (g2 := (40, [(1, .int col), (0, .ref 64)], [.ref 64], (q_cM (q_uA (q_mA pix smp tr (q_nb p 0 dn ins) (q_fb z)) 14 (upd (q_nb p 0 dn ins) 9 1)) q_IM (q_mJ y pd), 34, 31630))) 4 (fun _ _ => rfl) ?_
            have hA : ∀ i, i < 34 → (q_uA (q_mA pix smp tr (q_nb p 0 dn ins) (q_fb z)) 14 (upd (q_nb p 0 dn ins) 9 1)) i = (q_mA pix smp tr (q_nb p 0 dn ins) (q_fb z)) i := by
              intro i hi
              match i, hi with
              | 0, _ => rfl
              | 1, _ => rfl
              | 2, _ => rfl
              | 3, _ => rfl
              | 4, _ => rfl
              | 5, _ => rfl
              | 6, _ => rfl
              | 7, _ => rfl
              | 8, _ => rfl
              | 9, _ => rfl
              | 10, _ => rfl
              | 11, _ => rfl
              | 12, _ => rfl
              | 13, _ => rfl
              | 14, _ => exact (show (upd (q_nb p 0 dn ins) 9 1) = (q_nb p 0 dn ins) by simp only [q_upd_upd, q_upd_z, q_nb_4, q_nb_17, q_nb_19, q_nb_20, q_nb_0, q_nb_9, q_nb_18, q_fb_4, q_fb_0])
              | 15, _ => rfl
              | 16, _ => rfl
              | 17, _ => rfl
              | 18, _ => rfl
              | 19, _ => rfl
              | 20, _ => rfl
              | 21, _ => rfl
              | 22, _ => rfl
              | 23, _ => rfl
              | 24, _ => rfl
              | 25, _ => rfl
              | 26, _ => rfl
              | 27, _ => rfl
              | 28, _ => rfl
              | 29, _ => rfl
              | 30, _ => rfl
              | 31, _ => rfl
              | 32, _ => rfl
              | 33, _ => rfl
              | i + 34, hi => exact absurd hi (by omega)
            rw [q_cM_A (I := q_IM) (J := (q_mJ y pd)) hA]
            refine q_Ru_call (v := (some (.int 0))) (h2 := (q_cM (q_mA pix smp tr (q_nb p 0 dn ins) (q_fb z)) q_IM (q_mJ y pd), 34, 31630)) rfl rfl ?_ ?_
            · exact (by have e := q_m_picX pix smp tr p 0 dn ins z y pd col lin p1 p2 hC hM c0 c1 l0 l1 a0 a1 b0 b1 hp0 hp1 hp2 i0 i1; rw [hpic] at e; exact e.le (Nat.le_of_ble_eq_true rfl))
            show q_Ru _ _ _ (43, [(1, .int col), (0, .ref 64)], [.int 0], (q_cM (q_mA pix smp tr (q_nb p 0 dn ins) (q_fb z)) q_IM (q_mJ y pd), 34, 31630)) _
            refine q_Ru_seg (g2 := (45, [(2, .int 0), (1, .int col), (0, .ref 64)], [.ref 64], (q_cM (q_mA pix smp tr (q_nb p 0 dn ins) (q_fb z)) q_IM (q_mJ y pd), 34, 31630))) 2 (fun _ _ => rfl) ?_
            refine q_Ru_call (v := (some (.int (lin - 4)))) (h2 := (q_cM (q_mA pix smp tr (q_nb p 0 dn ins) (q_fb z)) q_IM (q_mJ y pd), 34, 31630)) rfl rfl ?_ ?_
            · refine q_Ca_of (Nat.le_of_ble_eq_true rfl) ?_
              refine q_Ru_seg (g2 := (1, [(0, .ref 64)], [.ref 64], (q_cM (q_mA pix smp tr (q_nb p 0 dn ins) (q_fb z)) q_IM (q_mJ y pd), 34, 31630))) 1 (fun _ _ => rfl) ?_
              refine q_Ru_call (v := (some (.int lin))) (h2 := (q_cM (q_mA pix smp tr (q_nb p 0 dn ins) (q_fb z)) q_IM (q_mJ y pd), 34, 31630)) rfl rfl ?_ ?_
              · refine q_Ca_of (Nat.le_of_ble_eq_true rfl) ?_
                refine q_Ru_seg (g2 := (4, [(0, .ref 64)], [.long y], (q_cM (q_mA pix smp tr (q_nb p 0 dn ins) (q_fb z)) q_IM (q_mJ y pd), 34, 31630))) 2 (fun _ _ => rfl) ?_
                refine q_Ru_seg (g2 := (13, [(0, .ref 64)], [.int (((y / 24) - (y / 24) / 40 * 40).toInt32)], (q_cM (q_mA pix smp tr (q_nb p 0 dn ins) (q_fb z)) q_IM (q_mJ y pd), 34, 31630))) 5 (fun _ _ => rfl) ?_
                rw [hM]
                exact q_Ru_ret rfl rfl
              show q_Ru _ _ _ (4, [(0, .ref 64)], [.int lin], (q_cM (q_mA pix smp tr (q_nb p 0 dn ins) (q_fb z)) q_IM (q_mJ y pd), 34, 31630)) _
              refine q_Ru_seg (g2 := (6, [(0, .ref 64)], [.int (lin - 4)], (q_cM (q_mA pix smp tr (q_nb p 0 dn ins) (q_fb z)) q_IM (q_mJ y pd), 34, 31630))) 2 (fun _ _ => rfl) ?_
              exact q_Ru_ret rfl rfl
            show q_Ru _ _ _ (48, [(2, .int 0), (1, .int col), (0, .ref 64)], [.int (lin - 4)], (q_cM (q_mA pix smp tr (q_nb p 0 dn ins) (q_fb z)) q_IM (q_mJ y pd), 34, 31630)) _
            refine q_Ru_seg (g2 := (53, [(3, .int (lin - 4)), (2, .int 0), (1, .int col), (0, .ref 64)], [.int 31, .int 0, .int (lin - 4)], (q_cM (q_mA pix smp tr (q_nb p 0 dn ins) (q_fb z)) q_IM (q_mJ y pd), 34, 31630))) 4 (fun _ _ => rfl) ?_
            refine q_Ru_call (v := (some (.int 1))) (h2 := (q_cM (q_mA pix smp tr (q_nb p 0 dn ins) (q_fb z)) q_IM (q_mJ y pd), 34, 31630)) rfl rfl ?_ ?_
            · refine q_Ca_of (Nat.le_of_ble_eq_true rfl) ?_
              refine q_Ru_seg (g2 := (2, [(0, .int (lin - 4)), (1, .int 0), (2, .int 31)], [.int 0, .int (lin - 4)], (q_cM (q_mA pix smp tr (q_nb p 0 dn ins) (q_fb z)) q_IM (q_mJ y pd), 34, 31630))) 2 (fun _ _ => rfl) ?_
              refine q_Ru_rsF (g2 := (5, [(0, .int (lin - 4)), (1, .int 0), (2, .int 31)], [], (q_cM (q_mA pix smp tr (q_nb p 0 dn ins) (q_fb z)) q_IM (q_mJ y pd), 34, 31630))) rfl rfl h201 ?_
              refine q_Ru_seg (g2 := (7, [(0, .int (lin - 4)), (1, .int 0), (2, .int 31)], [.int 31, .int (lin - 4)], (q_cM (q_mA pix smp tr (q_nb p 0 dn ins) (q_fb z)) q_IM (q_mJ y pd), 34, 31630))) 2 (fun _ _ => rfl) ?_
              refine q_Ru_rsF (g2 := (10, [(0, .int (lin - 4)), (1, .int 0), (2, .int 31)], [], (q_cM (q_mA pix smp tr (q_nb p 0 dn ins) (q_fb z)) q_IM (q_mJ y pd), 34, 31630))) rfl rfl h203 ?_
              refine q_Ru_seg (g2 := (15, [(0, .int (lin - 4)), (1, .int 0), (2, .int 31)], [.int 1], (q_cM (q_mA pix smp tr (q_nb p 0 dn ins) (q_fb z)) q_IM (q_mJ y pd), 34, 31630))) 2 (fun _ _ => rfl) ?_
              exact q_Ru_ret rfl rfl
            show q_Ru _ _ _ (56, [(3, .int (lin - 4)), (2, .int 0), (1, .int col), (0, .ref 64)], [.int 1], (q_cM (q_mA pix smp tr (q_nb p 0 dn ins) (q_fb z)) q_IM (q_mJ y pd), 34, 31630)) _
            refine q_Ru_seg (g2 := (63, [(3, .int (lin - 4)), (2, .int 0), (1, .int col), (0, .ref 64)], [.int 19, .int 4, .int col], (q_cM (q_mA pix smp tr (q_nb p 0 dn ins) (q_fb z)) q_IM (q_mJ y pd), 34, 31630))) 4 (fun _ _ => rfl) ?_
            refine q_Ru_call (v := (some (.int 0))) (h2 := (q_cM (q_mA pix smp tr (q_nb p 0 dn ins) (q_fb z)) q_IM (q_mJ y pd), 34, 31630)) rfl rfl ?_ ?_
            · refine q_Ca_of (Nat.le_of_ble_eq_true rfl) ?_
              refine q_Ru_seg (g2 := (2, [(0, .int col), (1, .int 4), (2, .int 19)], [.int 4, .int col], (q_cM (q_mA pix smp tr (q_nb p 0 dn ins) (q_fb z)) q_IM (q_mJ y pd), 34, 31630))) 2 (fun _ _ => rfl) ?_
              refine q_Ru_rsT (g2 := (14, [(0, .int col), (1, .int 4), (2, .int 19)], [], (q_cM (q_mA pix smp tr (q_nb p 0 dn ins) (q_fb z)) q_IM (q_mJ y pd), 34, 31630))) rfl rfl h205 ?_
              refine q_Ru_seg (g2 := (15, [(0, .int col), (1, .int 4), (2, .int 19)], [.int 0], (q_cM (q_mA pix smp tr (q_nb p 0 dn ins) (q_fb z)) q_IM (q_mJ y pd), 34, 31630))) 1 (fun _ _ => rfl) ?_
              exact q_Ru_ret rfl rfl
            show q_Ru _ _ _ (66, [(3, .int (lin - 4)), (2, .int 0), (1, .int col), (0, .ref 64)], [.int 0], (q_cM (q_mA pix smp tr (q_nb p 0 dn ins) (q_fb z)) q_IM (q_mJ y pd), 34, 31630)) _
            refine q_Ru_seg (g2 := (92, [(3, .int (lin - 4)), (2, .int 0), (1, .int col), (0, .ref 64)], [.ref 64], (q_cM (q_mA pix smp tr (q_nb p 0 dn ins) (q_fb z)) q_IM (q_mJ y pd), 34, 31630))) 2 (fun _ _ => rfl) ?_
            refine q_Ru_call (v := none) (h2 := (q_cM (q_mA pix smp tr (q_nb p 0 dn ins) (q_fb z)) q_IM (q_mJ y pd), 34, 31630)) rfl rfl ?_ ?_
            · exact (q_m_times pix smp tr p 0 dn ins z y pd col lin p1 p2 hC hM c0 c1 l0 l1 a0 a1 b0 b1 hp0 hp1 hp2 i0 i1  ).le (Nat.le_of_ble_eq_true rfl)
            show q_Ru _ _ _ (95, [(3, .int (lin - 4)), (2, .int 0), (1, .int col), (0, .ref 64)], [], (q_cM (q_mA pix smp tr (q_nb p 0 dn ins) (q_fb z)) q_IM (q_mJ y pd), 34, 31630)) _
            refine q_Ru_seg (g2 := (96, [(3, .int (lin - 4)), (2, .int 0), (1, .int col), (0, .ref 64)], [.ref 64], (q_cM (q_mA pix smp tr (q_nb p 0 dn ins) (q_fb z)) q_IM (q_mJ y pd), 34, 31630))) 1 (fun _ _ => rfl) ?_
            refine q_Ru_call (v := none) (h2 := (q_cM (q_mA pix smp tr (q_nb p 0 dn ins) (q_fb z)) q_IM (q_mJ y pd), 34, 31630)) rfl rfl ?_ ?_
            · exact (q_m_winds pix smp tr p 0 dn ins z y pd col lin p1 p2 hC hM c0 c1 l0 l1 a0 a1 b0 b1 hp0 hp1 hp2 i0 i1  ).le (Nat.le_of_ble_eq_true rfl)
            show q_Ru _ _ _ (99, [(3, .int (lin - 4)), (2, .int 0), (1, .int col), (0, .ref 64)], [], (q_cM (q_mA pix smp tr (q_nb p 0 dn ins) (q_fb z)) q_IM (q_mJ y pd), 34, 31630)) _
            refine q_Ru_seg (g2 := (102, [(3, .int (lin - 4)), (2, .int 0), (1, .int col), (0, .ref 64)], [.int 23, .int col], (q_cM (q_mA pix smp tr (q_nb p 0 dn ins) (q_fb z)) q_IM (q_mJ y pd), 34, 31630))) 2 (fun _ _ => rfl) ?_
            refine q_Ru_rsT (g2 := (109, [(3, .int (lin - 4)), (2, .int 0), (1, .int col), (0, .ref 64)], [], (q_cM (q_mA pix smp tr (q_nb p 0 dn ins) (q_fb z)) q_IM (q_mJ y pd), 34, 31630))) rfl rfl (q_d_neF h206) ?_
            refine q_Ru_seg (g2 := (114, [(3, .int (lin - 4)), (2, .int 0), (1, .int col), (0, .ref 64)], [.ref 64], (q_cM (q_mA pix smp tr (q_nb p 0 dn ins) (q_fb z)) q_IM (q_mJ y pd), 34, 31630))) 3 (fun _ _ => rfl) ?_
            refine q_Ru_call (v := none) (h2 := (q_cM (q_mA pix smp tr (q_nb p 1 dn ins) (q_fb z)) q_IM (q_mJ y pd), 34, 31630)) rfl rfl ?_ ?_
            · exact (q_m_go0 pix smp tr p dn ins z y pd col lin p1 p2 hC hM c0 c1 l0 l1 a0 a1 b0 b1 hp0 hp1 hp2 i0 i1  ).le (Nat.le_of_ble_eq_true rfl)
            show q_Ru _ _ _ (117, [(3, .int (lin - 4)), (2, .int 0), (1, .int col), (0, .ref 64)], [], (q_cM (q_mA pix smp tr (q_nb p 1 dn ins) (q_fb z)) q_IM (q_mJ y pd), 34, 31630)) _
            refine q_Ru_seg (g2 := (122, [(3, .int (lin - 4)), (2, .int 0), (1, .int col), (0, .ref 64)], [.long pd, .ref 64], (q_cM (q_mA pix smp tr (q_nb p 1 dn ins) (q_fb z)) q_IM (q_mJ y pd), 34, 31630))) 3 (fun _ _ => rfl) ?_
            refine q_Ru_seg (g2 := (140, [(3, .int (lin - 4)), (2, .int 0), (1, .int col), (0, .ref 64)], [.long y, .ref 64], (q_cM (q_mA pix smp tr (q_nb p 1 dn ins) (q_fb z)) q_IM (q_uI (q_mJ y pd) 0 16 (pd + 0)), 34, 31630))) 8 (fun _ _ => rfl) ?_
            refine q_Ru_seg (g2 := (146, [(3, .int (lin - 4)), (2, .int 0), (1, .int col), (0, .ref 64)], [.int 0], (q_cM (q_mA pix smp tr (q_nb p 1 dn ins) (q_fb z)) q_IM (q_uI (q_uI (q_mJ y pd) 0 16 (pd + 0)) 0 15 (y + 1)), 34, 31630))) 4 (fun _ _ => rfl) ?_
            exact q_Ru_ret rfl rfl
          | false =>
            cases h207 : decide (19 < col) with
            | true =>
              cases h208 : decide (col = 23) with
              | true =>
                have eh208 := of_decide_eq_true h208
                subst eh208
                obtain ⟨z168a, p168⟩ := q_m_sample pix smp tr p 0 dn ins z y pd col lin p1 p2 hC hM c0 c1 l0 l1 a0 a1 b0 b1 hp0 hp1 hp2 i0 i1  
                refine ⟨pix, z168a, ?_⟩
                refine q_Ca_of (Nat.le_of_ble_eq_true rfl) ?_
                refine q_Ru_seg (g2 := (4, [(0, .ref 64)], [.long y], (q_cM (q_mA pix smp tr (q_nb p 0 dn ins) (q_fb z)) q_IM (q_mJ y pd), 34, 31630))) 2 (fun _ _ => rfl) ?_
                refine q_Ru_seg (g2 := (9, [(0, .ref 64)], [.int ((y - y / 24 * 24).toInt32)], (q_cM (q_mA pix smp tr (q_nb p 0 dn ins) (q_fb z)) q_IM (q_mJ y pd), 34, 31630))) 3 (fun _ _ => rfl) ?_
                rw [hC]
                refine q_Ru_seg (g2 := (11, [(1, .int col), (0, .ref 64)], [.int col], (q_cM (q_mA pix smp tr (q_nb p 0 dn ins) (q_fb z)) q_IM (q_mJ y pd), 34, 31630))) 2 (fun _ _ => rfl) ?_
                refine q_Ru_rsF (g2 := (14, [(1, .int col), (0, .ref 64)], [], (q_cM (q_mA pix smp tr (q_nb p 0 dn ins) (q_fb z)) q_IM (q_mJ y pd), 34, 31630))) rfl rfl (q_d_neT h199) ?_
                refine q_Ru_seg (g2 := (15, [(1, .int col), (0, .ref 64)], [.ref 64], (q_cM (q_mA pix smp tr (q_nb p 0 dn ins) (q_fb z)) q_IM (q_mJ y pd), 34, 31630))) 1 (fun _ _ => rfl) ?_
                refine q_Ru_call (v := (some (.int lin))) (h2 := (q_cM (q_mA pix smp tr (q_nb p 0 dn ins) (q_fb z)) q_IM (q_mJ y pd), 34, 31630)) rfl rfl ?_ ?_
                · refine q_Ca_of (Nat.le_of_ble_eq_true rfl) ?_
                  refine q_Ru_seg (g2 := (4, [(0, .ref 64)], [.long y], (q_cM (q_mA pix smp tr (q_nb p 0 dn ins) (q_fb z)) q_IM (q_mJ y pd), 34, 31630))) 2 (fun _ _ => rfl) ?_
                  refine q_Ru_seg (g2 := (13, [(0, .ref 64)], [.int (((y / 24) - (y / 24) / 40 * 40).toInt32)], (q_cM (q_mA pix smp tr (q_nb p 0 dn ins) (q_fb z)) q_IM (q_mJ y pd), 34, 31630))) 5 (fun _ _ => rfl) ?_
                  rw [hM]
                  exact q_Ru_ret rfl rfl
                show q_Ru _ _ _ (18, [(1, .int col), (0, .ref 64)], [.int lin], (q_cM (q_mA pix smp tr (q_nb p 0 dn ins) (q_fb z)) q_IM (q_mJ y pd), 34, 31630)) _
                refine q_Ru_seg (g2 := (25, [(1, .int col), (0, .ref 64)], [.int 0, .int lin], (q_cM (q_mA pix smp tr (q_nb p 0 dn ins) (q_fb z)) q_IM (q_mJ y pd), 34, 31630))) 4 (fun _ _ => rfl) ?_
                refine q_Ru_rsF (g2 := (28, [(1, .int col), (0, .ref 64)], [], (q_cM (q_mA pix smp tr (q_nb p 0 dn ins) (q_fb z)) q_IM (q_mJ y pd), 34, 31630))) rfl rfl (q_d_neT h200) ?_
                refine q_Ru_seg (g2 := (36, [(1, .int col), (0, .ref 64)], [.int 1, .int 9, .ref 78], (q_cM (q_mA pix smp tr (q_nb p 0 dn ins) (q_fb z)) q_IM (q_mJ y pd), 34, 31630))) 5 (fun _ _ => rfl) ?_
                refine q_Ru_seg (g2 := (40, [(1, .int col), (0, .ref 64)], [.ref 64], (q_cM (q_uA (q_mA pix smp tr (q_nb p 0 dn ins) (q_fb z)) 14 (upd (q_nb p 0 dn ins) 9 1)) q_IM (q_mJ y pd), 34, 31630))) 4 (fun _ _ => rfl) ?_
                have hA : ∀ i, i < 34 → (q_uA (q_mA pix smp tr (q_nb p 0 dn ins) (q_fb z)) 14 (upd (q_nb p 0 dn ins) 9 1)) i = (q_mA pix smp tr (q_nb p 0 dn ins) (q_fb z)) i := by
                  intro i hi
                  match i, hi with
                  | 0, _ => rfl
                  | 1, _ => rfl
                  | 2, _ => rfl
                  | 3, _ => rfl
                  | 4, _ => rfl
                  | 5, _ => rfl
                  | 6, _ => rfl
                  | 7, _ => rfl
                  | 8, _ => rfl
                  | 9, _ => rfl
                  | 10, _ => rfl
                  | 11, _ => rfl
                  | 12, _ => rfl
                  | 13, _ => rfl
                  | 14, _ => exact (show (upd (q_nb p 0 dn ins) 9 1) = (q_nb p 0 dn ins) by simp only [q_upd_upd, q_upd_z, q_nb_4, q_nb_17, q_nb_19, q_nb_20, q_nb_0, q_nb_9, q_nb_18, q_fb_4, q_fb_0])
                  | 15, _ => rfl
                  | 16, _ => rfl
                  | 17, _ => rfl
                  | 18, _ => rfl
                  | 19, _ => rfl
                  | 20, _ => rfl
                  | 21, _ => rfl
                  | 22, _ => rfl
                  | 23, _ => rfl
                  | 24, _ => rfl
                  | 25, _ => rfl
                  | 26, _ => rfl
                  | 27, _ => rfl
                  | 28, _ => rfl
                  | 29, _ => rfl
                  | 30, _ => rfl
                  | 31, _ => rfl
                  | 32, _ => rfl
                  | 33, _ => rfl
                  | i + 34, hi => exact absurd hi (by omega)
                rw [q_cM_A (I := q_IM) (J := (q_mJ y pd)) hA]
                refine q_Ru_call (v := (some (.int 0))) (h2 := (q_cM (q_mA pix smp tr (q_nb p 0 dn ins) (q_fb z)) q_IM (q_mJ y pd), 34, 31630)) rfl rfl ?_ ?_
                · exact (by have e := q_m_picX pix smp tr p 0 dn ins z y pd col lin p1 p2 hC hM c0 c1 l0 l1 a0 a1 b0 b1 hp0 hp1 hp2 i0 i1; rw [hpic] at e; exact e.le (Nat.le_of_ble_eq_true rfl))
                show q_Ru _ _ _ (43, [(1, .int col), (0, .ref 64)], [.int 0], (q_cM (q_mA pix smp tr (q_nb p 0 dn ins) (q_fb z)) q_IM (q_mJ y pd), 34, 31630)) _
                refine q_Ru_seg (g2 := (45, [(2, .int 0), (1, .int col), (0, .ref 64)], [.ref 64], (q_cM (q_mA pix smp tr (q_nb p 0 dn ins) (q_fb z)) q_IM (q_mJ y pd), 34, 31630))) 2 (fun _ _ => rfl) ?_
                refine q_Ru_call (v := (some (.int (lin - 4)))) (h2 := (q_cM (q_mA pix smp tr (q_nb p 0 dn ins) (q_fb z)) q_IM (q_mJ y pd), 34, 31630)) rfl rfl ?_ ?_
                · refine q_Ca_of (Nat.le_of_ble_eq_true rfl) ?_
                  refine q_Ru_seg (g2 := (1, [(0, .ref 64)], [.ref 64], (q_cM (q_mA pix smp tr (q_nb p 0 dn ins) (q_fb z)) q_IM (q_mJ y pd), 34, 31630))) 1 (fun _ _ => rfl) ?_
                  refine q_Ru_call (v := (some (.int lin))) (h2 := (q_cM (q_mA pix smp tr (q_nb p 0 dn ins) (q_fb z)) q_IM (q_mJ y pd), 34, 31630)) rfl rfl ?_ ?_
                  · refine q_Ca_of (Nat.le_of_ble_eq_true rfl) ?_
                    refine q_Ru_seg (g2 := (4, [(0, .ref 64)], [.long y], (q_cM (q_mA pix smp tr (q_nb p 0 dn ins) (q_fb z)) q_IM (q_mJ y pd), 34, 31630))) 2 (fun _ _ => rfl) ?_
                    refine q_Ru_seg (g2 := (13, [(0, .ref 64)], [.int (((y / 24) - (y / 24) / 40 * 40).toInt32)], (q_cM (q_mA pix smp tr (q_nb p 0 dn ins) (q_fb z)) q_IM (q_mJ y pd), 34, 31630))) 5 (fun _ _ => rfl) ?_
                    rw [hM]
                    exact q_Ru_ret rfl rfl
                  show q_Ru _ _ _ (4, [(0, .ref 64)], [.int lin], (q_cM (q_mA pix smp tr (q_nb p 0 dn ins) (q_fb z)) q_IM (q_mJ y pd), 34, 31630)) _
                  refine q_Ru_seg (g2 := (6, [(0, .ref 64)], [.int (lin - 4)], (q_cM (q_mA pix smp tr (q_nb p 0 dn ins) (q_fb z)) q_IM (q_mJ y pd), 34, 31630))) 2 (fun _ _ => rfl) ?_
                  exact q_Ru_ret rfl rfl
                show q_Ru _ _ _ (48, [(2, .int 0), (1, .int col), (0, .ref 64)], [.int (lin - 4)], (q_cM (q_mA pix smp tr (q_nb p 0 dn ins) (q_fb z)) q_IM (q_mJ y pd), 34, 31630)) _
                refine q_Ru_seg (g2 := (53, [(3, .int (lin - 4)), (2, .int 0), (1, .int col), (0, .ref 64)], [.int 31, .int 0, .int (lin - 4)], (q_cM (q_mA pix smp tr (q_nb p 0 dn ins) (q_fb z)) q_IM (q_mJ y pd), 34, 31630))) 4 (fun _ _ => rfl) ?_
                refine q_Ru_call (v := (some (.int 1))) (h2 := (q_cM (q_mA pix smp tr (q_nb p 0 dn ins) (q_fb z)) q_IM (q_mJ y pd), 34, 31630)) rfl rfl ?_ ?_
                · refine q_Ca_of (Nat.le_of_ble_eq_true rfl) ?_
                  refine q_Ru_seg (g2 := (2, [(0, .int (lin - 4)), (1, .int 0), (2, .int 31)], [.int 0, .int (lin - 4)], (q_cM (q_mA pix smp tr (q_nb p 0 dn ins) (q_fb z)) q_IM (q_mJ y pd), 34, 31630))) 2 (fun _ _ => rfl) ?_
                  refine q_Ru_rsF (g2 := (5, [(0, .int (lin - 4)), (1, .int 0), (2, .int 31)], [], (q_cM (q_mA pix smp tr (q_nb p 0 dn ins) (q_fb z)) q_IM (q_mJ y pd), 34, 31630))) rfl rfl h201 ?_
                  refine q_Ru_seg (g2 := (7, [(0, .int (lin - 4)), (1, .int 0), (2, .int 31)], [.int 31, .int (lin - 4)], (q_cM (q_mA pix smp tr (q_nb p 0 dn ins) (q_fb z)) q_IM (q_mJ y pd), 34, 31630))) 2 (fun _ _ => rfl) ?_
                  refine q_Ru_rsF (g2 := (10, [(0, .int (lin - 4)), (1, .int 0), (2, .int 31)], [], (q_cM (q_mA pix smp tr (q_nb p 0 dn ins) (q_fb z)) q_IM (q_mJ y pd), 34, 31630))) rfl rfl h203 ?_
                  refine q_Ru_seg (g2 := (15, [(0, .int (lin - 4)), (1, .int 0), (2, .int 31)], [.int 1], (q_cM (q_mA pix smp tr (q_nb p 0 dn ins) (q_fb z)) q_IM (q_mJ y pd), 34, 31630))) 2 (fun _ _ => rfl) ?_
                  exact q_Ru_ret rfl rfl
                show q_Ru _ _ _ (56, [(3, .int (lin - 4)), (2, .int 0), (1, .int col), (0, .ref 64)], [.int 1], (q_cM (q_mA pix smp tr (q_nb p 0 dn ins) (q_fb z)) q_IM (q_mJ y pd), 34, 31630)) _
                refine q_Ru_seg (g2 := (63, [(3, .int (lin - 4)), (2, .int 0), (1, .int col), (0, .ref 64)], [.int 19, .int 4, .int col], (q_cM (q_mA pix smp tr (q_nb p 0 dn ins) (q_fb z)) q_IM (q_mJ y pd), 34, 31630))) 4 (fun _ _ => rfl) ?_
                refine q_Ru_call (v := (some (.int 0))) (h2 := (q_cM (q_mA pix smp tr (q_nb p 0 dn ins) (q_fb z)) q_IM (q_mJ y pd), 34, 31630)) rfl rfl ?_ ?_
                · refine q_Ca_of (Nat.le_of_ble_eq_true rfl) ?_
                  refine q_Ru_seg (g2 := (2, [(0, .int col), (1, .int 4), (2, .int 19)], [.int 4, .int col], (q_cM (q_mA pix smp tr (q_nb p 0 dn ins) (q_fb z)) q_IM (q_mJ y pd), 34, 31630))) 2 (fun _ _ => rfl) ?_
                  refine q_Ru_rsF (g2 := (5, [(0, .int col), (1, .int 4), (2, .int 19)], [], (q_cM (q_mA pix smp tr (q_nb p 0 dn ins) (q_fb z)) q_IM (q_mJ y pd), 34, 31630))) rfl rfl h205 ?_
                  refine q_Ru_seg (g2 := (7, [(0, .int col), (1, .int 4), (2, .int 19)], [.int 19, .int col], (q_cM (q_mA pix smp tr (q_nb p 0 dn ins) (q_fb z)) q_IM (q_mJ y pd), 34, 31630))) 2 (fun _ _ => rfl) ?_
                  refine q_Ru_rsT (g2 := (14, [(0, .int col), (1, .int 4), (2, .int 19)], [], (q_cM (q_mA pix smp tr (q_nb p 0 dn ins) (q_fb z)) q_IM (q_mJ y pd), 34, 31630))) rfl rfl h207 ?_
                  refine q_Ru_seg (g2 := (15, [(0, .int col), (1, .int 4), (2, .int 19)], [.int 0], (q_cM (q_mA pix smp tr (q_nb p 0 dn ins) (q_fb z)) q_IM (q_mJ y pd), 34, 31630))) 1 (fun _ _ => rfl) ?_
                  exact q_Ru_ret rfl rfl
                show q_Ru _ _ _ (66, [(3, .int (lin - 4)), (2, .int 0), (1, .int col), (0, .ref 64)], [.int 0], (q_cM (q_mA pix smp tr (q_nb p 0 dn ins) (q_fb z)) q_IM (q_mJ y pd), 34, 31630)) _
                refine q_Ru_seg (g2 := (92, [(3, .int (lin - 4)), (2, .int 0), (1, .int col), (0, .ref 64)], [.ref 64], (q_cM (q_mA pix smp tr (q_nb p 0 dn ins) (q_fb z)) q_IM (q_mJ y pd), 34, 31630))) 2 (fun _ _ => rfl) ?_
                refine q_Ru_call (v := none) (h2 := (q_cM (q_mA pix smp tr (q_nb p 0 dn ins) (q_fb z)) q_IM (q_mJ y pd), 34, 31630)) rfl rfl ?_ ?_
                · exact (q_m_times pix smp tr p 0 dn ins z y pd col lin p1 p2 hC hM c0 c1 l0 l1 a0 a1 b0 b1 hp0 hp1 hp2 i0 i1  ).le (Nat.le_of_ble_eq_true rfl)
                show q_Ru _ _ _ (95, [(3, .int (lin - 4)), (2, .int 0), (1, .int col), (0, .ref 64)], [], (q_cM (q_mA pix smp tr (q_nb p 0 dn ins) (q_fb z)) q_IM (q_mJ y pd), 34, 31630)) _
                refine q_Ru_seg (g2 := (96, [(3, .int (lin - 4)), (2, .int 0), (1, .int col), (0, .ref 64)], [.ref 64], (q_cM (q_mA pix smp tr (q_nb p 0 dn ins) (q_fb z)) q_IM (q_mJ y pd), 34, 31630))) 1 (fun _ _ => rfl) ?_
                refine q_Ru_call (v := none) (h2 := (q_cM (q_mA pix smp tr (q_nb p 0 dn ins) (q_fb z)) q_IM (q_mJ y pd), 34, 31630)) rfl rfl ?_ ?_
                · exact (q_m_winds pix smp tr p 0 dn ins z y pd col lin p1 p2 hC hM c0 c1 l0 l1 a0 a1 b0 b1 hp0 hp1 hp2 i0 i1  ).le (Nat.le_of_ble_eq_true rfl)
                show q_Ru _ _ _ (99, [(3, .int (lin - 4)), (2, .int 0), (1, .int col), (0, .ref 64)], [], (q_cM (q_mA pix smp tr (q_nb p 0 dn ins) (q_fb z)) q_IM (q_mJ y pd), 34, 31630)) _
                refine q_Ru_seg (g2 := (102, [(3, .int (lin - 4)), (2, .int 0), (1, .int col), (0, .ref 64)], [.int 23, .int col], (q_cM (q_mA pix smp tr (q_nb p 0 dn ins) (q_fb z)) q_IM (q_mJ y pd), 34, 31630))) 2 (fun _ _ => rfl) ?_
                refine q_Ru_rsF (g2 := (105, [(3, .int (lin - 4)), (2, .int 0), (1, .int col), (0, .ref 64)], [], (q_cM (q_mA pix smp tr (q_nb p 0 dn ins) (q_fb z)) q_IM (q_mJ y pd), 34, 31630))) rfl rfl (q_d_neT h208) ?_
                refine q_Ru_seg (g2 := (106, [(3, .int (lin - 4)), (2, .int 0), (1, .int col), (0, .ref 64)], [.ref 64], (q_cM (q_mA pix smp tr (q_nb p 0 dn ins) (q_fb z)) q_IM (q_mJ y pd), 34, 31630))) 1 (fun _ _ => rfl) ?_
                refine q_Ru_call (v := none) (h2 := (q_cM (q_mA pix z168a tr (q_nb p 0 dn ins) (q_fb z)) q_IM (q_mJ y pd), 34, 31630)) rfl rfl ?_ ?_
                · exact p168.le (Nat.le_of_ble_eq_true rfl)
                show q_Ru _ _ _ (109, [(3, .int (lin - 4)), (2, .int 0), (1, .int col), (0, .ref 64)], [], (q_cM (q_mA pix z168a tr (q_nb p 0 dn ins) (q_fb z)) q_IM (q_mJ y pd), 34, 31630)) _
                refine q_Ru_seg (g2 := (114, [(3, .int (lin - 4)), (2, .int 0), (1, .int col), (0, .ref 64)], [.ref 64], (q_cM (q_mA pix z168a tr (q_nb p 0 dn ins) (q_fb z)) q_IM (q_mJ y pd), 34, 31630))) 3 (fun _ _ => rfl) ?_
                refine q_Ru_call (v := none) (h2 := (q_cM (q_mA pix z168a tr (q_nb p 1 dn ins) (q_fb z)) q_IM (q_mJ y pd), 34, 31630)) rfl rfl ?_ ?_
                · exact (q_m_go0 pix z168a tr p dn ins z y pd col lin p1 p2 hC hM c0 c1 l0 l1 a0 a1 b0 b1 hp0 hp1 hp2 i0 i1  ).le (Nat.le_of_ble_eq_true rfl)
                show q_Ru _ _ _ (117, [(3, .int (lin - 4)), (2, .int 0), (1, .int col), (0, .ref 64)], [], (q_cM (q_mA pix z168a tr (q_nb p 1 dn ins) (q_fb z)) q_IM (q_mJ y pd), 34, 31630)) _
                refine q_Ru_seg (g2 := (122, [(3, .int (lin - 4)), (2, .int 0), (1, .int col), (0, .ref 64)], [.long pd, .ref 64], (q_cM (q_mA pix z168a tr (q_nb p 1 dn ins) (q_fb z)) q_IM (q_mJ y pd), 34, 31630))) 3 (fun _ _ => rfl) ?_
                refine q_Ru_seg (g2 := (140, [(3, .int (lin - 4)), (2, .int 0), (1, .int col), (0, .ref 64)], [.long y, .ref 64], (q_cM (q_mA pix z168a tr (q_nb p 1 dn ins) (q_fb z)) q_IM (q_uI (q_mJ y pd) 0 16 (pd + 0)), 34, 31630))) 8 (fun _ _ => rfl) ?_
                refine q_Ru_seg (g2 := (146, [(3, .int (lin - 4)), (2, .int 0), (1, .int col), (0, .ref 64)], [.int 0], (q_cM (q_mA pix z168a tr (q_nb p 1 dn ins) (q_fb z)) q_IM (q_uI (q_uI (q_mJ y pd) 0 16 (pd + 0)) 0 15 (y + 1)), 34, 31630))) 4 (fun _ _ => rfl) ?_
                exact q_Ru_ret rfl rfl
              | false =>
                refine ⟨pix, smp, ?_⟩
                refine q_Ca_of (Nat.le_of_ble_eq_true rfl) ?_
                refine q_Ru_seg (g2 := (4, [(0, .ref 64)], [.long y], (q_cM (q_mA pix smp tr (q_nb p 0 dn ins) (q_fb z)) q_IM (q_mJ y pd), 34, 31630))) 2 (fun _ _ => rfl) ?_
                refine q_Ru_seg (g2 := (9, [(0, .ref 64)], [.int ((y - y / 24 * 24).toInt32)], (q_cM (q_mA pix smp tr (q_nb p 0 dn ins) (q_fb z)) q_IM (q_mJ y pd), 34, 31630))) 3 (fun _ _ => rfl) ?_
                rw [hC]
                refine q_Ru_seg (g2 := (11, [(1, .int col), (0, .ref 64)], [.int col], (q_cM (q_mA pix smp tr (q_nb p 0 dn ins) (q_fb z)) q_IM (q_mJ y pd), 34, 31630))) 2 (fun _ _ => rfl) ?_
                refine q_Ru_rsF (g2 := (14, [(1, .int col), (0, .ref 64)], [], (q_cM (q_mA pix smp tr (q_nb p 0 dn ins) (q_fb z)) q_IM (q_mJ y pd), 34, 31630))) rfl rfl (q_d_neT h199) ?_
                refine q_Ru_seg (g2 := (15, [(1, .int col), (0, .ref 64)], [.ref 64], (q_cM (q_mA pix smp tr (q_nb p 0 dn ins) (q_fb z)) q_IM (q_mJ y pd), 34, 31630))) 1 (fun _ _ => rfl) ?_
                refine q_Ru_call (v := (some (.int lin))) (h2 := (q_cM (q_mA pix smp tr (q_nb p 0 dn ins) (q_fb z)) q_IM (q_mJ y pd), 34, 31630)) rfl rfl ?_ ?_
                · refine q_Ca_of (Nat.le_of_ble_eq_true rfl) ?_
                  refine q_Ru_seg (g2 := (4, [(0, .ref 64)], [.long y], (q_cM (q_mA pix smp tr (q_nb p 0 dn ins) (q_fb z)) q_IM (q_mJ y pd), 34, 31630))) 2 (fun _ _ => rfl) ?_
                  refine q_Ru_seg (g2 := (13, [(0, .ref 64)], [.int (((y / 24) - (y / 24) / 40 * 40).toInt32)], (q_cM (q_mA pix smp tr (q_nb p 0 dn ins) (q_fb z)) q_IM (q_mJ y pd), 34, 31630))) 5 (fun _ _ => rfl) ?_
                  rw [hM]
                  exact q_Ru_ret rfl rfl
                show q_Ru _ _ _ (18, [(1, .int col), (0, .ref 64)], [.int lin], (q_cM (q_mA pix smp tr (q_nb p 0 dn ins) (q_fb z)) q_IM (q_mJ y pd), 34, 31630)) _
                refine q_Ru_seg (g2 := (25, [(1, .int col), (0, .ref 64)], [.int 0, .int lin], (q_cM (q_mA pix smp tr (q_nb p 0 dn ins) (q_fb z)) q_IM (q_mJ y pd), 34, 31630))) 4 (fun _ _ => rfl) ?_
                refine q_Ru_rsF (g2 := (28, [(1, .int col), (0, .ref 64)], [], (q_cM (q_mA pix smp tr (q_nb p 0 dn ins) (q_fb z)) q_IM (q_mJ y pd), 34, 31630))) rfl rfl (q_d_neT h200) ?_
                refine q_Ru_seg (g2 := (36, [(1, .int col), (0, .ref 64)], [.int 1, .int 9, .ref 78], (q_cM (q_mA pix smp tr (q_nb p 0 dn ins) (q_fb z)) q_IM (q_mJ y pd), 34, 31630))) 5 (fun _ _ => rfl) ?_
                refine q_Ru_seg (g2 := (40, [(1, .int col), (0, .ref 64)], [.ref 64], (q_cM (q_uA (q_mA pix smp tr (q_nb p 0 dn ins) (q_fb z)) 14 (upd (q_nb p 0 dn ins) 9 1)) q_IM (q_mJ y pd), 34, 31630))) 4 (fun _ _ => rfl) ?_
                have hA : ∀ i, i < 34 → (q_uA (q_mA pix smp tr (q_nb p 0 dn ins) (q_fb z)) 14 (upd (q_nb p 0 dn ins) 9 1)) i = (q_mA pix smp tr (q_nb p 0 dn ins) (q_fb z)) i := by
                  intro i hi
                  match i, hi with
                  | 0, _ => rfl
                  | 1, _ => rfl
                  | 2, _ => rfl
                  | 3, _ => rfl
                  | 4, _ => rfl
                  | 5, _ => rfl
                  | 6, _ => rfl
                  | 7, _ => rfl
                  | 8, _ => rfl
                  | 9, _ => rfl
                  | 10, _ => rfl
                  | 11, _ => rfl
                  | 12, _ => rfl
                  | 13, _ => rfl
                  | 14, _ => exact (show (upd (q_nb p 0 dn ins) 9 1) = (q_nb p 0 dn ins) by simp only [q_upd_upd, q_upd_z, q_nb_4, q_nb_17, q_nb_19, q_nb_20, q_nb_0, q_nb_9, q_nb_18, q_fb_4, q_fb_0])
                  | 15, _ => rfl
                  | 16, _ => rfl
                  | 17, _ => rfl
                  | 18, _ => rfl
                  | 19, _ => rfl
                  | 20, _ => rfl
                  | 21, _ => rfl
                  | 22, _ => rfl
                  | 23, _ => rfl
                  | 24, _ => rfl
                  | 25, _ => rfl
                  | 26, _ => rfl
                  | 27, _ => rfl
                  | 28, _ => rfl
                  | 29, _ => rfl
                  | 30, _ => rfl
                  | 31, _ => rfl
                  | 32, _ => rfl
                  | 33, _ => rfl
                  | i + 34, hi => exact absurd hi (by omega)
                rw [q_cM_A (I := q_IM) (J := (q_mJ y pd)) hA]
                refine q_Ru_call (v := (some (.int 0))) (h2 := (q_cM (q_mA pix smp tr (q_nb p 0 dn ins) (q_fb z)) q_IM (q_mJ y pd), 34, 31630)) rfl rfl ?_ ?_
                · exact (by have e := q_m_picX pix smp tr p 0 dn ins z y pd col lin p1 p2 hC hM c0 c1 l0 l1 a0 a1 b0 b1 hp0 hp1 hp2 i0 i1; rw [hpic] at e; exact e.le (Nat.le_of_ble_eq_true rfl))
                show q_Ru _ _ _ (43, [(1, .int col), (0, .ref 64)], [.int 0], (q_cM (q_mA pix smp tr (q_nb p 0 dn ins) (q_fb z)) q_IM (q_mJ y pd), 34, 31630)) _
                refine q_Ru_seg (g2 := (45, [(2, .int 0), (1, .int col), (0, .ref 64)], [.ref 64], (q_cM (q_mA pix smp tr (q_nb p 0 dn ins) (q_fb z)) q_IM (q_mJ y pd), 34, 31630))) 2 (fun _ _ => rfl) ?_
                refine q_Ru_call (v := (some (.int (lin - 4)))) (h2 := (q_cM (q_mA pix smp tr (q_nb p 0 dn ins) (q_fb z)) q_IM (q_mJ y pd), 34, 31630)) rfl rfl ?_ ?_
                · refine q_Ca_of (Nat.le_of_ble_eq_true rfl) ?_
                  refine q_Ru_seg (g2 := (1, [(0, .ref 64)], [.ref 64], (q_cM (q_mA pix smp tr (q_nb p 0 dn ins) (q_fb z)) q_IM (q_mJ y pd), 34, 31630))) 1 (fun _ _ => rfl) ?_
                  refine q_Ru_call (v := (some (.int lin))) (h2 := (q_cM (q_mA pix smp tr (q_nb p 0 dn ins) (q_fb z)) q_IM (q_mJ y pd), 34, 31630)) rfl rfl ?_ ?_
                  · refine q_Ca_of (Nat.le_of_ble_eq_true rfl) ?_
                    refine q_Ru_seg (g2 := (4, [(0, .ref 64)], [.long y], (q_cM (q_mA pix smp tr (q_nb p 0 dn ins) (q_fb z)) q_IM (q_mJ y pd), 34, 31630))) 2 (fun _ _ => rfl) ?_
                    refine q_Ru_seg (g2 := (13, [(0, .ref 64)], [.int (((y / 24) - (y / 24) / 40 * 40).toInt32)], (q_cM (q_mA pix smp tr (q_nb p 0 dn ins) (q_fb z)) q_IM (q_mJ y pd), 34, 31630))) 5 (fun _ _ => rfl) ?_
                    rw [hM]
                    exact q_Ru_ret rfl rfl
                  show q_Ru _ _ _ (4, [(0, .ref 64)], [.int lin], (q_cM (q_mA pix smp tr (q_nb p 0 dn ins) (q_fb z)) q_IM (q_mJ y pd), 34, 31630)) _
                  refine q_Ru_seg (g2 := (6, [(0, .ref 64)], [.int (lin - 4)], (q_cM (q_mA pix smp tr (q_nb p 0 dn ins) (q_fb z)) q_IM (q_mJ y pd), 34, 31630))) 2 (fun _ _ => rfl) ?_
                  exact q_Ru_ret rfl rfl
                show q_Ru _ _ _ (48, [(2, .int 0), (1, .int col), (0, .ref 64)], [.int (lin - 4)], (q_cM (q_mA pix smp tr (q_nb p 0 dn ins) (q_fb z)) q_IM (q_mJ y pd), 34, 31630)) _
                refine q_Ru_seg (g2 := (53, [(3, .int (lin - 4)), (2, .int 0), (1, .int col), (0, .ref 64)], [.int 31, .int 0, .int (lin - 4)], (q_cM (q_mA pix smp tr (q_nb p 0 dn ins) (q_fb z)) q_IM (q_mJ y pd), 34, 31630))) 4 (fun _ _ => rfl) ?_
                refine q_Ru_call (v := (some (.int 1))) (h2 := (q_cM (q_mA pix smp tr (q_nb p 0 dn ins) (q_fb z)) q_IM (q_mJ y pd), 34, 31630)) rfl rfl ?_ ?_
                · refine q_Ca_of (Nat.le_of_ble_eq_true rfl) ?_
                  refine q_Ru_seg (g2 := (2, [(0, .int (lin - 4)), (1, .int 0), (2, .int 31)], [.int 0, .int (lin - 4)], (q_cM (q_mA pix smp tr (q_nb p 0 dn ins) (q_fb z)) q_IM (q_mJ y pd), 34, 31630))) 2 (fun _ _ => rfl) ?_
                  refine q_Ru_rsF (g2 := (5, [(0, .int (lin - 4)), (1, .int 0), (2, .int 31)], [], (q_cM (q_mA pix smp tr (q_nb p 0 dn ins) (q_fb z)) q_IM (q_mJ y pd), 34, 31630))) rfl rfl h201 ?_
                  refine q_Ru_seg (g2 := (7, [(0, .int (lin - 4)), (1, .int 0), (2, .int 31)], [.int 31, .int (lin - 4)], (q_cM (q_mA pix smp tr (q_nb p 0 dn ins) (q_fb z)) q_IM (q_mJ y pd), 34, 31630))) 2 (fun _ _ => rfl) ?_
                  refine q_Ru_rsF (g2 := (10, [(0, .int (lin - 4)), (1, .int 0), (2, .int 31)], [], (q_cM (q_mA pix smp tr (q_nb p 0 dn ins) (q_fb z)) q_IM (q_mJ y pd), 34, 31630))) rfl rfl h203 ?_
                  refine q_Ru_seg (g2 := (15, [(0, .int (lin - 4)), (1, .int 0), (2, .int 31)], [.int 1], (q_cM (q_mA pix smp tr (q_nb p 0 dn ins) (q_fb z)) q_IM (q_mJ y pd), 34, 31630))) 2 (fun _ _ => rfl) ?_
                  exact q_Ru_ret rfl rfl
                show q_Ru _ _ _ (56, [(3, .int (lin - 4)), (2, .int 0), (1, .int col), (0, .ref 64)], [.int 1], (q_cM (q_mA pix smp tr (q_nb p 0 dn ins) (q_fb z)) q_IM (q_mJ y pd), 34, 31630)) _
                refine q_Ru_seg (g2 := (63, [(3, .int (lin - 4)), (2, .int 0), (1, .int col), (0, .ref 64)], [.int 19, .int 4, .int col], (q_cM (q_mA pix smp tr (q_nb p 0 dn ins) (q_fb z)) q_IM (q_mJ y pd), 34, 31630))) 4 (fun _ _ => rfl) ?_
                refine q_Ru_call (v := (some (.int 0))) (h2 := (q_cM (q_mA pix smp tr (q_nb p 0 dn ins) (q_fb z)) q_IM (q_mJ y pd), 34, 31630)) rfl rfl ?_ ?_
                · refine q_Ca_of (Nat.le_of_ble_eq_true rfl) ?_
                  refine q_Ru_seg (g2 := (2, [(0, .int col), (1, .int 4), (2, .int 19)], [.int 4, .int col], (q_cM (q_mA pix smp tr (q_nb p 0 dn ins) (q_fb z)) q_IM (q_mJ y pd), 34, 31630))) 2 (fun _ _ => rfl) ?_
                  refine q_Ru_rsF (g2 := (5, [(0, .int col), (1, .int 4), (2, .int 19)], [], (q_cM (q_mA pix smp tr (q_nb p 0 dn ins) (q_fb z)) q_IM (q_mJ y pd), 34, 31630))) rfl rfl h205 ?_
                  refine q_Ru_seg (g2 := (7, [(0, .int col), (1, .int 4), (2, .int 19)], [.int 19, .int col], (q_cM (q_mA pix smp tr (q_nb p 0 dn ins) (q_fb z)) q_IM (q_mJ y pd), 34, 31630))) 2 (fun _ _ => rfl) ?_
                  refine q_Ru_rsT (g2 := (14, [(0, .int col), (1, .int 4), (2, .int 19)], [], (q_cM (q_mA pix smp tr (q_nb p 0 dn ins) (q_fb z)) q_IM (q_mJ y pd), 34, 31630))) rfl rfl h207 ?_
                  refine q_Ru_seg (g2 := (15, [(0, .int col), (1, .int 4), (2, .int 19)], [.int 0], (q_cM (q_mA pix smp tr (q_nb p 0 dn ins) (q_fb z)) q_IM (q_mJ y pd), 34, 31630))) 1 (fun _ _ => rfl) ?_
                  exact q_Ru_ret rfl rfl
                show q_Ru _ _ _ (66, [(3, .int (lin - 4)), (2, .int 0), (1, .int col), (0, .ref 64)], [.int 0], (q_cM (q_mA pix smp tr (q_nb p 0 dn ins) (q_fb z)) q_IM (q_mJ y pd), 34, 31630)) _
                refine q_Ru_seg (g2 := (92, [(3, .int (lin - 4)), (2, .int 0), (1, .int col), (0, .ref 64)], [.ref 64], (q_cM (q_mA pix smp tr (q_nb p 0 dn ins) (q_fb z)) q_IM (q_mJ y pd), 34, 31630))) 2 (fun _ _ => rfl) ?_
                refine q_Ru_call (v := none) (h2 := (q_cM (q_mA pix smp tr (q_nb p 0 dn ins) (q_fb z)) q_IM (q_mJ y pd), 34, 31630)) rfl rfl ?_ ?_
                · exact (q_m_times pix smp tr p 0 dn ins z y pd col lin p1 p2 hC hM c0 c1 l0 l1 a0 a1 b0 b1 hp0 hp1 hp2 i0 i1  ).le (Nat.le_of_ble_eq_true rfl)
                show q_Ru _ _ _ (95, [(3, .int (lin - 4)), (2, .int 0), (1, .int col), (0, .ref 64)], [], (q_cM (q_mA pix smp tr (q_nb p 0 dn ins) (q_fb z)) q_IM (q_mJ y pd), 34, 31630)) _
                refine q_Ru_seg (g2 := (96, [(3, .int (lin - 4)), (2, .int 0), (1, .int col), (0, .ref 64)], [.ref 64], (q_cM (q_mA pix smp tr (q_nb p 0 dn ins) (q_fb z)) q_IM (q_mJ y pd), 34, 31630))) 1 (fun _ _ => rfl) ?_
                refine q_Ru_call (v := none) (h2 := (q_cM (q_mA pix smp tr (q_nb p 0 dn ins) (q_fb z)) q_IM (q_mJ y pd), 34, 31630)) rfl rfl ?_ ?_
                · exact (q_m_winds pix smp tr p 0 dn ins z y pd col lin p1 p2 hC hM c0 c1 l0 l1 a0 a1 b0 b1 hp0 hp1 hp2 i0 i1  ).le (Nat.le_of_ble_eq_true rfl)
                show q_Ru _ _ _ (99, [(3, .int (lin - 4)), (2, .int 0), (1, .int col), (0, .ref 64)], [], (q_cM (q_mA pix smp tr (q_nb p 0 dn ins) (q_fb z)) q_IM (q_mJ y pd), 34, 31630)) _
                refine q_Ru_seg (g2 := (102, [(3, .int (lin - 4)), (2, .int 0), (1, .int col), (0, .ref 64)], [.int 23, .int col], (q_cM (q_mA pix smp tr (q_nb p 0 dn ins) (q_fb z)) q_IM (q_mJ y pd), 34, 31630))) 2 (fun _ _ => rfl) ?_
                refine q_Ru_rsT (g2 := (109, [(3, .int (lin - 4)), (2, .int 0), (1, .int col), (0, .ref 64)], [], (q_cM (q_mA pix smp tr (q_nb p 0 dn ins) (q_fb z)) q_IM (q_mJ y pd), 34, 31630))) rfl rfl (q_d_neF h208) ?_
                refine q_Ru_seg (g2 := (114, [(3, .int (lin - 4)), (2, .int 0), (1, .int col), (0, .ref 64)], [.ref 64], (q_cM (q_mA pix smp tr (q_nb p 0 dn ins) (q_fb z)) q_IM (q_mJ y pd), 34, 31630))) 3 (fun _ _ => rfl) ?_
                refine q_Ru_call (v := none) (h2 := (q_cM (q_mA pix smp tr (q_nb p 1 dn ins) (q_fb z)) q_IM (q_mJ y pd), 34, 31630)) rfl rfl ?_ ?_
                · exact (q_m_go0 pix smp tr p dn ins z y pd col lin p1 p2 hC hM c0 c1 l0 l1 a0 a1 b0 b1 hp0 hp1 hp2 i0 i1  ).le (Nat.le_of_ble_eq_true rfl)
                show q_Ru _ _ _ (117, [(3, .int (lin - 4)), (2, .int 0), (1, .int col), (0, .ref 64)], [], (q_cM (q_mA pix smp tr (q_nb p 1 dn ins) (q_fb z)) q_IM (q_mJ y pd), 34, 31630)) _
                refine q_Ru_seg (g2 := (122, [(3, .int (lin - 4)), (2, .int 0), (1, .int col), (0, .ref 64)], [.long pd, .ref 64], (q_cM (q_mA pix smp tr (q_nb p 1 dn ins) (q_fb z)) q_IM (q_mJ y pd), 34, 31630))) 3 (fun _ _ => rfl) ?_
                refine q_Ru_seg (g2 := (140, [(3, .int (lin - 4)), (2, .int 0), (1, .int col), (0, .ref 64)], [.long y, .ref 64], (q_cM (q_mA pix smp tr (q_nb p 1 dn ins) (q_fb z)) q_IM (q_uI (q_mJ y pd) 0 16 (pd + 0)), 34, 31630))) 8 (fun _ _ => rfl) ?_
                refine q_Ru_seg (g2 := (146, [(3, .int (lin - 4)), (2, .int 0), (1, .int col), (0, .ref 64)], [.int 0], (q_cM (q_mA pix smp tr (q_nb p 1 dn ins) (q_fb z)) q_IM (q_uI (q_uI (q_mJ y pd) 0 16 (pd + 0)) 0 15 (y + 1)), 34, 31630))) 4 (fun _ _ => rfl) ?_
                exact q_Ru_ret rfl rfl
            | false =>
              have h209 : decide (col = 23) = false := q_not_tr (q_tbl1 (fun col => !decide (col = 23)) (l := 4) (n := 15) (by decide +kernel) (q_lo1 h205) (q_hi2 h207))
              obtain ⟨x177, p177⟩ := q_m_draws pix smp tr p 0 dn ins z y pd ((2 * col) - 8) (lin - 4) (of_decide_eq_true (q_tbl1 (fun col => decide (0 ≤ ((2 * col) - 8).toInt ∧ ((2 * col) - 8).toInt ≤ 31)) (l := 4) (n := 15) (by decide +kernel) (q_lo1 h205) (q_hi2 h207))).1 (of_decide_eq_true (q_tbl1 (fun col => decide (0 ≤ ((2 * col) - 8).toInt ∧ ((2 * col) - 8).toInt ≤ 31)) (l := 4) (n := 15) (by decide +kernel) (q_lo1 h205) (q_hi2 h207))).2 (of_decide_eq_true (q_tbl1 (fun lin => decide (0 ≤ (lin - 4).toInt ∧ (lin - 4).toInt ≤ 31)) (l := 4) (n := 31) (by decide +kernel) (q_sub_lo 4 (q_lo1 h201) l0 l1) (q_sub_hi 35 (q_hi2 h203) (q_sub_lo 4 (q_lo1 h201) l0 l1) l1))).1 (of_decide_eq_true (q_tbl1 (fun lin => decide (0 ≤ (lin - 4).toInt ∧ (lin - 4).toInt ≤ 31)) (l := 4) (n := 31) (by decide +kernel) (q_sub_lo 4 (q_lo1 h201) l0 l1) (q_sub_hi 35 (q_hi2 h203) (q_sub_lo 4 (q_lo1 h201) l0 l1) l1))).2
              obtain ⟨x178, p178⟩ := q_m_draws x177 smp tr p 0 dn ins z y pd ((2 * col) - 7) (lin - 4) (of_decide_eq_true (q_tbl1 (fun col => decide (0 ≤ ((2 * col) - 7).toInt ∧ ((2 * col) - 7).toInt ≤ 31)) (l := 4) (n := 15) (by decide +kernel) (q_lo1 h205) (q_hi2 h207))).1 (of_decide_eq_true (q_tbl1 (fun col => decide (0 ≤ ((2 * col) - 7).toInt ∧ ((2 * col) - 7).toInt ≤ 31)) (l := 4) (n := 15) (by decide +kernel) (q_lo1 h205) (q_hi2 h207))).2 (of_decide_eq_true (q_tbl1 (fun lin => decide (0 ≤ (lin - 4).toInt ∧ (lin - 4).toInt ≤ 31)) (l := 4) (n := 31) (by decide +kernel) (q_sub_lo 4 (q_lo1 h201) l0 l1) (q_sub_hi 35 (q_hi2 h203) (q_sub_lo 4 (q_lo1 h201) l0 l1) l1))).1 (of_decide_eq_true (q_tbl1 (fun lin => decide (0 ≤ (lin - 4).toInt ∧ (lin - 4).toInt ≤ 31)) (l := 4) (n := 31) (by decide +kernel) (q_sub_lo 4 (q_lo1 h201) l0 l1) (q_sub_hi 35 (q_hi2 h203) (q_sub_lo 4 (q_lo1 h201) l0 l1) l1))).2
              refine ⟨x178, smp, ?_⟩
              refine q_Ca_of (Nat.le_of_ble_eq_true rfl) ?_
              refine q_Ru_seg (g2 := (4, [(0, .ref 64)], [.long y], (q_cM (q_mA pix smp tr (q_nb p 0 dn ins) (q_fb z)) q_IM (q_mJ y pd), 34, 31630))) 2 (fun _ _ => rfl) ?_
              refine q_Ru_seg (g2 := (9, [(0, .ref 64)], [.int ((y - y / 24 * 24).toInt32)], (q_cM (q_mA pix smp tr (q_nb p 0 dn ins) (q_fb z)) q_IM (q_mJ y pd), 34, 31630))) 3 (fun _ _ => rfl) ?_
              rw [hC]
              refine q_Ru_seg (g2 := (11, [(1, .int col), (0, .ref 64)], [.int col], (q_cM (q_mA pix smp tr (q_nb p 0 dn ins) (q_fb z)) q_IM (q_mJ y pd), 34, 31630))) 2 (fun _ _ => rfl) ?_
              refine q_Ru_rsF (g2 := (14, [(1, .int col), (0, .ref 64)], [], (q_cM (q_mA pix smp tr (q_nb p 0 dn ins) (q_fb z)) q_IM (q_mJ y pd), 34, 31630))) rfl rfl (q_d_neT h199) ?_
              refine q_Ru_seg (g2 := (15, [(1, .int col), (0, .ref 64)], [.ref 64], (q_cM (q_mA pix smp tr (q_nb p 0 dn ins) (q_fb z)) q_IM (q_mJ y pd), 34, 31630))) 1 (fun _ _ => rfl) ?_
              refine q_Ru_call (v := (some (.int lin))) (h2 := (q_cM (q_mA pix smp tr (q_nb p 0 dn ins) (q_fb z)) q_IM (q_mJ y pd), 34, 31630)) rfl rfl ?_ ?_
              · refine q_Ca_of (Nat.le_of_ble_eq_true rfl) ?_
                refine q_Ru_seg (g2 := (4, [(0, .ref 64)], [.long y], (q_cM (q_mA pix smp tr (q_nb p 0 dn ins) (q_fb z)) q_IM (q_mJ y pd), 34, 31630))) 2 (fun _ _ => rfl) ?_
                refine q_Ru_seg (g2 := (13, [(0, .ref 64)], [.int (((y / 24) - (y / 24) / 40 * 40).toInt32)], (q_cM (q_mA pix smp tr (q_nb p 0 dn ins) (q_fb z)) q_IM (q_mJ y pd), 34, 31630))) 5 (fun _ _ => rfl) ?_
                rw [hM]
                exact q_Ru_ret rfl rfl
              show q_Ru _ _ _ (18, [(1, .int col), (0, .ref 64)], [.int lin], (q_cM (q_mA pix smp tr (q_nb p 0 dn ins) (q_fb z)) q_IM (q_mJ y pd), 34, 31630)) _
              refine q_Ru_seg (g2 := (25, [(1, .int col), (0, .ref 64)], [.int 0, .int lin], (q_cM (q_mA pix smp tr (q_nb p 0 dn ins) (q_fb z)) q_IM (q_mJ y pd), 34, 31630))) 4 (fun _ _ => rfl) ?_
              refine q_Ru_rsF (g2 := (28, [(1, .int col), (0, .ref 64)], [], (q_cM (q_mA pix smp tr (q_nb p 0 dn ins) (q_fb z)) q_IM (q_mJ y pd), 34, 31630))) rfl rfl (q_d_neT h200) ?_
              refine q_Ru_seg (g2 := (36, [(1, .int col), (0, .ref 64)], [.int 1, .int 9, .ref 78], (q_cM (q_mA pix smp tr (q_nb p 0 dn ins) (q_fb z)) q_IM (q_mJ y pd), 34, 31630))) 5 (fun _ _ => rfl) ?_
              refine q_Ru_seg (g2 := (40, [(1, .int col), (0, .ref 64)], [.ref 64], (q_cM (q_uA (q_mA pix smp tr (q_nb p 0 dn ins) (q_fb z)) 14 (upd (q_nb p 0 dn ins) 9 1)) q_IM (q_mJ y pd), 34, 31630))) 4 (fun _ _ => rfl) ?_
              have hA : ∀ i, i < 34 → (q_uA (q_mA pix smp tr (q_nb p 0 dn ins) (q_fb z)) 14 (upd (q_nb p 0 dn ins) 9 1)) i = (q_mA pix smp tr (q_nb p 0 dn ins) (q_fb z)) i := by
                intro i hi
                match i, hi with
                | 0, _ => rfl
                | 1, _ => rfl
                | 2, _ => rfl
                | 3, _ => rfl
                | 4, _ => rfl
                | 5, _ => rfl
                | 6, _ => rfl
                | 7, _ => rfl
                | 8, _ => rfl
                | 9, _ => rfl
                | 10, _ => rfl
                | 11, _ => rfl
                | 12, _ => rfl
                | 13, _ => rfl
                | 14, _ => exact (show (upd (q_nb p 0 dn ins) 9 1) = (q_nb p 0 dn ins) by simp only [q_upd_upd, q_upd_z, q_nb_4, q_nb_17, q_nb_19, q_nb_20, q_nb_0, q_nb_9, q_nb_18, q_fb_4, q_fb_0])
                | 15, _ => rfl
                | 16, _ => rfl
                | 17, _ => rfl
                | 18, _ => rfl
                | 19, _ => rfl
                | 20, _ => rfl
                | 21, _ => rfl
                | 22, _ => rfl
                | 23, _ => rfl
                | 24, _ => rfl
                | 25, _ => rfl
                | 26, _ => rfl
                | 27, _ => rfl
                | 28, _ => rfl
                | 29, _ => rfl
                | 30, _ => rfl
                | 31, _ => rfl
                | 32, _ => rfl
                | 33, _ => rfl
                | i + 34, hi => exact absurd hi (by omega)
              rw [q_cM_A (I := q_IM) (J := (q_mJ y pd)) hA]
              refine q_Ru_call (v := (some (.int 0))) (h2 := (q_cM (q_mA pix smp tr (q_nb p 0 dn ins) (q_fb z)) q_IM (q_mJ y pd), 34, 31630)) rfl rfl ?_ ?_
              · exact (by have e := q_m_picX pix smp tr p 0 dn ins z y pd col lin p1 p2 hC hM c0 c1 l0 l1 a0 a1 b0 b1 hp0 hp1 hp2 i0 i1; rw [hpic] at e; exact e.le (Nat.le_of_ble_eq_true rfl))
              show q_Ru _ _ _ (43, [(1, .int col), (0, .ref 64)], [.int 0], (q_cM (q_mA pix smp tr (q_nb p 0 dn ins) (q_fb z)) q_IM (q_mJ y pd), 34, 31630)) _
              refine q_Ru_seg (g2 := (45, [(2, .int 0), (1, .int col), (0, .ref 64)], [.ref 64], (q_cM (q_mA pix smp tr (q_nb p 0 dn ins) (q_fb z)) q_IM (q_mJ y pd), 34, 31630))) 2 (fun _ _ => rfl) ?_
              refine q_Ru_call (v := (some (.int (lin - 4)))) (h2 := (q_cM (q_mA pix smp tr (q_nb p 0 dn ins) (q_fb z)) q_IM (q_mJ y pd), 34, 31630)) rfl rfl ?_ ?_
              · refine q_Ca_of (Nat.le_of_ble_eq_true rfl) ?_
                refine q_Ru_seg (g2 := (1, [(0, .ref 64)], [.ref 64], (q_cM (q_mA pix smp tr (q_nb p 0 dn ins) (q_fb z)) q_IM (q_mJ y pd), 34, 31630))) 1 (fun _ _ => rfl) ?_
                refine q_Ru_call (v := (some (.int lin))) (h2 := (q_cM (q_mA pix smp tr (q_nb p 0 dn ins) (q_fb z)) q_IM (q_mJ y pd), 34, 31630)) rfl rfl ?_ ?_
                · refine q_Ca_of (Nat.le_of_ble_eq_true rfl) ?_
                  refine q_Ru_seg (g2 := (4, [(0, .ref 64)], [.long y], (q_cM (q_mA pix smp tr (q_nb p 0 dn ins) (q_fb z)) q_IM (q_mJ y pd), 34, 31630))) 2 (fun _ _ => rfl) ?_
                  refine q_Ru_seg (g2 := (13, [(0, .ref 64)], [.int (((y / 24) - (y / 24) / 40 * 40).toInt32)], (q_cM (q_mA pix smp tr (q_nb p 0 dn ins) (q_fb z)) q_IM (q_mJ y pd), 34, 31630))) 5 (fun _ _ => rfl) ?_
                  rw [hM]
                  exact q_Ru_ret rfl rfl
                show q_Ru _ _ _ (4, [(0, .ref 64)], [.int lin], (q_cM (q_mA pix smp tr (q_nb p 0 dn ins) (q_fb z)) q_IM (q_mJ y pd), 34, 31630)) _
                refine q_Ru_seg (g2 := (6, [(0, .ref 64)], [.int (lin - 4)], (q_cM (q_mA pix smp tr (q_nb p 0 dn ins) (q_fb z)) q_IM (q_mJ y pd), 34, 31630))) 2 (fun _ _ => rfl) ?_
                exact q_Ru_ret rfl rfl
              show q_Ru _ _ _ (48, [(2, .int 0), (1, .int col), (0, .ref 64)], [.int (lin - 4)], (q_cM (q_mA pix smp tr (q_nb p 0 dn ins) (q_fb z)) q_IM (q_mJ y pd), 34, 31630)) _
              refine q_Ru_seg (g2 := (53, [(3, .int (lin - 4)), (2, .int 0), (1, .int col), (0, .ref 64)], [.int 31, .int 0, .int (lin - 4)], (q_cM (q_mA pix smp tr (q_nb p 0 dn ins) (q_fb z)) q_IM (q_mJ y pd), 34, 31630))) 4 (fun _ _ => rfl) ?_
              refine q_Ru_call (v := (some (.int 1))) (h2 := (q_cM (q_mA pix smp tr (q_nb p 0 dn ins) (q_fb z)) q_IM (q_mJ y pd), 34, 31630)) rfl rfl ?_ ?_
              · refine q_Ca_of (Nat.le_of_ble_eq_true rfl) ?_
                refine q_Ru_seg (g2 := (2, [(0, .int (lin - 4)), (1, .int 0), (2, .int 31)], [.int 0, .int (lin - 4)], (q_cM (q_mA pix smp tr (q_nb p 0 dn ins) (q_fb z)) q_IM (q_mJ y pd), 34, 31630))) 2 (fun _ _ => rfl) ?_
                refine q_Ru_rsF (g2 := (5, [(0, .int (lin - 4)), (1, .int 0), (2, .int 31)], [], (q_cM (q_mA pix smp tr (q_nb p 0 dn ins) (q_fb z)) q_IM (q_mJ y pd), 34, 31630))) rfl rfl h201 ?_
                refine q_Ru_seg (g2 := (7, [(0, .int (lin - 4)), (1, .int 0), (2, .int 31)], [.int 31, .int (lin - 4)], (q_cM (q_mA pix smp tr (q_nb p 0 dn ins) (q_fb z)) q_IM (q_mJ y pd), 34, 31630))) 2 (fun _ _ => rfl) ?_
                refine q_Ru_rsF (g2 := (10, [(0, .int (lin - 4)), (1, .int 0), (2, .int 31)], [], (q_cM (q_mA pix smp tr (q_nb p 0 dn ins) (q_fb z)) q_IM (q_mJ y pd), 34, 31630))) rfl rfl h203 ?_
                refine q_Ru_seg (g2 := (15, [(0, .int (lin - 4)), (1, .int 0), (2, .int 31)], [.int 1], (q_cM (q_mA pix smp tr (q_nb p 0 dn ins) (q_fb z)) q_IM (q_mJ y pd), 34, 31630))) 2 (fun _ _ => rfl) ?_
                exact q_Ru_ret rfl rfl
              show q_Ru _ _ _ (56, [(3, .int (lin - 4)), (2, .int 0), (1, .int col), (0, .ref 64)], [.int 1], (q_cM (q_mA pix smp tr (q_nb p 0 dn ins) (q_fb z)) q_IM (q_mJ y pd), 34, 31630)) _
              refine q_Ru_seg (g2 := (63, [(3, .int (lin - 4)), (2, .int 0), (1, .int col), (0, .ref 64)], [.int 19, .int 4, .int col], (q_cM (q_mA pix smp tr (q_nb p 0 dn ins) (q_fb z)) q_IM (q_mJ y pd), 34, 31630))) 4 (fun _ _ => rfl) ?_
              refine q_Ru_call (v := (some (.int 1))) (h2 := (q_cM (q_mA pix smp tr (q_nb p 0 dn ins) (q_fb z)) q_IM (q_mJ y pd), 34, 31630)) rfl rfl ?_ ?_
              · refine q_Ca_of (Nat.le_of_ble_eq_true rfl) ?_
                refine q_Ru_seg (g2 := (2, [(0, .int col), (1, .int 4), (2, .int 19)], [.int 4, .int col], (q_cM (q_mA pix smp tr (q_nb p 0 dn ins) (q_fb z)) q_IM (q_mJ y pd), 34, 31630))) 2 (fun _ _ => rfl) ?_
                refine q_Ru_rsF (g2 := (5, [(0, .int col), (1, .int 4), (2, .int 19)], [], (q_cM (q_mA pix smp tr (q_nb p 0 dn ins) (q_fb z)) q_IM (q_mJ y pd), 34, 31630))) rfl rfl h205 ?_
                refine q_Ru_seg (g2 := (7, [(0, .int col), (1, .int 4), (2, .int 19)], [.int 19, .int col], (q_cM (q_mA pix smp tr (q_nb p 0 dn ins) (q_fb z)) q_IM (q_mJ y pd), 34, 31630))) 2 (fun _ _ => rfl) ?_
                refine q_Ru_rsF (g2 := (10, [(0, .int col), (1, .int 4), (2, .int 19)], [], (q_cM (q_mA pix smp tr (q_nb p 0 dn ins) (q_fb z)) q_IM (q_mJ y pd), 34, 31630))) rfl rfl h207 ?_
                refine q_Ru_seg (g2 := (15, [(0, .int col), (1, .int 4), (2, .int 19)], [.int 1], (q_cM (q_mA pix smp tr (q_nb p 0 dn ins) (q_fb z)) q_IM (q_mJ y pd), 34, 31630))) 2 (fun _ _ => rfl) ?_
                exact q_Ru_ret rfl rfl
              show q_Ru _ _ _ (66, [(3, .int (lin - 4)), (2, .int 0), (1, .int col), (0, .ref 64)], [.int 1], (q_cM (q_mA pix smp tr (q_nb p 0 dn ins) (q_fb z)) q_IM (q_mJ y pd), 34, 31630)) _
              refine q_Ru_seg (g2 := (77, [(3, .int (lin - 4)), (2, .int 0), (1, .int col), (0, .ref 64)], [.int (lin - 4), .int ((2 * col) - 8), .ref 64], (q_cM (q_mA pix smp tr (q_nb p 0 dn ins) (q_fb z)) q_IM (q_mJ y pd), 34, 31630))) 8 (fun _ _ => rfl) ?_
              refine q_Ru_call (v := none) (h2 := (q_cM (q_mA x177 smp tr (q_nb p 0 dn ins) (q_fb z)) q_IM (q_mJ y pd), 34, 31630)) rfl rfl ?_ ?_
              · exact p177.le (Nat.le_of_ble_eq_true rfl)
              show q_Ru _ _ _ (80, [(3, .int (lin - 4)), (2, .int 0), (1, .int col), (0, .ref 64)], [], (q_cM (q_mA x177 smp tr (q_nb p 0 dn ins) (q_fb z)) q_IM (q_mJ y pd), 34, 31630)) _
              refine q_Ru_seg (g2 := (88, [(3, .int (lin - 4)), (2, .int 0), (1, .int col), (0, .ref 64)], [.int (lin - 4), .int ((2 * col) - 7), .ref 64], (q_cM (q_mA x177 smp tr (q_nb p 0 dn ins) (q_fb z)) q_IM (q_mJ y pd), 34, 31630))) 7 (fun _ _ => rfl) ?_
              refine q_Ru_call (v := none) (h2 := (q_cM (q_mA x178 smp tr (q_nb p 0 dn ins) (q_fb z)) q_IM (q_mJ y pd), 34, 31630)) rfl rfl ?_ ?_
              · exact p178.le (Nat.le_of_ble_eq_true rfl)
              show q_Ru _ _ _ (91, [(3, .int (lin - 4)), (2, .int 0), (1, .int col), (0, .ref 64)], [], (q_cM (q_mA x178 smp tr (q_nb p 0 dn ins) (q_fb z)) q_IM (q_mJ y pd), 34, 31630)) _
              refine q_Ru_seg (g2 := (92, [(3, .int (lin - 4)), (2, .int 0), (1, .int col), (0, .ref 64)], [.ref 64], (q_cM (q_mA x178 smp tr (q_nb p 0 dn ins) (q_fb z)) q_IM (q_mJ y pd), 34, 31630))) 1 (fun _ _ => rfl) ?_
              refine q_Ru_call (v := none) (h2 := (q_cM (q_mA x178 smp tr (q_nb p 0 dn ins) (q_fb z)) q_IM (q_mJ y pd), 34, 31630)) rfl rfl ?_ ?_
              · exact (q_m_times x178 smp tr p 0 dn ins z y pd col lin p1 p2 hC hM c0 c1 l0 l1 a0 a1 b0 b1 hp0 hp1 hp2 i0 i1  ).le (Nat.le_of_ble_eq_true rfl)
              show q_Ru _ _ _ (95, [(3, .int (lin - 4)), (2, .int 0), (1, .int col), (0, .ref 64)], [], (q_cM (q_mA x178 smp tr (q_nb p 0 dn ins) (q_fb z)) q_IM (q_mJ y pd), 34, 31630)) _
              refine q_Ru_seg (g2 := (96, [(3, .int (lin - 4)), (2, .int 0), (1, .int col), (0, .ref 64)], [.ref 64], (q_cM (q_mA x178 smp tr (q_nb p 0 dn ins) (q_fb z)) q_IM (q_mJ y pd), 34, 31630))) 1 (fun _ _ => rfl) ?_
              refine q_Ru_call (v := none) (h2 := (q_cM (q_mA x178 smp tr (q_nb p 0 dn ins) (q_fb z)) q_IM (q_mJ y pd), 34, 31630)) rfl rfl ?_ ?_
              · exact (q_m_winds x178 smp tr p 0 dn ins z y pd col lin p1 p2 hC hM c0 c1 l0 l1 a0 a1 b0 b1 hp0 hp1 hp2 i0 i1  ).le (Nat.le_of_ble_eq_true rfl)
              show q_Ru _ _ _ (99, [(3, .int (lin - 4)), (2, .int 0), (1, .int col), (0, .ref 64)], [], (q_cM (q_mA x178 smp tr (q_nb p 0 dn ins) (q_fb z)) q_IM (q_mJ y pd), 34, 31630)) _
              refine q_Ru_seg (g2 := (102, [(3, .int (lin - 4)), (2, .int 0), (1, .int col), (0, .ref 64)], [.int 23, .int col], (q_cM (q_mA x178 smp tr (q_nb p 0 dn ins) (q_fb z)) q_IM (q_mJ y pd), 34, 31630))) 2 (fun _ _ => rfl) ?_
              refine q_Ru_rsT (g2 := (109, [(3, .int (lin - 4)), (2, .int 0), (1, .int col), (0, .ref 64)], [], (q_cM (q_mA x178 smp tr (q_nb p 0 dn ins) (q_fb z)) q_IM (q_mJ y pd), 34, 31630))) rfl rfl (q_d_neF h209) ?_
              refine q_Ru_seg (g2 := (114, [(3, .int (lin - 4)), (2, .int 0), (1, .int col), (0, .ref 64)], [.ref 64], (q_cM (q_mA x178 smp tr (q_nb p 0 dn ins) (q_fb z)) q_IM (q_mJ y pd), 34, 31630))) 3 (fun _ _ => rfl) ?_
              refine q_Ru_call (v := none) (h2 := (q_cM (q_mA x178 smp tr (q_nb p 1 dn ins) (q_fb z)) q_IM (q_mJ y pd), 34, 31630)) rfl rfl ?_ ?_
              · exact (q_m_go0 x178 smp tr p dn ins z y pd col lin p1 p2 hC hM c0 c1 l0 l1 a0 a1 b0 b1 hp0 hp1 hp2 i0 i1  ).le (Nat.le_of_ble_eq_true rfl)
              show q_Ru _ _ _ (117, [(3, .int (lin - 4)), (2, .int 0), (1, .int col), (0, .ref 64)], [], (q_cM (q_mA x178 smp tr (q_nb p 1 dn ins) (q_fb z)) q_IM (q_mJ y pd), 34, 31630)) _
              refine q_Ru_seg (g2 := (122, [(3, .int (lin - 4)), (2, .int 0), (1, .int col), (0, .ref 64)], [.long pd, .ref 64], (q_cM (q_mA x178 smp tr (q_nb p 1 dn ins) (q_fb z)) q_IM (q_mJ y pd), 34, 31630))) 3 (fun _ _ => rfl) ?_
              refine q_Ru_seg (g2 := (140, [(3, .int (lin - 4)), (2, .int 0), (1, .int col), (0, .ref 64)], [.long y, .ref 64], (q_cM (q_mA x178 smp tr (q_nb p 1 dn ins) (q_fb z)) q_IM (q_uI (q_mJ y pd) 0 16 (pd + 0)), 34, 31630))) 8 (fun _ _ => rfl) ?_
              refine q_Ru_seg (g2 := (146, [(3, .int (lin - 4)), (2, .int 0), (1, .int col), (0, .ref 64)], [.int 0], (q_cM (q_mA x178 smp tr (q_nb p 1 dn ins) (q_fb z)) q_IM (q_uI (q_uI (q_mJ y pd) 0 16 (pd + 0)) 0 15 (y + 1)), 34, 31630))) 4 (fun _ _ => rfl) ?_
              exact q_Ru_ret rfl rfl
    | false =>
      cases h210 : decide (lin - 4 < 0) with
      | true =>
        cases h211 : decide (col = 23) with
        | true =>
          have eh211 := of_decide_eq_true h211
          subst eh211
          obtain ⟨z186a, p186⟩ := q_m_sample pix smp tr p 0 dn ins z y pd col lin p1 p2 hC hM c0 c1 l0 l1 a0 a1 b0 b1 hp0 hp1 hp2 i0 i1  
          refine ⟨pix, z186a, ?_⟩
          refine q_Ca_of (Nat.le_of_ble_eq_true rfl) ?_
          refine q_Ru_seg (g2 := (4, [(0, .ref 64)], [.long y], (q_cM (q_mA pix smp tr (q_nb p 0 dn ins) (q_fb z)) q_IM (q_mJ y pd), 34, 31630))) 2 (fun _ _ => rfl) ?_
          refine q_Ru_seg (g2 := (9, [(0, .ref 64)], [.int ((y - y / 24 * 24).toInt32)], (q_cM (q_mA pix smp tr (q_nb p 0 dn ins) (q_fb z)) q_IM (q_mJ y pd), 34, 31630))) 3 (fun _ _ => rfl) ?_
          rw [hC]
          refine q_Ru_seg (g2 := (11, [(1, .int col), (0, .ref 64)], [.int col], (q_cM (q_mA pix smp tr (q_nb p 0 dn ins) (q_fb z)) q_IM (q_mJ y pd), 34, 31630))) 2 (fun _ _ => rfl) ?_
          refine q_Ru_rsF (g2 := (14, [(1, .int col), (0, .ref 64)], [], (q_cM (q_mA pix smp tr (q_nb p 0 dn ins) (q_fb z)) q_IM (q_mJ y pd), 34, 31630))) rfl rfl (q_d_neT h199) ?_
          refine q_Ru_seg (g2 := (15, [(1, .int col), (0, .ref 64)], [.ref 64], (q_cM (q_mA pix smp tr (q_nb p 0 dn ins) (q_fb z)) q_IM (q_mJ y pd), 34, 31630))) 1 (fun _ _ => rfl) ?_
          refine q_Ru_call (v := (some (.int lin))) (h2 := (q_cM (q_mA pix smp tr (q_nb p 0 dn ins) (q_fb z)) q_IM (q_mJ y pd), 34, 31630)) rfl rfl ?_ ?_
          · refine q_Ca_of (Nat.le_of_ble_eq_true rfl) ?_
            refine q_Ru_seg (g2 := (4, [(0, .ref 64)], [.long y], (q_cM (q_mA pix smp tr (q_nb p 0 dn ins) (q_fb z)) q_IM (q_mJ y pd), 34, 31630))) 2 (fun _ _ => rfl) ?_
            refine q_Ru_seg (g2 := (13, [(0, .ref 64)], [.int (((y / 24) - (y / 24) / 40 * 40).toInt32)], (q_cM (q_mA pix smp tr (q_nb p 0 dn ins) (q_fb z)) q_IM (q_mJ y pd), 34, 31630))) 5 (fun _ _ => rfl) ?_
            rw [hM]
            exact q_Ru_ret rfl rfl
          show q_Ru _ _ _ (18, [(1, .int col), (0, .ref 64)], [.int lin], (q_cM (q_mA pix smp tr (q_nb p 0 dn ins) (q_fb z)) q_IM (q_mJ y pd), 34, 31630)) _
          refine q_Ru_seg (g2 := (25, [(1, .int col), (0, .ref 64)], [.int 0, .int lin], (q_cM (q_mA pix smp tr (q_nb p 0 dn ins) (q_fb z)) q_IM (q_mJ y pd), 34, 31630))) 4 (fun _ _ => rfl) ?_
          refine q_Ru_rsT (g2 := (39, [(1, .int col), (0, .ref 64)], [], (q_cM (q_mA pix smp tr (q_nb p 0 dn ins) (q_fb z)) q_IM (q_mJ y pd), 34, 31630))) rfl rfl (q_d_neF h200) ?_
          refine q_Ru_seg (g2 := (40, [(1, .int col), (0, .ref 64)], [.ref 64], (q_cM (q_mA pix smp tr (q_nb p 0 dn ins) (q_fb z)) q_IM (q_mJ y pd), 34, 31630))) 1 (fun _ _ => rfl) ?_
          refine q_Ru_call (v := (some (.int 0))) (h2 := (q_cM (q_mA pix smp tr (q_nb p 0 dn ins) (q_fb z)) q_IM (q_mJ y pd), 34, 31630)) rfl rfl ?_ ?_
          · exact (by have e := q_m_picX pix smp tr p 0 dn ins z y pd col lin p1 p2 hC hM c0 c1 l0 l1 a0 a1 b0 b1 hp0 hp1 hp2 i0 i1; rw [hpic] at e; exact e.le (Nat.le_of_ble_eq_true rfl))
          show q_Ru _ _ _ (43, [(1, .int col), (0, .ref 64)], [.int 0], (q_cM (q_mA pix smp tr (q_nb p 0 dn ins) (q_fb z)) q_IM (q_mJ y pd), 34, 31630)) _
          refine q_Ru_seg (g2 := (45, [(2, .int 0), (1, .int col), (0, .ref 64)], [.ref 64], (q_cM (q_mA pix smp tr (q_nb p 0 dn ins) (q_fb z)) q_IM (q_mJ y pd), 34, 31630))) 2 (fun _ _ => rfl) ?_
          refine q_Ru_call (v := (some (.int (lin - 4)))) (h2 := (q_cM (q_mA pix smp tr (q_nb p 0 dn ins) (q_fb z)) q_IM (q_mJ y pd), 34, 31630)) rfl rfl ?_ ?_
          · refine q_Ca_of (Nat.le_of_ble_eq_true rfl) ?_
            refine q_Ru_seg (g2 := (1, [(0, .ref 64)], [.ref 64], (q_cM (q_mA pix smp tr (q_nb p 0 dn ins) (q_fb z)) q_IM (q_mJ y pd), 34, 31630))) 1 (fun _ _ => rfl) ?_
            refine q_Ru_call (v := (some (.int lin))) (h2 := (q_cM (q_mA pix smp tr (q_nb p 0 dn ins) (q_fb z)) q_IM (q_mJ y pd), 34, 31630)) rfl rfl ?_ ?_
            · refine q_Ca_of (Nat.le_of_ble_eq_true rfl) ?_
              refine q_Ru_seg (g2 := (4, [(0, .ref 64)], [.long y], (q_cM (q_mA pix smp tr (q_nb p 0 dn ins) (q_fb z)) q_IM (q_mJ y pd), 34, 31630))) 2 (fun _ _ => rfl) ?_
              refine q_Ru_seg (g2 := (13, [(0, .ref 64)], [.int (((y / 24) - (y / 24) / 40 * 40).toInt32)], (q_cM (q_mA pix smp tr (q_nb p 0 dn ins) (q_fb z)) q_IM (q_mJ y pd), 34, 31630))) 5 (fun _ _ => rfl) ?_
              rw [hM]
              exact q_Ru_ret rfl rfl
            show q_Ru _ _ _ (4, [(0, .ref 64)], [.int lin], (q_cM (q_mA pix smp tr (q_nb p 0 dn ins) (q_fb z)) q_IM (q_mJ y pd), 34, 31630)) _
            refine q_Ru_seg (g2 := (6, [(0, .ref 64)], [.int (lin - 4)], (q_cM (q_mA pix smp tr (q_nb p 0 dn ins) (q_fb z)) q_IM (q_mJ y pd), 34, 31630))) 2 (fun _ _ => rfl) ?_
            exact q_Ru_ret rfl rfl
          show q_Ru _ _ _ (48, [(2, .int 0), (1, .int col), (0, .ref 64)], [.int (lin - 4)], (q_cM (q_mA pix smp tr (q_nb p 0 dn ins) (q_fb z)) q_IM (q_mJ y pd), 34, 31630)) _
          refine q_Ru_seg (g2 := (53, [(3, .int (lin - 4)), (2, .int 0), (1, .int col), (0, .ref 64)], [.int 31, .int 0, .int (lin - 4)], (q_cM (q_mA pix smp tr (q_nb p 0 dn ins) (q_fb z)) q_IM (q_mJ y pd), 34, 31630))) 4 (fun _ _ => rfl) ?_
          refine q_Ru_call (v := (some (.int 0))) (h2 := (q_cM (q_mA pix smp tr (q_nb p 0 dn ins) (q_fb z)) q_IM (q_mJ y pd), 34, 31630)) rfl rfl ?_ ?_
          · refine q_Ca_of (Nat.le_of_ble_eq_true rfl) ?_
            refine q_Ru_seg (g2 := (2, [(0, .int (lin - 4)), (1, .int 0), (2, .int 31)], [.int 0, .int (lin - 4)], (q_cM (q_mA pix smp tr (q_nb p 0 dn ins) (q_fb z)) q_IM (q_mJ y pd), 34, 31630))) 2 (fun _ _ => rfl) ?_
            refine q_Ru_rsT (g2 := (14, [(0, .int (lin - 4)), (1, .int 0), (2, .int 31)], [], (q_cM (q_mA pix smp tr (q_nb p 0 dn ins) (q_fb z)) q_IM (q_mJ y pd), 34, 31630))) rfl rfl h210 ?_
            refine q_Ru_seg (g2 := (15, [(0, .int (lin - 4)), (1, .int 0), (2, .int 31)], [.int 0], (q_cM (q_mA pix smp tr (q_nb p 0 dn ins) (q_fb z)) q_IM (q_mJ y pd), 34, 31630))) 1 (fun _ _ => rfl) ?_
            exact q_Ru_ret rfl rfl
          show q_Ru _ _ _ (56, [(3, .int (lin - 4)), (2, .int 0), (1, .int col), (0, .ref 64)], [.int 0], (q_cM (q_mA pix smp tr (q_nb p 0 dn ins) (q_fb z)) q_IM (q_mJ y pd), 34, 31630)) _
          refine q_Ru_seg (g2 := (92, [(3, .int (lin - 4)), (2, .int 0), (1, .int col), (0, .ref 64)], [.ref 64], (q_cM (q_mA pix smp tr (q_nb p 0 dn ins) (q_fb z)) q_IM (q_mJ y pd), 34, 31630))) 2 (fun _ _ => rfl) ?_
          refine q_Ru_call (v := none) (h2 := (q_cM (q_mA pix smp tr (q_nb p 0 dn ins) (q_fb z)) q_IM (q_mJ y pd), 34, 31630)) rfl rfl ?_ ?_
          · exact (q_m_times pix smp tr p 0 dn ins z y pd col lin p1 p2 hC hM c0 c1 l0 l1 a0 a1 b0 b1 hp0 hp1 hp2 i0 i1  ).le (Nat.le_of_ble_eq_true rfl)
          show q_Ru _ _ _ (95, [(3, .int (lin - 4)), (2, .int 0), (1, .int col), (0, .ref 64)], [], (q_cM (q_mA pix smp tr (q_nb p 0 dn ins) (q_fb z)) q_IM (q_mJ y pd), 34, 31630)) _
          refine q_Ru_seg (g2 := (96, [(3, .int (lin - 4)), (2, .int 0), (1, .int col), (0, .ref 64)], [.ref 64], (q_cM (q_mA pix smp tr (q_nb p 0 dn ins) (q_fb z)) q_IM (q_mJ y pd), 34, 31630))) 1 (fun _ _ => rfl) ?_
          refine q_Ru_call (v := none) (h2 := (q_cM (q_mA pix smp tr (q_nb p 0 dn ins) (q_fb z)) q_IM (q_mJ y pd), 34, 31630)) rfl rfl ?_ ?_
          · exact (q_m_winds pix smp tr p 0 dn ins z y pd col lin p1 p2 hC hM c0 c1 l0 l1 a0 a1 b0 b1 hp0 hp1 hp2 i0 i1  ).le (Nat.le_of_ble_eq_true rfl)
          show q_Ru _ _ _ (99, [(3, .int (lin - 4)), (2, .int 0), (1, .int col), (0, .ref 64)], [], (q_cM (q_mA pix smp tr (q_nb p 0 dn ins) (q_fb z)) q_IM (q_mJ y pd), 34, 31630)) _
          refine q_Ru_seg (g2 := (102, [(3, .int (lin - 4)), (2, .int 0), (1, .int col), (0, .ref 64)], [.int 23, .int col], (q_cM (q_mA pix smp tr (q_nb p 0 dn ins) (q_fb z)) q_IM (q_mJ y pd), 34, 31630))) 2 (fun _ _ => rfl) ?_
          refine q_Ru_rsF (g2 := (105, [(3, .int (lin - 4)), (2, .int 0), (1, .int col), (0, .ref 64)], [], (q_cM (q_mA pix smp tr (q_nb p 0 dn ins) (q_fb z)) q_IM (q_mJ y pd), 34, 31630))) rfl rfl (q_d_neT h211) ?_
          refine q_Ru_seg (g2 := (106, [(3, .int (lin - 4)), (2, .int 0), (1, .int col), (0, .ref 64)], [.ref 64], (q_cM (q_mA pix smp tr (q_nb p 0 dn ins) (q_fb z)) q_IM (q_mJ y pd), 34, 31630))) 1 (fun _ _ => rfl) ?_
          refine q_Ru_call (v := none) (h2 := (q_cM (q_mA pix z186a tr (q_nb p 0 dn ins) (q_fb z)) q_IM (q_mJ y pd), 34, 31630)) rfl rfl ?_ ?_
          · exact p186.le (Nat.le_of_ble_eq_true rfl)
          show q_Ru _ _ _ (109, [(3, .int (lin - 4)), (2, .int 0), (1, .int col), (0, .ref 64)], [], (q_cM (q_mA pix z186a tr (q_nb p 0 dn ins) (q_fb z)) q_IM (q_mJ y pd), 34, 31630)) _
          refine q_Ru_seg (g2 := (114, [(3, .int (lin - 4)), (2, .int 0), (1, .int col), (0, .ref 64)], [.ref 64], (q_cM (q_mA pix z186a tr (q_nb p 0 dn ins) (q_fb z)) q_IM (q_mJ y pd), 34, 31630))) 3 (fun _ _ => rfl) ?_
          refine q_Ru_call (v := none) (h2 := (q_cM (q_mA pix z186a tr (q_nb p 1 dn ins) (q_fb z)) q_IM (q_mJ y pd), 34, 31630)) rfl rfl ?_ ?_
          · exact (q_m_go0 pix z186a tr p dn ins z y pd col lin p1 p2 hC hM c0 c1 l0 l1 a0 a1 b0 b1 hp0 hp1 hp2 i0 i1  ).le (Nat.le_of_ble_eq_true rfl)
          show q_Ru _ _ _ (117, [(3, .int (lin - 4)), (2, .int 0), (1, .int col), (0, .ref 64)], [], (q_cM (q_mA pix z186a tr (q_nb p 1 dn ins) (q_fb z)) q_IM (q_mJ y pd), 34, 31630)) _
          refine q_Ru_seg (g2 := (122, [(3, .int (lin - 4)), (2, .int 0), (1, .int col), (0, .ref 64)], [.long pd, .ref 64], (q_cM (q_mA pix z186a tr (q_nb p 1 dn ins) (q_fb z)) q_IM (q_mJ y pd), 34, 31630))) 3 (fun _ _ => rfl) ?_
          refine q_Ru_seg (g2 := (140, [(3, .int (lin - 4)), (2, .int 0), (1, .int col), (0, .ref 64)], [.long y, .ref 64], (q_cM (q_mA pix z186a tr (q_nb p 1 dn ins) (q_fb z)) q_IM (q_uI (q_mJ y pd) 0 16 (pd + 0)), 34, 31630))) 8 (fun _ _ => rfl) ?_
          refine q_Ru_seg (g2 := (146, [(3, .int (lin - 4)), (2, .int 0), (1, .int col), (0, .ref 64)], [.int 0], (q_cM (q_mA pix z186a tr (q_nb p 1 dn ins) (q_fb z)) q_IM (q_uI (q_uI (q_mJ y pd) 0 16 (pd + 0)) 0 15 (y + 1)), 34, 31630))) 4 (fun _ _ => rfl) ?_
          exact q_Ru_ret rfl rfl
        | false =>
          refine ⟨pix, smp, ?_⟩
          refine q_Ca_of (Nat.le_of_ble_eq_true rfl) ?_
          refine q_Ru_seg (g2 := (4, [(0, .ref 64)], [.long y], (q_cM (q_mA pix smp tr (q_nb p 0 dn ins) (q_fb z)) q_IM (q_mJ y pd), 34, 31630))) 2 (fun _ _ => rfl) ?_
          refine q_Ru_seg (g2 := (9, [(0, .ref 64)], [.int ((y - y / 24 * 24).toInt32)], (q_cM (q_mA pix smp tr (q_nb p 0 dn ins) (q_fb z)) q_IM (q_mJ y pd), 34, 31630))) 3 (fun _ _ => rfl) ?_
          rw [hC]
          refine q_Ru_seg (g2 := (11, [(1, .int col), (0, .ref 64)], [.int col], (q_cM (q_mA pix smp tr (q_nb p 0 dn ins) (q_fb z)) q_IM (q_mJ y pd), 34, 31630))) 2 (fun _ _ => rfl) ?_
          refine q_Ru_rsF (g2 := (14, [(1, .int col), (0, .ref 64)], [], (q_cM (q_mA pix smp tr (q_nb p 0 dn ins) (q_fb z)) q_IM (q_mJ y pd), 34, 31630))) rfl rfl (q_d_neT h199) ?_
          refine q_Ru_seg (g2 := (15, [(1, .int col), (0, .ref 64)], [.ref 64], (q_cM (q_mA pix smp tr (q_nb p 0 dn ins) (q_fb z)) q_IM (q_mJ y pd), 34, 31630))) 1 (fun _ _ => rfl) ?_
          refine q_Ru_call (v := (some (.int lin))) (h2 := (q_cM (q_mA pix smp tr (q_nb p 0 dn ins) (q_fb z)) q_IM (q_mJ y pd), 34, 31630)) rfl rfl ?_ ?_
          · refine q_Ca_of (Nat.le_of_ble_eq_true rfl) ?_
            refine q_Ru_seg (g2 := (4, [(0, .ref 64)], [.long y], (q_cM (q_mA pix smp tr (q_nb p 0 dn ins) (q_fb z)) q_IM (q_mJ y pd), 34, 31630))) 2 (fun _ _ => rfl) ?_
            refine q_Ru_seg (g2 := (13, [(0, .ref 64)], [.int (((y / 24) - (y / 24) / 40 * 40).toInt32)], (q_cM (q_mA pix smp tr (q_nb p 0 dn ins) (q_fb z)) q_IM (q_mJ y pd), 34, 31630))) 5 (fun _ _ => rfl) ?_
            rw [hM]
            exact q_Ru_ret rfl rfl
          show q_Ru _ _ _ (18, [(1, .int col), (0, .ref 64)], [.int lin], (q_cM (q_mA pix smp tr (q_nb p 0 dn ins) (q_fb z)) q_IM (q_mJ y pd), 34, 31630)) _
          refine q_Ru_seg (g2 := (25, [(1, .int col), (0, .ref 64)], [.int 0, .int lin], (q_cM (q_mA pix smp tr (q_nb p 0 dn ins) (q_fb z)) q_IM (q_mJ y pd), 34, 31630))) 4 (fun _ _ => rfl) ?_
          refine q_Ru_rsT (g2 := (39, [(1, .int col), (0, .ref 64)], [], (q_cM (q_mA pix smp tr (q_nb p 0 dn ins) (q_fb z)) q_IM (q_mJ y pd), 34, 31630))) rfl rfl (q_d_neF h200) ?_
          refine q_Ru_seg (g2 := (40, [(1, .int col), (0, .ref 64)], [.ref 64], (q_cM (q_mA pix smp tr (q_nb p 0 dn ins) (q_fb z)) q_IM (q_mJ y pd), 34, 31630))) 1 (fun _ _ => rfl) ?_
          refine q_Ru_call (v := (some (.int 0))) (h2 := (q_cM (q_mA pix smp tr (q_nb p 0 dn ins) (q_fb z)) q_IM (q_mJ y pd), 34, 31630)) rfl rfl ?_ ?_
          · exact (by have e := q_m_picX pix smp tr p 0 dn ins z y pd col lin p1 p2 hC hM c0 c1 l0 l1 a0 a1 b0 b1 hp0 hp1 hp2 i0 i1; rw [hpic] at e; exact e.le (Nat.le_of_ble_eq_true rfl))
          show q_Ru _ _ _ (43, [(1, .int col), (0, .ref 64)], [.int 0], (q_cM (q_mA pix smp tr (q_nb p 0 dn ins) (q_fb z)) q_IM (q_mJ y pd), 34, 31630)) _
          refine q_Ru_seg (g2 := (45, [(2, .int 0), (1, .int col), (0, .ref 64)], [.ref 64], (q_cM (q_mA pix smp tr (q_nb p 0 dn ins) (q_fb z)) q_IM (q_mJ y pd), 34, 31630))) 2 (fun _ _ => rfl) ?_
          refine q_Ru_call (v := (some (.int (lin - 4)))) (h2 := (q_cM (q_mA pix smp tr (q_nb p 0 dn ins) (q_fb z)) q_IM (q_mJ y pd), 34, 31630)) rfl rfl ?_ ?_
          · refine q_Ca_of (Nat.le_of_ble_eq_true rfl) ?_
            refine q_Ru_seg (g2 := (1, [(0, .ref 64)], [.ref 64], (q_cM (q_mA pix smp tr (q_nb p 0 dn ins) (q_fb z)) q_IM (q_mJ y pd), 34, 31630))) 1 (fun _ _ => rfl) ?_
            refine q_Ru_call (v := (some (.int lin))) (h2 := (q_cM (q_mA pix smp tr (q_nb p 0 dn ins) (q_fb z)) q_IM (q_mJ y pd), 34, 31630)) rfl rfl ?_ ?_
            · refine q_Ca_of (Nat.le_of_ble_eq_true rfl) ?_
              refine q_Ru_seg (g2 := (4, [(0, .ref 64)], [.long y], (q_cM (q_mA pix smp tr (q_nb p 0 dn ins) (q_fb z)) q_IM (q_mJ y pd), 34, 31630))) 2 (fun _ _ => rfl) ?_
              refine q_Ru_seg (g2 := (13, [(0, .ref 64)], [.int (((y / 24) - (y / 24) / 40 * 40).toInt32)], (q_cM (q_mA pix smp tr (q_nb p 0 dn ins) (q_fb z)) q_IM (q_mJ y pd), 34, 31630))) 5 (fun _ _ => rfl) ?_
              rw [hM]
              exact q_Ru_ret rfl rfl
            show q_Ru _ _ _ (4, [(0, .ref 64)], [.int lin], (q_cM (q_mA pix smp tr (q_nb p 0 dn ins) (q_fb z)) q_IM (q_mJ y pd), 34, 31630)) _
            refine q_Ru_seg (g2 := (6, [(0, .ref 64)], [.int (lin - 4)], (q_cM (q_mA pix smp tr (q_nb p 0 dn ins) (q_fb z)) q_IM (q_mJ y pd), 34, 31630))) 2 (fun _ _ => rfl) ?_
            exact q_Ru_ret rfl rfl
          show q_Ru _ _ _ (48, [(2, .int 0), (1, .int col), (0, .ref 64)], [.int (lin - 4)], (q_cM (q_mA pix smp tr (q_nb p 0 dn ins) (q_fb z)) q_IM (q_mJ y pd), 34, 31630)) _
          refine q_Ru_seg (g2 := (53, [(3, .int (lin - 4)), (2, .int 0), (1, .int col), (0, .ref 64)], [.int 31, .int 0, .int (lin - 4)], (q_cM (q_mA pix smp tr (q_nb p 0 dn ins) (q_fb z)) q_IM (q_mJ y pd), 34, 31630))) 4 (fun _ _ => rfl) ?_
          refine q_Ru_call (v := (some (.int 0))) (h2 := (q_cM (q_mA pix smp tr (q_nb p 0 dn ins) (q_fb z)) q_IM (q_mJ y pd), 34, 31630)) rfl rfl ?_ ?_
          · refine q_Ca_of (Nat.le_of_ble_eq_true rfl) ?_
            refine q_Ru_seg (g2 := (2, [(0, .int (lin - 4)), (1, .int 0), (2, .int 31)], [.int 0, .int (lin - 4)], (q_cM (q_mA pix smp tr (q_nb p 0 dn ins) (q_fb z)) q_IM (q_mJ y pd), 34, 31630))) 2 (fun _ _ => rfl) ?_
            refine q_Ru_rsT (g2 := (14, [(0, .int (lin - 4)), (1, .int 0), (2, .int 31)], [], (q_cM (q_mA pix smp tr (q_nb p 0 dn ins) (q_fb z)) q_IM (q_mJ y pd), 34, 31630))) rfl rfl h210 ?_
            refine q_Ru_seg (g2 := (15, [(0, .int (lin - 4)), (1, .int 0), (2, .int 31)], [.int 0], (q_cM (q_mA pix smp tr (q_nb p 0 dn ins) (q_fb z)) q_IM (q_mJ y pd), 34, 31630))) 1 (fun _ _ => rfl) ?_
            exact q_Ru_ret rfl rfl
          show q_Ru _ _ _ (56, [(3, .int (lin - 4)), (2, .int 0), (1, .int col), (0, .ref 64)], [.int 0], (q_cM (q_mA pix smp tr (q_nb p 0 dn ins) (q_fb z)) q_IM (q_mJ y pd), 34, 31630)) _
          refine q_Ru_seg (g2 := (92, [(3, .int (lin - 4)), (2, .int 0), (1, .int col), (0, .ref 64)], [.ref 64], (q_cM (q_mA pix smp tr (q_nb p 0 dn ins) (q_fb z)) q_IM (q_mJ y pd), 34, 31630))) 2 (fun _ _ => rfl) ?_
          refine q_Ru_call (v := none) (h2 := (q_cM (q_mA pix smp tr (q_nb p 0 dn ins) (q_fb z)) q_IM (q_mJ y pd), 34, 31630)) rfl rfl ?_ ?_
          · exact (q_m_times pix smp tr p 0 dn ins z y pd col lin p1 p2 hC hM c0 c1 l0 l1 a0 a1 b0 b1 hp0 hp1 hp2 i0 i1  ).le (Nat.le_of_ble_eq_true rfl)
          show q_Ru _ _ _ (95, [(3, .int (lin - 4)), (2, .int 0), (1, .int col), (0, .ref 64)], [], (q_cM (q_mA pix smp tr (q_nb p 0 dn ins) (q_fb z)) q_IM (q_mJ y pd), 34, 31630)) _
          refine q_Ru_seg (g2 := (96, [(3, .int (lin - 4)), (2, .int 0), (1, .int col), (0, .ref 64)], [.ref 64], (q_cM (q_mA pix smp tr (q_nb p 0 dn ins) (q_fb z)) q_IM (q_mJ y pd), 34, 31630))) 1 (fun _ _ => rfl) ?_
          refine q_Ru_call (v := none) (h2 := (q_cM (q_mA pix smp tr (q_nb p 0 dn ins) (q_fb z)) q_IM (q_mJ y pd), 34, 31630)) rfl rfl ?_ ?_
          · exact (q_m_winds pix smp tr p 0 dn ins z y pd col lin p1 p2 hC hM c0 c1 l0 l1 a0 a1 b0 b1 hp0 hp1 hp2 i0 i1  ).le (Nat.le_of_ble_eq_true rfl)
          show q_Ru _ _ _ (99, [(3, .int (lin - 4)), (2, .int 0), (1, .int col), (0, .ref 64)], [], (q_cM (q_mA pix smp tr (q_nb p 0 dn ins) (q_fb z)) q_IM (q_mJ y pd), 34, 31630)) _
          refine q_Ru_seg (g2 := (102, [(3, .int (lin - 4)), (2, .int 0), (1, .int col), (0, .ref 64)], [.int 23, .int col], (q_cM (q_mA pix smp tr (q_nb p 0 dn ins) (q_fb z)) q_IM (q_mJ y pd), 34, 31630))) 2 (fun _ _ => rfl) ?_
          refine q_Ru_rsT (g2 := (109, [(3, .int (lin - 4)), (2, .int 0), (1, .int col), (0, .ref 64)], [], (q_cM (q_mA pix smp tr (q_nb p 0 dn ins) (q_fb z)) q_IM (q_mJ y pd), 34, 31630))) rfl rfl (q_d_neF h211) ?_
          refine q_Ru_seg (g2 := (114, [(3, .int (lin - 4)), (2, .int 0), (1, .int col), (0, .ref 64)], [.ref 64], (q_cM (q_mA pix smp tr (q_nb p 0 dn ins) (q_fb z)) q_IM (q_mJ y pd), 34, 31630))) 3 (fun _ _ => rfl) ?_
          refine q_Ru_call (v := none) (h2 := (q_cM (q_mA pix smp tr (q_nb p 1 dn ins) (q_fb z)) q_IM (q_mJ y pd), 34, 31630)) rfl rfl ?_ ?_
          · exact (q_m_go0 pix smp tr p dn ins z y pd col lin p1 p2 hC hM c0 c1 l0 l1 a0 a1 b0 b1 hp0 hp1 hp2 i0 i1  ).le (Nat.le_of_ble_eq_true rfl)
          show q_Ru _ _ _ (117, [(3, .int (lin - 4)), (2, .int 0), (1, .int col), (0, .ref 64)], [], (q_cM (q_mA pix smp tr (q_nb p 1 dn ins) (q_fb z)) q_IM (q_mJ y pd), 34, 31630)) _
          refine q_Ru_seg (g2 := (122, [(3, .int (lin - 4)), (2, .int 0), (1, .int col), (0, .ref 64)], [.long pd, .ref 64], (q_cM (q_mA pix smp tr (q_nb p 1 dn ins) (q_fb z)) q_IM (q_mJ y pd), 34, 31630))) 3 (fun _ _ => rfl) ?_
          refine q_Ru_seg (g2 := (140, [(3, .int (lin - 4)), (2, .int 0), (1, .int col), (0, .ref 64)], [.long y, .ref 64], (q_cM (q_mA pix smp tr (q_nb p 1 dn ins) (q_fb z)) q_IM (q_uI (q_mJ y pd) 0 16 (pd + 0)), 34, 31630))) 8 (fun _ _ => rfl) ?_
          refine q_Ru_seg (g2 := (146, [(3, .int (lin - 4)), (2, .int 0), (1, .int col), (0, .ref 64)], [.int 0], (q_cM (q_mA pix smp tr (q_nb p 1 dn ins) (q_fb z)) q_IM (q_uI (q_uI (q_mJ y pd) 0 16 (pd + 0)) 0 15 (y + 1)), 34, 31630))) 4 (fun _ _ => rfl) ?_
          exact q_Ru_ret rfl rfl
      | false =>
        cases h212 : decide (31 < lin - 4) with
        | true =>
          cases h213 : decide (col = 23) with
          | true =>
            have eh213 := of_decide_eq_true h213
            subst eh213
            obtain ⟨z195a, p195⟩ := q_m_sample pix smp tr p 0 dn ins z y pd col lin p1 p2 hC hM c0 c1 l0 l1 a0 a1 b0 b1 hp0 hp1 hp2 i0 i1  
            refine ⟨pix, z195a, ?_⟩
            refine q_Ca_of (Nat.le_of_ble_eq_true rfl) ?_
            refine q_Ru_seg (g2 := (4, [(0, .ref 64)], [.long y], (q_cM (q_mA pix smp tr (q_nb p 0 dn ins) (q_fb z)) q_IM (q_mJ y pd), 34, 31630))) 2 (fun _ _ => rfl) ?_
            refine q_Ru_seg (g2 := (9, [(0, .ref 64)], [.int ((y - y / 24 * 24).toInt32)], (q_cM (q_mA pix smp tr (q_nb p 0 dn ins) (q_fb z)) q_IM (q_mJ y pd), 34, 31630))) 3 (fun _ _ => rfl) ?_
            rw [hC]
            refine q_Ru_seg (g2 := (11, [(1, .int col), (0, .ref 64)], [.int col], (q_cM (q_mA pix smp tr (q_nb p 0 dn ins) (q_fb z)) q_IM (q_mJ y pd), 34, 31630))) 2 (fun _ _ => rfl) ?_
            refine q_Ru_rsF (g2 := (14, [(1, .int col), (0, .ref 64)], [], (q_cM (q_mA pix smp tr (q_nb p 0 dn ins) (q_fb z)) q_IM (q_mJ y pd), 34, 31630))) rfl rfl (q_d_neT h199) ?_
            refine q_Ru_seg (g2 := (15, [(1, .int col), (0, .ref 64)], [.ref 64], (q_cM (q_mA pix smp tr (q_nb p 0 dn ins) (q_fb z)) q_IM (q_mJ y pd), 34, 31630))) 1 (fun _ _ => rfl) ?_
            refine q_Ru_call (v := (some (.int lin))) (h2 := (q_cM (q_mA pix smp tr (q_nb p 0 dn ins) (q_fb z)) q_IM (q_mJ y pd), 34, 31630)) rfl rfl ?_ ?_
            · refine q_Ca_of (Nat.le_of_ble_eq_true rfl) ?_
              refine q_Ru_seg (g2 := (4, [(0, .ref 64)], [.long y], (q_cM (q_mA pix smp tr (q_nb p 0 dn ins) (q_fb z)) q_IM (q_mJ y pd), 34, 31630))) 2 (fun _ _ => rfl) ?_
              refine q_Ru_seg (g2 := (13, [(0, .ref 64)], [.int (((y / 24) - (y / 24) / 40 * 40).toInt32)], (q_cM (q_mA pix smp tr (q_nb p 0 dn ins) (q_fb z)) q_IM (q_mJ y pd), 34, 31630))) 5 (fun _ _ => rfl) ?_
              rw [hM]
              exact q_Ru_ret rfl rfl
            show q_Ru _ _ _ (18, [(1, .int col), (0, .ref 64)], [.int lin], (q_cM (q_mA pix smp tr (q_nb p 0 dn ins) (q_fb z)) q_IM (q_mJ y pd), 34, 31630)) _
            refine q_Ru_seg (g2 := (25, [(1, .int col), (0, .ref 64)], [.int 0, .int lin], (q_cM (q_mA pix smp tr (q_nb p 0 dn ins) (q_fb z)) q_IM (q_mJ y pd), 34, 31630))) 4 (fun _ _ => rfl) ?_
            refine q_Ru_rsT (g2 := (39, [(1, .int col), (0, .ref 64)], [], (q_cM (q_mA pix smp tr (q_nb p 0 dn ins) (q_fb z)) q_IM (q_mJ y pd), 34, 31630))) rfl rfl (q_d_neF h200) ?_
            refine q_Ru_seg (g2 := (40, [(1, .int col), (0, .ref 64)], [.ref 64], (q_cM (q_mA pix smp tr (q_nb p 0 dn ins) (q_fb z)) q_IM (q_mJ y pd), 34, 31630))) 1 (fun _ _ => rfl) ?_
            refine q_Ru_call (v := (some (.int 0))) (h2 := (q_cM (q_mA pix smp tr (q_nb p 0 dn ins) (q_fb z)) q_IM (q_mJ y pd), 34, 31630)) rfl rfl ?_ ?_
            · exact (by have e := q_m_picX pix smp tr p 0 dn ins z y pd col lin p1 p2 hC hM c0 c1 l0 l1 a0 a1 b0 b1 hp0 hp1 hp2 i0 i1; rw [hpic] at e; exact e.le (Nat.le_of_ble_eq_true rfl))
            show q_Ru _ _ _ (43, [(1, .int col), (0, .ref 64)], [.int 0], (q_cM (q_mA pix smp tr (q_nb p 0 dn ins) (q_fb z)) q_IM (q_mJ y pd), 34, 31630)) _
            refine q_Ru_seg (g2 := (45, [(2, .int 0), (1, .int col), (0, .ref 64)], [.ref 64], (q_cM (q_mA pix smp tr (q_nb p 0 dn ins) (q_fb z)) q_IM (q_mJ y pd), 34, 31630))) 2 (fun _ _ => rfl) ?_
            refine q_Ru_call (v := (some (.int (lin - 4)))) (h2 := (q_cM (q_mA pix smp tr (q_nb p 0 dn ins) (q_fb z)) q_IM (q_mJ y pd), 34, 31630)) rfl rfl ?_ ?_
            · refine q_Ca_of (Nat.le_of_ble_eq_true rfl) ?_
              refine q_Ru_seg (g2 := (1, [(0, .ref 64)], [.ref 64], (q_cM (q_mA pix smp tr (q_nb p 0 dn ins) (q_fb z)) q_IM (q_mJ y pd), 34, 31630))) 1 (fun _ _ => rfl) ?_
              refine q_Ru_call (v := (some (.int lin))) (h2 := (q_cM (q_mA pix smp tr (q_nb p 0 dn ins) (q_fb z)) q_IM (q_mJ y pd), 34, 31630)) rfl rfl ?_ ?_
              · refine q_Ca_of (Nat.le_of_ble_eq_true rfl) ?_
                refine q_Ru_seg (g2 := (4, [(0, .ref 64)], [.long y], (q_cM (q_mA pix smp tr (q_nb p 0 dn ins) (q_fb z)) q_IM (q_mJ y pd), 34, 31630))) 2 (fun _ _ => rfl) ?_
                refine q_Ru_seg (g2 := (13, [(0, .ref 64)], [.int (((y / 24) - (y / 24) / 40 * 40).toInt32)], (q_cM (q_mA pix smp tr (q_nb p 0 dn ins) (q_fb z)) q_IM (q_mJ y pd), 34, 31630))) 5 (fun _ _ => rfl) ?_
                rw [hM]
                exact q_Ru_ret rfl rfl
              show q_Ru _ _ _ (4, [(0, .ref 64)], [.int lin], (q_cM (q_mA pix smp tr (q_nb p 0 dn ins) (q_fb z)) q_IM (q_mJ y pd), 34, 31630)) _
              refine q_Ru_seg (g2 := (6, [(0, .ref 64)], [.int (lin - 4)], (q_cM (q_mA pix smp tr (q_nb p 0 dn ins) (q_fb z)) q_IM (q_mJ y pd), 34, 31630))) 2 (fun _ _ => rfl) ?_
              exact q_Ru_ret rfl rfl
            show q_Ru _ _ _ (48, [(2, .int 0), (1, .int col), (0, .ref 64)], [.int (lin - 4)], (q_cM (q_mA pix smp tr (q_nb p 0 dn ins) (q_fb z)) q_IM (q_mJ y pd), 34, 31630)) _
            refine q_Ru_seg (g2 := (53, [(3, .int (lin - 4)), (2, .int 0), (1, .int col), (0, .ref 64)], [.int 31, .int 0, .int (lin - 4)], (q_cM (q_mA pix smp tr (q_nb p 0 dn ins) (q_fb z)) q_IM (q_mJ y pd), 34, 31630))) 4 (fun _ _ => rfl) ?_
            refine q_Ru_call (v := (some (.int 0))) (h2 := (q_cM (q_mA pix smp tr (q_nb p 0 dn ins) (q_fb z)) q_IM (q_mJ y pd), 34, 31630)) rfl rfl ?_ ?_
            · refine q_Ca_of (Nat.le_of_ble_eq_true rfl) ?_
              refine q_Ru_seg (g2 := (2, [(0, .int (lin - 4)), (1, .int 0), (2, .int 31)], [.int 0, .int (lin - 4)], (q_cM (q_mA pix smp tr (q_nb p 0 dn ins) (q_fb z)) q_IM (q_mJ y pd), 34, 31630))) 2 (fun _ _ => rfl) ?_
              refine q_Ru_rsF (g2 := (5, [(0, .int (lin - 4)), (1, .int 0), (2, .int 31)], [], (q_cM (q_mA pix smp tr (q_nb p 0 dn ins) (q_fb z)) q_IM (q_mJ y pd), 34, 31630))) rfl rfl h210 ?_
              refine q_Ru_seg (g2 := (7, [(0, .int (lin - 4)), (1, .int 0), (2, .int 31)], [.int 31, .int (lin - 4)], (q_cM (q_mA pix smp tr (q_nb p 0 dn ins) (q_fb z)) q_IM (q_mJ y pd), 34, 31630))) 2 (fun _ _ => rfl) ?_
              refine q_Ru_rsT (g2 := (14, [(0, .int (lin - 4)), (1, .int 0), (2, .int 31)], [], (q_cM (q_mA pix smp tr (q_nb p 0 dn ins) (q_fb z)) q_IM (q_mJ y pd), 34, 31630))) rfl rfl h212 ?_
              refine q_Ru_seg (g2 := (15, [(0, .int (lin - 4)), (1, .int 0), (2, .int 31)], [.int 0], (q_cM (q_mA pix smp tr (q_nb p 0 dn ins) (q_fb z)) q_IM (q_mJ y pd), 34, 31630))) 1 (fun _ _ => rfl) ?_
              exact q_Ru_ret rfl rfl
            show q_Ru _ _ _ (56, [(3, .int (lin - 4)), (2, .int 0), (1, .int col), (0, .ref 64)], [.int 0], (q_cM (q_mA pix smp tr (q_nb p 0 dn ins) (q_fb z)) q_IM (q_mJ y pd), 34, 31630)) _
            refine q_Ru_seg (g2 := (92, [(3, .int (lin - 4)), (2, .int 0), (1, .int col), (0, .ref 64)], [.ref 64], (q_cM (q_mA pix smp tr (q_nb p 0 dn ins) (q_fb z)) q_IM (q_mJ y pd), 34, 31630))) 2 (fun _ _ => rfl) ?_
            refine q_Ru_call (v := none) (h2 := (q_cM (q_mA pix smp tr (q_nb p 0 dn ins) (q_fb z)) q_IM (q_mJ y pd), 34, 31630)) rfl rfl ?_ ?_
            · exact (q_m_times pix smp tr p 0 dn ins z y pd col lin p1 p2 hC hM c0 c1 l0 l1 a0 a1 b0 b1 hp0 hp1 hp2 i0 i1  ).le (Nat.le_of_ble_eq_true rfl)
            show q_Ru _ _ _ (95, [(3, .int (lin - 4)), (2, .int 0), (1, .int col), (0, .ref 64)], [], (q_cM (q_mA pix smp tr (q_nb p 0 dn ins) (q_fb z)) q_IM (q_mJ y pd), 34, 31630)) _
            refine q_Ru_seg (g2 := (96, [(3, .int (lin - 4)), (2, .int 0), (1, .int col), (0, .ref 64)], [.ref 64], (q_cM (q_mA pix smp tr (q_nb p 0 dn ins) (q_fb z)) q_IM (q_mJ y pd), 34, 31630))) 1 (fun _ _ => rfl) ?_
            refine q_Ru_call (v := none) (h2 := (q_cM (q_mA pix smp tr (q_nb p 0 dn ins) (q_fb z)) q_IM (q_mJ y pd), 34, 31630)) rfl rfl ?_ ?_
            · exact (q_m_winds pix smp tr p 0 dn ins z y pd col lin p1 p2 hC hM c0 c1 l0 l1 a0 a1 b0 b1 hp0 hp1 hp2 i0 i1  ).le (Nat.le_of_ble_eq_true rfl)
            show q_Ru _ _ _ (99, [(3, .int (lin - 4)), (2, .int 0), (1, .int col), (0, .ref 64)], [], (q_cM (q_mA pix smp tr (q_nb p 0 dn ins) (q_fb z)) q_IM (q_mJ y pd), 34, 31630)) _
            refine q_Ru_seg (g2 := (102, [(3, .int (lin - 4)), (2, .int 0), (1, .int col), (0, .ref 64)], [.int 23, .int col], (q_cM (q_mA pix smp tr (q_nb p 0 dn ins) (q_fb z)) q_IM (q_mJ y pd), 34, 31630))) 2 (fun _ _ => rfl) ?_
            refine q_Ru_rsF (g2 := (105, [(3, .int (lin - 4)), (2, .int 0), (1, .int col), (0, .ref 64)], [], (q_cM (q_mA pix smp tr (q_nb p 0 dn ins) (q_fb z)) q_IM (q_mJ y pd), 34, 31630))) rfl rfl (q_d_neT h213) ?_
            refine q_Ru_seg (g2 := (106, [(3, .int (lin - 4)), (2, .int 0), (1, .int col), (0, .ref 64)], [.ref 64], (q_cM (q_mA pix smp tr (q_nb p 0 dn ins) (q_fb z)) q_IM (q_mJ y pd), 34, 31630))) 1 (fun _ _ => rfl) ?_
            refine q_Ru_call (v := none) (h2 := (q_cM (q_mA pix z195a tr (q_nb p 0 dn ins) (q_fb z)) q_IM (q_mJ y pd), 34, 31630)) rfl rfl ?_ ?_
            · exact p195.le (Nat.le_of_ble_eq_true rfl)
            show q_Ru _ _ _ (109, [(3, .int (lin - 4)), (2, .int 0), (1, .int col), (0, .ref 64)], [], (q_cM (q_mA pix z195a tr (q_nb p 0 dn ins) (q_fb z)) q_IM (q_mJ y pd), 34, 31630)) _
            refine q_Ru_seg (g2 := (114, [(3, .int (lin - 4)), (2, .int 0), (1, .int col), (0, .ref 64)], [.ref 64], (q_cM (q_mA pix z195a tr (q_nb p 0 dn ins) (q_fb z)) q_IM (q_mJ y pd), 34, 31630))) 3 (fun _ _ => rfl) ?_
            refine q_Ru_call (v := none) (h2 := (q_cM (q_mA pix z195a tr (q_nb p 1 dn ins) (q_fb z)) q_IM (q_mJ y pd), 34, 31630)) rfl rfl ?_ ?_
            · exact (q_m_go0 pix z195a tr p dn ins z y pd col lin p1 p2 hC hM c0 c1 l0 l1 a0 a1 b0 b1 hp0 hp1 hp2 i0 i1  ).le (Nat.le_of_ble_eq_true rfl)
            show q_Ru _ _ _ (117, [(3, .int (lin - 4)), (2, .int 0), (1, .int col), (0, .ref 64)], [], (q_cM (q_mA pix z195a tr (q_nb p 1 dn ins) (q_fb z)) q_IM (q_mJ y pd), 34, 31630)) _
            refine q_Ru_seg (g2 := (122, [(3, .int (lin - 4)), (2, .int 0), (1, .int col), (0, .ref 64)], [.long pd, .ref 64], (q_cM (q_mA pix z195a tr (q_nb p 1 dn ins) (q_fb z)) q_IM (q_mJ y pd), 34, 31630))) 3 (fun _ _ => rfl) ?_
            refine q_Ru_seg (g2 := (140, [(3, .int (lin - 4)), (2, .int 0), (1, .int col), (0, .ref 64)], [.long y, .ref 64], (q_cM (q_mA pix z195a tr (q_nb p 1 dn ins) (q_fb z)) q_IM (q_uI (q_mJ y pd) 0 16 (pd + 0)), 34, 31630))) 8 (fun _ _ => rfl) ?_
            refine q_Ru_seg (g2 := (146, [(3, .int (lin - 4)), (2, .int 0), (1, .int col), (0, .ref 64)], [.int 0], (q_cM (q_mA pix z195a tr (q_nb p 1 dn ins) (q_fb z)) q_IM (q_uI (q_uI (q_mJ y pd) 0 16 (pd + 0)) 0 15 (y + 1)), 34, 31630))) 4 (fun _ _ => rfl) ?_
            exact q_Ru_ret rfl rfl
          | false =>
            refine ⟨pix, smp, ?_⟩
            refine q_Ca_of (Nat.le_of_ble_eq_true rfl) ?_
            refine q_Ru_seg (g2 := (4, [(0, .ref 64)], [.long y], (q_cM (q_mA pix smp tr (q_nb p 0 dn ins) (q_fb z)) q_IM (q_mJ y pd), 34, 31630))) 2 (fun _ _ => rfl) ?_
            refine q_Ru_seg (g2 := (9, [(0, .ref 64)], [.int ((y - y / 24 * 24).toInt32)], (q_cM (q_mA pix smp tr (q_nb p 0 dn ins) (q_fb z)) q_IM (q_mJ y pd), 34, 31630))) 3 (fun _ _ => rfl) ?_
            rw [hC]
            refine q_Ru_seg (g2 := (11, [(1, .int col), (0, .ref 64)], [.int col], (q_cM (q_mA pix smp tr (q_nb p 0 dn ins) (q_fb z)) q_IM (q_mJ y pd), 34, 31630))) 2 (fun _ _ => rfl) ?_
            refine q_Ru_rsF (g2 := (14, [(1, .int col), (0, .ref 64)], [], (q_cM (q_mA pix smp tr (q_nb p 0 dn ins) (q_fb z)) q_IM (q_mJ y pd), 34, 31630))) rfl rfl (q_d_neT h199) ?_
            refine q_Ru_seg (g2 := (15, [(1, .int col), (0, .ref 64)], [.ref 64], (q_cM (q_mA pix smp tr (q_nb p 0 dn ins) (q_fb z)) q_IM (q_mJ y pd), 34, 31630))) 1 (fun _ _ => rfl) ?_
            refine q_Ru_call (v := (some (.int lin))) (h2 := (q_cM (q_mA pix smp tr (q_nb p 0 dn ins) (q_fb z)) q_IM (q_mJ y pd), 34, 31630)) rfl rfl ?_ ?_
            · refine q_Ca_of (Nat.le_of_ble_eq_true rfl) ?_
              refine q_Ru_seg (g2 := (4, [(0, .ref 64)], [.long y], (q_cM (q_mA pix smp tr (q_nb p 0 dn ins) (q_fb z)) q_IM (q_mJ y pd), 34, 31630))) 2 (fun _ _ => rfl) ?_
              refine q_Ru_seg (g2 := (13, [(0, .ref 64)], [.int (((y / 24) - (y / 24) / 40 * 40).toInt32)], (q_cM (q_mA pix smp tr (q_nb p 0 dn ins) (q_fb z)) q_IM (q_mJ y pd), 34, 31630))) 5 (fun _ _ => rfl) ?_
              rw [hM]
              exact q_Ru_ret rfl rfl
            show q_Ru _ _ _ (18, [(1, .int col), (0, .ref 64)], [.int lin], (q_cM (q_mA pix smp tr (q_nb p 0 dn ins) (q_fb z)) q_IM (q_mJ y pd), 34, 31630)) _
            refine q_Ru_seg (g2 := (25, [(1, .int col), (0, .ref 64)], [.int 0, .int lin], (q_cM (q_mA pix smp tr (q_nb p 0 dn ins) (q_fb z)) q_IM (q_mJ y pd), 34, 31630))) 4 (fun _ _ => rfl) ?_
            refine q_Ru_rsT (g2 := (39, [(1, .int col), (0, .ref 64)], [], (q_cM (q_mA pix smp tr (q_nb p 0 dn ins) (q_fb z)) q_IM (q_mJ y pd), 34, 31630))) rfl rfl (q_d_neF h200) ?_
            refine q_Ru_seg (g2 := (40, [(1, .int col), (0, .ref 64)], [.ref 64], (q_cM (q_mA pix smp tr (q_nb p 0 dn ins) (q_fb z)) q_IM (q_mJ y pd), 34, 31630))) 1 (fun _ _ => rfl) ?_
            refine q_Ru_call (v := (some (.int 0))) (h2 := (q_cM (q_mA pix smp tr (q_nb p 0 dn ins) (q_fb z)) q_IM (q_mJ y pd), 34, 31630)) rfl rfl ?_ ?_
            · exact (by have e := q_m_picX pix smp tr p 0 dn ins z y pd col lin p1 p2 hC hM c0 c1 l0 l1 a0 a1 b0 b1 hp0 hp1 hp2 i0 i1; rw [hpic] at e; exact e.le (Nat.le_of_ble_eq_true rfl))
            show q_Ru _ _ _ (43, [(1, .int col), (0, .ref 64)], [.int 0], (q_cM (q_mA pix smp tr (q_nb p 0 dn ins) (q_fb z)) q_IM (q_mJ y pd), 34, 31630)) _
            refine q_Ru_seg (g2 := (45, [(2, .int 0), (1, .int col), (0, .ref 64)], [.ref 64], (q_cM (q_mA pix smp tr (q_nb p 0 dn ins) (q_fb z)) q_IM (q_mJ y pd), 34, 31630))) 2 (fun _ _ => rfl) ?_
            refine q_Ru_call (v := (some (.int (lin - 4)))) (h2 := (q_cM (q_mA pix smp tr (q_nb p 0 dn ins) (q_fb z)) q_IM (q_mJ y pd), 34, 31630)) rfl rfl ?_ ?_
            · refine q_Ca_of (Nat.le_of_ble_eq_true rfl) ?_
              refine q_Ru_seg (g2 := (1, [(0, .ref 64)], [.ref 64], (q_cM (q_mA pix smp tr (q_nb p 0 dn ins) (q_fb z)) q_IM (q_mJ y pd), 34, 31630))) 1 (fun _ _ => rfl) ?_
              refine q_Ru_call (v := (some (.int lin))) (h2 := (q_cM (q_mA pix smp tr (q_nb p 0 dn ins) (q_fb z)) q_IM (q_mJ y pd), 34, 31630)) rfl rfl ?_ ?_
              · refine q_Ca_of (Nat.le_of_ble_eq_true rfl) ?_
                refine q_Ru_seg (g2 := (4, [(0, .ref 64)], [.long y], (q_cM (q_mA pix smp tr (q_nb p 0 dn ins) (q_fb z)) q_IM (q_mJ y pd), 34, 31630))) 2 (fun _ _ => rfl) ?_
                refine q_Ru_seg (g2 := (13, [(0, .ref 64)], [.int (((y / 24) - (y / 24) / 40 * 40).toInt32)], (q_cM (q_mA pix smp tr (q_nb p 0 dn ins) (q_fb z)) q_IM (q_mJ y pd), 34, 31630))) 5 (fun _ _ => rfl) ?_
                rw [hM]
                exact q_Ru_ret rfl rfl
              show q_Ru _ _ _ (4, [(0, .ref 64)], [.int lin], (q_cM (q_mA pix smp tr (q_nb p 0 dn ins) (q_fb z)) q_IM (q_mJ y pd), 34, 31630)) _
              refine q_Ru_seg (g2 := (6, [(0, .ref 64)], [.int (lin - 4)], (q_cM (q_mA pix smp tr (q_nb p 0 dn ins) (q_fb z)) q_IM (q_mJ y pd), 34, 31630))) 2 (fun _ _ => rfl) ?_
              exact q_Ru_ret rfl rfl
            show q_Ru _ _ _ (48, [(2, .int 0), (1, .int col), (0, .ref 64)], [.int (lin - 4)], (q_cM (q_mA pix smp tr (q_nb p 0 dn ins) (q_fb z)) q_IM (q_mJ y pd), 34, 31630)) _
            refine q_Ru_seg (g2 := (53, [(3, .int (lin - 4)), (2, .int 0), (1, .int col), (0, .ref 64)], [.int 31, .int 0, .int (lin - 4)], (q_cM (q_mA pix smp tr (q_nb p 0 dn ins) (q_fb z)) q_IM (q_mJ y pd), 34, 31630))) 4 (fun _ _ => rfl) ?_
            refine q_Ru_call (v := (some (.int 0))) (h2 := (q_cM (q_mA pix smp tr (q_nb p 0 dn ins) (q_fb z)) q_IM (q_mJ y pd), 34, 31630)) rfl rfl ?_ ?_
            · refine q_Ca_of (Nat.le_of_ble_eq_true rfl) ?_
              refine q_Ru_seg (g2 := (2, [(0, .int (lin - 4)), (1, .int 0), (2, .int 31)], [.int 0, .int (lin - 4)], (q_cM (q_mA pix smp tr (q_nb p 0 dn ins) (q_fb z)) q_IM (q_mJ y pd), 34, 31630))) 2 (fun _ _ => rfl) ?_
              refine q_Ru_rsF (g2 := (5, [(0, .int (lin - 4)), (1, .int 0), (2, .int 31)], [], (q_cM (q_mA pix smp tr (q_nb p 0 dn ins) (q_fb z)) q_IM (q_mJ y pd), 34, 31630))) rfl rfl h210 ?_
              refine q_Ru_seg (g2 := (7, [(0, .int (lin - 4)), (1, .int 0), (2, .int 31)], [.int 31, .int (lin - 4)], (q_cM (q_mA pix smp tr (q_nb p 0 dn ins) (q_fb z)) q_IM (q_mJ y pd), 34, 31630))) 2 (fun _ _ => rfl) ?_
              refine q_Ru_rsT (g2 := (14, [(0, .int (lin - 4)), (1, .int 0), (2, .int 31)], [], (q_cM (q_mA pix smp tr (q_nb p 0 dn ins) (q_fb z)) q_IM (q_mJ y pd), 34, 31630))) rfl rfl h212 ?_
              refine q_Ru_seg (g2 := (15, [(0, .int (lin - 4)), (1, .int 0), (2, .int 31)], [.int 0], (q_cM (q_mA pix smp tr (q_nb p 0 dn ins) (q_fb z)) q_IM (q_mJ y pd), 34, 31630))) 1 (fun _ _ => rfl) ?_
              exact q_Ru_ret rfl rfl
            show q_Ru _ _ _ (56, [(3, .int (lin - 4)), (2, .int 0), (1, .int col), (0, .ref 64)], [.int 0], (q_cM (q_mA pix smp tr (q_nb p 0 dn ins) (q_fb z)) q_IM (q_mJ y pd), 34, 31630)) _
            refine q_Ru_seg (g2 := (92, [(3, .int (lin - 4)), (2, .int 0), (1, .int col), (0, .ref 64)], [.ref 64], (q_cM (q_mA pix smp tr (q_nb p 0 dn ins) (q_fb z)) q_IM (q_mJ y pd), 34, 31630))) 2 (fun _ _ => rfl) ?_
            refine q_Ru_call (v := none) (h2 := (q_cM (q_mA pix smp tr (q_nb p 0 dn ins) (q_fb z)) q_IM (q_mJ y pd), 34, 31630)) rfl rfl ?_ ?_
            · exact (q_m_times pix smp tr p 0 dn ins z y pd col lin p1 p2 hC hM c0 c1 l0 l1 a0 a1 b0 b1 hp0 hp1 hp2 i0 i1  ).le (Nat.le_of_ble_eq_true rfl)
            show q_Ru _ _ _ (95, [(3, .int (lin - 4)), (2, .int 0), (1, .int col), (0, .ref 64)], [], (q_cM (q_mA pix smp tr (q_nb p 0 dn ins) (q_fb z)) q_IM (q_mJ y pd), 34, 31630)) _
            refine q_Ru_seg (g2 := (96, [(3, .int (lin - 4)), (2, .int 0), (1, .int col), (0, .ref 64)], [.ref 64], (q_cM (q_mA pix smp tr (q_nb p 0 dn ins) (q_fb z)) q_IM (q_mJ y pd), 34, 31630))) 1 (fun _ _ => rfl) ?_
            refine q_Ru_call (v := none) (h2 := (q_cM (q_mA pix smp tr (q_nb p 0 dn ins) (q_fb z)) q_IM (q_mJ y pd), 34, 31630)) rfl rfl ?_ ?_
            · exact (q_m_winds pix smp tr p 0 dn ins z y pd col lin p1 p2 hC hM c0 c1 l0 l1 a0 a1 b0 b1 hp0 hp1 hp2 i0 i1  ).le (Nat.le_of_ble_eq_true rfl)
            show q_Ru _ _ _ (99, [(3, .int (lin - 4)), (2, .int 0), (1, .int col), (0, .ref 64)], [], (q_cM (q_mA pix smp tr (q_nb p 0 dn ins) (q_fb z)) q_IM (q_mJ y pd), 34, 31630)) _
            refine q_Ru_seg (g2 := (102, [(3, .int (lin - 4)), (2, .int 0), (1, .int col), (0, .ref 64)], [.int 23, .int col], (q_cM (q_mA pix smp tr (q_nb p 0 dn ins) (q_fb z)) q_IM (q_mJ y pd), 34, 31630))) 2 (fun _ _ => rfl) ?_
            refine q_Ru_rsT (g2 := (109, [(3, .int (lin - 4)), (2, .int 0), (1, .int col), (0, .ref 64)], [], (q_cM (q_mA pix smp tr (q_nb p 0 dn ins) (q_fb z)) q_IM (q_mJ y pd), 34, 31630))) rfl rfl (q_d_neF h213) ?_
            refine q_Ru_seg (g2 := (114, [(3, .int (lin - 4)), (2, .int 0), (1, .int col), (0, .ref 64)], [.ref 64], (q_cM (q_mA pix smp tr (q_nb p 0 dn ins) (q_fb z)) q_IM (q_mJ y pd), 34, 31630))) 3 (fun _ _ => rfl) ?_
            refine q_Ru_call (v := none) (h2 := (q_cM (q_mA pix smp tr (q_nb p 1 dn ins) (q_fb z)) q_IM (q_mJ y pd), 34, 31630)) rfl rfl ?_ ?_
            · exact (q_m_go0 pix smp tr p dn ins z y pd col lin p1 p2 hC hM c0 c1 l0 l1 a0 a1 b0 b1 hp0 hp1 hp2 i0 i1  ).le (Nat.le_of_ble_eq_true rfl)
            show q_Ru _ _ _ (117, [(3, .int (lin - 4)), (2, .int 0), (1, .int col), (0, .ref 64)], [], (q_cM (q_mA pix smp tr (q_nb p 1 dn ins) (q_fb z)) q_IM (q_mJ y pd), 34, 31630)) _
            refine q_Ru_seg (g2 := (122, [(3, .int (lin - 4)), (2, .int 0), (1, .int col), (0, .ref 64)], [.long pd, .ref 64], (q_cM (q_mA pix smp tr (q_nb p 1 dn ins) (q_fb z)) q_IM (q_mJ y pd), 34, 31630))) 3 (fun _ _ => rfl) ?_
            refine q_Ru_seg (g2 := (140, [(3, .int (lin - 4)), (2, .int 0), (1, .int col), (0, .ref 64)], [.long y, .ref 64], (q_cM (q_mA pix smp tr (q_nb p 1 dn ins) (q_fb z)) q_IM (q_uI (q_mJ y pd) 0 16 (pd + 0)), 34, 31630))) 8 (fun _ _ => rfl) ?_
            refine q_Ru_seg (g2 := (146, [(3, .int (lin - 4)), (2, .int 0), (1, .int col), (0, .ref 64)], [.int 0], (q_cM (q_mA pix smp tr (q_nb p 1 dn ins) (q_fb z)) q_IM (q_uI (q_uI (q_mJ y pd) 0 16 (pd + 0)) 0 15 (y + 1)), 34, 31630))) 4 (fun _ _ => rfl) ?_
            exact q_Ru_ret rfl rfl
        | false =>
          cases h214 : decide (col < 4) with
          | true =>
            have h215 : decide (col = 23) = false := q_not_tr (q_tbl1 (fun col => !decide (col = 23)) (l := 0) (n := 3) (by decide +kernel) c0 (q_hi1 h214))
            refine ⟨pix, smp, ?_⟩
            refine q_Ca_of (Nat.le_of_ble_eq_true rfl) ?_
            refine q_Ru_seg (g2 := (4, [(0, .ref 64)], [.long y], (q_cM (q_mA pix smp tr (q_nb p 0 dn ins) (q_fb z)) q_IM (q_mJ y pd), 34, 31630))) 2 (fun _ _ => rfl) ?_
            refine q_Ru_seg (g2 := (9, [(0, .ref 64)], [.int ((y - y / 24 * 24).toInt32)], (q_cM (q_mA pix smp tr (q_nb p 0 dn ins) (q_fb z)) q_IM (q_mJ y pd), 34, 31630))) 3 (fun _ _ => rfl) ?_
            rw [hC]
            refine q_Ru_seg (g2 := (11, [(1, .int col), (0, .ref 64)], [.int col], (q_cM (q_mA pix smp tr (q_nb p 0 dn ins) (q_fb z)) q_IM (q_mJ y pd), 34, 31630))) 2 (fun _ _ => rfl) ?_
            refine q_Ru_rsF (g2 := (14, [(1, .int col), (0, .ref 64)], [], (q_cM (q_mA pix smp tr (q_nb p 0 dn ins) (q_fb z)) q_IM (q_mJ y pd), 34, 31630))) rfl rfl (q_d_neT h199) ?_
            refine q_Ru_seg (g2 := (15, [(1, .int col), (0, .ref 64)], [.ref 64], (q_cM (q_mA pix smp tr (q_nb p 0 dn ins) (q_fb z)) q_IM (q_mJ y pd), 34, 31630))) 1 (fun _ _ => rfl) ?_
            refine q_Ru_call (v := (some (.int lin))) (h2 := (q_cM (q_mA pix smp tr (q_nb p 0 dn ins) (q_fb z)) q_IM (q_mJ y pd), 34, 31630)) rfl rfl ?_ ?_
            · refine q_Ca_of (Nat.le_of_ble_eq_true rfl) ?_
              refine q_Ru_seg (g2 := (4, [(0, .ref 64)], [.long y], (q_cM (q_mA pix smp tr (q_nb p 0 dn ins) (q_fb z)) q_IM (q_mJ y pd), 34, 31630))) 2 (fun _ _ => rfl) ?_
              refine q_Ru_seg (g2 := (13, [(0, .ref 64)], [.int (((y / 24) - (y / 24) / 40 * 40).toInt32)], (q_cM (q_mA pix smp tr (q_nb p 0 dn ins) (q_fb z)) q_IM (q_mJ y pd), 34, 31630))) 5 (fun _ _ => rfl) ?_
              rw [hM]
              exact q_Ru_ret rfl rfl
            show q_Ru _ _ _ (18, [(1, .int col), (0, .ref 64)], [.int lin], (q_cM (q_mA pix smp tr (q_nb p 0 dn ins) (q_fb z)) q_IM (q_mJ y pd), 34, 31630)) _
            refine q_Ru_seg (g2 := (25, [(1, .int col), (0, .ref 64)], [.int 0, .int lin], (q_cM (q_mA pix smp tr (q_nb p 0 dn ins) (q_fb z)) q_IM (q_mJ y pd), 34, 31630))) 4 (fun _ _ => rfl) ?_
            refine q_Ru_rsT (g2 := (39, [(1, .int col), (0, .ref 64)], [], (q_cM (q_mA pix smp tr (q_nb p 0 dn ins) (q_fb z)) q_IM (q_mJ y pd), 34, 31630))) rfl rfl (q_d_neF h200) ?_
            refine q_Ru_seg (g2 := (40, [(1, .int col), (0, .ref 64)], [.ref 64], (q_cM (q_mA pix smp tr (q_nb p 0 dn ins) (q_fb z)) q_IM (q_mJ y pd), 34, 31630))) 1 (fun _ _ => rfl) ?_
            refine q_Ru_call (v := (some (.int 0))) (h2 := (q_cM (q_mA pix smp tr (q_nb p 0 dn ins) (q_fb z)) q_IM (q_mJ y pd), 34, 31630)) rfl rfl ?_ ?_
            · exact (by have e := q_m_picX pix smp tr p 0 dn ins z y pd col lin p1 p2 hC hM c0 c1 l0 l1 a0 a1 b0 b1 hp0 hp1 hp2 i0 i1; rw [hpic] at e; exact e.le (Nat.le_of_ble_eq_true rfl))
            show q_Ru _ _ _ (43, [(1, .int col), (0, .ref 64)], [.int 0], (q_cM (q_mA pix smp tr (q_nb p 0 dn ins) (q_fb z)) q_IM (q_mJ y pd), 34, 31630)) _
            refine q_Ru_seg (g2 := (45, [(2, .int 0), (1, .int col), (0, .ref 64)], [.ref 64], (q_cM (q_mA pix smp tr (q_nb p 0 dn ins) (q_fb z)) q_IM (q_mJ y pd), 34, 31630))) 2 (fun _ _ => rfl) ?_
            refine q_Ru_call (v := (some (.int (lin - 4)))) (h2 := (q_cM (q_mA pix smp tr (q_nb p 0 dn ins) (q_fb z)) q_IM (q_mJ y pd), 34, 31630)) rfl rfl ?_ ?_
            · refine q_Ca_of (Nat.le_of_ble_eq_true rfl) ?_
              refine q_Ru_seg (g2 := (1, [(0, .ref 64)], [.ref 64], (q_cM (q_mA pix smp tr (q_nb p 0 dn ins) (q_fb z)) q_IM (q_mJ y pd), 34, 31630))) 1 (fun _ _ => rfl) ?_
              refine q_Ru_call (v := (some (.int lin))) (h2 := (q_cM (q_mA pix smp tr (q_nb p 0 dn ins) (q_fb z)) q_IM (q_mJ y pd), 34, 31630)) rfl rfl ?_ ?_
              · refine q_Ca_of (Nat.le_of_ble_eq_true rfl) ?_
                refine q_Ru_seg (g2 := (4, [(0, .ref 64)], [.long y], (q_cM (q_mA pix smp tr (q_nb p 0 dn ins) (q_fb z)) q_IM (q_mJ y pd), 34, 31630))) 2 (fun _ _ => rfl) ?_
                refine q_Ru_seg (g2 := (13, [(0, .ref 64)], [.int (((y / 24) - (y / 24) / 40 * 40).toInt32)], (q_cM (q_mA pix smp tr (q_nb p 0 dn ins) (q_fb z)) q_IM (q_mJ y pd), 34, 31630))) 5 (fun _ _ => rfl) ?_
                rw [hM]
                exact q_Ru_ret rfl rfl
              show q_Ru _ _ _ (4, [(0, .ref 64)], [.int lin], (q_cM (q_mA pix smp tr (q_nb p 0 dn ins) (q_fb z)) q_IM (q_mJ y pd), 34, 31630)) _
              refine q_Ru_seg (g2 := (6, [(0, .ref 64)], [.int (lin - 4)], (q_cM (q_mA pix smp tr (q_nb p 0 dn ins) (q_fb z)) q_IM (q_mJ y pd), 34, 31630))) 2 (fun _ _ => rfl) ?_
              exact q_Ru_ret rfl rfl
            show q_Ru _ _ _ (48, [(2, .int 0), (1, .int col), (0, .ref 64)], [.int (lin - 4)], (q_cM (q_mA pix smp tr (q_nb p 0 dn ins) (q_fb z)) q_IM (q_mJ y pd), 34, 31630)) _
            refine q_Ru_seg (g2 := (53, [(3, .int (lin - 4)), (2, .int 0), (1, .int col), (0, .ref 64)], [.int 31, .int 0, .int (lin - 4)], (q_cM (q_mA pix smp tr (q_nb p 0 dn ins) (q_fb z)) q_IM (q_mJ y pd), 34, 31630))) 4 (fun _ _ => rfl) ?_
            refine q_Ru_call (v := (some (.int 1))) (h2 := (q_cM (q_mA pix smp tr (q_nb p 0 dn ins) (q_fb z)) q_IM (q_mJ y pd), 34, 31630)) rfl rfl ?_ ?_
            · refine q_Ca_of (Nat.le_of_ble_eq_true rfl) ?_
              refine q_Ru_seg (g2 := (2, [(0, .int (lin - 4)), (1, .int 0), (2, .int 31)], [.int 0, .int (lin - 4)], (q_cM (q_mA pix smp tr (q_nb p 0 dn ins) (q_fb z)) q_IM (q_mJ y pd), 34, 31630))) 2 (fun _ _ => rfl) ?_
              refine q_Ru_rsF (g2 := (5, [(0, .int (lin - 4)), (1, .int 0), (2, .int 31)], [], (q_cM (q_mA pix smp tr (q_nb p 0 dn ins) (q_fb z)) q_IM (q_mJ y pd), 34, 31630))) rfl rfl h210 ?_
              refine q_Ru_seg (g2 := (7, [(0, .int (lin - 4)), (1, .int 0), (2, .int 31)], [.int 31, .int (lin - 4)], (q_cM (q_mA pix smp tr (q_nb p 0 dn ins) (q_fb z)) q_IM (q_mJ y pd), 34, 31630))) 2 (fun _ _ => rfl) ?_
              refine q_Ru_rsF (g2 := (10, [(0, .int (lin - 4)), (1, .int 0), (2, .int 31)], [], (q_cM (q_mA pix smp tr (q_nb p 0 dn ins) (q_fb z)) q_IM (q_mJ y pd), 34, 31630))) rfl rfl h212 ?_
              refine q_Ru_seg (g2 := (15, [(0, .int (lin - 4)), (1, .int 0), (2, .int 31)], [.int 1], (q_cM (q_mA pix smp tr (q_nb p 0 dn ins) (q_fb z)) q_IM (q_mJ y pd), 34, 31630))) 2 (fun _ _ => rfl) ?_
              exact q_Ru_ret rfl rfl
            show q_Ru _ _ _ (56, [(3, .int (lin - 4)), (2, .int 0), (1, .int col), (0, .ref 64)], [.int 1], (q_cM (q_mA pix smp tr (q_nb p 0 dn ins) (q_fb z)) q_IM (q_mJ y pd), 34, 31630)) _
            refine q_Ru_seg (g2 := (63, [(3, .int (lin - 4)), (2, .int 0), (1, .int col), (0, .ref 64)], [.int 19, .int 4, .int col], (q_cM (q_mA pix smp tr (q_nb p 0 dn ins) (q_fb z)) q_IM (q_mJ y pd), 34, 31630))) 4 (fun _ _ => rfl) ?_
            refine q_Ru_call (v := (some (.int 0))) (h2 := (q_cM (q_mA pix smp tr (q_nb p 0 dn ins) (q_fb z)) q_IM (q_mJ y pd), 34, 31630)) rfl rfl ?_ ?_
            · refine q_Ca_of (Nat.le_of_ble_eq_true rfl) ?_
              refine q_Ru_seg (g2 := (2, [(0, .int col), (1, .int 4), (2, .int 19)], [.int 4, .int col], (q_cM (q_mA pix smp tr (q_nb p 0 dn ins) (q_fb z)) q_IM (q_mJ y pd), 34, 31630))) 2 (fun _ _ => rfl) ?_
              refine q_Ru_rsT (g2 := (14, [(0, .int col), (1, .int 4), (2, .int 19)], [], (q_cM (q_mA pix smp tr (q_nb p 0 dn ins) (q_fb z)) q_IM (q_mJ y pd), 34, 31630))) rfl rfl h214 ?_
              refine q_Ru_seg (g2 := (15, [(0, .int col), (1, .int 4), (2, .int 19)], [.int 0], (q_cM (q_mA pix smp tr (q_nb p 0 dn ins) (q_fb z)) q_IM (q_mJ y pd), 34, 31630))) 1 (fun _ _ => rfl) ?_
              exact q_Ru_ret rfl rfl
            show q_Ru _ _ _ (66, [(3, .int (lin - 4)), (2, .int 0), (1, .int col), (0, .ref 64)], [.int 0], (q_cM (q_mA pix smp tr (q_nb p 0 dn ins) (q_fb z)) q_IM (q_mJ y pd), 34, 31630)) _
            refine q_Ru_seg (g2 := (92, [(3, .int (lin - 4)), (2, .int 0), (1, .int col), (0, .ref 64)], [.ref 64], (q_cM (q_mA pix smp tr (q_nb p 0 dn ins) (q_fb z)) q_IM (q_mJ y pd), 34, 31630))) 2 (fun _ _ => rfl) ?_
            refine q_Ru_call (v := none) (h2 := (q_cM (q_mA pix smp tr (q_nb p 0 dn ins) (q_fb z)) q_IM (q_mJ y pd), 34, 31630)) rfl rfl ?_ ?_
            · exact (q_m_times pix smp tr p 0 dn ins z y pd col lin p1 p2 hC hM c0 c1 l0 l1 a0 a1 b0 b1 hp0 hp1 hp2 i0 i1  ).le (Nat.le_of_ble_eq_true rfl)
            show q_Ru _ _ _ (95, [(3, .int (lin - 4)), (2, .int 0), (1, .int col), (0, .ref 64)], [], (q_cM (q_mA pix smp tr (q_nb p 0 dn ins) (q_fb z)) q_IM (q_mJ y pd), 34, 31630)) _
            refine q_Ru_seg (g2 := (96, [(3, .int (lin - 4)), (2, .int 0), (1, .int col), (0, .ref 64)], [.ref 64], (q_cM (q_mA pix smp tr (q_nb p 0 dn ins) (q_fb z)) q_IM (q_mJ y pd), 34, 31630))) 1 (fun _ _ => rfl) ?_
            refine q_Ru_call (v := none) (h2 := (q_cM (q_mA pix smp tr (q_nb p 0 dn ins) (q_fb z)) q_IM (q_mJ y pd), 34, 31630)) rfl rfl ?_ ?_
            · exact (q_m_winds pix smp tr p 0 dn ins z y pd col lin p1 p2 hC hM c0 c1 l0 l1 a0 a1 b0 b1 hp0 hp1 hp2 i0 i1  ).le (Nat.le_of_ble_eq_true rfl)
            show q_Ru _ _ _ (99, [(3, .int (lin - 4)), (2, .int 0), (1, .int col), (0, .ref 64)], [], (q_cM (q_mA pix smp tr (q_nb p 0 dn ins) (q_fb z)) q_IM (q_mJ y pd), 34, 31630)) _
            refine q_Ru_seg (g2 := (102, [(3, .int (lin - 4)), (2, .int 0), (1, .int col), (0, .ref 64)], [.int 23, .int col], (q_cM (q_mA pix smp tr (q_nb p 0 dn ins) (q_fb z)) q_IM (q_mJ y pd), 34, 31630))) 2 (fun _ _ => rfl) ?_
            refine q_Ru_rsT (g2 := (109, [(3, .int (lin - 4)), (2, .int 0), (1, .int col), (0, .ref 64)], [], (q_cM (q_mA pix smp tr (q_nb p 0 dn ins) (q_fb z)) q_IM (q_mJ y pd), 34, 31630))) rfl rfl (q_d_neF h215) ?_
            refine q_Ru_seg (g2 := (114, [(3, .int (lin - 4)), (2, .int 0), (1, .int col), (0, .ref 64)], [.ref 64], (q_cM (q_mA pix smp tr (q_nb p 0 dn ins) (q_fb z)) q_IM (q_mJ y pd), 34, 31630))) 3 (fun _ _ => rfl) ?_
            refine q_Ru_call (v := none) (h2 := (q_cM (q_mA pix smp tr (q_nb p 1 dn ins) (q_fb z)) q_IM (q_mJ y pd), 34, 31630)) rfl rfl ?_ ?_
            · exact (q_m_go0 pix smp tr p dn ins z y pd col lin p1 p2 hC hM c0 c1 l0 l1 a0 a1 b0 b1 hp0 hp1 hp2 i0 i1  ).le (Nat.le_of_ble_eq_true rfl)
            show q_Ru _ _ _ (117, [(3, .int (lin - 4)), (2, .int 0), (1, .int col), (0, .ref 64)], [], (q_cM (q_mA pix smp tr (q_nb p 1 dn ins) (q_fb z)) q_IM (q_mJ y pd), 34, 31630)) _
            refine q_Ru_seg (g2 := (122, [(3, .int (lin - 4)), (2, .int 0), (1, .int col), (0, .ref 64)], [.long pd, .ref 64], (q_cM (q_mA pix smp tr (q_nb p 1 dn ins) (q_fb z)) q_IM (q_mJ y pd), 34, 31630))) 3 (fun _ _ => rfl) ?_
            refine q_Ru_seg (g2 := (140, [(3, .int (lin - 4)), (2, .int 0), (1, .int col), (0, .ref 64)], [.long y, .ref 64], (q_cM (q_mA pix smp tr (q_nb p 1 dn ins) (q_fb z)) q_IM (q_uI (q_mJ y pd) 0 16 (pd + 0)), 34, 31630))) 8 (fun _ _ => rfl) ?_
            refine q_Ru_seg (g2 := (146, [(3, .int (lin - 4)), (2, .int 0), (1, .int col), (0, .ref 64)], [.int 0], (q_cM (q_mA pix smp tr (q_nb p 1 dn ins) (q_fb z)) q_IM (q_uI (q_uI (q_mJ y pd) 0 16 (pd + 0)) 0 15 (y + 1)), 34, 31630))) 4 (fun _ _ => rfl) ?_
            exact q_Ru_ret rfl rfl
          | false =>
            cases h216 : decide (19 < col) with
            | true =>
              cases h217 : decide (col = 23) with
              | true =>
                have eh217 := of_decide_eq_true h217
                subst eh217
                obtain ⟨z209a, p209⟩ := q_m_sample pix smp tr p 0 dn ins z y pd col lin p1 p2 hC hM c0 c1 l0 l1 a0 a1 b0 b1 hp0 hp1 hp2 i0 i1  
                refine ⟨pix, z209a, ?_⟩
                refine q_Ca_of (Nat.le_of_ble_eq_true rfl) ?_
                refine q_Ru_seg (g2 := (4, [(0, .ref 64)], [.long y], (q_cM (q_mA pix smp tr (q_nb p 0 dn ins) (q_fb z)) q_IM (q_mJ y pd), 34, 31630))) 2 (fun _ _ => rfl) ?_
                refine q_Ru_seg (g2 := (9, [(0, .ref 64)], [.int ((y - y / 24 * 24).toInt32)], (q_cM (q_mA pix smp tr (q_nb p 0 dn ins) (q_fb z)) q_IM (q_mJ y pd), 34, 31630))) 3 (fun _ _ => rfl) ?_
                rw [hC]
                refine q_Ru_seg (g2 := (11, [(1, .int col), (0, .ref 64)], [.int col], (q_cM (q_mA pix smp tr (q_nb p 0 dn ins) (q_fb z)) q_IM (q_mJ y pd), 34, 31630))) 2 (fun _ _ => rfl) ?_
                refine q_Ru_rsF (g2 := (14, [(1, .int col), (0, .ref 64)], [], (q_cM (q_mA pix smp tr (q_nb p 0 dn ins) (q_fb z)) q_IM (q_mJ y pd), 34, 31630))) rfl rfl (q_d_neT h199) ?_
                refine q_Ru_seg (g2 := (15, [(1, .int col), (0, .ref 64)], [.ref 64], (q_cM (q_mA pix smp tr (q_nb p 0 dn ins) (q_fb z)) q_IM (q_mJ y pd), 34, 31630))) 1 (fun _ _ => rfl) ?_
                refine q_Ru_call (v := (some (.int lin))) (h2 := (q_cM (q_mA pix smp tr (q_nb p 0 dn ins) (q_fb z)) q_IM (q_mJ y pd), 34, 31630)) rfl rfl ?_ ?_
                · refine q_Ca_of (Nat.le_of_ble_eq_true rfl) ?_
                  refine q_Ru_seg (g2 := (4, [(0, .ref 64)], [.long y], (q_cM (q_mA pix smp tr (q_nb p 0 dn ins) (q_fb z)) q_IM (q_mJ y pd), 34, 31630))) 2 (fun _ _ => rfl) ?_
                  refine q_Ru_seg (g2 := (13, [(0, .ref 64)], [.int (((y / 24) - (y / 24) / 40 * 40).toInt32)], (q_cM (q_mA pix smp tr (q_nb p 0 dn ins) (q_fb z)) q_IM (q_mJ y pd), 34, 31630))) 5 (fun _ _ => rfl) ?_
                  rw [hM]
                  exact q_Ru_ret rfl rfl
                show q_Ru _ _ _ (18, [(1, .int col), (0, .ref 64)], [.int lin], (q_cM (q_mA pix smp tr (q_nb p 0 dn ins) (q_fb z)) q_IM (q_mJ y pd), 34, 31630)) _
                refine q_Ru_seg (g2 := (25, [(1, .int col), (0, .ref 64)], [.int 0, .int lin], (q_cM (q_mA pix smp tr (q_nb p 0 dn ins) (q_fb z)) q_IM (q_mJ y pd), 34, 31630))) 4 (fun _ _ => rfl) ?_
                refine q_Ru_rsT (g2 := (39, [(1, .int col), (0, .ref 64)], [], (q_cM (q_mA pix smp tr (q_nb p 0 dn ins) (q_fb z)) q_IM (q_mJ y pd), 34, 31630))) rfl rfl (q_d_neF h200) ?_
                refine q_Ru_seg (g2 := (40, [(1, .int col), (0, .ref 64)], [.ref 64], (q_cM (q_mA pix smp tr (q_nb p 0 dn ins) (q_fb z)) q_IM (q_mJ y pd), 34, 31630))) 1 (fun _ _ => rfl) ?_
                refine q_Ru_call (v := (some (.int 0))) (h2 := (q_cM (q_mA pix smp tr (q_nb p 0 dn ins) (q_fb z)) q_IM (q_mJ y pd), 34, 31630)) rfl rfl ?_ ?_
                · exact (by have e := q_m_picX pix smp tr p 0 dn ins z y pd col lin p1 p2 hC hM c0 c1 l0 l1 a0 a1 b0 b1 hp0 hp1 hp2 i0 i1; rw [hpic] at e; exact e.le (Nat.le_of_ble_eq_true rfl))
                show q_Ru _ _ _ (43, [(1, .int col), (0, .ref 64)], [.int 0], (q_cM (q_mA pix smp tr (q_nb p 0 dn ins) (q_fb z)) q_IM (q_mJ y pd), 34, 31630)) _
                refine q_Ru_seg (g2 := (45, [(2, .int 0), (1, .int col), (0, .ref 64)], [.ref 64], (q_cM (q_mA pix smp tr (q_nb p 0 dn ins) (q_fb z)) q_IM (q_mJ y pd), 34, 31630))) 2 (fun _ _ => rfl) ?_
                refine q_Ru_call (v := (some (.int (lin - 4)))) (h2 := (q_cM (q_mA pix smp tr (q_nb p 0 dn ins) (q_fb z)) q_IM (q_mJ y pd), 34, 31630)) rfl rfl ?_ ?_
                · refine q_Ca_of (Nat.le_of_ble_eq_true rfl) ?_
                  refine q_Ru_seg (g2 := (1, [(0, .ref 64)], [.ref 64], (q_cM (q_mA pix smp tr (q_nb p 0 dn ins) (q_fb z)) q_IM (q_mJ y pd), 34, 31630))) 1 (fun _ _ => rfl) ?_
                  refine q_Ru_call (v := (some (.int lin))) (h2 := (q_cM (q_mA pix smp tr (q_nb p 0 dn ins) (q_fb z)) q_IM (q_mJ y pd), 34, 31630)) rfl rfl ?_ ?_
                  · refine q_Ca_of (Nat.le_of_ble_eq_true rfl) ?_
                    refine q_Ru_seg (g2 := (4, [(0, .ref 64)], [.long y], (q_cM (q_mA pix smp tr (q_nb p 0 dn ins) (q_fb z)) q_IM (q_mJ y pd), 34, 31630))) 2 (fun _ _ => rfl) ?_
                    refine q_Ru_seg (g2 := (13, [(0, .ref 64)], [.int (((y / 24) - (y / 24) / 40 * 40).toInt32)], (q_cM (q_mA pix smp tr (q_nb p 0 dn ins) (q_fb z)) q_IM (q_mJ y pd), 34, 31630))) 5 (fun _ _ => rfl) ?_
                    rw [hM]
                    exact q_Ru_ret rfl rfl
                  show q_Ru _ _ _ (4, [(0, .ref 64)], [.int lin], (q_cM (q_mA pix smp tr (q_nb p 0 dn ins) (q_fb z)) q_IM (q_mJ y pd), 34, 31630)) _
                  refine q_Ru_seg (g2 := (6, [(0, .ref 64)], [.int (lin - 4)], (q_cM (q_mA pix smp tr (q_nb p 0 dn ins) (q_fb z)) q_IM (q_mJ y pd), 34, 31630))) 2 (fun _ _ => rfl) ?_
                  exact q_Ru_ret rfl rfl
                show q_Ru _ _ _ (48, [(2, .int 0), (1, .int col), (0, .ref 64)], [.int (lin - 4)], (q_cM (q_mA pix smp tr (q_nb p 0 dn ins) (q_fb z)) q_IM (q_mJ y pd), 34, 31630)) _
                refine q_Ru_seg (g2 := (53, [(3, .int (lin - 4)), (2, .int 0), (1, .int col), (0, .ref 64)], [.int 31, .int 0, .int (lin - 4)], (q_cM (q_mA pix smp tr (q_nb p 0 dn ins) (q_fb z)) q_IM (q_mJ y pd), 34, 31630))) 4 (fun _ _ => rfl) ?_
                refine q_Ru_call (v := (some (.int 1))) (h2 := (q_cM (q_mA pix smp tr (q_nb p 0 dn ins) (q_fb z)) q_IM (q_mJ y pd), 34, 31630)) rfl rfl ?_ ?_
                · refine q_Ca_of (Nat.le_of_ble_eq_true rfl) ?_
                  refine q_Ru_seg (g2 := (2, [(0, .int (lin - 4)), (1, .int 0), (2, .int 31)], [.int 0, .int (lin - 4)], (q_cM (q_mA pix smp tr (q_nb p 0 dn ins) (q_fb z)) q_IM (q_mJ y pd), 34, 31630))) 2 (fun _ _ => rfl) ?_
                  refine q_Ru_rsF (g2 := (5, [(0, .int (lin - 4)), (1, .int 0), (2, .int 31)], [], (q_cM (q_mA pix smp tr (q_nb p 0 dn ins) (q_fb z)) q_IM (q_mJ y pd), 34, 31630))) rfl rfl h210 ?_
                  refine q_Ru_seg (g2 := (7, [(0, .int (lin - 4)), (1, .int 0), (2, .int 31)], [.int 31, .int (lin - 4)], (q_cM (q_mA pix smp tr (q_nb p 0 dn ins) (q_fb z)) q_IM (q_mJ y pd), 34, 31630))) 2 (fun _ _ => rfl) ?_
                  refine q_Ru_rsF (g2 := (10, [(0, .int (lin - 4)), (1, .int 0), (2, .int 31)], [], (q_cM (q_mA pix smp tr (q_nb p 0 dn ins) (q_fb z)) q_IM (q_mJ y pd), 34, 31630))) rfl rfl h212 ?_
                  refine q_Ru_seg (g2 := (15, [(0, .int (lin - 4)), (1, .int 0), (2, .int 31)], [.int 1], (q_cM (q_mA pix smp tr (q_nb p 0 dn ins) (q_fb z)) q_IM (q_mJ y pd), 34, 31630))) 2 (fun _ _ => rfl) ?_
                  exact q_Ru_ret rfl rfl
                show q_Ru _ _ _ (56, [(3, .int (lin - 4)), (2, .int 0), (1, .int col), (0, .ref 64)], [.int 1], (q_cM (q_mA pix smp tr (q_nb p 0 dn ins) (q_fb z)) q_IM (q_mJ y pd), 34, 31630)) _
                refine q_Ru_seg (g2 := (63, [(3, .int (lin - 4)), (2, .int 0), (1, .int col), (0, .ref 64)], [.int 19, .int 4, .int col], (q_cM (q_mA pix smp tr (q_nb p 0 dn ins) (q_fb z)) q_IM (q_mJ y pd), 34, 31630))) 4 (fun _ _ => rfl) ?_
                refine q_Ru_call (v := (some (.int 0))) (h2 := (q_cM (q_mA pix smp tr (q_nb p 0 dn ins) (q_fb z)) q_IM (q_mJ y pd), 34, 31630)) rfl rfl ?_ ?_
                · refine q_Ca_of (Nat.le_of_ble_eq_true rfl) ?_
                  refine q_Ru_seg (g2 := (2, [(0, .int col), (1, .int 4), (2, .int 19)], [.int 4, .int col], (q_cM (q_mA pix smp tr (q_nb p 0 dn ins) (q_fb z)) q_IM (q_mJ y pd), 34, 31630))) 2 (fun _ _ => rfl) ?_
                  refine q_Ru_rsF (g2 := (5, [(0, .int col), (1, .int 4), (2, .int 19)], [], (q_cM (q_mA pix smp tr (q_nb p 0 dn ins) (q_fb z)) q_IM (q_mJ y pd), 34, 31630))) rfl rfl h214 ?_
                  refine q_Ru_seg (g2 := (7, [(0, .int col), (1, .int 4), (2, .int 19)], [.int 19, .int col], (q_cM (q_mA pix smp tr (q_nb p 0 dn ins) (q_fb z)) q_IM (q_mJ y pd), 34, 31630))) 2 (fun _ _ => rfl) ?_
                  refine q_Ru_rsT (g2 := (14, [(0, .int col), (1, .int 4), (2, .int 19)], [], (q_cM (q_mA pix smp tr (q_nb p 0 dn ins) (q_fb z)) q_IM (q_mJ y pd), 34, 31630))) rfl rfl h216 ?_
                  refine q_Ru_seg (g2 := (15, [(0, .int col), (1, .int 4), (2, .int 19)], [.int 0], (q_cM (q_mA pix smp tr (q_nb p 0 dn ins) (q_fb z)) q_IM (q_mJ y pd), 34, 31630))) 1 (fun _ _ => rfl) ?_
                  exact q_Ru_ret rfl rfl
                show q_Ru _ _ _ (66, [(3, .int (lin - 4)), (2, .int 0), (1, .int col), (0, .ref 64)], [.int 0], (q_cM (q_mA pix smp tr (q_nb p 0 dn ins) (q_fb z)) q_IM (q_mJ y pd), 34, 31630)) _
                refine q_Ru_seg (g2 := (92, [(3, .int (lin - 4)), (2, .int 0), (1, .int col), (0, .ref 64)], [.ref 64], (q_cM (q_mA pix smp tr (q_nb p 0 dn ins) (q_fb z)) q_IM (q_mJ y pd), 34, 31630))) 2 (fun _ _ => rfl) ?_
                refine q_Ru_call (v := none) (h2 := (q_cM (q_mA pix smp tr (q_nb p 0 dn ins) (q_fb z)) q_IM (q_mJ y pd), 34, 31630)) rfl rfl ?_ ?_
                · exact (q_m_times pix smp tr p 0 dn ins z y pd col lin p1 p2 hC hM c0 c1 l0 l1 a0 a1 b0 b1 hp0 hp1 hp2 i0 i1  ).le (Nat.le_of_ble_eq_true rfl)
                show q_Ru _ _ _ (95, [(3, .int (lin - 4)), (2, .int 0), (1, .int col), (0, .ref 64)], [], (q_cM (q_mA pix smp tr (q_nb p 0 dn ins) (q_fb z)) q_IM (q_mJ y pd), 34, 31630)) _
                refine q_Ru_seg (g2 := (96, [(3, .int (lin - 4)), (2, .int 0), (1, .int col), (0, .ref 64)], [.ref 64], (q_cM (q_mA pix smp tr (q_nb p 0 dn ins) (q_fb z)) q_IM (q_mJ y pd), 34, 31630))) 1 (fun _ _ => rfl) ?_
                refine q_Ru_call (v := none) (h2 := (q_cM (q_mA pix smp tr (q_nb p 0 dn ins) (q_fb z)) q_IM (q_mJ y pd), 34, 31630)) rfl rfl ?_ ?_
                · exact (q_m_winds pix smp tr p 0 dn ins z y pd col lin p1 p2 hC hM c0 c1 l0 l1 a0 a1 b0 b1 hp0 hp1 hp2 i0 i1  ).le (Nat.le_of_ble_eq_true rfl)
                show q_Ru _ _ _ (99, [(3, .int (lin - 4)), (2, .int 0), (1, .int col), (0, .ref 64)], [], (q_cM (q_mA pix smp tr (q_nb p 0 dn ins) (q_fb z)) q_IM (q_mJ y pd), 34, 31630)) _
                refine q_Ru_seg (g2 := (102, [(3, .int (lin - 4)), (2, .int 0), (1, .int col), (0, .ref 64)], [.int 23, .int col], (q_cM (q_mA pix smp tr (q_nb p 0 dn ins) (q_fb z)) q_IM (q_mJ y pd), 34, 31630))) 2 (fun _ _ => rfl) ?_
                refine q_Ru_rsF (g2 := (105, [(3, .int (lin - 4)), (2, .int 0), (1, .int col), (0, .ref 64)], [], (q_cM (q_mA pix smp tr (q_nb p 0 dn ins) (q_fb z)) q_IM (q_mJ y pd), 34, 31630))) rfl rfl (q_d_neT h217) ?_
                refine q_Ru_seg (g2 := (106, [(3, .int (lin - 4)), (2, .int 0), (1, .int col), (0, .ref 64)], [.ref 64], (q_cM (q_mA pix smp tr (q_nb p 0 dn ins) (q_fb z)) q_IM (q_mJ y pd), 34, 31630))) 1 (fun _ _ => rfl) ?_
                refine q_Ru_call (v := none) (h2 := (q_cM (q_mA pix z209a tr (q_nb p 0 dn ins) (q_fb z)) q_IM (q_mJ y pd), 34, 31630)) rfl rfl ?_ ?_
                · exact p209.le (Nat.le_of_ble_eq_true rfl)
                show q_Ru _ _ _ (109, [(3, .int (lin - 4)), (2, .int 0), (1, .int col), (0, .ref 64)], [], (q_cM (q_mA pix z209a tr (q_nb p 0 dn ins) (q_fb z)) q_IM (q_mJ y pd), 34, 31630)) _
                refine q_Ru_seg (g2 := (114, [(3, .int (lin - 4)), (2, .int 0), (1, .int col), (0, .ref 64)], [.ref 64], (q_cM (q_mA pix z209a tr (q_nb p 0 dn ins) (q_fb z)) q_IM (q_mJ y pd), 34, 31630))) 3 (fun _ _ => rfl) ?_
                refine q_Ru_call (v := none) (h2 := (q_cM (q_mA pix z209a tr (q_nb p 1 dn ins) (q_fb z)) q_IM (q_mJ y pd), 34, 31630)) rfl rfl ?_ ?_
                · exact (q_m_go0 pix z209a tr p dn ins z y pd col lin p1 p2 hC hM c0 c1 l0 l1 a0 a1 b0 b1 hp0 hp1 hp2 i0 i1  ).le (Nat.le_of_ble_eq_true rfl)
                show q_Ru _ _ _ (117, [(3, .int (lin - 4)), (2, .int 0), (1, .int col), (0, .ref 64)], [], (q_cM (q_mA pix z209a tr (q_nb p 1 dn ins) (q_fb z)) q_IM (q_mJ y pd), 34, 31630)) _
                refine q_Ru_seg (g2 := (122, [(3, .int (lin - 4)), (2, .int 0), (1, .int col), (0, .ref 64)], [.long pd, .ref 64], (q_cM (q_mA pix z209a tr (q_nb p 1 dn ins) (q_fb z)) q_IM (q_mJ y pd), 34, 31630))) 3 (fun _ _ => rfl) ?_
                refine q_Ru_seg (g2 := (140, [(3, .int (lin - 4)), (2, .int 0), (1, .int col), (0, .ref 64)], [.long y, .ref 64], (q_cM (q_mA pix z209a tr (q_nb p 1 dn ins) (q_fb z)) q_IM (q_uI (q_mJ y pd) 0 16 (pd + 0)), 34, 31630))) 8 (fun _ _ => rfl) ?_
                refine q_Ru_seg (g2 := (146, [(3, .int (lin - 4)), (2, .int 0), (1, .int col), (0, .ref 64)], [.int 0], (q_cM (q_mA pix z209a tr (q_nb p 1 dn ins) (q_fb z)) q_IM (q_uI (q_uI (q_mJ y pd) 0 16 (pd + 0)) 0 15 (y + 1)), 34, 31630))) 4 (fun _ _ => rfl) ?_
                exact q_Ru_ret rfl rfl
              | false =>
                refine ⟨pix, smp, ?_⟩
                refine q_Ca_of (Nat.le_of_ble_eq_true rfl) ?_
                refine q_Ru_seg (g2 := (4, [(0, .ref 64)], [.long y], (q_cM (q_mA pix smp tr (q_nb p 0 dn ins) (q_fb z)) q_IM (q_mJ y pd), 34, 31630))) 2 (fun _ _ => rfl) ?_
                refine q_Ru_seg (g2 := (9, [(0, .ref 64)], [.int ((y - y / 24 * 24).toInt32)], (q_cM (q_mA pix smp tr (q_nb p 0 dn ins) (q_fb z)) q_IM (q_mJ y pd), 34, 31630))) 3 (fun _ _ => rfl) ?_
                rw [hC]
                refine q_Ru_seg (g2 := (11, [(1, .int col), (0, .ref 64)], [.int col], (q_cM (q_mA pix smp tr (q_nb p 0 dn ins) (q_fb z)) q_IM (q_mJ y pd), 34, 31630))) 2 (fun _ _ => rfl) ?_
                refine q_Ru_rsF (g2 := (14, [(1, .int col), (0, .ref 64)], [], (q_cM (q_mA pix smp tr (q_nb p 0 dn ins) (q_fb z)) q_IM (q_mJ y pd), 34, 31630))) rfl rfl (q_d_neT h199) ?_
                refine q_Ru_seg (g2 := (15, [(1, .int col), (0, .ref 64)], [.ref 64], (q_cM (q_mA pix smp tr (q_nb p 0 dn ins) (q_fb z)) q_IM (q_mJ y pd), 34, 31630))) 1 (fun _ _ => rfl) ?_
                refine q_Ru_call (v := (some (.int lin))) (h2 := (q_cM (q_mA pix smp tr (q_nb p 0 dn ins) (q_fb z)) q_IM (q_mJ y pd), 34, 31630)) rfl rfl ?_ ?_
                · refine q_Ca_of (Nat.le_of_ble_eq_true rfl) ?_
                  refine q_Ru_seg (g2 := (4, [(0, .ref 64)], [.long y], (q_cM (q_mA pix smp tr (q_nb p 0 dn ins) (q_fb z)) q_IM (q_mJ y pd), 34, 31630))) 2 (fun _ _ => rfl) ?_
                  refine q_Ru_seg (g2 := (13, [(0, .ref 64)], [.int (((y / 24) - (y / 24) / 40 * 40).toInt32)], (q_cM (q_mA pix smp tr (q_nb p 0 dn ins) (q_fb z)) q_IM (q_mJ y pd), 34, 31630))) 5 (fun _ _ => rfl) ?_
                  rw [hM]
                  exact q_Ru_ret rfl rfl
                show q_Ru _ _ _ (18, [(1, .int col), (0, .ref 64)], [.int lin], (q_cM (q_mA pix smp tr (q_nb p 0 dn ins) (q_fb z)) q_IM (q_mJ y pd), 34, 31630)) _
                refine q_Ru_seg (g2 := (25, [(1, .int col), (0, .ref 64)], [.int 0, .int lin], (q_cM (q_mA pix smp tr (q_nb p 0 dn ins) (q_fb z)) q_IM (q_mJ y pd), 34, 31630))) 4 (fun _ _ => rfl) ?_
                refine q_Ru_rsT (g2 := (39, [(1, .int col), (0, .ref 64)], [], (q_cM (q_mA pix smp tr (q_nb p 0 dn ins) (q_fb z)) q_IM (q_mJ y pd), 34, 31630))) rfl rfl (q_d_neF h200) ?_
                refine q_Ru_seg (g2 := (40, [(1, .int col), (0, .ref 64)], [.ref 64], (q_cM (q_mA pix smp tr (q_nb p 0 dn ins) (q_fb z)) q_IM (q_mJ y pd), 34, 31630))) 1 (fun _ _ => rfl) ?_
                refine q_Ru_call (v := (some (.int 0))) (h2 := (q_cM (q_mA pix smp tr (q_nb p 0 dn ins) (q_fb z)) q_IM (q_mJ y pd), 34, 31630)) rfl rfl ?_ ?_
                · exact (by have e := q_m_picX pix smp tr p 0 dn ins z y pd col lin p1 p2 hC hM c0 c1 l0 l1 a0 a1 b0 b1 hp0 hp1 hp2 i0 i1; rw [hpic] at e; exact e.le (Nat.le_of_ble_eq_true rfl))
                show q_Ru _ _ _ (43, [(1, .int col), (0, .ref 64)], [.int 0], (q_cM (q_mA pix smp tr (q_nb p 0 dn ins) (q_fb z)) q_IM (q_mJ y pd), 34, 31630)) _
                refine q_Ru_seg (g2 := (45, [(2, .int 0), (1, .int col), (0, .ref 64)], [.ref 64], (q_cM (q_mA pix smp tr (q_nb p 0 dn ins) (q_fb z)) q_IM (q_mJ y pd), 34, 31630))) 2 (fun _ _ => rfl) ?_
                refine q_Ru_call (v := (some (.int (lin - 4)))) (h2 := (q_cM (q_mA pix smp tr (q_nb p 0 dn ins) (q_fb z)) q_IM (q_mJ y pd), 34, 31630)) rfl rfl ?_ ?_
                · refine q_Ca_of (Nat.le_of_ble_eq_true rfl) ?_
                  refine q_Ru_seg (g2 := (1, [(0, .ref 64)], [.ref 64], (q_cM (q_mA pix smp tr (q_nb p 0 dn ins) (q_fb z)) q_IM (q_mJ y pd), 34, 31630))) 1 (fun _ _ => rfl) ?_
                  refine q_Ru_call (v := (some (.int lin))) (h2 := (q_cM (q_mA pix smp tr (q_nb p 0 dn ins) (q_fb z)) q_IM (q_mJ y pd), 34, 31630)) rfl rfl ?_ ?_
                  · refine q_Ca_of (Nat.le_of_ble_eq_true rfl) ?_
                    refine q_Ru_seg (g2 := (4, [(0, .ref 64)], [.long y], (q_cM (q_mA pix smp tr (q_nb p 0 dn ins) (q_fb z)) q_IM (q_mJ y pd), 34, 31630))) 2 (fun _ _ => rfl) ?_
                    refine q_Ru_seg (g2 := (13, [(0, .ref 64)], [.int (((y / 24) - (y / 24) / 40 * 40).toInt32)], (q_cM (q_mA pix smp tr (q_nb p 0 dn ins) (q_fb z)) q_IM (q_mJ y pd), 34, 31630))) 5 (fun _ _ => rfl) ?_
                    rw [hM]
                    exact q_Ru_ret rfl rfl
                  show q_Ru _ _ _ (4, [(0, .ref 64)], [.int lin], (q_cM (q_mA pix smp tr (q_nb p 0 dn ins) (q_fb z)) q_IM (q_mJ y pd), 34, 31630)) _
                  refine q_Ru_seg (g2 := (6, [(0, .ref 64)], [.int (lin - 4)], (q_cM (q_mA pix smp tr (q_nb p 0 dn ins) (q_fb z)) q_IM (q_mJ y pd), 34, 31630))) 2 (fun _ _ => rfl) ?_
                  exact q_Ru_ret rfl rfl
                show q_Ru _ _ _ (48, [(2, .int 0), (1, .int col), (0, .ref 64)], [.int (lin - 4)], (q_cM (q_mA pix smp tr (q_nb p 0 dn ins) (q_fb z)) q_IM (q_mJ y pd), 34, 31630)) _
                refine q_Ru_seg (g2 := (53, [(3, .int (lin - 4)), (2, .int 0), (1, .int col), (0, .ref 64)], [.int 31, .int 0, .int (lin - 4)], (q_cM (q_mA pix smp tr (q_nb p 0 dn ins) (q_fb z)) q_IM (q_mJ y pd), 34, 31630))) 4 (fun _ _ => rfl) ?_
                refine q_Ru_call (v := (some (.int 1))) (h2 := (q_cM (q_mA pix smp tr (q_nb p 0 dn ins) (q_fb z)) q_IM (q_mJ y pd), 34, 31630)) rfl rfl ?_ ?_
                · refine q_Ca_of (Nat.le_of_ble_eq_true rfl) ?_
                  refine q_Ru_seg (g2 := (2, [(0, .int (lin - 4)), (1, .int 0), (2, .int 31)], [.int 0, .int (lin - 4)], (q_cM (q_mA pix smp tr (q_nb p 0 dn ins) (q_fb z)) q_IM (q_mJ y pd), 34, 31630))) 2 (fun _ _ => rfl) ?_
                  refine q_Ru_rsF (g2 := (5, [(0, .int (lin - 4)), (1, .int 0), (2, .int 31)], [], (q_cM (q_mA pix smp tr (q_nb p 0 dn ins) (q_fb z)) q_IM (q_mJ y pd), 34, 31630))) rfl rfl h210 ?_
                  refine q_Ru_seg (g2 := (7, [(0, .int (lin - 4)), (1, .int 0), (2, .int 31)], [.int 31, .int (lin - 4)], (q_cM (q_mA pix smp tr (q_nb p 0 dn ins) (q_fb z)) q_IM (q_mJ y pd), 34, 31630))) 2 (fun _ _ => rfl) ?_
                  refine q_Ru_rsF (g2 := (10, [(0, .int (lin - 4)), (1, .int 0), (2, .int 31)], [], (q_cM (q_mA pix smp tr (q_nb p 0 dn ins) (q_fb z)) q_IM (q_mJ y pd), 34, 31630))) rfl rfl h212 ?_
                  refine q_Ru_seg (g2 := (15, [(0, .int (lin - 4)), (1, .int 0), (2, .int 31)], [.int 1], (q_cM (q_mA pix smp tr (q_nb p 0 dn ins) (q_fb z)) q_IM (q_mJ y pd), 34, 31630))) 2 (fun _ _ => rfl) ?_
                  exact q_Ru_ret rfl rfl
                show q_Ru _ _ _ (56, [(3, .int (lin - 4)), (2, .int 0), (1, .int col), (0, .ref 64)], [.int 1], (q_cM (q_mA pix smp tr (q_nb p 0 dn ins) (q_fb z)) q_IM (q_mJ y pd), 34, 31630)) _
                refine q_Ru_seg (g2 := (63, [(3, .int (lin - 4)), (2, .int 0), (1, .int col), (0, .ref 64)], [.int 19, .int 4, .int col], (q_cM (q_mA pix smp tr (q_nb p 0 dn ins) (q_fb z)) q_IM (q_mJ y pd), 34, 31630))) 4 (fun _ _ => rfl) ?_
                refine q_Ru_call (v := (some (.int 0))) (h2 := (q_cM (q_mA pix smp tr (q_nb p 0 dn ins) (q_fb z)) q_IM (q_mJ y pd), 34, 31630)) rfl rfl ?_ ?_
                · refine q_Ca_of (Nat.le_of_ble_eq_true rfl) ?_
                  refine q_Ru_seg (g2 := (2, [(0, .int col), (1, .int 4), (2, .int 19)], [.int 4, .int col], (q_cM (q_mA pix smp tr (q_nb p 0 dn ins) (q_fb z)) q_IM (q_mJ y pd), 34, 31630))) 2 (fun _ _ => rfl) ?_
                  refine q_Ru_rsF (g2 := (5, [(0, .int col), (1, .int 4), (2, .int 19)], [], (q_cM (q_mA pix smp tr (q_nb p 0 dn ins) (q_fb z)) q_IM (q_mJ y pd), 34, 31630))) rfl rfl h214 ?_
                  refine q_Ru_seg (g2 := (7, [(0, .int col), (1, .int 4), (2, .int 19)], [.int 19, .int col], (q_cM (q_mA pix smp tr (q_nb p 0 dn ins) (q_fb z)) q_IM (q_mJ y pd), 34, 31630))) 2 (fun _ _ => rfl) ?_
                  refine q_Ru_rsT (g2 := (14, [(0, .int col), (1, .int 4), (2, .int 19)], [], (q_cM (q_mA pix smp tr (q_nb p 0 dn ins) (q_fb z)) q_IM (q_mJ y pd), 34, 31630))) rfl rfl h216 ?_
                  refine q_Ru_seg (g2 := (15, [(0, .int col), (1, .int 4), (2, .int 19)], [.int 0], (q_cM (q_mA pix smp tr (q_nb p 0 dn ins) (q_fb z)) q_IM (q_mJ y pd), 34, 31630))) 1 (fun _ _ => rfl) ?_
                  exact q_Ru_ret rfl rfl
                show q_Ru _ _ _ (66, [(3, .int (lin - 4)), (2, .int 0), (1, .int col), (0, .ref 64)], [.int 0], (q_cM (q_mA pix smp tr (q_nb p 0 dn ins) (q_fb z)) q_IM (q_mJ y pd), 34, 31630)) _
                refine q_Ru_seg (g2 := (92, [(3, .int (lin - 4)), (2, .int 0), (1, .int col), (0, .ref 64)], [.ref 64], (q_cM (q_mA pix smp tr (q_nb p 0 dn ins) (q_fb z)) q_IM (q_mJ y pd), 34, 31630))) 2 (fun _ _ => rfl) ?_
                refine q_Ru_call (v := none) (h2 := (q_cM (q_mA pix smp tr (q_nb p 0 dn ins) (q_fb z)) q_IM (q_mJ y pd), 34, 31630)) rfl rfl ?_ ?_
                · exact (q_m_times pix smp tr p 0 dn ins z y pd col lin p1 p2 hC hM c0 c1 l0 l1 a0 a1 b0 b1 hp0 hp1 hp2 i0 i1  ).le (Nat.le_of_ble_eq_true rfl)
                show q_Ru _ _ _ (95, [(3, .int (lin - 4)), (2, .int 0), (1, .int col), (0, .ref 64)], [], (q_cM (q_mA pix smp tr (q_nb p 0 dn ins) (q_fb z)) q_IM (q_mJ y pd), 34, 31630)) _
                refine q_Ru_seg (g2 := (96, [(3, .int (lin - 4)), (2, .int 0), (1, .int col), (0, .ref 64)], [.ref 64], (q_cM (q_mA pix smp tr (q_nb p 0 dn ins) (q_fb z)) q_IM (q_mJ y pd), 34, 31630))) 1 (fun _ _ => rfl) ?_
                refine q_Ru_call (v := none) (h2 := (q_cM (q_mA pix smp tr (q_nb p 0 dn ins) (q_fb z)) q_IM (q_mJ y pd), 34, 31630)) rfl rfl ?_ ?_
                · exact (q_m_winds pix smp tr p 0 dn ins z y pd col lin p1 p2 hC hM c0 c1 l0 l1 a0 a1 b0 b1 hp0 hp1 hp2 i0 i1  ).le (Nat.le_of_ble_eq_true rfl)
                show q_Ru _ _ _ (99, [(3, .int (lin - 4)), (2, .int 0), (1, .int col), (0, .ref 64)], [], (q_cM (q_mA pix smp tr (q_nb p 0 dn ins) (q_fb z)) q_IM (q_mJ y pd), 34, 31630)) _
                refine q_Ru_seg (g2 := (102, [(3, .int (lin - 4)), (2, .int 0), (1, .int col), (0, .ref 64)], [.int 23, .int col], (q_cM (q_mA pix smp tr (q_nb p 0 dn ins) (q_fb z)) q_IM (q_mJ y pd), 34, 31630))) 2 (fun _ _ => rfl) ?_
                refine q_Ru_rsT (g2 := (109, [(3, .int (lin - 4)), (2, .int 0), (1, .int col), (0, .ref 64)], [], (q_cM (q_mA pix smp tr (q_nb p 0 dn ins) (q_fb z)) q_IM (q_mJ y pd), 34, 31630))) rfl rfl (q_d_neF h217) ?_
                refine q_Ru_seg (g2 := (114, [(3, .int (lin - 4)), (2, .int 0), (1, .int col), (0, .ref 64)], [.ref 64], (q_cM (q_mA pix smp tr (q_nb p 0 dn ins) (q_fb z)) q_IM (q_mJ y pd), 34, 31630))) 3 (fun _ _ => rfl) ?_
                refine q_Ru_call (v := none) (h2 := (q_cM (q_mA pix smp tr (q_nb p 1 dn ins) (q_fb z)) q_IM (q_mJ y pd), 34, 31630)) rfl rfl ?_ ?_
                · exact (q_m_go0 pix smp tr p dn ins z y pd col lin p1 p2 hC hM c0 c1 l0 l1 a0 a1 b0 b1 hp0 hp1 hp2 i0 i1  ).le (Nat.le_of_ble_eq_true rfl)
                show q_Ru _ _ _ (117, [(3, .int (lin - 4)), (2, .int 0), (1, .int col), (0, .ref 64)], [], (q_cM (q_mA pix smp tr (q_nb p 1 dn ins) (q_fb z)) q_IM (q_mJ y pd), 34, 31630)) _
                refine q_Ru_seg (g2 := (122, [(3, .int (lin - 4)), (2, .int 0), (1, .int col), (0, .ref 64)], [.long pd, .ref 64], (q_cM (q_mA pix smp tr (q_nb p 1 dn ins) (q_fb z)) q_IM (q_mJ y pd), 34, 31630))) 3 (fun _ _ => rfl) ?_
                refine q_Ru_seg (g2 := (140, [(3, .int (lin - 4)), (2, .int 0), (1, .int col), (0, .ref 64)], [.long y, .ref 64], (q_cM (q_mA pix smp tr (q_nb p 1 dn ins) (q_fb z)) q_IM (q_uI (q_mJ y pd) 0 16 (pd + 0)), 34, 31630))) 8 (fun _ _ => rfl) ?_
                refine q_Ru_seg (g2 := (146, [(3, .int (lin - 4)), (2, .int 0), (1, .int col), (0, .ref 64)], [.int 0], (q_cM (q_mA pix smp tr (q_nb p 1 dn ins) (q_fb z)) q_IM (q_uI (q_uI (q_mJ y pd) 0 16 (pd + 0)) 0 15 (y + 1)), 34, 31630))) 4 (fun _ _ => rfl) ?_
                exact q_Ru_ret rfl rfl
            | false =>
              have h218 : decide (col = 23) = false := q_not_tr (q_tbl1 (fun col => !decide (col = 23)) (l := 4) (n := 15) (by decide +kernel) (q_lo1 h214) (q_hi2 h216))
              obtain ⟨x218, p218⟩ := q_m_draws pix smp tr p 0 dn ins z y pd ((2 * col) - 8) (lin - 4) (of_decide_eq_true (q_tbl1 (fun col => decide (0 ≤ ((2 * col) - 8).toInt ∧ ((2 * col) - 8).toInt ≤ 31)) (l := 4) (n := 15) (by decide +kernel) (q_lo1 h214) (q_hi2 h216))).1 (of_decide_eq_true (q_tbl1 (fun col => decide (0 ≤ ((2 * col) - 8).toInt ∧ ((2 * col) - 8).toInt ≤ 31)) (l := 4) (n := 15) (by decide +kernel) (q_lo1 h214) (q_hi2 h216))).2 (of_decide_eq_true (q_tbl1 (fun lin => decide (0 ≤ (lin - 4).toInt ∧ (lin - 4).toInt ≤ 31)) (l := 4) (n := 31) (by decide +kernel) (q_sub_lo 4 (q_lo1 h210) l0 l1) (q_sub_hi 35 (q_hi2 h212) (q_sub_lo 4 (q_lo1 h210) l0 l1) l1))).1 (of_decide_eq_true (q_tbl1 (fun lin => decide (0 ≤ (lin - 4).toInt ∧ (lin - 4).toInt ≤ 31)) (l := 4) (n := 31) (by decide +kernel) (q_sub_lo 4 (q_lo1 h210) l0 l1) (q_sub_hi 35 (q_hi2 h212) (q_sub_lo 4 (q_lo1 h210) l0 l1) l1))).2
              obtain ⟨x219, p219⟩ := q_m_draws x218 smp tr p 0 dn ins z y pd ((2 * col) - 7) (lin - 4) (of_decide_eq_true (q_tbl1 (fun col => decide (0 ≤ ((2 * col) - 7).toInt ∧ ((2 * col) - 7).toInt ≤ 31)) (l := 4) (n := 15) (by decide +kernel) (q_lo1 h214) (q_hi2 h216))).1 (of_decide_eq_true (q_tbl1 (fun col => decide (0 ≤ ((2 * col) - 7).toInt ∧ ((2 * col) - 7).toInt ≤ 31)) (l := 4) (n := 15) (by decide +kernel) (q_lo1 h214) (q_hi2 h216))).2 (of_decide_eq_true (q_tbl1 (fun lin => decide (0 ≤ (lin - 4).toInt ∧ (lin - 4).toInt ≤ 31)) (l := 4) (n := 31) (by decide +kernel) (q_sub_lo 4 (q_lo1 h210) l0 l1) (q_sub_hi 35 (q_hi2 h212) (q_sub_lo 4 (q_lo1 h210) l0 l1) l1))).1 (of_decide_eq_true (q_tbl1 (fun lin => decide (0 ≤ (lin - 4).toInt ∧ (lin - 4).toInt ≤ 31)) (l := 4) (n := 31) (by decide +kernel) (q_sub_lo 4 (q_lo1 h210) l0 l1) (q_sub_hi 35 (q_hi2 h212) (q_sub_lo 4 (q_lo1 h210) l0 l1) l1))).2
              refine ⟨x219, smp, ?_⟩
              refine q_Ca_of (Nat.le_of_ble_eq_true rfl) ?_
              refine q_Ru_seg (g2 := (4, [(0, .ref 64)], [.long y], (q_cM (q_mA pix smp tr (q_nb p 0 dn ins) (q_fb z)) q_IM (q_mJ y pd), 34, 31630))) 2 (fun _ _ => rfl) ?_
              refine q_Ru_seg (g2 := (9, [(0, .ref 64)], [.int ((y - y / 24 * 24).toInt32)], (q_cM (q_mA pix smp tr (q_nb p 0 dn ins) (q_fb z)) q_IM (q_mJ y pd), 34, 31630))) 3 (fun _ _ => rfl) ?_
              rw [hC]
              refine q_Ru_seg (g2 := (11, [(1, .int col), (0, .ref 64)], [.int col], (q_cM (q_mA pix smp tr (q_nb p 0 dn ins) (q_fb z)) q_IM (q_mJ y pd), 34, 31630))) 2 (fun _ _ => rfl) ?_
              refine q_Ru_rsF (g2 := (14, [(1, .int col), (0, .ref 64)], [], (q_cM (q_mA pix smp tr (q_nb p 0 dn ins) (q_fb z)) q_IM (q_mJ y pd), 34, 31630))) rfl rfl (q_d_neT h199) ?_
              refine q_Ru_seg (g2 := (15, [(1, .int col), (0, .ref 64)], [.ref 64], (q_cM (q_mA pix smp tr (q_nb p 0 dn ins) (q_fb z)) q_IM (q_mJ y pd), 34, 31630))) 1 (fun _ _ => rfl) ?_
              refine q_Ru_call (v := (some (.int lin))) (h2 := (q_cM (q_mA pix smp tr (q_nb p 0 dn ins) (q_fb z)) q_IM (q_mJ y pd), 34, 31630)) rfl rfl ?_ ?_
              · refine q_Ca_of (Nat.le_of_ble_eq_true rfl) ?_
                refine q_Ru_seg (g2 := (4, [(0, .ref 64)], [.long y], (q_cM (q_mA pix smp tr (q_nb p 0 dn ins) (q_fb z)) q_IM (q_mJ y pd), 34, 31630))) 2 (fun _ _ => rfl) ?_
                refine q_Ru_seg (g2 := (13, [(0, .ref 64)], [.int (((y / 24) - (y / 24) / 40 * 40).toInt32)], (q_cM (q_mA pix smp tr (q_nb p 0 dn ins) (q_fb z)) q_IM (q_mJ y pd), 34, 31630))) 5 (fun _ _ => rfl) ?_
                rw [hM]
                exact q_Ru_ret rfl rfl
              show q_Ru _ _ _ (18, [(1, .int col), (0, .ref 64)], [.int lin], (q_cM (q_mA pix smp tr (q_nb p 0 dn ins) (q_fb z)) q_IM (q_mJ y pd), 34, 31630)) _
              refine q_Ru_seg (g2 := (25, [(1, .int col), (0, .ref 64)], [.int 0, .int lin], (q_cM (q_mA pix smp tr (q_nb p 0 dn ins) (q_fb z)) q_IM (q_mJ y pd), 34, 31630))) 4 (fun _ _ => rfl) ?_
              refine q_Ru_rsT (g2 := (39, [(1, .int col), (0, .ref 64)], [], (q_cM (q_mA pix smp tr (q_nb p 0 dn ins) (q_fb z)) q_IM (q_mJ y pd), 34, 31630))) rfl rfl (q_d_neF h200) ?_
              refine q_Ru_seg (g2 := (40, [(1, .int col), (0, .ref 64)], [.ref 64], (q_cM (q_mA pix smp tr (q_nb p 0 dn ins) (q_fb z)) q_IM (q_mJ y pd), 34, 31630))) 1 (fun _ _ => rfl) ?_
              refine q_Ru_call (v := (some (.int 0))) (h2 := (q_cM (q_mA pix smp tr (q_nb p 0 dn ins) (q_fb z)) q_IM (q_mJ y pd), 34, 31630)) rfl rfl ?_ ?_
              · exact (by have e := q_m_picX pix smp tr p 0 dn ins z y pd col lin p1 p2 hC hM c0 c1 l0 l1 a0 a1 b0 b1 hp0 hp1 hp2 i0 i1; rw [hpic] at e; exact e.le (Nat.le_of_ble_eq_true rfl))
              show q_Ru _ _ _ (43, [(1, .int col), (0, .ref 64)], [.int 0], (q_cM (q_mA pix smp tr (q_nb p 0 dn ins) (q_fb z)) q_IM (q_mJ y pd), 34, 31630)) _
              refine q_Ru_seg (g2 := (45, [(2, .int 0), (1, .int col), (0, .ref 64)], [.ref 64], (q_cM (q_mA pix smp tr (q_nb p 0 dn ins) (q_fb z)) q_IM (q_mJ y pd), 34, 31630))) 2 (fun _ _ => rfl) ?_
              refine q_Ru_call (v := (some (.int (lin - 4)))) (h2 := (q_cM (q_mA pix smp tr (q_nb p 0 dn ins) (q_fb z)) q_IM (q_mJ y pd), 34, 31630)) rfl rfl ?_ ?_
              · refine q_Ca_of (Nat.le_of_ble_eq_true rfl) ?_
                refine q_Ru_seg (g2 := (1, [(0, .ref 64)], [.ref 64], (q_cM (q_mA pix smp tr (q_nb p 0 dn ins) (q_fb z)) q_IM (q_mJ y pd), 34, 31630))) 1 (fun _ _ => rfl) ?_
                refine q_Ru_call (v := (some (.int lin))) (h2 := (q_cM (q_mA pix smp tr (q_nb p 0 dn ins) (q_fb z)) q_IM (q_mJ y pd), 34, 31630)) rfl rfl ?_ ?_
                · refine q_Ca_of (Nat.le_of_ble_eq_true rfl) ?_
                  refine q_Ru_seg (g2 := (4, [(0, .ref 64)], [.long y], (q_cM (q_mA pix smp tr (q_nb p 0 dn ins) (q_fb z)) q_IM (q_mJ y pd), 34, 31630))) 2 (fun _ _ => rfl) ?_
                  refine q_Ru_seg (g2 := (13, [(0, .ref 64)], [.int (((y / 24) - (y / 24) / 40 * 40).toInt32)], (q_cM (q_mA pix smp tr (q_nb p 0 dn ins) (q_fb z)) q_IM (q_mJ y pd), 34, 31630))) 5 (fun _ _ => rfl) ?_
                  rw [hM]
                  exact q_Ru_ret rfl rfl
                show q_Ru _ _ _ (4, [(0, .ref 64)], [.int lin], (q_cM (q_mA pix smp tr (q_nb p 0 dn ins) (q_fb z)) q_IM (q_mJ y pd), 34, 31630)) _
                refine q_Ru_seg (g2 := (6, [(0, .ref 64)], [.int (lin - 4)], (q_cM (q_mA pix smp tr (q_nb p 0 dn ins) (q_fb z)) q_IM (q_mJ y pd), 34, 31630))) 2 (fun _ _ => rfl) ?_
                exact q_Ru_ret rfl rfl
              show q_Ru _ _ _ (48, [(2, .int 0), (1, .int col), (0, .ref 64)], [.int (lin - 4)], (q_cM (q_mA pix smp tr (q_nb p 0 dn ins) (q_fb z)) q_IM (q_mJ y pd), 34, 31630)) _
              refine q_Ru_seg (g2 := (53, [(3, .int (lin - 4)), (2, .int 0), (1, .int col), (0, .ref 64)], [.int 31, .int 0, .int (lin - 4)], (q_cM (q_mA pix smp tr (q_nb p 0 dn ins) (q_fb z)) q_IM (q_mJ y pd), 34, 31630))) 4 (fun _ _ => rfl) ?_
              refine q_Ru_call (v := (some (.int 1))) (h2 := (q_cM (q_mA pix smp tr (q_nb p 0 dn ins) (q_fb z)) q_IM (q_mJ y pd), 34, 31630)) rfl rfl ?_ ?_
              · refine q_Ca_of (Nat.le_of_ble_eq_true rfl) ?_
                refine q_Ru_seg (g2 := (2, [(0, .int (lin - 4)), (1, .int 0), (2, .int 31)], [.int 0, .int (lin - 4)], (q_cM (q_mA pix smp tr (q_nb p 0 dn ins) (q_fb z)) q_IM (q_mJ y pd), 34, 31630))) 2 (fun _ _ => rfl) ?_
                refine q_Ru_rsF (g2 := (5, [(0, .int (lin - 4)), (1, .int 0), (2, .int 31)], [], (q_cM (q_mA pix smp tr (q_nb p 0 dn ins) (q_fb z)) q_IM (q_mJ y pd), 34, 31630))) rfl rfl h210 ?_
                refine q_Ru_seg (g2 := (7, [(0, .int (lin - 4)), (1, .int 0), (2, .int 31)], [.int 31, .int (lin - 4)], (q_cM (q_mA pix smp tr (q_nb p 0 dn ins) (q_fb z)) q_IM (q_mJ y pd), 34, 31630))) 2 (fun _ _ => rfl) ?_
                refine q_Ru_rsF (g2 := (10, [(0, .int (lin - 4)), (1, .int 0), (2, .int 31)], [], (q_cM (q_mA pix smp tr (q_nb p 0 dn ins) (q_fb z)) q_IM (q_mJ y pd), 34, 31630))) rfl rfl h212 ?_
                refine q_Ru_seg (g2 := (15, [(0, .int (lin - 4)), (1, .int 0), (2, .int 31)], [.int 1], (q_cM (q_mA pix smp tr (q_nb p 0 dn ins) (q_fb z)) q_IM (q_mJ y pd), 34, 31630))) 2 (fun _ _ => rfl) ?_
                exact q_Ru_ret rfl rfl
              show q_Ru _ _ _ (56, [(3, .int (lin - 4)), (2, .int 0), (1, .int col), (0, .ref 64)], [.int 1], (q_cM (q_mA pix smp tr (q_nb p 0 dn ins) (q_fb z)) q_IM (q_mJ y pd), 34, 31630)) _
              refine q_Ru_seg (g2 := (63, [(3, .int (lin - 4)), (2, .int 0), (1, .int col), (0, .ref 64)], [.int 19, .int 4, .int col], (q_cM (q_mA pix smp tr (q_nb p 0 dn ins) (q_fb z)) q_IM (q_mJ y pd), 34, 31630))) 4 (fun _ _ => rfl) ?_
              refine q_Ru_call (v := (some (.int 1))) (h2 := (q_cM (q_mA pix smp tr (q_nb p 0 dn ins) (q_fb z)) q_IM (q_mJ y pd), 34, 31630)) rfl rfl ?_ ?_
              · refine q_Ca_of (Nat.le_of_ble_eq_true rfl) ?_
                refine q_Ru_seg (g2 := (2, [(0, .int col), (1, .int 4), (2, .int 19)], [.int 4, .int col], (q_cM (q_mA pix smp tr (q_nb p 0 dn ins) (q_fb z)) q_IM (q_mJ y pd), 34, 31630))) 2 (fun _ _ => rfl) ?_
                refine q_Ru_rsF (g2 := (5, [(0, .int col), (1, .int 4), (2, .int 19)], [], (q_cM (q_mA pix smp tr (q_nb p 0 dn ins) (q_fb z)) q_IM (q_mJ y pd), 34, 31630))) rfl rfl h214 ?_
                refine q_Ru_seg (g2 := (7, [(0, .int col), (1, .int 4), (2, .int 19)], [.int 19, .int col], (q_cM (q_mA pix smp tr (q_nb p 0 dn ins) (q_fb z)) q_IM (q_mJ y pd), 34, 31630))) 2 (fun _ _ => rfl) ?_
                refine q_Ru_rsF (g2 := (10, [(0, .int col), (1, .int 4), (2, .int 19)], [], (q_cM (q_mA pix smp tr (q_nb p 0 dn ins) (q_fb z)) q_IM (q_mJ y pd), 34, 31630))) rfl rfl h216 ?_
                refine q_Ru_seg (g2 := (15, [(0, .int col), (1, .int 4), (2, .int 19)], [.int 1], (q_cM (q_mA pix smp tr (q_nb p 0 dn ins) (q_fb z)) q_IM (q_mJ y pd), 34, 31630))) 2 (fun _ _ => rfl) ?_
                exact q_Ru_ret rfl rfl
              show q_Ru _ _ _ (66, [(3, .int (lin - 4)), (2, .int 0), (1, .int col), (0, .ref 64)], [.int 1], (q_cM (q_mA pix smp tr (q_nb p 0 dn ins) (q_fb z)) q_IM (q_mJ y pd), 34, 31630)) _
              refine q_Ru_seg (g2 := (77, [(3, .int (lin - 4)), (2, .int 0), (1, .int col), (0, .ref 64)], [.int (lin - 4), .int ((2 * col) - 8), .ref 64], (q_cM (q_mA pix smp tr (q_nb p 0 dn ins) (q_fb z)) q_IM (q_mJ y pd), 34, 31630))) 8 (fun _ _ => rfl) ?_
              refine q_Ru_call (v := none) (h2 := (q_cM (q_mA x218 smp tr (q_nb p 0 dn ins) (q_fb z)) q_IM (q_mJ y pd), 34, 31630)) rfl rfl ?_ ?_
              · exact p218.le (Nat.le_of_ble_eq_true rfl)
              show q_Ru _ _ _ (80, [(3, .int (lin - 4)), (2, .int 0), (1, .int col), (0, .ref 64)], [], (q_cM (q_mA x218 smp tr (q_nb p 0 dn ins) (q_fb z)) q_IM (q_mJ y pd), 34, 31630)) _
              refine q_Ru_seg (g2 := (88, [(3, .int (lin - 4)), (2, .int 0), (1, .int col), (0, .ref 64)], [.int (lin - 4), .int ((2 * col) - 7), .ref 64], (q_cM (q_mA x218 smp tr (q_nb p 0 dn ins) (q_fb z)) q_IM (q_mJ y pd), 34, 31630))) 7 (fun _ _ => rfl) ?_
              refine q_Ru_call (v := none) (h2 := (q_cM (q_mA x219 smp tr (q_nb p 0 dn ins) (q_fb z)) q_IM (q_mJ y pd), 34, 31630)) rfl rfl ?_ ?_
              · exact p219.le (Nat.le_of_ble_eq_true rfl)
              show q_Ru _ _ _ (91, [(3, .int (lin - 4)), (2, .int 0), (1, .int col), (0, .ref 64)], [], (q_cM (q_mA x219 smp tr (q_nb p 0 dn ins) (q_fb z)) q_IM (q_mJ y pd), 34, 31630)) _
              refine q_Ru_seg (g2 := (92, [(3, .int (lin - 4)), (2, .int 0), (1, .int col), (0, .ref 64)], [.ref 64], (q_cM (q_mA x219 smp tr (q_nb p 0 dn ins) (q_fb z)) q_IM (q_mJ y pd), 34, 31630))) 1 (fun _ _ => rfl) ?_
              refine q_Ru_call (v := none) (h2 := (q_cM (q_mA x219 smp tr (q_nb p 0 dn ins) (q_fb z)) q_IM (q_mJ y pd), 34, 31630)) rfl rfl ?_ ?_
              · exact (q_m_times x219 smp tr p 0 dn ins z y pd col lin p1 p2 hC hM c0 c1 l0 l1 a0 a1 b0 b1 hp0 hp1 hp2 i0 i1  ).le (Nat.le_of_ble_eq_true rfl)
              show q_Ru _ _ _ (95, [(3, .int (lin - 4)), (2, .int 0), (1, .int col), (0, .ref 64)], [], (q_cM (q_mA x219 smp tr (q_nb p 0 dn ins) (q_fb z)) q_IM (q_mJ y pd), 34, 31630)) _
              refine q_Ru_seg (g2 := (96, [(3, .int (lin - 4)), (2, .int 0), (1, .int col), (0, .ref 64)], [.ref 64], (q_cM (q_mA x219 smp tr (q_nb p 0 dn ins) (q_fb z)) q_IM (q_mJ y pd), 34, 31630))) 1 (fun _ _ => rfl) ?_
              refine q_Ru_call (v := none) (h2 := (q_cM (q_mA x219 smp tr (q_nb p 0 dn ins) (q_fb z)) q_IM (q_mJ y pd), 34, 31630)) rfl rfl ?_ ?_
              · exact (q_m_winds x219 smp tr p 0 dn ins z y pd col lin p1 p2 hC hM c0 c1 l0 l1 a0 a1 b0 b1 hp0 hp1 hp2 i0 i1  ).le (Nat.le_of_ble_eq_true rfl)
              show q_Ru _ _ _ (99, [(3, .int (lin - 4)), (2, .int 0), (1, .int col), (0, .ref 64)], [], (q_cM (q_mA x219 smp tr (q_nb p 0 dn ins) (q_fb z)) q_IM (q_mJ y pd), 34, 31630)) _
              refine q_Ru_seg (g2 := (102, [(3, .int (lin - 4)), (2, .int 0), (1, .int col), (0, .ref 64)], [.int 23, .int col], (q_cM (q_mA x219 smp tr (q_nb p 0 dn ins) (q_fb z)) q_IM (q_mJ y pd), 34, 31630))) 2 (fun _ _ => rfl) ?_
              refine q_Ru_rsT (g2 := (109, [(3, .int (lin - 4)), (2, .int 0), (1, .int col), (0, .ref 64)], [], (q_cM (q_mA x219 smp tr (q_nb p 0 dn ins) (q_fb z)) q_IM (q_mJ y pd), 34, 31630))) rfl rfl (q_d_neF h218) ?_
              refine q_Ru_seg (g2 := (114, [(3, .int (lin - 4)), (2, .int 0), (1, .int col), (0, .ref 64)], [.ref 64], (q_cM (q_mA x219 smp tr (q_nb p 0 dn ins) (q_fb z)) q_IM (q_mJ y pd), 34, 31630))) 3 (fun _ _ => rfl) ?_
              refine q_Ru_call (v := none) (h2 := (q_cM (q_mA x219 smp tr (q_nb p 1 dn ins) (q_fb z)) q_IM (q_mJ y pd), 34, 31630)) rfl rfl ?_ ?_
              · exact (q_m_go0 x219 smp tr p dn ins z y pd col lin p1 p2 hC hM c0 c1 l0 l1 a0 a1 b0 b1 hp0 hp1 hp2 i0 i1  ).le (Nat.le_of_ble_eq_true rfl)
              show q_Ru _ _ _ (117, [(3, .int (lin - 4)), (2, .int 0), (1, .int col), (0, .ref 64)], [], (q_cM (q_mA x219 smp tr (q_nb p 1 dn ins) (q_fb z)) q_IM (q_mJ y pd), 34, 31630)) _
              refine q_Ru_seg (g2 := (122, [(3, .int (lin - 4)), (2, .int 0), (1, .int col), (0, .ref 64)], [.long pd, .ref 64], (q_cM (q_mA x219 smp tr (q_nb p 1 dn ins) (q_fb z)) q_IM (q_mJ y pd), 34, 31630))) 3 (fun _ _ => rfl) ?_
              refine q_Ru_seg (g2 := (140, [(3, .int (lin - 4)), (2, .int 0), (1, .int col), (0, .ref 64)], [.long y, .ref 64], (q_cM (q_mA x219 smp tr (q_nb p 1 dn ins) (q_fb z)) q_IM (q_uI (q_mJ y pd) 0 16 (pd + 0)), 34, 31630))) 8 (fun _ _ => rfl) ?_
              refine q_Ru_seg (g2 := (146, [(3, .int (lin - 4)), (2, .int 0), (1, .int col), (0, .ref 64)], [.int 0], (q_cM (q_mA x219 smp tr (q_nb p 1 dn ins) (q_fb z)) q_IM (q_uI (q_uI (q_mJ y pd) 0 16 (pd + 0)) 0 15 (y + 1)), 34, 31630))) 4 (fun _ _ => rfl) ?_
              exact q_Ru_ret rfl rfl
  | false =>
    cases h219 : decide (lin - 4 < 0) with
    | true =>
      cases h220 : decide (col = 23) with
      | true =>
        have eh220 := of_decide_eq_true h220
        subst eh220
        obtain ⟨z227a, p227⟩ := q_m_sample pix smp tr p 0 dn ins z y pd col lin p1 p2 hC hM c0 c1 l0 l1 a0 a1 b0 b1 hp0 hp1 hp2 i0 i1  
        refine ⟨pix, z227a, ?_⟩
        refine q_Ca_of (Nat.le_of_ble_eq_true rfl) ?_
        refine q_Ru_seg (g2 := (4, [(0, .ref 64)], [.long y], (q_cM (q_mA pix smp tr (q_nb p 0 dn ins) (q_fb z)) q_IM (q_mJ y pd), 34, 31630))) 2 (fun _ _ => rfl) ?_
        refine q_Ru_seg (g2 := (9, [(0, .ref 64)], [.int ((y - y / 24 * 24).toInt32)], (q_cM (q_mA pix smp tr (q_nb p 0 dn ins) (q_fb z)) q_IM (q_mJ y pd), 34, 31630))) 3 (fun _ _ => rfl) ?_
        rw [hC]
        refine q_Ru_seg (g2 := (11, [(1, .int col), (0, .ref 64)], [.int col], (q_cM (q_mA pix smp tr (q_nb p 0 dn ins) (q_fb z)) q_IM (q_mJ y pd), 34, 31630))) 2 (fun _ _ => rfl) ?_
        refine q_Ru_rsT (g2 := (39, [(1, .int col), (0, .ref 64)], [], (q_cM (q_mA pix smp tr (q_nb p 0 dn ins) (q_fb z)) q_IM (q_mJ y pd), 34, 31630))) rfl rfl (q_d_neF h199) ?_
        refine q_Ru_seg (g2 := (40, [(1, .int col), (0, .ref 64)], [.ref 64], (q_cM (q_mA pix smp tr (q_nb p 0 dn ins) (q_fb z)) q_IM (q_mJ y pd), 34, 31630))) 1 (fun _ _ => rfl) ?_
        refine q_Ru_call (v := (some (.int 0))) (h2 := (q_cM (q_mA pix smp tr (q_nb p 0 dn ins) (q_fb z)) q_IM (q_mJ y pd), 34, 31630)) rfl rfl ?_ ?_
        · exact (by have e := q_m_picX pix smp tr p 0 dn ins z y pd col lin p1 p2 hC hM c0 c1 l0 l1 a0 a1 b0 b1 hp0 hp1 hp2 i0 i1; rw [hpic] at e; exact e.le (Nat.le_of_ble_eq_true rfl))
        show q_Ru _ _ _ (43, [(1, .int col), (0, .ref 64)], [.int 0], (q_cM (q_mA pix smp tr (q_nb p 0 dn ins) (q_fb z)) q_IM (q_mJ y pd), 34, 31630)) _
        refine q_Ru_seg (g2 := (45, [(2, .int 0), (1, .int col), (0, .ref 64)], [.ref 64], (q_cM (q_mA pix smp tr (q_nb p 0 dn ins) (q_fb z)) q_IM (q_mJ y pd), 34, 31630))) 2 (fun _ _ => rfl) ?_
        refine q_Ru_call (v := (some (.int (lin - 4)))) (h2 := (q_cM (q_mA pix smp tr (q_nb p 0 dn ins) (q_fb z)) q_IM (q_mJ y pd), 34, 31630)) rfl rfl ?_ ?_
        · refine q_Ca_of (Nat.le_of_ble_eq_true rfl) ?_
          refine q_Ru_seg (g2 := (1, [(0, .ref 64)], [.ref 64], (q_cM (q_mA pix smp tr (q_nb p 0 dn ins) (q_fb z)) q_IM (q_mJ y pd), 34, 31630))) 1 (fun _ _ => rfl) ?_
          refine q_Ru_call (v := (some (.int lin))) (h2 := (q_cM (q_mA pix smp tr (q_nb p 0 dn ins) (q_fb z)) q_IM (q_mJ y pd), 34, 31630)) rfl rfl ?_ ?_
          · refine q_Ca_of (Nat.le_of_ble_eq_true rfl) ?_
            refine q_Ru_seg (g2 := (4, [(0, .ref 64)], [.long y], (q_cM (q_mA pix smp tr (q_nb p 0 dn ins) (q_fb z)) q_IM (q_mJ y pd), 34, 31630))) 2 (fun _ _ => rfl) ?_
            refine q_Ru_seg (g2 := (13, [(0, .ref 64)], [.int (((y / 24) - (y / 24) / 40 * 40).toInt32)], (q_cM (q_mA pix smp tr (q_nb p 0 dn ins) (q_fb z)) q_IM (q_mJ y pd), 34, 31630))) 5 (fun _ _ => rfl) ?_
            rw [hM]
            exact q_Ru_ret rfl rfl
          show q_Ru _ _ _ (4, [(0, .ref 64)], [.int lin], (q_cM (q_mA pix smp tr (q_nb p 0 dn ins) (q_fb z)) q_IM (q_mJ y pd), 34, 31630)) _
          refine q_Ru_seg (g2 := (6, [(0, .ref 64)], [.int (lin - 4)], (q_cM (q_mA pix smp tr (q_nb p 0 dn ins) (q_fb z)) q_IM (q_mJ y pd), 34, 31630))) 2 (fun _ _ => rfl) ?_
          exact q_Ru_ret rfl rfl
        show q_Ru _ _ _ (48, [(2, .int 0), (1, .int col), (0, .ref 64)], [.int (lin - 4)], (q_cM (q_mA pix smp tr (q_nb p 0 dn ins) (q_fb z)) q_IM (q_mJ y pd), 34, 31630)) _
        refine q_Ru_seg (g2 := (53, [(3, .int (lin - 4)), (2, .int 0), (1, .int col), (0, .ref 64)], [.int 31, .int 0, .int (lin - 4)], (q_cM (q_mA pix smp tr (q_nb p 0 dn ins) (q_fb z)) q_IM (q_mJ y pd), 34, 31630))) 4 (fun _ _ => rfl) ?_
        refine q_Ru_call (v := (some (.int 0))) (h2 := (q_cM (q_mA pix smp tr (q_nb p 0 dn ins) (q_fb z)) q_IM (q_mJ y pd), 34, 31630)) rfl rfl ?_ ?_
        · refine q_Ca_of (Nat.le_of_ble_eq_true rfl) ?_
          refine q_Ru_seg (g2 := (2, [(0, .int (lin - 4)), (1, .int 0), (2, .int 31)], [.int 0, .int (lin - 4)], (q_cM (q_mA pix smp tr (q_nb p 0 dn ins) (q_fb z)) q_IM (q_mJ y pd), 34, 31630))) 2 (fun _ _ => rfl) ?_
          refine q_Ru_rsT (g2 := (14, [(0, .int (lin - 4)), (1, .int 0), (2, .int 31)], [], (q_cM (q_mA pix smp tr (q_nb p 0 dn ins) (q_fb z)) q_IM (q_mJ y pd), 34, 31630))) rfl rfl h219 ?_
          refine q_Ru_seg (g2 := (15, [(0, .int (lin - 4)), (1, .int 0), (2, .int 31)], [.int 0], (q_cM (q_mA pix smp tr (q_nb p 0 dn ins) (q_fb z)) q_IM (q_mJ y pd), 34, 31630))) 1 (fun _ _ => rfl) ?_
          exact q_Ru_ret rfl rfl
        show q_Ru _ _ _ (56, [(3, .int (lin - 4)), (2, .int 0), (1, .int col), (0, .ref 64)], [.int 0], (q_cM (q_mA pix smp tr (q_nb p 0 dn ins) (q_fb z)) q_IM (q_mJ y pd), 34, 31630)) _
        refine q_Ru_seg (g2 := (92, [(3, .int (lin - 4)), (2, .int 0), (1, .int col), (0, .ref 64)], [.ref 64], (q_cM (q_mA pix smp tr (q_nb p 0 dn ins) (q_fb z)) q_IM (q_mJ y pd), 34, 31630))) 2 (fun _ _ => rfl) ?_
        refine q_Ru_call (v := none) (h2 := (q_cM (q_mA pix smp tr (q_nb p 0 dn ins) (q_fb z)) q_IM (q_mJ y pd), 34, 31630)) rfl rfl ?_ ?_
        · exact (q_m_times pix smp tr p 0 dn ins z y pd col lin p1 p2 hC hM c0 c1 l0 l1 a0 a1 b0 b1 hp0 hp1 hp2 i0 i1  ).le (Nat.le_of_ble_eq_true rfl)
        show q_Ru _ _ _ (95, [(3, .int (lin - 4)), (2, .int 0), (1, .int col), (0, .ref 64)], [], (q_cM (q_mA pix smp tr (q_nb p 0 dn ins) (q_fb z)) q_IM (q_mJ y pd), 34, 31630)) _
        refine q_Ru_seg (g2 := (96, [(3, .int (lin - 4)), (2, .int 0), (1, .int col), (0, .ref 64)], [.ref 64], (q_cM (q_mA pix smp tr (q_nb p 0 dn ins) (q_fb z)) q_IM (q_mJ y pd), 34, 31630))) 1 (fun _ _ => rfl) ?_
        refine q_Ru_call (v := none) (h2 := (q_cM (q_mA pix smp tr (q_nb p 0 dn ins) (q_fb z)) q_IM (q_mJ y pd), 34, 31630)) rfl rfl ?_ ?_
        · exact (q_m_winds pix smp tr p 0 dn ins z y pd col lin p1 p2 hC hM c0 c1 l0 l1 a0 a1 b0 b1 hp0 hp1 hp2 i0 i1  ).le (Nat.le_of_ble_eq_true rfl)
        show q_Ru _ _ _ (99, [(3, .int (lin - 4)), (2, .int 0), (1, .int col), (0, .ref 64)], [], (q_cM (q_mA pix smp tr (q_nb p 0 dn ins) (q_fb z)) q_IM (q_mJ y pd), 34, 31630)) _
        refine q_Ru_seg (g2 := (102, [(3, .int (lin - 4)), (2, .int 0), (1, .int col), (0, .ref 64)], [.int 23, .int col], (q_cM (q_mA pix smp tr (q_nb p 0 dn ins) (q_fb z)) q_IM (q_mJ y pd), 34, 31630))) 2 (fun _ _ => rfl) ?_
        refine q_Ru_rsF (g2 := (105, [(3, .int (lin - 4)), (2, .int 0), (1, .int col), (0, .ref 64)], [], (q_cM (q_mA pix smp tr (q_nb p 0 dn ins) (q_fb z)) q_IM (q_mJ y pd), 34, 31630))) rfl rfl (q_d_neT h220) ?_
        refine q_Ru_seg (g2 := (106, [(3, .int (lin - 4)), (2, .int 0), (1, .int col), (0, .ref 64)], [.ref 64], (q_cM (q_mA pix smp tr (q_nb p 0 dn ins) (q_fb z)) q_IM (q_mJ y pd), 34, 31630))) 1 (fun _ _ => rfl) ?_
        refine q_Ru_call (v := none) (h2 := (q_cM (q_mA pix z227a tr (q_nb p 0 dn ins) (q_fb z)) q_IM (q_mJ y pd), 34, 31630)) rfl rfl ?_ ?_
        · exact p227.le (Nat.le_of_ble_eq_true rfl)
        show q_Ru _ _ _ (109, [(3, .int (lin - 4)), (2, .int 0), (1, .int col), (0, .ref 64)], [], (q_cM (q_mA pix z227a tr (q_nb p 0 dn ins) (q_fb z)) q_IM (q_mJ y pd), 34, 31630)) _
        refine q_Ru_seg (g2 := (114, [(3, .int (lin - 4)), (2, .int 0), (1, .int col), (0, .ref 64)], [.ref 64], (q_cM (q_mA pix z227a tr (q_nb p 0 dn ins) (q_fb z)) q_IM (q_mJ y pd), 34, 31630))) 3 (fun _ _ => rfl) ?_
        refine q_Ru_call (v := none) (h2 := (q_cM (q_mA pix z227a tr (q_nb p 1 dn ins) (q_fb z)) q_IM (q_mJ y pd), 34, 31630)) rfl rfl ?_ ?_
        · exact (q_m_go0 pix z227a tr p dn ins z y pd col lin p1 p2 hC hM c0 c1 l0 l1 a0 a1 b0 b1 hp0 hp1 hp2 i0 i1  ).le (Nat.le_of_ble_eq_true rfl)
        show q_Ru _ _ _ (117, [(3, .int (lin - 4)), (2, .int 0), (1, .int col), (0, .ref 64)], [], (q_cM (q_mA pix z227a tr (q_nb p 1 dn ins) (q_fb z)) q_IM (q_mJ y pd), 34, 31630)) _
        refine q_Ru_seg (g2 := (122, [(3, .int (lin - 4)), (2, .int 0), (1, .int col), (0, .ref 64)], [.long pd, .ref 64], (q_cM (q_mA pix z227a tr (q_nb p 1 dn ins) (q_fb z)) q_IM (q_mJ y pd), 34, 31630))) 3 (fun _ _ => rfl) ?_
        refine q_Ru_seg (g2 := (140, [(3, .int (lin - 4)), (2, .int 0), (1, .int col), (0, .ref 64)], [.long y, .ref 64], (q_cM (q_mA pix z227a tr (q_nb p 1 dn ins) (q_fb z)) q_IM (q_uI (q_mJ y pd) 0 16 (pd + 0)), 34, 31630))) 8 (fun _ _ => rfl) ?_
        refine q_Ru_seg (g2 := (146, [(3, .int (lin - 4)), (2, .int 0), (1, .int col), (0, .ref 64)], [.int 0], (q_cM (q_mA pix z227a tr (q_nb p 1 dn ins) (q_fb z)) q_IM (q_uI (q_uI (q_mJ y pd) 0 16 (pd + 0)) 0 15 (y + 1)), 34, 31630))) 4 (fun _ _ => rfl) ?_
        exact q_Ru_ret rfl rfl
      | false =>
        refine ⟨pix, smp, ?_⟩
        refine q_Ca_of (Nat.le_of_ble_eq_true rfl) ?_
        refine q_Ru_seg (g2 := (4, [(0, .ref 64)], [.long y], (q_cM (q_mA pix smp tr (q_nb p 0 dn ins) (q_fb z)) q_IM (q_mJ y pd), 34, 31630))) 2 (fun _ _ => rfl) ?_
        refine q_Ru_seg (g2 := (9, [(0, .ref 64)], [.int ((y - y / 24 * 24).toInt32)], (q_cM (q_mA pix smp tr (q_nb p 0 dn ins) (q_fb z)) q_IM (q_mJ y pd), 34, 31630))) 3 (fun _ _ => rfl) ?_
        rw [hC]
        refine q_Ru_seg (g2 := (11, [(1, .int col), (0, .ref 64)], [.int col], (q_cM (q_mA pix smp tr (q_nb p 0 dn ins) (q_fb z)) q_IM (q_mJ y pd), 34, 31630))) 2 (fun _ _ => rfl) ?_
        refine q_Ru_rsT (g2 := (39, [(1, .int col), (0, .ref 64)], [], (q_cM (q_mA pix smp tr (q_nb p 0 dn ins) (q_fb z)) q_IM (q_mJ y pd), 34, 31630))) rfl rfl (q_d_neF h199) ?_
        refine q_Ru_seg (g2 := (40, [(1, .int col), (0, .ref 64)], [.ref 64], (q_cM (q_mA pix smp tr (q_nb p 0 dn ins) (q_fb z)) q_IM (q_mJ y pd), 34, 31630))) 1 (fun _ _ => rfl) ?_
        refine q_Ru_call (v := (some (.int 0))) (h2 := (q_cM (q_mA pix smp tr (q_nb p 0 dn ins) (q_fb z)) q_IM (q_mJ y pd), 34, 31630)) rfl rfl ?_ ?_
        · exact (by have e := q_m_picX pix smp tr p 0 dn ins z y pd col lin p1 p2 hC hM c0 c1 l0 l1 a0 a1 b0 b1 hp0 hp1 hp2 i0 i1; rw [hpic] at e; exact e.le (Nat.le_of_ble_eq_true rfl))
        show q_Ru _ _ _ (43, [(1, .int col), (0, .ref 64)], [.int 0], (q_cM (q_mA pix smp tr (q_nb p 0 dn ins) (q_fb z)) q_IM (q_mJ y pd), 34, 31630)) _
        refine q_Ru_seg (g2 := (45, [(2, .int 0), (1, .int col), (0, .ref 64)], [.ref 64], (q_cM (q_mA pix smp tr (q_nb p 0 dn ins) (q_fb z)) q_IM (q_mJ y pd), 34, 31630))) 2 (fun _ _ => rfl) ?_
        refine q_Ru_call (v := (some (.int (lin - 4)))) (h2 := (q_cM (q_mA pix smp tr (q_nb p 0 dn ins) (q_fb z)) q_IM (q_mJ y pd), 34, 31630)) rfl rfl ?_ ?_
        · refine q_Ca_of (Nat.le_of_ble_eq_true rfl) ?_
          refine q_Ru_seg (g2 := (1, [(0, .ref 64)], [.ref 64], (q_cM (q_mA pix smp tr (q_nb p 0 dn ins) (q_fb z)) q_IM (q_mJ y pd), 34, 31630))) 1 (fun _ _ => rfl) ?_
          refine q_Ru_call (v := (some (.int lin))) (h2 := (q_cM (q_mA pix smp tr (q_nb p 0 dn ins) (q_fb z)) q_IM (q_mJ y pd), 34, 31630)) rfl rfl ?_ ?_
          · refine q_Ca_of (Nat.le_of_ble_eq_true rfl) ?_
            refine q_Ru_seg (g2 := (4, [(0, .ref 64)], [.long y], (q_cM (q_mA pix smp tr (q_nb p 0 dn ins) (q_fb z)) q_IM (q_mJ y pd), 34, 31630))) 2 (fun _ _ => rfl) ?_
            refine q_Ru_seg (g2 := (13, [(0, .ref 64)], [.int (((y / 24) - (y / 24) / 40 * 40).toInt32)], (q_cM (q_mA pix smp tr (q_nb p 0 dn ins) (q_fb z)) q_IM (q_mJ y pd), 34, 31630))) 5 (fun _ _ => rfl) ?_
            rw [hM]
            exact q_Ru_ret rfl rfl
          show q_Ru _ _ _ (4, [(0, .ref 64)], [.int lin], (q_cM (q_mA pix smp tr (q_nb p 0 dn ins) (q_fb z)) q_IM (q_mJ y pd), 34, 31630)) _
          refine q_Ru_seg (g2 := (6, [(0, .ref 64)], [.int (lin - 4)], (q_cM (q_mA pix smp tr (q_nb p 0 dn ins) (q_fb z)) q_IM (q_mJ y pd), 34, 31630))) 2 (fun _ _ => rfl) ?_
          exact q_Ru_ret rfl rfl
        show q_Ru _ _ _ (48, [(2, .int 0), (1, .int col), (0, .ref 64)], [.int (lin - 4)], (q_cM (q_mA pix smp tr (q_nb p 0 dn ins) (q_fb z)) q_IM (q_mJ y pd), 34, 31630)) _
        refine q_Ru_seg (g2 := (53, [(3, .int (lin - 4)), (2, .int 0), (1, .int col), (0, .ref 64)], [.int 31, .int 0, .int (lin - 4)], (q_cM (q_mA pix smp tr (q_nb p 0 dn ins) (q_fb z)) q_IM (q_mJ y pd), 34, 31630))) 4 (fun _ _ => rfl) ?_
        refine q_Ru_call (v := (some (.int 0))) (h2 := (q_cM (q_mA pix smp tr (q_nb p 0 dn ins) (q_fb z)) q_IM (q_mJ y pd), 34, 31630)) rfl rfl ?_ ?_
        · refine q_Ca_of (Nat.le_of_ble_eq_true rfl) ?_
          refine q_Ru_seg (g2 := (2, [(0, .int (lin - 4)), (1, .int 0), (2, .int 31)], [.int 0, .int (lin - 4)], (q_cM (q_mA pix smp tr (q_nb p 0 dn ins) (q_fb z)) q_IM (q_mJ y pd), 34, 31630))) 2 (fun _ _ => rfl) ?_
          refine q_Ru_rsT (g2 := (14, [(0, .int (lin - 4)), (1, .int 0), (2, .int 31)], [], (q_cM (q_mA pix smp tr (q_nb p 0 dn ins) (q_fb z)) q_IM (q_mJ y pd), 34, 31630))) rfl rfl h219 ?_
          refine q_Ru_seg (g2 := (15, [(0, .int (lin - 4)), (1, .int 0), (2, .int 31)], [.int 0], (q_cM (q_mA pix smp tr (q_nb p 0 dn ins) (q_fb z)) q_IM (q_mJ y pd), 34, 31630))) 1 (fun _ _ => rfl) ?_
          exact q_Ru_ret rfl rfl
        show q_Ru _ _ _ (56, [(3, .int (lin - 4)), (2, .int 0), (1, .int col), (0, .ref 64)], [.int 0], (q_cM (q_mA pix smp tr (q_nb p 0 dn ins) (q_fb z)) q_IM (q_mJ y pd), 34, 31630)) _
        refine q_Ru_seg (g2 := (92, [(3, .int (lin - 4)), (2, .int 0), (1, .int col), (0, .ref 64)], [.ref 64], (q_cM (q_mA pix smp tr (q_nb p 0 dn ins) (q_fb z)) q_IM (q_mJ y pd), 34, 31630))) 2 (fun _ _ => rfl) ?_
        refine q_Ru_call (v := none) (h2 := (q_cM (q_mA pix smp tr (q_nb p 0 dn ins) (q_fb z)) q_IM (q_mJ y pd), 34, 31630)) rfl rfl ?_ ?_
        · exact (q_m_times pix smp tr p 0 dn ins z y pd col lin p1 p2 hC hM c0 c1 l0 l1 a0 a1 b0 b1 hp0 hp1 hp2 i0 i1  ).le (Nat.le_of_ble_eq_true rfl)
        show q_Ru _ _ _ (95, [(3, .int (lin - 4)), (2, .int 0), (1, .int col), (0, .ref 64)], [], (q_cM (q_mA pix smp tr (q_nb p 0 dn ins) (q_fb z)) q_IM (q_mJ y pd), 34, 31630)) _
        refine q_Ru_seg (g2 := (96, [(3, .int (lin - 4)), (2, .int 0), (1, .int col), (0, .ref 64)], [.ref 64], (q_cM (q_mA pix smp tr (q_nb p 0 dn ins) (q_fb z)) q_IM (q_mJ y pd), 34, 31630))) 1 (fun _ _ => rfl) ?_
        refine q_Ru_call (v := none) (h2 := (q_cM (q_mA pix smp tr (q_nb p 0 dn ins) (q_fb z)) q_IM (q_mJ y pd), 34, 31630)) rfl rfl ?_ ?_
        · exact (q_m_winds pix smp tr p 0 dn ins z y pd col lin p1 p2 hC hM c0 c1 l0 l1 a0 a1 b0 b1 hp0 hp1 hp2 i0 i1  ).le (Nat.le_of_ble_eq_true rfl)
        show q_Ru _ _ _ (99, [(3, .int (lin - 4)), (2, .int 0), (1, .int col), (0, .ref 64)], [], (q_cM (q_mA pix smp tr (q_nb p 0 dn ins) (q_fb z)) q_IM (q_mJ y pd), 34, 31630)) _
        refine q_Ru_seg (g2 := (102, [(3, .int (lin - 4)), (2, .int 0), (1, .int col), (0, .ref 64)], [.int 23, .int col], (q_cM (q_mA pix smp tr (q_nb p 0 dn ins) (q_fb z)) q_IM (q_mJ y pd), 34, 31630))) 2 (fun _ _ => rfl) ?_
        refine q_Ru_rsT (g2 := (109, [(3, .int (lin - 4)), (2, .int 0), (1, .int col), (0, .ref 64)], [], (q_cM (q_mA pix smp tr (q_nb p 0 dn ins) (q_fb z)) q_IM (q_mJ y pd), 34, 31630))) rfl rfl (q_d_neF h220) ?_
        refine q_Ru_seg (g2 := (114, [(3, .int (lin - 4)), (2, .int 0), (1, .int col), (0, .ref 64)], [.ref 64], (q_cM (q_mA pix smp tr (q_nb p 0 dn ins) (q_fb z)) q_IM (q_mJ y pd), 34, 31630))) 3 (fun _ _ => rfl) ?_
        refine q_Ru_call (v := none) (h2 := (q_cM (q_mA pix smp tr (q_nb p 1 dn ins) (q_fb z)) q_IM (q_mJ y pd), 34, 31630)) rfl rfl ?_ ?_
        · exact (q_m_go0 pix smp tr p dn ins z y pd col lin p1 p2 hC hM c0 c1 l0 l1 a0 a1 b0 b1 hp0 hp1 hp2 i0 i1  ).le (Nat.le_of_ble_eq_true rfl)
        show q_Ru _ _ _ (117, [(3, .int (lin - 4)), (2, .int 0), (1, .int col), (0, .ref 64)], [], (q_cM (q_mA pix smp tr (q_nb p 1 dn ins) (q_fb z)) q_IM (q_mJ y pd), 34, 31630)) _
        refine q_Ru_seg (g2 := (122, [(3, .int (lin - 4)), (2, .int 0), (1, .int col), (0, .ref 64)], [.long pd, .ref 64], (q_cM (q_mA pix smp tr (q_nb p 1 dn ins) (q_fb z)) q_IM (q_mJ y pd), 34, 31630))) 3 (fun _ _ => rfl) ?_
        refine q_Ru_seg (g2 := (140, [(3, .int (lin - 4)), (2, .int 0), (1, .int col), (0, .ref 64)], [.long y, .ref 64], (q_cM (q_mA pix smp tr (q_nb p 1 dn ins) (q_fb z)) q_IM (q_uI (q_mJ y pd) 0 16 (pd + 0)), 34, 31630))) 8 (fun _ _ => rfl) ?_
        refine q_Ru_seg (g2 := (146, [(3, .int (lin - 4)), (2, .int 0), (1, .int col), (0, .ref 64)], [.int 0], (q_cM (q_mA pix smp tr (q_nb p 1 dn ins) (q_fb z)) q_IM (q_uI (q_uI (q_mJ y pd) 0 16 (pd + 0)) 0 15 (y + 1)), 34, 31630))) 4 (fun _ _ => rfl) ?_
        exact q_Ru_ret rfl rfl
    | false =>
      cases h221 : decide (31 < lin - 4) with
      | true =>
        cases h222 : decide (col = 23) with
        | true =>
          have eh222 := of_decide_eq_true h222
          subst eh222
          obtain ⟨z236a, p236⟩ := q_m_sample pix smp tr p 0 dn ins z y pd col lin p1 p2 hC hM c0 c1 l0 l1 a0 a1 b0 b1 hp0 hp1 hp2 i0 i1  
          refine ⟨pix, z236a, ?_⟩
          refine q_Ca_of (Nat.le_of_ble_eq_true rfl) ?_
          refine q_Ru_seg (g2 := (4, [(0, .ref 64)], [.long y], (q_cM (q_mA pix smp tr (q_nb p 0 dn ins) (q_fb z)) q_IM (q_mJ y pd), 34, 31630))) 2 (fun _ _ => rfl) ?_
          refine q_Ru_seg (g2 := (9, [(0, .ref 64)], [.int ((y - y / 24 * 24).toInt32)], (q_cM (q_mA pix smp tr (q_nb p 0 dn ins) (q_fb z)) q_IM (q_mJ y pd), 34, 31630))) 3 (fun _ _ => rfl) ?_
          rw [hC]
          refine q_Ru_seg (g2 := (11, [(1, .int col), (0, .ref 64)], [.int col], (q_cM (q_mA pix smp tr (q_nb p 0 dn ins) (q_fb z)) q_IM (q_mJ y pd), 34, 31630))) 2 (fun _ _ => rfl) ?_
          refine q_Ru_rsT (g2 := (39, [(1, .int col), (0, .ref 64)], [], (q_cM (q_mA pix smp tr (q_nb p 0 dn ins) (q_fb z)) q_IM (q_mJ y pd), 34, 31630))) rfl rfl (q_d_neF h199) ?_
          refine q_Ru_seg (g2 := (40, [(1, .int col), (0, .ref 64)], [.ref 64], (q_cM (q_mA pix smp tr (q_nb p 0 dn ins) (q_fb z)) q_IM (q_mJ y pd), 34, 31630))) 1 (fun _ _ => rfl) ?_
          refine q_Ru_call (v := (some (.int 0))) (h2 := (q_cM (q_mA pix smp tr (q_nb p 0 dn ins) (q_fb z)) q_IM (q_mJ y pd), 34, 31630)) rfl rfl ?_ ?_
          · exact (by have e := q_m_picX pix smp tr p 0 dn ins z y pd col lin p1 p2 hC hM c0 c1 l0 l1 a0 a1 b0 b1 hp0 hp1 hp2 i0 i1; rw [hpic] at e; exact e.le (Nat.le_of_ble_eq_true rfl))
          show q_Ru _ _ _ (43, [(1, .int col), (0, .ref 64)], [.int 0], (q_cM (q_mA pix smp tr (q_nb p 0 dn ins) (q_fb z)) q_IM (q_mJ y pd), 34, 31630)) _
          refine q_Ru_seg (g2 := (45, [(2, .int 0), (1, .int col), (0, .ref 64)], [.ref 64], (q_cM (q_mA pix smp tr (q_nb p 0 dn ins) (q_fb z)) q_IM (q_mJ y pd), 34, 31630))) 2 (fun _ _ => rfl) ?_
          refine q_Ru_call (v := (some (.int (lin - 4)))) (h2 := (q_cM (q_mA pix smp tr (q_nb p 0 dn ins) (q_fb z)) q_IM (q_mJ y pd), 34, 31630)) rfl rfl ?_ ?_
          · refine q_Ca_of (Nat.le_of_ble_eq_true rfl) ?_
            refine q_Ru_seg (g2 := (1, [(0, .ref 64)], [.ref 64], (q_cM (q_mA pix smp tr (q_nb p 0 dn ins) (q_fb z)) q_IM (q_mJ y pd), 34, 31630))) 1 (fun _ _ => rfl) ?_
            refine q_Ru_call (v := (some (.int lin))) (h2 := (q_cM (q_mA pix smp tr (q_nb p 0 dn ins) (q_fb z)) q_IM (q_mJ y pd), 34, 31630)) rfl rfl ?_ ?_
            · refine q_Ca_of (Nat.le_of_ble_eq_true rfl) ?_
              refine q_Ru_seg (g2 := (4, [(0, .ref 64)], [.long y], (q_cM (q_mA pix smp tr (q_nb p 0 dn ins) (q_fb z)) q_IM (q_mJ y pd), 34, 31630))) 2 (fun _ _ => rfl) ?_
              refine q_Ru_seg (g2 := (13, [(0, .ref 64)], [.int (((y / 24) - (y / 24) / 40 * 40).toInt32)], (q_cM (q_mA pix smp tr (q_nb p 0 dn ins) (q_fb z)) q_IM (q_mJ y pd), 34, 31630))) 5 (fun _ _ => rfl) ?_
              rw [hM]
              exact q_Ru_ret rfl rfl
            show q_Ru _ _ _ (4, [(0, .ref 64)], [.int lin], (q_cM (q_mA pix smp tr (q_nb p 0 dn ins) (q_fb z)) q_IM (q_mJ y pd), 34, 31630)) _
            refine q_Ru_seg (g2 := (6, [(0, .ref 64)], [.int (lin - 4)], (q_cM (q_mA pix smp tr (q_nb p 0 dn ins) (q_fb z)) q_IM (q_mJ y pd), 34, 31630))) 2 (fun _ _ => rfl) ?_
            exact q_Ru_ret rfl rfl
          show q_Ru _ _ _ (48, [(2, .int 0), (1, .int col), (0, .ref 64)], [.int (lin - 4)], (q_cM (q_mA pix smp tr (q_nb p 0 dn ins) (q_fb z)) q_IM (q_mJ y pd), 34, 31630)) _
          refine q_Ru_seg (g2 := (53, [(3, .int (lin - 4)), (2, .int 0), (1, .int col), (0, .ref 64)], [.int 31, .int 0, .int (lin - 4)], (q_cM (q_mA pix smp tr (q_nb p 0 dn ins) (q_fb z)) q_IM (q_mJ y pd), 34, 31630))) 4 (fun _ _ => rfl) ?_
          refine q_Ru_call (v := (some (.int 0))) (h2 := (q_cM (q_mA pix smp tr (q_nb p 0 dn ins) (q_fb z)) q_IM (q_mJ y pd), 34, 31630)) rfl rfl ?_ ?_
          · refine q_Ca_of (Nat.le_of_ble_eq_true rfl) ?_
            refine q_Ru_seg (g2 := (2, [(0, .int (lin - 4)), (1, .int 0), (2, .int 31)], [.int 0, .int (lin - 4)], (q_cM (q_mA pix smp tr (q_nb p 0 dn ins) (q_fb z)) q_IM (q_mJ y pd), 34, 31630))) 2 (fun _ _ => rfl) ?_
            refine q_Ru_rsF (g2 := (5, [(0, .int (lin - 4)), (1, .int 0), (2, .int 31)], [], (q_cM (q_mA pix smp tr (q_nb p 0 dn ins) (q_fb z)) q_IM (q_mJ y pd), 34, 31630))) rfl rfl h219 ?_
            refine q_Ru_seg (g2 := (7, [(0, .int (lin - 4)), (1, .int 0), (2, .int 31)], [.int 31, .int (lin - 4)], (q_cM (q_mA pix smp tr (q_nb p 0 dn ins) (q_fb z)) q_IM (q_mJ y pd), 34, 31630))) 2 (fun _ _ => rfl) ?_
            refine q_Ru_rsT (g2 := (14, [(0, .int (lin - 4)), (1, .int 0), (2, .int 31)], [], (q_cM (q_mA pix smp tr (q_nb p 0 dn ins) (q_fb z)) q_IM (q_mJ y pd), 34, 31630))) rfl rfl h221 ?_
            refine q_Ru_seg (g2 := (15, [(0, .int (lin - 4)), (1, .int 0), (2, .int 31)], [.int 0], (q_cM (q_mA pix smp tr (q_nb p 0 dn ins) (q_fb z)) q_IM (q_mJ y pd), 34, 31630))) 1 (fun _ _ => rfl) ?_
            exact q_Ru_ret rfl rfl
          show q_Ru _ _ _ (56, [(3, .int (lin - 4)), (2, .int 0), (1, .int col), (0, .ref 64)], [.int 0], (q_cM (q_mA pix smp tr (q_nb p 0 dn ins) (q_fb z)) q_IM (q_mJ y pd), 34, 31630)) _
          refine q_Ru_seg (g2 := (92, [(3, .int (lin - 4)), (2, .int 0), (1, .int col), (0, .ref 64)], [.ref 64], (q_cM (q_mA pix smp tr (q_nb p 0 dn ins) (q_fb z)) q_IM (q_mJ y pd), 34, 31630))) 2 (fun _ _ => rfl) ?_
          refine q_Ru_call (v := none) (h2 := (q_cM (q_mA pix smp tr (q_nb p 0 dn ins) (q_fb z)) q_IM (q_mJ y pd), 34, 31630)) rfl rfl ?_ ?_
          · exact (q_m_times pix smp tr p 0 dn ins z y pd col lin p1 p2 hC hM c0 c1 l0 l1 a0 a1 b0 b1 hp0 hp1 hp2 i0 i1  ).le (Nat.le_of_ble_eq_true rfl)
          show q_Ru _ _ _ (95, [(3, .int (lin - 4)), (2, .int 0), (1, .int col), (0, .ref 64)], [], (q_cM (q_mA pix smp tr (q_nb p 0 dn ins) (q_fb z)) q_IM (q_mJ y pd), 34, 31630)) _
          refine q_Ru_seg (g2 := (96, [(3, .int (lin - 4)), (2, .int 0), (1, .int col), (0, .ref 64)], [.ref 64], (q_cM (q_mA pix smp tr (q_nb p 0 dn ins) (q_fb z)) q_IM (q_mJ y pd), 34, 31630))) 1 (fun _ _ => rfl) ?_
          refine q_Ru_call (v := none) (h2 := (q_cM (q_mA pix smp tr (q_nb p 0 dn ins) (q_fb z)) q_IM (q_mJ y pd), 34, 31630)) rfl rfl ?_ ?_
          · exact (q_m_winds pix smp tr p 0 dn ins z y pd col lin p1 p2 hC hM c0 c1 l0 l1 a0 a1 b0 b1 hp0 hp1 hp2 i0 i1  ).le (Nat.le_of_ble_eq_true rfl)
          show q_Ru _ _ _ (99, [(3, .int (lin - 4)), (2, .int 0), (1, .int col), (0, .ref 64)], [], (q_cM (q_mA pix smp tr (q_nb p 0 dn ins) (q_fb z)) q_IM (q_mJ y pd), 34, 31630)) _
          refine q_Ru_seg (g2 := (102, [(3, .int (lin - 4)), (2, .int 0), (1, .int col), (0, .ref 64)], [.int 23, .int col], (q_cM (q_mA pix smp tr (q_nb p 0 dn ins) (q_fb z)) q_IM (q_mJ y pd), 34, 31630))) 2 (fun _ _ => rfl) ?_
          refine q_Ru_rsF (g2 := (105, [(3, .int (lin - 4)), (2, .int 0), (1, .int col), (0, .ref 64)], [], (q_cM (q_mA pix smp tr (q_nb p 0 dn ins) (q_fb z)) q_IM (q_mJ y pd), 34, 31630))) rfl rfl (q_d_neT h222) ?_
          refine q_Ru_seg (g2 := (106, [(3, .int (lin - 4)), (2, .int 0), (1, .int col), (0, .ref 64)], [.ref 64], (q_cM (q_mA pix smp tr (q_nb p 0 dn ins) (q_fb z)) q_IM (q_mJ y pd), 34, 31630))) 1 (fun _ _ => rfl) ?_
          refine q_Ru_call (v := none) (h2 := (q_cM (q_mA pix z236a tr (q_nb p 0 dn ins) (q_fb z)) q_IM (q_mJ y pd), 34, 31630)) rfl rfl ?_ ?_
          · exact p236.le (Nat.le_of_ble_eq_true rfl)
          show q_Ru _ _ _ (109, [(3, .int (lin - 4)), (2, .int 0), (1, .int col), (0, .ref 64)], [], (q_cM (q_mA pix z236a tr (q_nb p 0 dn ins) (q_fb z)) q_IM (q_mJ y pd), 34, 31630)) _
          refine q_Ru_seg (g2 := (114, [(3, .int (lin - 4)), (2, .int 0), (1, .int col), (0, .ref 64)], [.ref 64], (q_cM (q_mA pix z236a tr (q_nb p 0 dn ins) (q_fb z)) q_IM (q_mJ y pd), 34, 31630))) 3 (fun _ _ => rfl) ?_
          refine q_Ru_call (v := none) (h2 := (q_cM (q_mA pix z236a tr (q_nb p 1 dn ins) (q_fb z)) q_IM (q_mJ y pd), 34, 31630)) rfl rfl ?_ ?_
          · exact (q_m_go0 pix z236a tr p dn ins z y pd col lin p1 p2 hC hM c0 c1 l0 l1 a0 a1 b0 b1 hp0 hp1 hp2 i0 i1  ).le (Nat.le_of_ble_eq_true rfl)
          show q_Ru _ _ _ (117, [(3, .int (lin - 4)), (2, .int 0), (1, .int col), (0, .ref 64)], [], (q_cM (q_mA pix z236a tr (q_nb p 1 dn ins) (q_fb z)) q_IM (q_mJ y pd), 34, 31630)) _
          refine q_Ru_seg (g2 := (122, [(3, .int (lin - 4)), (2, .int 0), (1, .int col), (0, .ref 64)], [.long pd, .ref 64], (q_cM (q_mA pix z236a tr (q_nb p 1 dn ins) (q_fb z)) q_IM (q_mJ y pd), 34, 31630))) 3 (fun _ _ => rfl) ?_
          refine q_Ru_seg (g2 := (140, [(3, .int (lin - 4)), (2, .int 0), (1, .int col), (0, .ref 64)], [.long y, .ref 64], (q_cM (q_mA pix z236a tr (q_nb p 1 dn ins) (q_fb z)) q_IM (q_uI (q_mJ y pd) 0 16 (pd + 0)), 34, 31630))) 8 (fun _ _ => rfl) ?_
          refine q_Ru_seg (g2 := (146, [(3, .int (lin - 4)), (2, .int 0), (1, .int col), (0, .ref 64)], [.int 0], (q_cM (q_mA pix z236a tr (q_nb p 1 dn ins) (q_fb z)) q_IM (q_uI (q_uI (q_mJ y pd) 0 16 (pd + 0)) 0 15 (y + 1)), 34, 31630))) 4 (fun _ _ => rfl) ?_
          exact q_Ru_ret rfl rfl
        | false =>
          refine ⟨pix, smp, ?_⟩
          refine q_Ca_of (Nat.le_of_ble_eq_true rfl) ?_
          refine q_Ru_seg (g2 := (4, [(0, .ref 64)], [.long y], (q_cM (q_mA pix smp tr (q_nb p 0 dn ins) (q_fb z)) q_IM (q_mJ y pd), 34, 31630))) 2 (fun _ _ => rfl) ?_
          refine q_Ru_seg (g2 := (9, [(0, .ref 64)], [.int ((y - y / 24 * 24).toInt32)], (q_cM (q_mA pix smp tr (q_nb p 0 dn ins) (q_fb z)) q_IM (q_mJ y pd), 34, 31630))) 3 (fun _ _ => rfl) ?_
          rw [hC]
          refine q_Ru_seg (g2 := (11, [(1, .int col), (0, .ref 64)], [.int col], (q_cM (q_mA pix smp tr (q_nb p 0 dn ins) (q_fb z)) q_IM (q_mJ y pd), 34, 31630))) 2 (fun _ _ => rfl) ?_
          refine q_Ru_rsT (g2 := (39, [(1, .int col), (0, .ref 64)], [], (q_cM (q_mA pix smp tr (q_nb p 0 dn ins) (q_fb z)) q_IM (q_mJ y pd), 34, 31630))) rfl rfl (q_d_neF h199) ?_
          refine q_Ru_seg (g2 := (40, [(1, .int col), (0, .ref 64)], [.ref 64], (q_cM (q_mA pix smp tr (q_nb p 0 dn ins) (q_fb z)) q_IM (q_mJ y pd), 34, 31630))) 1 (fun _ _ => rfl) ?_
          refine q_Ru_call (v := (some (.int 0))) (h2 := (q_cM (q_mA pix smp tr (q_nb p 0 dn ins) (q_fb z)) q_IM (q_mJ y pd), 34, 31630)) rfl rfl ?_ ?_
          · exact (by have e := q_m_picX pix smp tr p 0 dn ins z y pd col lin p1 p2 hC hM c0 c1 l0 l1 a0 a1 b0 b1 hp0 hp1 hp2 i0 i1; rw [hpic] at e; exact e.le (Nat.le_of_ble_eq_true rfl))
          show q_Ru _ _ _ (43, [(1, .int col), (0, .ref 64)], [.int 0], (q_cM (q_mA pix smp tr (q_nb p 0 dn ins) (q_fb z)) q_IM (q_mJ y pd), 34, 31630)) _
          refine q_Ru_seg (g2 := (45, [(2, .int 0), (1, .int col), (0, .ref 64)], [.ref 64], (q_cM (q_mA pix smp tr (q_nb p 0 dn ins) (q_fb z)) q_IM (q_mJ y pd), 34, 31630))) 2 (fun _ _ => rfl) ?_
          refine q_Ru_call (v := (some (.int (lin - 4)))) (h2 := (q_cM (q_mA pix smp tr (q_nb p 0 dn ins) (q_fb z)) q_IM (q_mJ y pd), 34, 31630)) rfl rfl ?_ ?_
          · refine q_Ca_of (Nat.le_of_ble_eq_true rfl) ?_
            refine q_Ru_seg (g2 := (1, [(0, .ref 64)], [.ref 64], (q_cM (q_mA pix smp tr (q_nb p 0 dn ins) (q_fb z)) q_IM (q_mJ y pd), 34, 31630))) 1 (fun _ _ => rfl) ?_
            refine q_Ru_call (v := (some (.int lin))) (h2 := (q_cM (q_mA pix smp tr (q_nb p 0 dn ins) (q_fb z)) q_IM (q_mJ y pd), 34, 31630)) rfl rfl ?_ ?_
            · refine q_Ca_of (Nat.le_of_ble_eq_true rfl) ?_
              refine q_Ru_seg (g2 := (4, [(0, .ref 64)], [.long y], (q_cM (q_mA pix smp tr (q_nb p 0 dn ins) (q_fb z)) q_IM (q_mJ y pd), 34, 31630))) 2 (fun _ _ => rfl) ?_
              refine q_Ru_seg (g2 := (13, [(0, .ref 64)], [.int (((y / 24) - (y / 24) / 40 * 40).toInt32)], (q_cM (q_mA pix smp tr (q_nb p 0 dn ins) (q_fb z)) q_IM (q_mJ y pd), 34, 31630))) 5 (fun _ _ => rfl) ?_
              rw [hM]
              exact q_Ru_ret rfl rfl
            show q_Ru _ _ _ (4, [(0, .ref 64)], [.int lin], (q_cM (q_mA pix smp tr (q_nb p 0 dn ins) (q_fb z)) q_IM (q_mJ y pd), 34, 31630)) _
            refine q_Ru_seg (g2 := (6, [(0, .ref 64)], [.int (lin - 4)], (q_cM (q_mA pix smp tr (q_nb p 0 dn ins) (q_fb z)) q_IM (q_mJ y pd), 34, 31630))) 2 (fun _ _ => rfl) ?_
            exact q_Ru_ret rfl rfl
          show q_Ru _ _ _ (48, [(2, .int 0), (1, .int col), (0, .ref 64)], [.int (lin - 4)], (q_cM (q_mA pix smp tr (q_nb p 0 dn ins) (q_fb z)) q_IM (q_mJ y pd), 34, 31630)) _
          refine q_Ru_seg (g2 := (53, [(3, .int (lin - 4)), (2, .int 0), (1, .int col), (0, .ref 64)], [.int 31, .int 0, .int (lin - 4)], (q_cM (q_mA pix smp tr (q_nb p 0 dn ins) (q_fb z)) q_IM (q_mJ y pd), 34, 31630))) 4 (fun _ _ => rfl) ?_
          refine q_Ru_call (v := (some (.int 0))) (h2 := (q_cM (q_mA pix smp tr (q_nb p 0 dn ins) (q_fb z)) q_IM (q_mJ y pd), 34, 31630)) rfl rfl ?_ ?_
          · refine q_Ca_of (Nat.le_of_ble_eq_true rfl) ?_
            refine q_Ru_seg (g2 := (2, [(0, .int (lin - 4)), (1, .int 0), (2, .int 31)], [.int 0, .int (lin - 4)], (q_cM (q_mA pix smp tr (q_nb p 0 dn ins) (q_fb z)) q_IM (q_mJ y pd), 34, 31630))) 2 (fun _ _ => rfl) ?_
            refine q_Ru_rsF (g2 := (5, [(0, .int (lin - 4)), (1, .int 0), (2, .int 31)], [], (q_cM (q_mA pix smp tr (q_nb p 0 dn ins) (q_fb z)) q_IM (q_mJ y pd), 34, 31630))) rfl rfl h219 ?_
            refine q_Ru_seg (g2 := (7, [(0, .int (lin - 4)), (1, .int 0), (2, .int 31)], [.int 31, .int (lin - 4)], (q_cM (q_mA pix smp tr (q_nb p 0 dn ins) (q_fb z)) q_IM (q_mJ y pd), 34, 31630))) 2 (fun _ _ => rfl) ?_
            refine q_Ru_rsT (g2 := (14, [(0, .int (lin - 4)), (1, .int 0), (2, .int 31)], [], (q_cM (q_mA pix smp tr (q_nb p 0 dn ins) (q_fb z)) q_IM (q_mJ y pd), 34, 31630))) rfl rfl h221 ?_
            refine q_Ru_seg (g2 := (15, [(0, .int (lin - 4)), (1, .int 0), (2, .int 31)], [.int 0], (q_cM (q_mA pix smp tr (q_nb p 0 dn ins) (q_fb z)) q_IM (q_mJ y pd), 34, 31630))) 1 (fun _ _ => rfl) ?_
            exact q_Ru_ret rfl rfl
          show q_Ru _ _ _ (56, [(3, .int (lin - 4)), (2, .int 0), (1, .int col), (0, .ref 64)], [.int 0], (q_cM (q_mA pix smp tr (q_nb p 0 dn ins) (q_fb z)) q_IM (q_mJ y pd), 34, 31630)) _
          refine q_Ru_seg (g2 := (92, [(3, .int (lin - 4)), (2, .int 0), (1, .int col), (0, .ref 64)], [.ref 64], (q_cM (q_mA pix smp tr (q_nb p 0 dn ins) (q_fb z)) q_IM (q_mJ y pd), 34, 31630))) 2 (fun _ _ => rfl) ?_
          refine q_Ru_call (v := none) (h2 := (q_cM (q_mA pix smp tr (q_nb p 0 dn ins) (q_fb z)) q_IM (q_mJ y pd), 34, 31630)) rfl rfl ?_ ?_
          · exact (q_m_times pix smp tr p 0 dn ins z y pd col lin p1 p2 hC hM c0 c1 l0 l1 a0 a1 b0 b1 hp0 hp1 hp2 i0 i1  ).le (Nat.le_of_ble_eq_true rfl)
          show q_Ru _ _ _ (95, [(3, .int (lin - 4)), (2, .int 0), (1, .int col), (0, .ref 64)], [], (q_cM (q_mA pix smp tr (q_nb p 0 dn ins) (q_fb z)) q_IM (q_mJ y pd), 34, 31630)) _
          refine q_Ru_seg (g2 := (96, [(3, .int (lin - 4)), (2, .int 0), (1, .int col), (0, .ref 64)], [.ref 64], (q_cM (q_mA pix smp tr (q_nb p 0 dn ins) (q_fb z)) q_IM (q_mJ y pd), 34, 31630))) 1 (fun _ _ => rfl) ?_
          refine q_Ru_call (v := none) (h2 := (q_cM (q_mA pix smp tr (q_nb p 0 dn ins) (q_fb z)) q_IM (q_mJ y pd), 34, 31630)) rfl rfl ?_ ?_
          · exact (q_m_winds pix smp tr p 0 dn ins z y pd col lin p1 p2 hC hM c0 c1 l0 l1 a0 a1 b0 b1 hp0 hp1 hp2 i0 i1  ).le (Nat.le_of_ble_eq_true rfl)
          show q_Ru _ _ _ (99, [(3, .int (lin - 4)), (2, .int 0), (1, .int col), (0, .ref 64)], [], (q_cM (q_mA pix smp tr (q_nb p 0 dn ins) (q_fb z)) q_IM (q_mJ y pd), 34, 31630)) _
          refine q_Ru_seg (g2 := (102, [(3, .int (lin - 4)), (2, .int 0), (1, .int col), (0, .ref 64)], [.int 23, .int col], (q_cM (q_mA pix smp tr (q_nb p 0 dn ins) (q_fb z)) q_IM (q_mJ y pd), 34, 31630))) 2 (fun _ _ => rfl) ?_
          refine q_Ru_rsT (g2 := (109, [(3, .int (lin - 4)), (2, .int 0), (1, .int col), (0, .ref 64)], [], (q_cM (q_mA pix smp tr (q_nb p 0 dn ins) (q_fb z)) q_IM (q_mJ y pd), 34, 31630))) rfl rfl (q_d_neF h222) ?_
          refine q_Ru_seg (g2 := (114, [(3, .int (lin - 4)), (2, .int 0), (1, .int col), (0, .ref 64)], [.ref 64], (q_cM (q_mA pix smp tr (q_nb p 0 dn ins) (q_fb z)) q_IM (q_mJ y pd), 34, 31630))) 3 (fun _ _ => rfl) ?_
          refine q_Ru_call (v := none) (h2 := (q_cM (q_mA pix smp tr (q_nb p 1 dn ins) (q_fb z)) q_IM (q_mJ y pd), 34, 31630)) rfl rfl ?_ ?_
          · exact (q_m_go0 pix smp tr p dn ins z y pd col lin p1 p2 hC hM c0 c1 l0 l1 a0 a1 b0 b1 hp0 hp1 hp2 i0 i1  ).le (Nat.le_of_ble_eq_true rfl)
          show q_Ru _ _ _ (117, [(3, .int (lin - 4)), (2, .int 0), (1, .int col), (0, .ref 64)], [], (q_cM (q_mA pix smp tr (q_nb p 1 dn ins) (q_fb z)) q_IM (q_mJ y pd), 34, 31630)) _
          refine q_Ru_seg (g2 := (122, [(3, .int (lin - 4)), (2, .int 0), (1, .int col), (0, .ref 64)], [.long pd, .ref 64], (q_cM (q_mA pix smp tr (q_nb p 1 dn ins) (q_fb z)) q_IM (q_mJ y pd), 34, 31630))) 3 (fun _ _ => rfl) ?_
          refine q_Ru_seg (g2 := (140, [(3, .int (lin - 4)), (2, .int 0), (1, .int col), (0, .ref 64)], [.long y, .ref 64], (q_cM (q_mA pix smp tr (q_nb p 1 dn ins) (q_fb z)) q_IM (q_uI (q_mJ y pd) 0 16 (pd + 0)), 34, 31630))) 8 (fun _ _ => rfl) ?_
          refine q_Ru_seg (g2 := (146, [(3, .int (lin - 4)), (2, .int 0), (1, .int col), (0, .ref 64)], [.int 0], (q_cM (q_mA pix smp tr (q_nb p 1 dn ins) (q_fb z)) q_IM (q_uI (q_uI (q_mJ y pd) 0 16 (pd + 0)) 0 15 (y + 1)), 34, 31630))) 4 (fun _ _ => rfl) ?_
          exact q_Ru_ret rfl rfl
      | false =>
        cases h223 : decide (col < 4) with
        | true =>
          have h224 : decide (col = 23) = false := q_not_tr (q_tbl1 (fun col => !decide (col = 23)) (l := 0) (n := 3) (by decide +kernel) c0 (q_hi1 h223))
          refine ⟨pix, smp, ?_⟩
          refine q_Ca_of (Nat.le_of_ble_eq_true rfl) ?_
          refine q_Ru_seg (g2 := (4, [(0, .ref 64)], [.long y], (q_cM (q_mA pix smp tr (q_nb p 0 dn ins) (q_fb z)) q_IM (q_mJ y pd), 34, 31630))) 2 (fun _ _ => rfl) ?_
          refine q_Ru_seg (g2 := (9, [(0, .ref 64)], [.int ((y - y / 24 * 24).toInt32)], (q_cM (q_mA pix smp tr (q_nb p 0 dn ins) (q_fb z)) q_IM (q_mJ y pd), 34, 31630))) 3 (fun _ _ => rfl) ?_
          rw [hC]
          refine q_Ru_seg (g2 := (11, [(1, .int col), (0, .ref 64)], [.int col], (q_cM (q_mA pix smp tr (q_nb p 0 dn ins) (q_fb z)) q_IM (q_mJ y pd), 34, 31630))) 2 (fun _ _ => rfl) ?_
          refine q_Ru_rsT (g2 := (39, [(1, .int col), (0, .ref 64)], [], (q_cM (q_mA pix smp tr (q_nb p 0 dn ins) (q_fb z)) q_IM (q_mJ y pd), 34, 31630))) rfl rfl (q_d_neF h199) ?_
          refine q_Ru_seg (g2 := (40, [(1, .int col), (0, .ref 64)], [.ref 64], (q_cM (q_mA pix smp tr (q_nb p 0 dn ins) (q_fb z)) q_IM (q_mJ y pd), 34, 31630))) 1 (fun _ _ => rfl) ?_
          refine q_Ru_call (v := (some (.int 0))) (h2 := (q_cM (q_mA pix smp tr (q_nb p 0 dn ins) (q_fb z)) q_IM (q_mJ y pd), 34, 31630)) rfl rfl ?_ ?_
          · exact (by have e := q_m_picX pix smp tr p 0 dn ins z y pd col lin p1 p2 hC hM c0 c1 l0 l1 a0 a1 b0 b1 hp0 hp1 hp2 i0 i1; rw [hpic] at e; exact e.le (Nat.le_of_ble_eq_true rfl))
          show q_Ru _ _ _ (43, [(1, .int col), (0, .ref 64)], [.int 0], (q_cM (q_mA pix smp tr (q_nb p 0 dn ins) (q_fb z)) q_IM (q_mJ y pd), 34, 31630)) _
          refine q_Ru_seg (g2 := (45, [(2, .int 0), (1, .int col), (0, .ref 64)], [.ref 64], (q_cM (q_mA pix smp tr (q_nb p 0 dn ins) (q_fb z)) q_IM (q_mJ y pd), 34, 31630))) 2 (fun _ _ => rfl) ?_
          refine q_Ru_call (v := (some (.int (lin - 4)))) (h2 := (q_cM (q_mA pix smp tr (q_nb p 0 dn ins) (q_fb z)) q_IM (q_mJ y pd), 34, 31630)) rfl rfl ?_ ?_
          · refine q_Ca_of (Nat.le_of_ble_eq_true rfl) ?_
            refine q_Ru_seg (g2 := (1, [(0, .ref 64)], [.ref 64], (q_cM (q_mA pix smp tr (q_nb p 0 dn ins) (q_fb z)) q_IM (q_mJ y pd), 34, 31630))) 1 (fun _ _ => rfl) ?_
            refine q_Ru_call (v := (some (.int lin))) (h2 := (q_cM (q_mA pix smp tr (q_nb p 0 dn ins) (q_fb z)) q_IM (q_mJ y pd), 34, 31630)) rfl rfl ?_ ?_
            · refine q_Ca_of (Nat.le_of_ble_eq_true rfl) ?_
              refine q_Ru_seg (g2 := (4, [(0, .ref 64)], [.long y], (q_cM (q_mA pix smp tr (q_nb p 0 dn ins) (q_fb z)) q_IM (q_mJ y pd), 34, 31630))) 2 (fun _ _ => rfl) ?_
              refine q_Ru_seg (g2 := (13, [(0, .ref 64)], [.int (((y / 24) - (y / 24) / 40 * 40).toInt32)], (q_cM (q_mA pix smp tr (q_nb p 0 dn ins) (q_fb z)) q_IM (q_mJ y pd), 34, 31630))) 5 (fun _ _ => rfl) ?_
              rw [hM]
              exact q_Ru_ret rfl rfl
            show q_Ru _ _ _ (4, [(0, .ref 64)], [.int lin], (q_cM (q_mA pix smp tr (q_nb p 0 dn ins) (q_fb z)) q_IM (q_mJ y pd), 34, 31630)) _
            refine q_Ru_seg (g2 := (6, [(0, .ref 64)], [.int (lin - 4)], (q_cM (q_mA pix smp tr (q_nb p 0 dn ins) (q_fb z)) q_IM (q_mJ y pd), 34, 31630))) 2 (fun _ _ => rfl) ?_
            exact q_Ru_ret rfl rfl
          show q_Ru _ _ _ (48, [(2, .int 0), (1, .int col), (0, .ref 64)], [.int (lin - 4)], (q_cM (q_mA pix smp tr (q_nb p 0 dn ins) (q_fb z)) q_IM (q_mJ y pd), 34, 31630)) _
          refine q_Ru_seg (g2 := (53, [(3, .int (lin - 4)), (2, .int 0), (1, .int col), (0, .ref 64)], [.int 31, .int 0, .int (lin - 4)], (q_cM (q_mA pix smp tr (q_nb p 0 dn ins) (q_fb z)) q_IM (q_mJ y pd), 34, 31630))) 4 (fun _ _ => rfl) ?_
          refine q_Ru_call (v := (some (.int 1))) (h2 := (q_cM (q_mA pix smp tr (q_nb p 0 dn ins) (q_fb z)) q_IM (q_mJ y pd), 34, 31630)) rfl rfl ?_ ?_
          · refine q_Ca_of (Nat.le_of_ble_eq_true rfl) ?_
            refine q_Ru_seg (g2 := (2, [(0, .int (lin - 4)), (1, .int 0), (2, .int 31)], [.int 0, .int (lin - 4)], (q_cM (q_mA pix smp tr (q_nb p 0 dn ins) (q_fb z)) q_IM (q_mJ y pd), 34, 31630))) 2 (fun _ _ => rfl) ?_
            refine q_Ru_rsF (g2 := (5, [(0, .int (lin - 4)), (1, .int 0), (2, .int 31)], [], (q_cM (q_mA pix smp tr (q_nb p 0 dn ins) (q_fb z)) q_IM (q_mJ y pd), 34, 31630))) rfl rfl h219 ?_
            refine q_Ru_seg (g2 := (7, [(0, .int (lin - 4)), (1, .int 0), (2, .int 31)], [.int 31, .int (lin - 4)], (q_cM (q_mA pix smp tr (q_nb p 0 dn ins) (q_fb z)) q_IM (q_mJ y pd), 34, 31630))) 2 (fun _ _ => rfl) ?_
            refine q_Ru_rsF (g2 := (10, [(0, .int (lin - 4)), (1, .int 0), (2, .int 31)], [], (q_cM (q_mA pix smp tr (q_nb p 0 dn ins) (q_fb z)) q_IM (q_mJ y pd), 34, 31630))) rfl rfl h221 ?_
            refine q_Ru_seg (g2 := (15, [(0, .int (lin - 4)), (1, .int 0), (2, .int 31)], [.int 1], (q_cM (q_mA pix smp tr (q_nb p 0 dn ins) (q_fb z)) q_IM (q_mJ y pd), 34, 31630))) 2 (fun _ _ => rfl) ?_
            exact q_Ru_ret rfl rfl
          show q_Ru _ _ _ (56, [(3, .int (lin - 4)), (2, .int 0), (1, .int col), (0, .ref 64)], [.int 1], (q_cM (q_mA pix smp tr (q_nb p 0 dn ins) (q_fb z)) q_IM (q_mJ y pd), 34, 31630)) _
          refine q_Ru_seg (g2 := (63, [(3, .int (lin - 4)), (2, .int 0), (1, .int col), (0, .ref 64)], [.int 19, .int 4, .int col], (q_cM (q_mA pix smp tr (q_nb p 0 dn ins) (q_fb z)) q_IM (q_mJ y pd), 34, 31630))) 4 (fun _ _ => rfl) ?_
          refine q_Ru_call (v := (some (.int 0))) (h2 := (q_cM (q_mA pix smp tr (q_nb p 0 dn ins) (q_fb z)) q_IM (q_mJ y pd), 34, 31630)) rfl rfl ?_ ?_
          · refine q_Ca_of (Nat.le_of_ble_eq_true rfl) ?_
            refine q_Ru_seg (g2 := (2, [(0, .int col), (1, .int 4), (2, .int 19)], [.int 4, .int col], (q_cM (q_mA pix smp tr (q_nb p 0 dn ins) (q_fb z)) q_IM (q_mJ y pd), 34, 31630))) 2 (fun _ _ => rfl) ?_
            refine q_Ru_rsT (g2 := (14, [(0, .int col), (1, .int 4), (2, .int 19)], [], (q_cM (q_mA pix smp tr (q_nb p 0 dn ins) (q_fb z)) q_IM (q_mJ y pd), 34, 31630))) rfl rfl h223 ?_
            refine q_Ru_seg (g2 := (15, [(0, .int col), (1, .int 4), (2, .int 19)], [.int 0], (q_cM (q_mA pix smp tr (q_nb p 0 dn ins) (q_fb z)) q_IM (q_mJ y pd), 34, 31630))) 1 (fun _ _ => rfl) ?_
            exact q_Ru_ret rfl rfl
          show q_Ru _ _ _ (66, [(3, .int (lin - 4)), (2, .int 0), (1, .int col), (0, .ref 64)], [.int 0], (q_cM (q_mA pix smp tr (q_nb p 0 dn ins) (q_fb z)) q_IM (q_mJ y pd), 34, 31630)) _
          refine q_Ru_seg (g2 := (92, [(3, .int (lin - 4)), (2, .int 0), (1, .int col), (0, .ref 64)], [.ref 64], (q_cM (q_mA pix smp tr (q_nb p 0 dn ins) (q_fb z)) q_IM (q_mJ y pd), 34, 31630))) 2 (fun _ _ => rfl) ?_
          refine q_Ru_call (v := none) (h2 := (q_cM (q_mA pix smp tr (q_nb p 0 dn ins) (q_fb z)) q_IM (q_mJ y pd), 34, 31630)) rfl rfl ?_ ?_
          · exact (q_m_times pix smp tr p 0 dn ins z y pd col lin p1 p2 hC hM c0 c1 l0 l1 a0 a1 b0 b1 hp0 hp1 hp2 i0 i1  ).le (Nat.le_of_ble_eq_true rfl)
          show q_Ru _ _ _ (95, [(3, .int (lin - 4)), (2, .int 0), (1, .int col), (0, .ref 64)], [], (q_cM (q_mA pix smp tr (q_nb p 0 dn ins) (q_fb z)) q_IM (q_mJ y pd), 34, 31630)) _
          refine q_Ru_seg (g2 := (96, [(3, .int (lin - 4)), (2, .int 0), (1, .int col), (0, .ref 64)], [.ref 64], (q_cM (q_mA pix smp tr (q_nb p 0 dn ins) (q_fb z)) q_IM (q_mJ y pd), 34, 31630))) 1 (fun _ _ => rfl) ?_
          refine q_Ru_call (v := none) (h2 := (q_cM (q_mA pix smp tr (q_nb p 0 dn ins) (q_fb z)) q_IM (q_mJ y pd), 34, 31630)) rfl rfl ?_ ?_
          · exact (q_m_winds pix smp tr p 0 dn ins z y pd col lin p1 p2 hC hM c0 c1 l0 l1 a0 a1 b0 b1 hp0 hp1 hp2 i0 i1  ).le (Nat.le_of_ble_eq_true rfl)
          show q_Ru _ _ _ (99, [(3, .int (lin - 4)), (2, .int 0), (1, .int col), (0, .ref 64)], [], (q_cM (q_mA pix smp tr (q_nb p 0 dn ins) (q_fb z)) q_IM (q_mJ y pd), 34, 31630)) _
          refine q_Ru_seg (g2 := (102, [(3, .int (lin - 4)), (2, .int 0), (1, .int col), (0, .ref 64)], [.int 23, .int col], (q_cM (q_mA pix smp tr (q_nb p 0 dn ins) (q_fb z)) q_IM (q_mJ y pd), 34, 31630))) 2 (fun _ _ => rfl) ?_
          refine q_Ru_rsT (g2 := (109, [(3, .int (lin - 4)), (2, .int 0), (1, .int col), (0, .ref 64)], [], (q_cM (q_mA pix smp tr (q_nb p 0 dn ins) (q_fb z)) q_IM (q_mJ y pd), 34, 31630))) rfl rfl (q_d_neF h224) ?_
          refine q_Ru_seg (g2 := (114, [(3, .int (lin - 4)), (2, .int 0), (1, .int col), (0, .ref 64)], [.ref 64], (q_cM (q_mA pix smp tr (q_nb p 0 dn ins) (q_fb z)) q_IM (q_mJ y pd), 34, 31630))) 3 (fun _ _ => rfl) ?_
          refine q_Ru_call (v := none) (h2 := (q_cM (q_mA pix smp tr (q_nb p 1 dn ins) (q_fb z)) q_IM (q_mJ y pd), 34, 31630)) rfl rfl ?_ ?_
          · exact (q_m_go0 pix smp tr p dn ins z y pd col lin p1 p2 hC hM c0 c1 l0 l1 a0 a1 b0 b1 hp0 hp1 hp2 i0 i1  ).le (Nat.le_of_ble_eq_true rfl)
          show q_Ru _ _ _ (117, [(3, .int (lin - 4)), (2, .int 0), (1, .int col), (0, .ref 64)], [], (q_cM (q_mA pix smp tr (q_nb p 1 dn ins) (q_fb z)) q_IM (q_mJ y pd), 34, 31630)) _
          refine q_Ru_seg (g2 := (122, [(3, .int (lin - 4)), (2, .int 0), (1, .int col), (0, .ref 64)], [.long pd, .ref 64], (q_cM (q_mA pix smp tr (q_nb p 1 dn ins) (q_fb z)) q_IM (q_mJ y pd), 34, 31630))) 3 (fun _ _ => rfl) ?_
          refine q_Ru_seg (g2 := (140, [(3, .int (lin - 4)), (2, .int 0), (1, .int col), (0, .ref 64)], [.long y, .ref 64], (q_cM (q_mA pix smp tr (q_nb p 1 dn ins) (q_fb z)) q_IM (q_uI (q_mJ y pd) 0 16 (pd + 0)), 34, 31630))) 8 (fun _ _ => rfl) ?_
          refine q_Ru_seg (g2 := (146, [(3, .int (lin - 4)), (2, .int 0), (1, .int col), (0, .ref 64)], [.int 0], (q_cM (q_mA pix smp tr (q_nb p 1 dn ins) (q_fb z)) q_IM (q_uI (q_uI (q_mJ y pd) 0 16 (pd + 0)) 0 15 (y + 1)), 34, 31630))) 4 (fun _ _ => rfl) ?_
          exact q_Ru_ret rfl rfl
        | false =>
          cases h225 : decide (19 < col) with
          | true =>
            cases h226 : decide (col = 23) with
            | true =>
              have eh226 := of_decide_eq_true h226
              subst eh226
              obtain ⟨z250a, p250⟩ := q_m_sample pix smp tr p 0 dn ins z y pd col lin p1 p2 hC hM c0 c1 l0 l1 a0 a1 b0 b1 hp0 hp1 hp2 i0 i1  
              refine ⟨pix, z250a, ?_⟩
              refine q_Ca_of (Nat.le_of_ble_eq_true rfl) ?_
              refine q_Ru_seg (g2 := (4, [(0, .ref 64)], [.long y], (q_cM (q_mA pix smp tr (q_nb p 0 dn ins) (q_fb z)) q_IM (q_mJ y pd), 34, 31630))) 2 (fun _ _ => rfl) ?_
              refine q_Ru_seg (g2 := (9, [(0, .ref 64)], [.int ((y - y / 24 * 24).toInt32)], (q_cM (q_mA pix smp tr (q_nb p 0 dn ins) (q_fb z)) q_IM (q_mJ y pd), 34, 31630))) 3 (fun _ _ => rfl) ?_
              rw [hC]
              refine q_Ru_seg (g2 := (11, [(1, .int col), (0, .ref 64)], [.int col], (q_cM (q_mA pix smp tr (q_nb p 0 dn ins) (q_fb z)) q_IM (q_mJ y pd), 34, 31630))) 2 (fun _ _ => rfl) ?_
              refine q_Ru_rsT (g2 := (39, [(1, .int col), (0, .ref 64)], [], (q_cM (q_mA pix smp tr (q_nb p 0 dn ins) (q_fb z)) q_IM (q_mJ y pd), 34, 31630))) rfl rfl (q_d_neF h199) ?_
              refine q_Ru_seg (g2 := (40, [(1, .int col), (0, .ref 64)], [.ref 64], (q_cM (q_mA pix smp tr (q_nb p 0 dn ins) (q_fb z)) q_IM (q_mJ y pd), 34, 31630))) 1 (fun _ _ => rfl) ?_
              refine q_Ru_call (v := (some (.int 0))) (h2 := (q_cM (q_mA pix smp tr (q_nb p 0 dn ins) (q_fb z)) q_IM (q_mJ y pd), 34, 31630)) rfl rfl ?_ ?_
              · exact (by have e := q_m_picX pix smp tr p 0 dn ins z y pd col lin p1 p2 hC hM c0 c1 l0 l1 a0 a1 b0 b1 hp0 hp1 hp2 i0 i1; rw [hpic] at e; exact e.le (Nat.le_of_ble_eq_true rfl))
              show q_Ru _ _ _ (43, [(1, .int col), (0, .ref 64)], [.int 0], (q_cM (q_mA pix smp tr (q_nb p 0 dn ins) (q_fb z)) q_IM (q_mJ y pd), 34, 31630)) _
              refine q_Ru_seg (g2 := (45, [(2, .int 0), (1, .int col), (0, .ref 64)], [.ref 64], (q_cM (q_mA pix smp tr (q_nb p 0 dn ins) (q_fb z)) q_IM (q_mJ y pd), 34, 31630))) 2 (fun _ _ => rfl) ?_
              refine q_Ru_call (v := (some (.int (lin - 4)))) (h2 := (q_cM (q_mA pix smp tr (q_nb p 0 dn ins) (q_fb z)) q_IM (q_mJ y pd), 34, 31630)) rfl rfl ?_ ?_
              · refine q_Ca_of (Nat.le_of_ble_eq_true rfl) ?_
                refine q_Ru_seg (g2 := (1, [(0, .ref 64)], [.ref 64], (q_cM (q_mA pix smp tr (q_nb p 0 dn ins) (q_fb z)) q_IM (q_mJ y pd), 34, 31630))) 1 (fun _ _ => rfl) ?_
                refine q_Ru_call (v := (some (.int lin))) (h2 := (q_cM (q_mA pix smp tr (q_nb p 0 dn ins) (q_fb z)) q_IM (q_mJ y pd), 34, 31630)) rfl rfl ?_ ?_
                · refine q_Ca_of (Nat.le_of_ble_eq_true rfl) ?_
                  refine q_Ru_seg (g2 := (4, [(0, .ref 64)], [.long y], (q_cM (q_mA pix smp tr (q_nb p 0 dn ins) (q_fb z)) q_IM (q_mJ y pd), 34, 31630))) 2 (fun _ _ => rfl) ?_
                  refine q_Ru_seg (g2 := (13, [(0, .ref 64)], [.int (((y / 24) - (y / 24) / 40 * 40).toInt32)], (q_cM (q_mA pix smp tr (q_nb p 0 dn ins) (q_fb z)) q_IM (q_mJ y pd), 34, 31630))) 5 (fun _ _ => rfl) ?_
                  rw [hM]
                  exact q_Ru_ret rfl rfl
                show q_Ru _ _ _ (4, [(0, .ref 64)], [.int lin], (q_cM (q_mA pix smp tr (q_nb p 0 dn ins) (q_fb z)) q_IM (q_mJ y pd), 34, 31630)) _
                refine q_Ru_seg (g2 := (6, [(0, .ref 64)], [.int (lin - 4)], (q_cM (q_mA pix smp tr (q_nb p 0 dn ins) (q_fb z)) q_IM (q_mJ y pd), 34, 31630))) 2 (fun _ _ => rfl) ?_
                exact q_Ru_ret rfl rfl
              show q_Ru _ _ _ (48, [(2, .int 0), (1, .int col), (0, .ref 64)], [.int (lin - 4)], (q_cM (q_mA pix smp tr (q_nb p 0 dn ins) (q_fb z)) q_IM (q_mJ y pd), 34, 31630)) _
              refine q_Ru_seg (g2 := (53, [(3, .int (lin - 4)), (2, .int 0), (1, .int col), (0, .ref 64)], [.int 31, .int 0, .int (lin - 4)], (q_cM (q_mA pix smp tr (q_nb p 0 dn ins) (q_fb z)) q_IM (q_mJ y pd), 34, 31630))) 4 (fun _ _ => rfl) ?_
              refine q_Ru_call (v := (some (.int 1))) (h2 := (q_cM (q_mA pix smp tr (q_nb p 0 dn ins) (q_fb z)) q_IM (q_mJ y pd), 34, 31630)) rfl rfl ?_ ?_
              · refine q_Ca_of (Nat.le_of_ble_eq_true rfl) ?_
                refine q_Ru_seg (g2 := (2, [(0, .int (lin - 4)), (1, .int 0), (2, .int 31)], [.int 0, .int (lin - 4)], (q_cM (q_mA pix smp tr (q_nb p 0 dn ins) (q_fb z)) q_IM (q_mJ y pd), 34, 31630))) 2 (fun _ _ => rfl) ?_
                refine q_Ru_rsF (g2 := (5, [(0, .int (lin - 4)), (1, .int 0), (2, .int 31)], [], (q_cM (q_mA pix smp tr (q_nb p 0 dn ins) (q_fb z)) q_IM (q_mJ y pd), 34, 31630))) rfl rfl h219 ?_
                refine q_Ru_seg (g2 := (7, [(0, .int (lin - 4)), (1, .int 0), (2, .int 31)], [.int 31, .int (lin - 4)], (q_cM (q_mA pix smp tr (q_nb p 0 dn ins) (q_fb z)) q_IM (q_mJ y pd), 34, 31630))) 2 (fun _ _ => rfl) ?_
                refine q_Ru_rsF (g2 := (10, [(0, .int (lin - 4)), (1, .int 0), (2, .int 31)], [], (q_cM (q_mA pix smp tr (q_nb p 0 dn ins) (q_fb z)) q_IM (q_mJ y pd), 34, 31630))) rfl rfl h221 ?_
                refine q_Ru_seg (g2 := (15, [(0, .int (lin - 4)), (1, .int 0), (2, .int 31)], [.int 1], (q_cM (q_mA pix smp tr (q_nb p 0 dn ins) (q_fb z)) q_IM (q_mJ y pd), 34, 31630))) 2 (fun _ _ => rfl) ?_
                exact q_Ru_ret rfl rfl
              show q_Ru _ _ _ (56, [(3, .int (lin - 4)), (2, .int 0), (1, .int col), (0, .ref 64)], [.int 1], (q_cM (q_mA pix smp tr (q_nb p 0 dn ins) (q_fb z)) q_IM (q_mJ y pd), 34, 31630)) _
              refine q_Ru_seg (g2 := (63, [(3, .int (lin - 4)), (2, .int 0), (1, .int col), (0, .ref 64)], [.int 19, .int 4, .int col], (q_cM (q_mA pix smp tr (q_nb p 0 dn ins) (q_fb z)) q_IM (q_mJ y pd), 34, 31630))) 4 (fun _ _ => rfl) ?_
              refine q_Ru_call (v := (some (.int 0))) (h2 := (q_cM (q_mA pix smp tr (q_nb p 0 dn ins) (q_fb z)) q_IM (q_mJ y pd), 34, 31630)) rfl rfl ?_ ?_
              · refine q_Ca_of (Nat.le_of_ble_eq_true rfl) ?_
                refine q_Ru_seg (g2 := (2, [(0, .int col), (1, .int 4), (2, .int 19)], [.int 4, .int col], (q_cM (q_mA pix smp tr (q_nb p 0 dn ins) (q_fb z)) q_IM (q_mJ y pd), 34, 31630))) 2 (fun _ _ => rfl) ?_
                refine q_Ru_rsF (g2 := (5, [(0, .int col), (1, .int 4), (2, .int 19)], [], (q_cM (q_mA pix smp tr (q_nb p 0 dn ins) (q_fb z)) q_IM (q_mJ y pd), 34, 31630))) rfl rfl h223 ?_
                refine q_Ru_seg (g2 := (7, [(0, .int col), (1, .int 4), (2, .int 19)], [.int 19, .int col], (q_cM (q_mA pix smp tr (q_nb p 0 dn ins) (q_fb z)) q_IM (q_mJ y pd), 34, 31630))) 2 (fun _ _ => rfl) ?_
                refine q_Ru_rsT (g2 := (14, [(0, .int col), (1, .int 4), (2, .int 19)], [], (q_cM (q_mA pix smp tr (q_nb p 0 dn ins) (q_fb z)) q_IM (q_mJ y pd), 34, 31630))) rfl rfl h225 ?_
                refine q_Ru_seg (g2 := (15, [(0, .int col), (1, .int 4), (2, .int 19)], [.int 0], (q_cM (q_mA pix smp tr (q_nb p 0 dn ins) (q_fb z)) q_IM (q_mJ y pd), 34, 31630))) 1 (fun _ _ => rfl) ?_
                exact q_Ru_ret rfl rfl
              show q_Ru _ _ _ (66, [(3, .int (lin - 4)), (2, .int 0), (1, .int col), (0, .ref 64)], [.int 0], (q_cM (q_mA pix smp tr (q_nb p 0 dn ins) (q_fb z)) q_IM (q_mJ y pd), 34, 31630)) _
              refine q_Ru_seg (g2 := (92, [(3, .int (lin - 4)), (2, .int 0), (1, .int col), (0, .ref 64)], [.ref 64], (q_cM (q_mA pix smp tr (q_nb p 0 dn ins) (q_fb z)) q_IM (q_mJ y pd), 34, 31630))) 2 (fun _ _ => rfl) ?_
              refine q_Ru_call (v := none) (h2 := (q_cM (q_mA pix smp tr (q_nb p 0 dn ins) (q_fb z)) q_IM (q_mJ y pd), 34, 31630)) rfl rfl ?_ ?_
              · exact (q_m_times pix smp tr p 0 dn ins z y pd col lin p1 p2 hC hM c0 c1 l0 l1 a0 a1 b0 b1 hp0 hp1 hp2 i0 i1  ).le (Nat.le_of_ble_eq_true rfl)
              show q_Ru _ _ _ (95, [(3, .int (lin - 4)), (2, .int 0), (1, .int col), (0, .ref 64)], [], (q_cM (q_mA pix smp tr (q_nb p 0 dn ins) (q_fb z)) q_IM (q_mJ y pd), 34, 31630)) _
              refine q_Ru_seg (g2 := (96, [(3, .int (lin - 4)), (2, .int 0), (1, .int col), (0, .ref 64)], [.ref 64], (q_cM (q_mA pix smp tr (q_nb p 0 dn ins) (q_fb z)) q_IM (q_mJ y pd), 34, 31630))) 1 (fun _ _ => rfl) ?_
              refine q_Ru_call (v := none) (h2 := (q_cM (q_mA pix smp tr (q_nb p 0 dn ins) (q_fb z)) q_IM (q_mJ y pd), 34, 31630)) rfl rfl ?_ ?_
              · exact (q_m_winds pix smp tr p 0 dn ins z y pd col lin p1 p2 hC hM c0 c1 l0 l1 a0 a1 b0 b1 hp0 hp1 hp2 i0 i1  ).le (Nat.le_of_ble_eq_true rfl)
              show q_Ru _ _ _ (99, [(3, .int (lin - 4)), (2, .int 0), (1, .int col), (0, .ref 64)], [], (q_cM (q_mA pix smp tr (q_nb p 0 dn ins) (q_fb z)) q_IM (q_mJ y pd), 34, 31630)) _
              refine q_Ru_seg (g2 := (102, [(3, .int (lin - 4)), (2, .int 0), (1, .int col), (0, .ref 64)], [.int 23, .int col], (q_cM (q_mA pix smp tr (q_nb p 0 dn ins) (q_fb z)) q_IM (q_mJ y pd), 34, 31630))) 2 (fun _ _ => rfl) ?_
              refine q_Ru_rsF (g2 := (105, [(3, .int (lin - 4)), (2, .int 0), (1, .int col), (0, .ref 64)], [], (q_cM (q_mA pix smp tr (q_nb p 0 dn ins) (q_fb z)) q_IM (q_mJ y pd), 34, 31630))) rfl rfl (q_d_neT h226) ?_
              refine q_Ru_seg (g2 := (106, [(3, .int (lin - 4)), (2, .int 0), (1, .int col), (0, .ref 64)], [.ref 64], (q_cM (q_mA pix smp tr (q_nb p 0 dn ins) (q_fb z)) q_IM (q_mJ y pd), 34, 31630))) 1 (fun _ _ => rfl) ?_
              refine q_Ru_call (v := none) (h2 := (q_cM (q_mA pix z250a tr (q_nb p 0 dn ins) (q_fb z)) q_IM (q_mJ y pd), 34, 31630)) rfl rfl ?_ ?_
              · exact p250.le (Nat.le_of_ble_eq_true rfl)
              show q_Ru _ _ _ (109, [(3, .int (lin - 4)), (2, .int 0), (1, .int col), (0, .ref 64)], [], (q_cM (q_mA pix z250a tr (q_nb p 0 dn ins) (q_fb z)) q_IM (q_mJ y pd), 34, 31630)) _
              refine q_Ru_seg (g2 := (114, [(3, .int (lin - 4)), (2, .int 0), (1, .int col), (0, .ref 64)], [.ref 64], (q_cM (q_mA pix z250a tr (q_nb p 0 dn ins) (q_fb z)) q_IM (q_mJ y pd), 34, 31630))) 3 (fun _ _ => rfl) ?_
              refine q_Ru_call (v := none) (h2 := (q_cM (q_mA pix z250a tr (q_nb p 1 dn ins) (q_fb z)) q_IM (q_mJ y pd), 34, 31630)) rfl rfl ?_ ?_
              · exact (q_m_go0 pix z250a tr p dn ins z y pd col lin p1 p2 hC hM c0 c1 l0 l1 a0 a1 b0 b1 hp0 hp1 hp2 i0 i1  ).le (Nat.le_of_ble_eq_true rfl)
              show q_Ru _ _ _ (117, [(3, .int (lin - 4)), (2, .int 0), (1, .int col), (0, .ref 64)], [], (q_cM (q_mA pix z250a tr (q_nb p 1 dn ins) (q_fb z)) q_IM (q_mJ y pd), 34, 31630)) _
              refine q_Ru_seg (g2 := (122, [(3, .int (lin - 4)), (2, .int 0), (1, .int col), (0, .ref 64)], [.long pd, .ref 64], (q_cM (q_mA pix z250a tr (q_nb p 1 dn ins) (q_fb z)) q_IM (q_mJ y pd), 34, 31630))) 3 (fun _ _ => rfl) ?_
              refine q_Ru_seg (g2 := (140, [(3, .int (lin - 4)), (2, .int 0), (1, .int col), (0, .ref 64)], [.long y, .ref 64], (q_cM (q_mA pix z250a tr (q_nb p 1 dn ins) (q_fb z)) q_IM (q_uI (q_mJ y pd) 0 16 (pd + 0)), 34, 31630))) 8 (fun _ _ => rfl) ?_
              refine q_Ru_seg (g2 := (146, [(3, .int (lin - 4)), (2, .int 0), (1, .int col), (0, .ref 64)], [.int 0], (q_cM (q_mA pix z250a tr (q_nb p 1 dn ins) (q_fb z)) q_IM (q_uI (q_uI (q_mJ y pd) 0 16 (pd + 0)) 0 15 (y + 1)), 34, 31630))) 4 (fun _ _ => rfl) ?_
              exact q_Ru_ret rfl rfl
            | false =>
              refine ⟨pix, smp, ?_⟩
              refine q_Ca_of (Nat.le_of_ble_eq_true rfl) ?_
              refine q_Ru_seg (g2 := (4, [(0, .ref 64)], [.long y], (q_cM (q_mA pix smp tr (q_nb p 0 dn ins) (q_fb z)) q_IM (q_mJ y pd), 34, 31630))) 2 (fun _ _ => rfl) ?_
              refine q_Ru_seg (g2 := (9, [(0, .ref 64)], [.int ((y - y / 24 * 24).toInt32)], (q_cM (q_mA pix smp tr (q_nb p 0 dn ins) (q_fb z)) q_IM (q_mJ y pd), 34, 31630))) 3 (fun _ _ => rfl) ?_
              rw [hC]
              refine q_Ru_seg (g2 := (11, [(1, .int col), (0, .ref 64)], [.int col], (q_cM (q_mA pix smp tr (q_nb p 0 dn ins) (q_fb z)) q_IM (q_mJ y pd), 34, 31630))) 2 (fun _ _ => rfl) ?_
              refine q_Ru_rsT (g2 := (39, [(1, .int col), (0, .ref 64)], [], (q_cM (q_mA pix smp tr (q_nb p 0 dn ins) (q_fb z)) q_IM (q_mJ y pd), 34, 31630))) rfl rfl (q_d_neF h199) ?_
              refine q_Ru_seg (g2 := (40, [(1, .int col), (0, .ref 64)], [.ref 64], (q_cM (q_mA pix smp tr (q_nb p 0 dn ins) (q_fb z)) q_IM (q_mJ y pd), 34, 31630))) 1 (fun _ _ => rfl) ?_
              refine q_Ru_call (v := (some (.int 0))) (h2 := (q_cM (q_mA pix smp tr (q_nb p 0 dn ins) (q_fb z)) q_IM (q_mJ y pd), 34, 31630)) rfl rfl ?_ ?_
              · exact (by have e := q_m_picX pix smp tr p 0 dn ins z y pd col lin p1 p2 hC hM c0 c1 l0 l1 a0 a1 b0 b1 hp0 hp1 hp2 i0 i1; rw [hpic] at e; exact e.le (Nat.le_of_ble_eq_true rfl))
              show q_Ru _ _ _ (43, [(1, .int col), (0, .ref 64)], [.int 0], (q_cM (q_mA pix smp tr (q_nb p 0 dn ins) (q_fb z)) q_IM (q_mJ y pd), 34, 31630)) _
              refine q_Ru_seg (g2 := (45, [(2, .int 0), (1, .int col), (0, .ref 64)], [.ref 64], (q_cM (q_mA pix smp tr (q_nb p 0 dn ins) (q_fb z)) q_IM (q_mJ y pd), 34, 31630))) 2 (fun _ _ => rfl) ?_
              refine q_Ru_call (v := (some (.int (lin - 4)))) (h2 := (q_cM (q_mA pix smp tr (q_nb p 0 dn ins) (q_fb z)) q_IM (q_mJ y pd), 34, 31630)) rfl rfl ?_ ?_
              · refine q_Ca_of (Nat.le_of_ble_eq_true rfl) ?_
                refine q_Ru_seg (g2 := (1, [(0, .ref 64)], [.ref 64], (q_cM (q_mA pix smp tr (q_nb p 0 dn ins) (q_fb z)) q_IM (q_mJ y pd), 34, 31630))) 1 (fun _ _ => rfl) ?_
                refine q_Ru_call (v := (some (.int lin))) (h2 := (q_cM (q_mA pix smp tr (q_nb p 0 dn ins) (q_fb z)) q_IM (q_mJ y pd), 34, 31630)) rfl rfl ?_ ?_
                · refine q_Ca_of (Nat.le_of_ble_eq_true rfl) ?_
                  refine q_Ru_seg (g2 := (4, [(0, .ref 64)], [.long y], (q_cM (q_mA pix smp tr (q_nb p 0 dn ins) (q_fb z)) q_IM (q_mJ y pd), 34, 31630))) 2 (fun _ _ => rfl) ?_
                  refine q_Ru_seg (g2 := (13, [(0, .ref 64)], [.int (((y / 24) - (y / 24) / 40 * 40).toInt32)], (q_cM (q_mA pix smp tr (q_nb p 0 dn ins) (q_fb z)) q_IM (q_mJ y pd), 34, 31630))) 5 (fun _ _ => rfl) ?_
                  rw [hM]
                  exact q_Ru_ret rfl rfl
                show q_Ru _ _ _ (4, [(0, .ref 64)], [.int lin], (q_cM (q_mA pix smp tr (q_nb p 0 dn ins) (q_fb z)) q_IM (q_mJ y pd), 34, 31630)) _
                refine q_Ru_seg (g2 := (6, [(0, .ref 64)], [.int (lin - 4)], (q_cM (q_mA pix smp tr (q_nb p 0 dn ins) (q_fb z)) q_IM (q_mJ y pd), 34, 31630))) 2 (fun _ _ => rfl) ?_
                exact q_Ru_ret rfl rfl
              show q_Ru _ _ _ (48, [(2, .int 0), (1, .int col), (0, .ref 64)], [.int (lin - 4)], (q_cM (q_mA pix smp tr (q_nb p 0 dn ins) (q_fb z)) q_IM (q_mJ y pd), 34, 31630)) _
              refine q_Ru_seg (g2 := (53, [(3, .int (lin - 4)), (2, .int 0), (1, .int col), (0, .ref 64)], [.int 31, .int 0, .int (lin - 4)], (q_cM (q_mA pix smp tr (q_nb p 0 dn ins) (q_fb z)) q_IM (q_mJ y pd), 34, 31630))) 4 (fun _ _ => rfl) ?_
              refine q_Ru_call (v := (some (.int 1))) (h2 := (q_cM (q_mA pix smp tr (q_nb p 0 dn ins) (q_fb z)) q_IM (q_mJ y pd), 34, 31630)) rfl rfl ?_ ?_
              · refine q_Ca_of (Nat.le_of_ble_eq_true rfl) ?_
                refine q_Ru_seg (g2 := (2, [(0, .int (lin - 4)), (1, .int 0), (2, .int 31)], [.int 0, .int (lin - 4)], (q_cM (q_mA pix smp tr (q_nb p 0 dn ins) (q_fb z)) q_IM (q_mJ y pd), 34, 31630))) 2 (fun _ _ => rfl) ?_
                refine q_Ru_rsF (g2 := (5, [(0, .int (lin - 4)), (1, .int 0), (2, .int 31)], [], (q_cM (q_mA pix smp tr (q_nb p 0 dn ins) (q_fb z)) q_IM (q_mJ y pd), 34, 31630))) rfl rfl h219 ?_
                refine q_Ru_seg (g2 := (7, [(0, .int (lin - 4)), (1, .int 0), (2, .int 31)], [.int 31, .int (lin - 4)], (q_cM (q_mA pix smp tr (q_nb p 0 dn ins) (q_fb z)) q_IM (q_mJ y pd), 34, 31630))) 2 (fun _ _ => rfl) ?_
                refine q_Ru_rsF (g2 := (10, [(0, .int (lin - 4)), (1, .int 0), (2, .int 31)], [], (q_cM (q_mA pix smp tr (q_nb p 0 dn ins) (q_fb z)) q_IM (q_mJ y pd), 34, 31630))) rfl rfl h221 ?_
                refine q_Ru_seg (g2 := (15, [(0, .int (lin - 4)), (1, .int 0), (2, .int 31)], [.int 1], (q_cM (q_mA pix smp tr (q_nb p 0 dn ins) (q_fb z)) q_IM (q_mJ y pd), 34, 31630))) 2 (fun _ _ => rfl) ?_
                exact q_Ru_ret rfl rfl
              show q_Ru _ _ _ (56, [(3, .int (lin - 4)), (2, .int 0), (1, .int col), (0, .ref 64)], [.int 1], (q_cM (q_mA pix smp tr (q_nb p 0 dn ins) (q_fb z)) q_IM (q_mJ y pd), 34, 31630)) _
              refine q_Ru_seg (g2 := (63, [(3, .int (lin - 4)), (2, .int 0), (1, .int col), (0, .ref 64)], [.int 19, .int 4, .int col], (q_cM (q_mA pix smp tr (q_nb p 0 dn ins) (q_fb z)) q_IM (q_mJ y pd), 34, 31630))) 4 (fun _ _ => rfl) ?_
              refine q_Ru_call (v := (some (.int 0))) (h2 := (q_cM (q_mA pix smp tr (q_nb p 0 dn ins) (q_fb z)) q_IM (q_mJ y pd), 34, 31630)) rfl rfl ?_ ?_
              · refine q_Ca_of (Nat.le_of_ble_eq_true rfl) ?_
                refine q_Ru_seg (g2 := (2, [(0, .int col), (1, .int 4), (2, .int 19)], [.int 4, .int col], (q_cM (q_mA pix smp tr (q_nb p 0 dn ins) (q_fb z)) q_IM (q_mJ y pd), 34, 31630))) 2 (fun _ _ => rfl) ?_
                refine q_Ru_rsF (g2 := (5, [(0, .int col), (1, .int 4), (2, .int 19)], [], (q_cM (q_mA pix smp tr (q_nb p 0 dn ins) (q_fb z)) q_IM (q_mJ y pd), 34, 31630))) rfl rfl h223 ?_
                refine q_Ru_seg (g2 := (7, [(0, .int col), (1, .int 4), (2, .int 19)], [.int 19, .int col], (q_cM (q_mA pix smp tr (q_nb p 0 dn ins) (q_fb z)) q_IM (q_mJ y pd), 34, 31630))) 2 (fun _ _ => rfl) ?_
                refine q_Ru_rsT (g2 := (14, [(0, .int col), (1, .int 4), (2, .int 19)], [], (q_cM (q_mA pix smp tr (q_nb p 0 dn ins) (q_fb z)) q_IM (q_mJ y pd), 34, 31630))) rfl rfl h225 ?_
                refine q_Ru_seg (g2 := (15, [(0, .int col), (1, .int 4), (2, .int 19)], [.int 0], (q_cM (q_mA pix smp tr (q_nb p 0 dn ins) (q_fb z)) q_IM (q_mJ y pd), 34, 31630))) 1 (fun _ _ => rfl) ?_
                exact q_Ru_ret rfl rfl
              show q_Ru _ _ _ (66, [(3, .int (lin - 4)), (2, .int 0), (1, .int col), (0, .ref 64)], [.int 0], (q_cM (q_mA pix smp tr (q_nb p 0 dn ins) (q_fb z)) q_IM (q_mJ y pd), 34, 31630)) _
              refine q_Ru_seg (g2 := (92, [(3, .int (lin - 4)), (2, .int 0), (1, .int col), (0, .ref 64)], [.ref 64], (q_cM (q_mA pix smp tr (q_nb p 0 dn ins) (q_fb z)) q_IM (q_mJ y pd), 34, 31630))) 2 (fun _ _ => rfl) ?_
              refine q_Ru_call (v := none) (h2 := (q_cM (q_mA pix smp tr (q_nb p 0 dn ins) (q_fb z)) q_IM (q_mJ y pd), 34, 31630)) rfl rfl ?_ ?_
              · exact (q_m_times pix smp tr p 0 dn ins z y pd col lin p1 p2 hC hM c0 c1 l0 l1 a0 a1 b0 b1 hp0 hp1 hp2 i0 i1  ).le (Nat.le_of_ble_eq_true rfl)
              show q_Ru _ _ _ (95, [(3, .int (lin - 4)), (2, .int 0), (1, .int col), (0, .ref 64)], [], (q_cM (q_mA pix smp tr (q_nb p 0 dn ins) (q_fb z)) q_IM (q_mJ y pd), 34, 31630)) _
              refine q_Ru_seg (g2 := (96, [(3, .int (lin - 4)), (2, .int 0), (1, .int col), (0, .ref 64)], [.ref 64], (q_cM (q_mA pix smp tr (q_nb p 0 dn ins) (q_fb z)) q_IM (q_mJ y pd), 34, 31630))) 1 (fun _ _ => rfl) ?_
              refine q_Ru_call (v := none) (h2 := (q_cM (q_mA pix smp tr (q_nb p 0 dn ins) (q_fb z)) q_IM (q_mJ y pd), 34, 31630)) rfl rfl ?_ ?_
              · exact (q_m_winds pix smp tr p 0 dn ins z y pd col lin p1 p2 hC hM c0 c1 l0 l1 a0 a1 b0 b1 hp0 hp1 hp2 i0 i1  ).le (Nat.le_of_ble_eq_true rfl)
              show q_Ru _ _ _ (99, [(3, .int (lin - 4)), (2, .int 0), (1, .int col), (0, .ref 64)], [], (q_cM (q_mA pix smp tr (q_nb p 0 dn ins) (q_fb z)) q_IM (q_mJ y pd), 34, 31630)) _
              refine q_Ru_seg (g2 := (102, [(3, .int (lin - 4)), (2, .int 0), (1, .int col), (0, .ref 64)], [.int 23, .int col], (q_cM (q_mA pix smp tr (q_nb p 0 dn ins) (q_fb z)) q_IM (q_mJ y pd), 34, 31630))) 2 (fun _ _ => rfl) ?_
              refine q_Ru_rsT (g2 := (109, [(3, .int (lin - 4)), (2, .int 0), (1, .int col), (0, .ref 64)], [], (q_cM (q_mA pix smp tr (q_nb p 0 dn ins) (q_fb z)) q_IM (q_mJ y pd), 34, 31630))) rfl rfl (q_d_neF h226) ?_
              refine q_Ru_seg (g2 := (114, [(3, .int (lin - 4)), (2, .int 0), (1, .int col), (0, .ref 64)], [.ref 64], (q_cM (q_mA pix smp tr (q_nb p 0 dn ins) (q_fb z)) q_IM (q_mJ y pd), 34, 31630))) 3 (fun _ _ => rfl) ?_
              refine q_Ru_call (v := none) (h2 := (q_cM (q_mA pix smp tr (q_nb p 1 dn ins) (q_fb z)) q_IM (q_mJ y pd), 34, 31630)) rfl rfl ?_ ?_
              · exact (q_m_go0 pix smp tr p dn ins z y pd col lin p1 p2 hC hM c0 c1 l0 l1 a0 a1 b0 b1 hp0 hp1 hp2 i0 i1  ).le (Nat.le_of_ble_eq_true rfl)
              show q_Ru _ _ _ (117, [(3, .int (lin - 4)), (2, .int 0), (1, .int col), (0, .ref 64)], [], (q_cM (q_mA pix smp tr (q_nb p 1 dn ins) (q_fb z)) q_IM (q_mJ y pd), 34, 31630)) _
              refine q_Ru_seg (g2 := (122, [(3, .int (lin - 4)), (2, .int 0), (1, .int col), (0, .ref 64)], [.long pd, .ref 64], (q_cM (q_mA pix smp tr (q_nb p 1 dn ins) (q_fb z)) q_IM (q_mJ y pd), 34, 31630))) 3 (fun _ _ => rfl) ?_
              refine q_Ru_seg (g2 := (140, [(3, .int (lin - 4)), (2, .int 0), (1, .int col), (0, .ref 64)], [.long y, .ref 64], (q_cM (q_mA pix smp tr (q_nb p 1 dn ins) (q_fb z)) q_IM (q_uI (q_mJ y pd) 0 16 (pd + 0)), 34, 31630))) 8 (fun _ _ => rfl) ?_
              refine q_Ru_seg (g2 := (146, [(3, .int (lin - 4)), (2, .int 0), (1, .int col), (0, .ref 64)], [.int 0], (q_cM (q_mA pix smp tr (q_nb p 1 dn ins) (q_fb z)) q_IM (q_uI (q_uI (q_mJ y pd) 0 16 (pd + 0)) 0 15 (y + 1)), 34, 31630))) 4 (fun _ _ => rfl) ?_
              exact q_Ru_ret rfl rfl
          | false =>
            have h227 : decide (col = 23) = false := q_not_tr (q_tbl1 (fun col => !decide (col = 23)) (l := 4) (n := 15) (by decide +kernel) (q_lo1 h223) (q_hi2 h225))
            obtain ⟨x259, p259⟩ := q_m_draws pix smp tr p 0 dn ins z y pd ((2 * col) - 8) (lin - 4) (of_decide_eq_true (q_tbl1 (fun col => decide (0 ≤ ((2 * col) - 8).toInt ∧ ((2 * col) - 8).toInt ≤ 31)) (l := 4) (n := 15) (by decide +kernel) (q_lo1 h223) (q_hi2 h225))).1 (of_decide_eq_true (q_tbl1 (fun col => decide (0 ≤ ((2 * col) - 8).toInt ∧ ((2 * col) - 8).toInt ≤ 31)) (l := 4) (n := 15) (by decide +kernel) (q_lo1 h223) (q_hi2 h225))).2 (of_decide_eq_true (q_tbl1 (fun lin => decide (0 ≤ (lin - 4).toInt ∧ (lin - 4).toInt ≤ 31)) (l := 4) (n := 31) (by decide +kernel) (q_sub_lo 4 (q_lo1 h219) l0 l1) (q_sub_hi 35 (q_hi2 h221) (q_sub_lo 4 (q_lo1 h219) l0 l1) l1))).1 (of_decide_eq_true (q_tbl1 (fun lin => decide (0 ≤ (lin - 4).toInt ∧ (lin - 4).toInt ≤ 31)) (l := 4) (n := 31) (by decide +kernel) (q_sub_lo 4 (q_lo1 h219) l0 l1) (q_sub_hi 35 (q_hi2 h221) (q_sub_lo 4 (q_lo1 h219) l0 l1) l1))).2
            obtain ⟨x260, p260⟩ := q_m_draws x259 smp tr p 0 dn ins z y pd ((2 * col) - 7) (lin - 4) (of_decide_eq_true (q_tbl1 (fun col => decide (0 ≤ ((2 * col) - 7).toInt ∧ ((2 * col) - 7).toInt ≤ 31)) (l := 4) (n := 15) (by decide +kernel) (q_lo1 h223) (q_hi2 h225))).1 (of_decide_eq_true (q_tbl1 (fun col => decide (0 ≤ ((2 * col) - 7).toInt ∧ ((2 * col) - 7).toInt ≤ 31)) (l := 4) (n := 15) (by decide +kernel) (q_lo1 h223) (q_hi2 h225))).2 (of_decide_eq_true (q_tbl1 (fun lin => decide (0 ≤ (lin - 4).toInt ∧ (lin - 4).toInt ≤ 31)) (l := 4) (n := 31) (by decide +kernel) (q_sub_lo 4 (q_lo1 h219) l0 l1) (q_sub_hi 35 (q_hi2 h221) (q_sub_lo 4 (q_lo1 h219) l0 l1) l1))).1 (of_decide_eq_true (q_tbl1 (fun lin => decide (0 ≤ (lin - 4).toInt ∧ (lin - 4).toInt ≤ 31)) (l := 4) (n := 31) (by decide +kernel) (q_sub_lo 4 (q_lo1 h219) l0 l1) (q_sub_hi 35 (q_hi2 h221) (q_sub_lo 4 (q_lo1 h219) l0 l1) l1))).2
            refine ⟨x260, smp, ?_⟩
            refine q_Ca_of (Nat.le_of_ble_eq_true rfl) ?_
            refine q_Ru_seg (g2 := (4, [(0, .ref 64)], [.long y], (q_cM (q_mA pix smp tr (q_nb p 0 dn ins) (q_fb z)) q_IM (q_mJ y pd), 34, 31630))) 2 (fun _ _ => rfl) ?_
            refine q_Ru_seg (g2 := (9, [(0, .ref 64)], [.int ((y - y / 24 * 24).toInt32)], (q_cM (q_mA pix smp tr (q_nb p 0 dn ins) (q_fb z)) q_IM (q_mJ y pd), 34, 31630))) 3 (fun _ _ => rfl) ?_
            rw [hC]
            refine q_Ru_seg (g2 := (11, [(1, .int col), (0, .ref 64)], [.int col], (q_cM (q_mA pix smp tr (q_nb p 0 dn ins) (q_fb z)) q_IM (q_mJ y pd), 34, 31630))) 2 (fun _ _ => rfl) ?_
            refine q_Ru_rsT (g2 := (39, [(1, .int col), (0, .ref 64)], [], (q_cM (q_mA pix smp tr (q_nb p 0 dn ins) (q_fb z)) q_IM (q_mJ y pd), 34, 31630))) rfl rfl (q_d_neF h199) ?_
            refine q_Ru_seg (g2 := (40, [(1, .int col), (0, .ref 64)], [.ref 64], (q_cM (q_mA pix smp tr (q_nb p 0 dn ins) (q_fb z)) q_IM (q_mJ y pd), 34, 31630))) 1 (fun _ _ => rfl) ?_
            refine q_Ru_call (v := (some (.int 0))) (h2 := (q_cM (q_mA pix smp tr (q_nb p 0 dn ins) (q_fb z)) q_IM (q_mJ y pd), 34, 31630)) rfl rfl ?_ ?_
            · exact (by have e := q_m_picX pix smp tr p 0 dn ins z y pd col lin p1 p2 hC hM c0 c1 l0 l1 a0 a1 b0 b1 hp0 hp1 hp2 i0 i1; rw [hpic] at e; exact e.le (Nat.le_of_ble_eq_true rfl))
            show q_Ru _ _ _ (43, [(1, .int col), (0, .ref 64)], [.int 0], (q_cM (q_mA pix smp tr (q_nb p 0 dn ins) (q_fb z)) q_IM (q_mJ y pd), 34, 31630)) _
            refine q_Ru_seg (g2 := (45, [(2, .int 0), (1, .int col), (0, .ref 64)], [.ref 64], (q_cM (q_mA pix smp tr (q_nb p 0 dn ins) (q_fb z)) q_IM (q_mJ y pd), 34, 31630))) 2 (fun _ _ => rfl) ?_
            refine q_Ru_call (v := (some (.int (lin - 4)))) (h2 := (q_cM (q_mA pix smp tr (q_nb p 0 dn ins) (q_fb z)) q_IM (q_mJ y pd), 34, 31630)) rfl rfl ?_ ?_
            · refine q_Ca_of (Nat.le_of_ble_eq_true rfl) ?_
              refine q_Ru_seg (g2 := (1, [(0, .ref 64)], [.ref 64], (q_cM (q_mA pix smp tr (q_nb p 0 dn ins) (q_fb z)) q_IM (q_mJ y pd), 34, 31630))) 1 (fun _ _ => rfl) ?_
              refine q_Ru_call (v := (some (.int lin))) (h2 := (q_cM (q_mA pix smp tr (q_nb p 0 dn ins) (q_fb z)) q_IM (q_mJ y pd), 34, 31630)) rfl rfl ?_ ?_
              · refine q_Ca_of (Nat.le_of_ble_eq_true rfl) ?_
                refine q_Ru_seg (g2 := (4, [(0, .ref 64)], [.long y], (q_cM (q_mA pix smp tr (q_nb p 0 dn ins) (q_fb z)) q_IM (q_mJ y pd), 34, 31630))) 2 (fun _ _ => rfl) ?_
                refine q_Ru_seg (g2 := (13, [(0, .ref 64)], [.int (((y / 24) - (y / 24) / 40 * 40).toInt32)], (q_cM (q_mA pix smp tr (q_nb p 0 dn ins) (q_fb z)) q_IM (q_mJ y pd), 34, 31630))) 5 (fun _ _ => rfl) ?_
                rw [hM]
                exact q_Ru_ret rfl rfl
              show q_Ru _ _ _ (4, [(0, .ref 64)], [.int lin], (q_cM (q_mA pix smp tr (q_nb p 0 dn ins) (q_fb z)) q_IM (q_mJ y pd), 34, 31630)) _
              refine q_Ru_seg (g2 := (6, [(0, .ref 64)], [.int (lin - 4)], (q_cM (q_mA pix smp tr (q_nb p 0 dn ins) (q_fb z)) q_IM (q_mJ y pd), 34, 31630))) 2 (fun _ _ => rfl) ?_
              exact q_Ru_ret rfl rfl
            show q_Ru _ _ _ (48, [(2, .int 0), (1, .int col), (0, .ref 64)], [.int (lin - 4)], (q_cM (q_mA pix smp tr (q_nb p 0 dn ins) (q_fb z)) q_IM (q_mJ y pd), 34, 31630)) _
            refine q_Ru_seg (g2 := (53, [(3, .int (lin - 4)), (2, .int 0), (1, .int col), (0, .ref 64)], [.int 31, .int 0, .int (lin - 4)], (q_cM (q_mA pix smp tr (q_nb p 0 dn ins) (q_fb z)) q_IM (q_mJ y pd), 34, 31630))) 4 (fun _ _ => rfl) ?_
            refine q_Ru_call (v := (some (.int 1))) (h2 := (q_cM (q_mA pix smp tr (q_nb p 0 dn ins) (q_fb z)) q_IM (q_mJ y pd), 34, 31630)) rfl rfl ?_ ?_
            · refine q_Ca_of (Nat.le_of_ble_eq_true rfl) ?_
              refine q_Ru_seg (g2 := (2, [(0, .int (lin - 4)), (1, .int 0), (2, .int 31)], [.int 0, .int (lin - 4)], (q_cM (q_mA pix smp tr (q_nb p 0 dn ins) (q_fb z)) q_IM (q_mJ y pd), 34, 31630))) 2 (fun _ _ => rfl) ?_
              refine q_Ru_rsF (g2 := (5, [(0, .int (lin - 4)), (1, .int 0), (2, .int 31)], [], (q_cM (q_mA pix smp tr (q_nb p 0 dn ins) (q_fb z)) q_IM (q_mJ y pd), 34, 31630))) rfl rfl h219 ?_
              refine q_Ru_seg (g2 := (7, [(0, .int (lin - 4)), (1, .int 0), (2, .int 31)], [.int 31, .int (lin - 4)], (q_cM (q_mA pix smp tr (q_nb p 0 dn ins) (q_fb z)) q_IM (q_mJ y pd), 34, 31630))) 2 (fun _ _ => rfl) ?_
              refine q_Ru_rsF (g2 := (10, [(0, .int (lin - 4)), (1, .int 0), (2, .int 31)], [], (q_cM (q_mA pix smp tr (q_nb p 0 dn ins) (q_fb z)) q_IM (q_mJ y pd), 34, 31630))) rfl rfl h221 ?_
              refine q_Ru_seg (g2 := (15, [(0, .int (lin - 4)), (1, .int 0), (2, .int 31)], [.int 1], (q_cM (q_mA pix smp tr (q_nb p 0 dn ins) (q_fb z)) q_IM (q_mJ y pd), 34, 31630))) 2 (fun _ _ => rfl) ?_
              exact q_Ru_ret rfl rfl
            show q_Ru _ _ _ (56, [(3, .int (lin - 4)), (2, .int 0), (1, .int col), (0, .ref 64)], [.int 1], (q_cM (q_mA pix smp tr (q_nb p 0 dn ins) (q_fb z)) q_IM (q_mJ y pd), 34, 31630)) _
            refine q_Ru_seg (g2 := (63, [(3, .int (lin - 4)), (2, .int 0), (1, .int col), (0, .ref 64)], [.int 19, .int 4, .int col], (q_cM (q_mA pix smp tr (q_nb p 0 dn ins) (q_fb z)) q_IM (q_mJ y pd), 34, 31630))) 4 (fun _ _ => rfl) ?_
            refine q_Ru_call (v := (some (.int 1))) (h2 := (q_cM (q_mA pix smp tr (q_nb p 0 dn ins) (q_fb z)) q_IM (q_mJ y pd), 34, 31630)) rfl rfl ?_ ?_
            · refine q_Ca_of (Nat.le_of_ble_eq_true rfl) ?_
              refine q_Ru_seg (g2 := (2, [(0, .int col), (1, .int 4), (2, .int 19)], [.int 4, .int col], (q_cM (q_mA pix smp tr (q_nb p 0 dn ins) (q_fb z)) q_IM (q_mJ y pd), 34, 31630))) 2 (fun _ _ => rfl) ?_
              refine q_Ru_rsF (g2 := (5, [(0, .int col), (1, .int 4), (2, .int 19)], [], (q_cM (q_mA pix smp tr (q_nb p 0 dn ins) (q_fb z)) q_IM (q_mJ y pd), 34, 31630))) rfl rfl h223 ?_
              refine q_Ru_seg (g2 := (7, [(0, .int col), (1, .int 4), (2, .int 19)], [.int 19, .int col], (q_cM (q_mA pix smp tr (q_nb p 0 dn ins) (q_fb z)) q_IM (q_mJ y pd), 34, 31630))) 2 (fun _ _ => rfl) ?_
              refine q_Ru_rsF (g2 := (10, [(0, .int col), (1, .int 4), (2, .int 19)], [], (q_cM (q_mA pix smp tr (q_nb p 0 dn ins) (q_fb z)) q_IM (q_mJ y pd), 34, 31630))) rfl rfl h225 ?_
              refine q_Ru_seg (g2 := (15, [(0, .int col), (1, .int 4), (2, .int 19)], [.int 1], (q_cM (q_mA pix smp tr (q_nb p 0 dn ins) (q_fb z)) q_IM (q_mJ y pd), 34, 31630))) 2 (fun _ _ => rfl) ?_
              exact q_Ru_ret rfl rfl
            show q_Ru _ _ _ (66, [(3, .int (lin - 4)), (2, .int 0), (1, .int col), (0, .ref 64)], [.int 1], (q_cM (q_mA pix smp tr (q_nb p 0 dn ins) (q_fb z)) q_IM (q_mJ y pd), 34, 31630)) _
            refine q_Ru_seg (g2 := (77, [(3, .int (lin - 4)), (2, .int 0), (1, .int col), (0, .ref 64)], [.int (lin - 4), .int ((2 * col) - 8), .ref 64], (q_cM (q_mA pix smp tr (q_nb p 0 dn ins) (q_fb z)) q_IM (q_mJ y pd), 34, 31630))) 8 (fun _ _ => rfl) ?_
            refine q_Ru_call (v := none) (h2 := (q_cM (q_mA x259 smp tr (q_nb p 0 dn ins) (q_fb z)) q_IM (q_mJ y pd), 34, 31630)) rfl rfl ?_ ?_
            · exact p259.le (Nat.le_of_ble_eq_true rfl)
            show q_Ru _ _ _ (80, [(3, .int (lin - 4)), (2, .int 0), (1, .int col), (0, .ref 64)], [], (q_cM (q_mA x259 smp tr (q_nb p 0 dn ins) (q_fb z)) q_IM (q_mJ y pd), 34, 31630)) _
            refine q_Ru_seg (g2 := (88, [(3, .int (lin - 4)), (2, .int 0), (1, .int col), (0, .ref 64)], [.int (lin - 4), .int ((2 * col) - 7), .ref 64], (q_cM (q_mA x259 smp tr (q_nb p 0 dn ins) (q_fb z)) q_IM (q_mJ y pd), 34, 31630))) 7 (fun _ _ => rfl) ?_
            refine q_Ru_call (v := none) (h2 := (q_cM (q_mA x260 smp tr (q_nb p 0 dn ins) (q_fb z)) q_IM (q_mJ y pd), 34, 31630)) rfl rfl ?_ ?_
            · exact p260.le (Nat.le_of_ble_eq_true rfl)
            show q_Ru _ _ _ (91, [(3, .int (lin - 4)), (2, .int 0), (1, .int col), (0, .ref 64)], [], (q_cM (q_mA x260 smp tr (q_nb p 0 dn ins) (q_fb z)) q_IM (q_mJ y pd), 34, 31630)) _
            refine q_Ru_seg (g2 := (92, [(3, .int (lin - 4)), (2, .int 0), (1, .int col), (0, .ref 64)], [.ref 64], (q_cM (q_mA x260 smp tr (q_nb p 0 dn ins) (q_fb z)) q_IM (q_mJ y pd), 34, 31630))) 1 (fun _ _ => rfl) ?_
            refine q_Ru_call (v := none) (h2 := (q_cM (q_mA x260 smp tr (q_nb p 0 dn ins) (q_fb z)) q_IM (q_mJ y pd), 34, 31630)) rfl rfl ?_ ?_
            · exact (q_m_times x260 smp tr p 0 dn ins z y pd col lin p1 p2 hC hM c0 c1 l0 l1 a0 a1 b0 b1 hp0 hp1 hp2 i0 i1  ).le (Nat.le_of_ble_eq_true rfl)
            show q_Ru _ _ _ (95, [(3, .int (lin - 4)), (2, .int 0), (1, .int col), (0, .ref 64)], [], (q_cM (q_mA x260 smp tr (q_nb p 0 dn ins) (q_fb z)) q_IM (q_mJ y pd), 34, 31630)) _
            refine q_Ru_seg (g2 := (96, [(3, .int (lin - 4)), (2, .int 0), (1, .int col), (0, .ref 64)], [.ref 64], (q_cM (q_mA x260 smp tr (q_nb p 0 dn ins) (q_fb z)) q_IM (q_mJ y pd), 34, 31630))) 1 (fun _ _ => rfl) ?_
            refine q_Ru_call (v := none) (h2 := (q_cM (q_mA x260 smp tr (q_nb p 0 dn ins) (q_fb z)) q_IM (q_mJ y pd), 34, 31630)) rfl rfl ?_ ?_
            · exact (q_m_winds x260 smp tr p 0 dn ins z y pd col lin p1 p2 hC hM c0 c1 l0 l1 a0 a1 b0 b1 hp0 hp1 hp2 i0 i1  ).le (Nat.le_of_ble_eq_true rfl)
            show q_Ru _ _ _ (99, [(3, .int (lin - 4)), (2, .int 0), (1, .int col), (0, .ref 64)], [], (q_cM (q_mA x260 smp tr (q_nb p 0 dn ins) (q_fb z)) q_IM (q_mJ y pd), 34, 31630)) _
            refine q_Ru_seg (g2 := (102, [(3, .int (lin - 4)), (2, .int 0), (1, .int col), (0, .ref 64)], [.int 23, .int col], (q_cM (q_mA x260 smp tr (q_nb p 0 dn ins) (q_fb z)) q_IM (q_mJ y pd), 34, 31630))) 2 (fun _ _ => rfl) ?_
            refine q_Ru_rsT (g2 := (109, [(3, .int (lin - 4)), (2, .int 0), (1, .int col), (0, .ref 64)], [], (q_cM (q_mA x260 smp tr (q_nb p 0 dn ins) (q_fb z)) q_IM (q_mJ y pd), 34, 31630))) rfl rfl (q_d_neF h227) ?_
            refine q_Ru_seg (g2 := (114, [(3, .int (lin - 4)), (2, .int 0), (1, .int col), (0, .ref 64)], [.ref 64], (q_cM (q_mA x260 smp tr (q_nb p 0 dn ins) (q_fb z)) q_IM (q_mJ y pd), 34, 31630))) 3 (fun _ _ => rfl) ?_
            refine q_Ru_call (v := none) (h2 := (q_cM (q_mA x260 smp tr (q_nb p 1 dn ins) (q_fb z)) q_IM (q_mJ y pd), 34, 31630)) rfl rfl ?_ ?_
            · exact (q_m_go0 x260 smp tr p dn ins z y pd col lin p1 p2 hC hM c0 c1 l0 l1 a0 a1 b0 b1 hp0 hp1 hp2 i0 i1  ).le (Nat.le_of_ble_eq_true rfl)
            show q_Ru _ _ _ (117, [(3, .int (lin - 4)), (2, .int 0), (1, .int col), (0, .ref 64)], [], (q_cM (q_mA x260 smp tr (q_nb p 1 dn ins) (q_fb z)) q_IM (q_mJ y pd), 34, 31630)) _
            refine q_Ru_seg (g2 := (122, [(3, .int (lin - 4)), (2, .int 0), (1, .int col), (0, .ref 64)], [.long pd, .ref 64], (q_cM (q_mA x260 smp tr (q_nb p 1 dn ins) (q_fb z)) q_IM (q_mJ y pd), 34, 31630))) 3 (fun _ _ => rfl) ?_
            refine q_Ru_seg (g2 := (140, [(3, .int (lin - 4)), (2, .int 0), (1, .int col), (0, .ref 64)], [.long y, .ref 64], (q_cM (q_mA x260 smp tr (q_nb p 1 dn ins) (q_fb z)) q_IM (q_uI (q_mJ y pd) 0 16 (pd + 0)), 34, 31630))) 8 (fun _ _ => rfl) ?_
            refine q_Ru_seg (g2 := (146, [(3, .int (lin - 4)), (2, .int 0), (1, .int col), (0, .ref 64)], [.int 0], (q_cM (q_mA x260 smp tr (q_nb p 1 dn ins) (q_fb z)) q_IM (q_uI (q_uI (q_mJ y pd) 0 16 (pd + 0)) 0 15 (y + 1)), 34, 31630))) 4 (fun _ _ => rfl) ?_
            exact q_Ru_ret rfl rfl
set_option maxHeartbeats 4000000 in
theorem q_m_pass01 (pix smp tr : Nat → Int32) (p dn ins z : Int32) (y pd : Int64) (col lin p1 p2 : Int32) (hC : (y - y / 24 * 24).toInt32 = col) (hM : (y / 24 - y / 24 / 40 * 40).toInt32 = lin) (c0 : 0 ≤ col.toInt) (c1 : col.toInt ≤ 23) (l0 : 0 ≤ lin.toInt) (l1 : lin.toInt ≤ 39) (a0 : 0 ≤ p.toInt) (a1 : p.toInt ≤ 3839) (b0 : 0 ≤ p1.toInt) (b1 : p1.toInt ≤ 3839) (hp0 : p &&& 4095 = p) (hp1 : (p + 1) &&& 4095 = p1) (hp2 : (p + 2) &&& 4095 = p2) (i0 : 0 ≤ ins.toInt) (i1 : ins.toInt ≤ 1000) (hpic : q_picX lin col = 0) : ∃ pix2 smp2 tr2 z2, q_Ca q_TB0 9 235 [.ref 64] (q_cM (q_mA pix smp tr (q_nb p 1 dn ins) (q_fb z)) q_IM (q_mJ y pd), 34, 31630) (.inl (some (.int 0)), (q_cM (q_mA pix2 smp2 tr2 (q_nb p2 0 (dn + 1) (ins + 1)) (q_fb z2)) q_IM (q_mJ (y + 1) (pd + 0)), 34, 31630)) := by
  cases h228 : decide (col = 0) with
  | true =>
    have eh228 := of_decide_eq_true h228
    subst eh228
    cases h229 : decide (lin = 0) with
    | true =>
      have eh229 := of_decide_eq_true h229
      subst eh229
      cases h230 : decide (lin - 4 < 0) with
      | true =>
        cases h231 : decide (col = 23) with
        | true =>
          have eh231 := of_decide_eq_true h231
          subst eh231
          obtain ⟨z268a, p268⟩ := q_m_sample pix smp tr p 1 dn ins z y pd col lin p1 p2 hC hM c0 c1 l0 l1 a0 a1 b0 b1 hp0 hp1 hp2 i0 i1  
          obtain ⟨z269a, z269b, p269⟩ := q_m_go1 pix z268a tr p dn ins z y pd col lin p1 p2 hC hM c0 c1 l0 l1 a0 a1 b0 b1 hp0 hp1 hp2 i0 i1  
          refine ⟨pix, z268a, z269a, z269b, ?_⟩
          refine q_Ca_of (Nat.le_of_ble_eq_true rfl) ?_
          refine q_Ru_seg (g2 := (4, [(0, .ref 64)], [.long y], (q_cM (q_mA pix smp tr (q_nb p 1 dn ins) (q_fb z)) q_IM (q_mJ y pd), 34, 31630))) 2 (fun _ _ => rfl) ?_
          refine q_Ru_seg (g2 := (9, [(0, .ref 64)], [.int ((y - y / 24 * 24).toInt32)], (q_cM (q_mA pix smp tr (q_nb p 1 dn ins) (q_fb z)) q_IM (q_mJ y pd), 34, 31630))) 3 (fun _ _ => rfl) ?_
          rw [hC]
          refine q_Ru_seg (g2 := (11, [(1, .int col), (0, .ref 64)], [.int col], (q_cM (q_mA pix smp tr (q_nb p 1 dn ins) (q_fb z)) q_IM (q_mJ y pd), 34, 31630))) 2 (fun _ _ => rfl) ?_
          refine q_Ru_rsF (g2 := (14, [(1, .int col), (0, .ref 64)], [], (q_cM (q_mA pix smp tr (q_nb p 1 dn ins) (q_fb z)) q_IM (q_mJ y pd), 34, 31630))) rfl rfl (q_d_neT h228) ?_
          refine q_Ru_seg (g2 := (15, [(1, .int col), (0, .ref 64)], [.ref 64], (q_cM (q_mA pix smp tr (q_nb p 1 dn ins) (q_fb z)) q_IM (q_mJ y pd), 34, 31630))) 1 (fun _ _ => rfl) ?_
          refine q_Ru_call (v := (some (.int lin))) (h2 := (q_cM (q_mA pix smp tr (q_nb p 1 dn ins) (q_fb z)) q_IM (q_mJ y pd), 34, 31630)) rfl rfl ?_ ?_
          · refine q_Ca_of (Nat.le_of_ble_eq_true rfl) ?_
            refine q_Ru_seg (g2 := (4, [(0, .ref 64)], [.long y], (q_cM (q_mA pix smp tr (q_nb p 1 dn ins) (q_fb z)) q_IM (q_mJ y pd), 34, 31630))) 2 (fun _ _ => rfl) ?_
            refine q_Ru_seg (g2 := (13, [(0, .ref 64)], [.int (((y / 24) - (y / 24) / 40 * 40).toInt32)], (q_cM (q_mA pix smp tr (q_nb p 1 dn ins) (q_fb z)) q_IM (q_mJ y pd), 34, 31630))) 5 (fun _ _ => rfl) ?_
            rw [hM]
            exact q_Ru_ret rfl rfl
          show q_Ru _ _ _ (18, [(1, .int col), (0, .ref 64)], [.int lin], (q_cM (q_mA pix smp tr (q_nb p 1 dn ins) (q_fb z)) q_IM (q_mJ y pd), 34, 31630)) _
          refine q_Ru_seg (g2 := (25, [(1, .int col), (0, .ref 64)], [.int 0, .int lin], (q_cM (q_mA pix smp tr (q_nb p 1 dn ins) (q_fb z)) q_IM (q_mJ y pd), 34, 31630))) 4 (fun _ _ => rfl) ?_
          refine q_Ru_rsF (g2 := (28, [(1, .int col), (0, .ref 64)], [], (q_cM (q_mA pix smp tr (q_nb p 1 dn ins) (q_fb z)) q_IM (q_mJ y pd), 34, 31630))) rfl rfl (q_d_neT h229) ?_
          refine q_Ru_seg (g2 := (36, [(1, .int col), (0, .ref 64)], [.int 1, .int 9, .ref 78], (q_cM (q_mA pix smp tr (q_nb p 1 dn ins) (q_fb z)) q_IM (q_mJ y pd), 34, 31630))) 5 (fun _ _ => rfl) ?_
          refine q_Ru_seg (g2 := (40, [(1, .int col), (0, .ref 64)], [.ref 64], (q_cM (q_uA (q_mA pix smp tr (q_nb p 1 dn ins) (q_fb z)) 14 (upd (q_nb p 1 dn ins) 9 1)) q_IM (q_mJ y pd), 34, 31630))) 4 (fun _ _ => rfl) ?_
          have hA : ∀ i, i < 34 → (q_uA (q_mA pix smp tr (q_nb p 1 dn ins) (q_fb z)) 14 (upd (q_nb p 1 dn ins) 9 1)) i = (q_mA pix smp tr (q_nb p 1 dn ins) (q_fb z)) i := by
            intro i hi
            match i, hi with
            | 0, _ => rfl
            | 1, _ => rfl
            | 2, _ => rfl
            | 3, _ => rfl
            | 4, _ => rfl
            | 5, _ => rfl
            | 6, _ => rfl
            | 7, _ => rfl
            | 8, _ => rfl
            | 9, _ => rfl
            | 10, _ => rfl
            | 11, _ => rfl
            | 12, _ => rfl
            | 13, _ => rfl
            | 14, _ => exact (show (upd (q_nb p 1 dn ins) 9 1) = (q_nb p 1 dn ins) by simp only [q_upd_upd, q_upd_z, q_nb_4, q_nb_17, q_nb_19, q_nb_20, q_nb_0, q_nb_9, q_nb_18, q_fb_4, q_fb_0])
            | 15, _ => rfl
            | 16, _ => rfl
            | 17, _ => rfl
            | 18, _ => rfl
            | 19, _ => rfl
            | 20, _ => rfl
            | 21, _ => rfl
            | 22, _ => rfl
            | 23, _ => rfl
            | 24, _ => rfl
            | 25, _ => rfl
            | 26, _ => rfl
            | 27, _ => rfl
            | 28, _ => rfl
            | 29, _ => rfl
            | 30, _ => rfl
            | 31, _ => rfl
            | 32, _ => rfl
            | 33, _ => rfl
            | i + 34, hi => exact absurd hi (by omega)
          rw [q_cM_A (I := q_IM) (J := (q_mJ y pd)) hA]
          refine q_Ru_call (v := (some (.int 0))) (h2 := (q_cM (q_mA pix smp tr (q_nb p 1 dn ins) (q_fb z)) q_IM (q_mJ y pd), 34, 31630)) rfl rfl ?_ ?_
          · exact (by have e := q_m_picX pix smp tr p 1 dn ins z y pd col lin p1 p2 hC hM c0 c1 l0 l1 a0 a1 b0 b1 hp0 hp1 hp2 i0 i1; rw [hpic] at e; exact e.le (Nat.le_of_ble_eq_true rfl))
          show q_Ru _ _ _ (43, [(1, .int col), (0, .ref 64)], [.int 0], (q_cM (q_mA pix smp tr (q_nb p 1 dn ins) (q_fb z)) q_IM (q_mJ y pd), 34, 31630)) _
          refine q_Ru_seg (g2 := (45, [(2, .int 0), (1, .int col), (0, .ref 64)], [.ref 64], (q_cM (q_mA pix smp tr (q_nb p 1 dn ins) (q_fb z)) q_IM (q_mJ y pd), 34, 31630))) 2 (fun _ _ => rfl) ?_
          refine q_Ru_call (v := (some (.int (lin - 4)))) (h2 := (q_cM (q_mA pix smp tr (q_nb p 1 dn ins) (q_fb z)) q_IM (q_mJ y pd), 34, 31630)) rfl rfl ?_ ?_
          · refine q_Ca_of (Nat.le_of_ble_eq_true rfl) ?_
            refine q_Ru_seg (g2 := (1, [(0, .ref 64)], [.ref 64], (q_cM (q_mA pix smp tr (q_nb p 1 dn ins) (q_fb z)) q_IM (q_mJ y pd), 34, 31630))) 1 (fun _ _ => rfl) ?_
            refine q_Ru_call (v := (some (.int lin))) (h2 := (q_cM (q_mA pix smp tr (q_nb p 1 dn ins) (q_fb z)) q_IM (q_mJ y pd), 34, 31630)) rfl rfl ?_ ?_
            · refine q_Ca_of (Nat.le_of_ble_eq_true rfl) ?_
              refine q_Ru_seg (g2 := (4, [(0, .ref 64)], [.long y], (q_cM (q_mA pix smp tr (q_nb p 1 dn ins) (q_fb z)) q_IM (q_mJ y pd), 34, 31630))) 2 (fun _ _ => rfl) ?_
              refine q_Ru_seg (g2 := (13, [(0, .ref 64)], [.int (((y / 24) - (y / 24) / 40 * 40).toInt32)], (q_cM (q_mA pix smp tr (q_nb p 1 dn ins) (q_fb z)) q_IM (q_mJ y pd), 34, 31630))) 5 (fun _ _ => rfl) ?_
              rw [hM]
              exact q_Ru_ret rfl rfl
            show q_Ru _ _ _ (4, [(0, .ref 64)], [.int lin], (q_cM (q_mA pix smp tr (q_nb p 1 dn ins) (q_fb z)) q_IM (q_mJ y pd), 34, 31630)) _
            refine q_Ru_seg (g2 := (6, [(0, .ref 64)], [.int (lin - 4)], (q_cM (q_mA pix smp tr (q_nb p 1 dn ins) (q_fb z)) q_IM (q_mJ y pd), 34, 31630))) 2 (fun _ _ => rfl) ?_
            exact q_Ru_ret rfl rfl
          show q_Ru _ _ _ (48, [(2, .int 0), (1, .int col), (0, .ref 64)], [.int (lin - 4)], (q_cM (q_mA pix smp tr (q_nb p 1 dn ins) (q_fb z)) q_IM (q_mJ y pd), 34, 31630)) _
          refine q_Ru_seg (g2 := (53, [(3, .int (lin - 4)), (2, .int 0), (1, .int col), (0, .ref 64)], [.int 31, .int 0, .int (lin - 4)], (q_cM (q_mA pix smp tr (q_nb p 1 dn ins) (q_fb z)) q_IM (q_mJ y pd), 34, 31630))) 4 (fun _ _ => rfl) ?_
          refine q_Ru_call (v := (some (.int 0))) (h2 := (q_cM (q_mA pix smp tr (q_nb p 1 dn ins) (q_fb z)) q_IM (q_mJ y pd), 34, 31630)) rfl rfl ?_ ?_
          · refine q_Ca_of (Nat.le_of_ble_eq_true rfl) ?_
            refine q_Ru_seg (g2 := (2, [(0, .int (lin - 4)), (1, .int 0), (2, .int 31)], [.int 0, .int (lin - 4)], (q_cM (q_mA pix smp tr (q_nb p 1 dn ins) (q_fb z)) q_IM (q_mJ y pd), 34, 31630))) 2 (fun _ _ => rfl) ?_
            refine q_Ru_rsT (g2 := (14, [(0, .int (lin - 4)), (1, .int 0), (2, .int 31)], [], (q_cM (q_mA pix smp tr (q_nb p 1 dn ins) (q_fb z)) q_IM (q_mJ y pd), 34, 31630))) rfl rfl h230 ?_
            refine q_Ru_seg (g2 := (15, [(0, .int (lin - 4)), (1, .int 0), (2, .int 31)], [.int 0], (q_cM (q_mA pix smp tr (q_nb p 1 dn ins) (q_fb z)) q_IM (q_mJ y pd), 34, 31630))) 1 (fun _ _ => rfl) ?_
            exact q_Ru_ret rfl rfl
          show q_Ru _ _ _ (56, [(3, .int (lin - 4)), (2, .int 0), (1, .int col), (0, .ref 64)], [.int 0], (q_cM (q_mA pix smp tr (q_nb p 1 dn ins) (q_fb z)) q_IM (q_mJ y pd), 34, 31630)) _
          refine q_Ru_seg (g2 := (92, [(3, .int (lin - 4)), (2, .int 0), (1, .int col), (0, .ref 64)], [.ref 64], (q_cM (q_mA pix smp tr (q_nb p 1 dn ins) (q_fb z)) q_IM (q_mJ y pd), 34, 31630))) 2 (fun _ _ => rfl) ?_
          refine q_Ru_call (v := none) (h2 := (q_cM (q_mA pix smp tr (q_nb p 1 dn ins) (q_fb z)) q_IM (q_mJ y pd), 34, 31630)) rfl rfl ?_ ?_
          · exact (q_m_times pix smp tr p 1 dn ins z y pd col lin p1 p2 hC hM c0 c1 l0 l1 a0 a1 b0 b1 hp0 hp1 hp2 i0 i1  ).le (Nat.le_of_ble_eq_true rfl)
          show q_Ru _ _ _ (95, [(3, .int (lin - 4)), (2, .int 0), (1, .int col), (0, .ref 64)], [], (q_cM (q_mA pix smp tr (q_nb p 1 dn ins) (q_fb z)) q_IM (q_mJ y pd), 34, 31630)) _
          refine q_Ru_seg (g2 := (96, [(3, .int (lin - 4)), (2, .int 0), (1, .int col), (0, .ref 64)], [.ref 64], (q_cM (q_mA pix smp tr (q_nb p 1 dn ins) (q_fb z)) q_IM (q_mJ y pd), 34, 31630))) 1 (fun _ _ => rfl) ?_
          refine q_Ru_call (v := none) (h2 := (q_cM (q_mA pix smp tr (q_nb p 1 dn ins) (q_fb z)) q_IM (q_mJ y pd), 34, 31630)) rfl rfl ?_ ?_
          · exact (q_m_winds pix smp tr p 1 dn ins z y pd col lin p1 p2 hC hM c0 c1 l0 l1 a0 a1 b0 b1 hp0 hp1 hp2 i0 i1  ).le (Nat.le_of_ble_eq_true rfl)
          show q_Ru _ _ _ (99, [(3, .int (lin - 4)), (2, .int 0), (1, .int col), (0, .ref 64)], [], (q_cM (q_mA pix smp tr (q_nb p 1 dn ins) (q_fb z)) q_IM (q_mJ y pd), 34, 31630)) _
          refine q_Ru_seg (g2 := (102, [(3, .int (lin - 4)), (2, .int 0), (1, .int col), (0, .ref 64)], [.int 23, .int col], (q_cM (q_mA pix smp tr (q_nb p 1 dn ins) (q_fb z)) q_IM (q_mJ y pd), 34, 31630))) 2 (fun _ _ => rfl) ?_
          refine q_Ru_rsF (g2 := (105, [(3, .int (lin - 4)), (2, .int 0), (1, .int col), (0, .ref 64)], [], (q_cM (q_mA pix smp tr (q_nb p 1 dn ins) (q_fb z)) q_IM (q_mJ y pd), 34, 31630))) rfl rfl (q_d_neT h231) ?_
          refine q_Ru_seg (g2 := (106, [(3, .int (lin - 4)), (2, .int 0), (1, .int col), (0, .ref 64)], [.ref 64], (q_cM (q_mA pix smp tr (q_nb p 1 dn ins) (q_fb z)) q_IM (q_mJ y pd), 34, 31630))) 1 (fun _ _ => rfl) ?_
          refine q_Ru_call (v := none) (h2 := (q_cM (q_mA pix z268a tr (q_nb p 1 dn ins) (q_fb z)) q_IM (q_mJ y pd), 34, 31630)) rfl rfl ?_ ?_
          · exact p268.le (Nat.le_of_ble_eq_true rfl)
          show q_Ru _ _ _ (109, [(3, .int (lin - 4)), (2, .int 0), (1, .int col), (0, .ref 64)], [], (q_cM (q_mA pix z268a tr (q_nb p 1 dn ins) (q_fb z)) q_IM (q_mJ y pd), 34, 31630)) _
          refine q_Ru_seg (g2 := (114, [(3, .int (lin - 4)), (2, .int 0), (1, .int col), (0, .ref 64)], [.ref 64], (q_cM (q_mA pix z268a tr (q_nb p 1 dn ins) (q_fb z)) q_IM (q_mJ y pd), 34, 31630))) 3 (fun _ _ => rfl) ?_
          refine q_Ru_call (v := none) (h2 := (q_cM (q_mA pix z268a z269a (q_nb p2 0 (dn + 1) (ins + 1)) (q_fb z269b)) q_IM (q_mJ y pd), 34, 31630)) rfl rfl ?_ ?_
          · exact p269.le (Nat.le_of_ble_eq_true rfl)
          show q_Ru _ _ _ (117, [(3, .int (lin - 4)), (2, .int 0), (1, .int col), (0, .ref 64)], [], (q_cM (q_mA pix z268a z269a (q_nb p2 0 (dn + 1) (ins + 1)) (q_fb z269b)) q_IM (q_mJ y pd), 34, 31630)) _
          refine q_Ru_seg (g2 := (122, [(3, .int (lin - 4)), (2, .int 0), (1, .int col), (0, .ref 64)], [.long pd, .ref 64], (q_cM (q_mA pix z268a z269a (q_nb p2 0 (dn + 1) (ins + 1)) (q_fb z269b)) q_IM (q_mJ y pd), 34, 31630))) 3 (fun _ _ => rfl) ?_
          refine q_Ru_seg (g2 := (140, [(3, .int (lin - 4)), (2, .int 0), (1, .int col), (0, .ref 64)], [.long y, .ref 64], (q_cM (q_mA pix z268a z269a (q_nb p2 0 (dn + 1) (ins + 1)) (q_fb z269b)) q_IM (q_uI (q_mJ y pd) 0 16 (pd + 0)), 34, 31630))) 8 (fun _ _ => rfl) ?_
          refine q_Ru_seg (g2 := (146, [(3, .int (lin - 4)), (2, .int 0), (1, .int col), (0, .ref 64)], [.int 0], (q_cM (q_mA pix z268a z269a (q_nb p2 0 (dn + 1) (ins + 1)) (q_fb z269b)) q_IM (q_uI (q_uI (q_mJ y pd) 0 16 (pd + 0)) 0 15 (y + 1)), 34, 31630))) 4 (fun _ _ => rfl) ?_
          exact q_Ru_ret rfl rfl
        | false =>
          obtain ⟨z272a, z272b, p272⟩ := q_m_go1 pix smp tr p dn ins z y pd col lin p1 p2 hC hM c0 c1 l0 l1 a0 a1 b0 b1 hp0 hp1 hp2 i0 i1  
          refine ⟨pix, smp, z272a, z272b, ?_⟩
          refine q_Ca_of (Nat.le_of_ble_eq_true rfl) ?_
          refine q_Ru_seg (g2 := (4, [(0, .ref 64)], [.long y], (q_cM (q_mA pix smp tr (q_nb p 1 dn ins) (q_fb z)) q_IM (q_mJ y pd), 34, 31630))) 2 (fun _ _ => rfl) ?_
          refine q_Ru_seg (g2 := (9, [(0, .ref 64)], [.int ((y - y / 24 * 24).toInt32)], (q_cM (q_mA pix smp tr (q_nb p 1 dn ins) (q_fb z)) q_IM (q_mJ y pd), 34, 31630))) 3 (fun _ _ => rfl) ?_
          rw [hC]
          refine q_Ru_seg (g2 := (11, [(1, .int col), (0, .ref 64)], [.int col], (q_cM (q_mA pix smp tr (q_nb p 1 dn ins) (q_fb z)) q_IM (q_mJ y pd), 34, 31630))) 2 (fun _ _ => rfl) ?_
          refine q_Ru_rsF (g2 := (14, [(1, .int col), (0, .ref 64)], [], (q_cM (q_mA pix smp tr (q_nb p 1 dn ins) (q_fb z)) q_IM (q_mJ y pd), 34, 31630))) rfl rfl (q_d_neT h228) ?_
          refine q_Ru_seg (g2 := (15, [(1, .int col), (0, .ref 64)], [.ref 64], (q_cM (q_mA pix smp tr (q_nb p 1 dn ins) (q_fb z)) q_IM (q_mJ y pd), 34, 31630))) 1 (fun _ _ => rfl) ?_
          refine q_Ru_call (v := (some (.int lin))) (h2 := (q_cM (q_mA pix smp tr (q_nb p 1 dn ins) (q_fb z)) q_IM (q_mJ y pd), 34, 31630)) rfl rfl ?_ ?_
          · refine q_Ca_of (Nat.le_of_ble_eq_true rfl) ?_
            refine q_Ru_seg (g2 := (4, [(0, .ref 64)], [.long y], (q_cM (q_mA pix smp tr (q_nb p 1 dn ins) (q_fb z)) q_IM (q_mJ y pd), 34, 31630))) 2 (fun _ _ => rfl) ?_
            refine q_Ru_seg (g2 := (13, [(0, .ref 64)], [.int (((y / 24) - (y / 24) / 40 * 40).toInt32)], (q_cM (q_mA pix smp tr (q_nb p 1 dn ins) (q_fb z)) q_IM (q_mJ y pd), 34, 31630))) 5 (fun _ _ => rfl) ?_
            rw [hM]
            exact q_Ru_ret rfl rfl
          show q_Ru _ _ _ (18, [(1, .int col), (0, .ref 64)], [.int lin], (q_cM (q_mA pix smp tr (q_nb p 1 dn ins) (q_fb z)) q_IM (q_mJ y pd), 34, 31630)) _
          refine q_Ru_seg (g2 := (25, [(1, .int col), (0, .ref 64)], [.int 0, .int lin], (q_cM (q_mA pix smp tr (q_nb p 1 dn ins) (q_fb z)) q_IM (q_mJ y pd), 34, 31630))) 4 (fun _ _ => rfl) ?_
          refine q_Ru_rsF (g2 := (28, [(1, .int col), (0, .ref 64)], [], (q_cM (q_mA pix smp tr (q_nb p 1 dn ins) (q_fb z)) q_IM (q_mJ y pd), 34, 31630))) rfl rfl (q_d_neT h229) ?_
          refine q_Ru_seg (g2 := (36, [(1, .int col), (0, .ref 64)], [.int 1, .int 9, .ref 78], (q_cM (q_mA pix smp tr (q_nb p 1 dn ins) (q_fb z)) q_IM (q_mJ y pd), 34, 31630))) 5 (fun _ _ => rfl) ?_
          refine q_Ru_seg (g2 := (40, [(1, .int col), (0, .ref 64)], [.ref 64], (q_cM (q_uA (q_mA pix smp tr (q_nb p 1 dn ins) (q_fb z)) 14 (upd (q_nb p 1 dn ins) 9 1)) q_IM (q_mJ y pd), 34, 31630))) 4 (fun _ _ => rfl) ?_
          have hA : ∀ i, i < 34 → (q_uA (q_mA pix smp tr (q_nb p 1 dn ins) (q_fb z)) 14 (upd (q_nb p 1 dn ins) 9 1)) i = (q_mA pix smp tr (q_nb p 1 dn ins) (q_fb z)) i := by
            intro i hi
            match i, hi with
            | 0, _ => rfl
            | 1, _ => rfl
            | 2, _ => rfl
            | 3, _ => rfl
            | 4, _ => rfl
            | 5, _ => rfl
            | 6, _ => rfl
            | 7, _ => rfl
            | 8, _ => rfl
            | 9, _ => rfl
            | 10, _ => rfl
            | 11, _ => rfl
            | 12, _ => rfl
            | 13, _ => rfl
            | 14, _ => exact (show (upd (q_nb p 1 dn ins) 9 1) = (q_nb p 1 dn ins) by simp only [q_upd_upd, q_upd_z, q_nb_4, q_nb_17, q_nb_19, q_nb_20, q_nb_0, q_nb_9, q_nb_18, q_fb_4, q_fb_0])
            | 15, _ => rfl
            | 16, _ => rfl
            | 17, _ => rfl
            | 18, _ => rfl
            | 19, _ => rfl
            | 20, _ => rfl
            | 21, _ => rfl
            | 22, _ => rfl
            | 23, _ => rfl
            | 24, _ => rfl
            | 25, _ => rfl
            | 26, _ => rfl
            | 27, _ => rfl
            | 28, _ => rfl
            | 29, _ => rfl
            | 30, _ => rfl
            | 31, _ => rfl
            | 32, _ => rfl
            | 33, _ => rfl
            | i + 34, hi => exact absurd hi (by omega)
          rw [q_cM_A (I := q_IM) (J := (q_mJ y pd)) hA]
          refine q_Ru_call (v := (some (.int 0))) (h2 := (q_cM (q_mA pix smp tr (q_nb p 1 dn ins) (q_fb z)) q_IM (q_mJ y pd), 34, 31630)) rfl rfl ?_ ?_
          · exact (by have e := q_m_picX pix smp tr p 1 dn ins z y pd col lin p1 p2 hC hM c0 c1 l0 l1 a0 a1 b0 b1 hp0 hp1 hp2 i0 i1; rw [hpic] at e; exact e.le (Nat.le_of_ble_eq_true rfl))
          show q_Ru _ _ _ (43, [(1, .int col), (0, .ref 64)], [.int 0], (q_cM (q_mA pix smp tr (q_nb p 1 dn ins) (q_fb z)) q_IM (q_mJ y pd), 34, 31630)) _
          refine q_Ru_seg (g2 := (45, [(2, .int 0), (1, .int col), (0, .ref 64)], [.ref 64], (q_cM (q_mA pix smp tr (q_nb p 1 dn ins) (q_fb z)) q_IM (q_mJ y pd), 34, 31630))) 2 (fun _ _ => rfl) ?_
          refine q_Ru_call (v := (some (.int (lin - 4)))) (h2 := (q_cM (q_mA pix smp tr (q_nb p 1 dn ins) (q_fb z)) q_IM (q_mJ y pd), 34, 31630)) rfl rfl ?_ ?_
          · refine q_Ca_of (Nat.le_of_ble_eq_true rfl) ?_
            refine q_Ru_seg (g2 := (1, [(0, .ref 64)], [.ref 64], (q_cM (q_mA pix smp tr (q_nb p 1 dn ins) (q_fb z)) q_IM (q_mJ y pd), 34, 31630))) 1 (fun _ _ => rfl) ?_
            refine q_Ru_call (v := (some (.int lin))) (h2 := (q_cM (q_mA pix smp tr (q_nb p 1 dn ins) (q_fb z)) q_IM (q_mJ y pd), 34, 31630)) rfl rfl ?_ ?_
            · refine q_Ca_of (Nat.le_of_ble_eq_true rfl) ?_
              refine q_Ru_seg (g2 := (4, [(0, .ref 64)], [.long y], (q_cM (q_mA pix smp tr (q_nb p 1 dn ins) (q_fb z)) q_IM (q_mJ y pd), 34, 31630))) 2 (fun _ _ => rfl) ?_
              refine q_Ru_seg (g2 := (13, [(0, .ref 64)], [.int (((y / 24) - (y / 24) / 40 * 40).toInt32)], (q_cM (q_mA pix smp tr (q_nb p 1 dn ins) (q_fb z)) q_IM (q_mJ y pd), 34, 31630))) 5 (fun _ _ => rfl) ?_
              rw [hM]
              exact q_Ru_ret rfl rfl
            show q_Ru _ _ _ (4, [(0, .ref 64)], [.int lin], (q_cM (q_mA pix smp tr (q_nb p 1 dn ins) (q_fb z)) q_IM (q_mJ y pd), 34, 31630)) _
            refine q_Ru_seg (g2 := (6, [(0, .ref 64)], [.int (lin - 4)], (q_cM (q_mA pix smp tr (q_nb p 1 dn ins) (q_fb z)) q_IM (q_mJ y pd), 34, 31630))) 2 (fun _ _ => rfl) ?_
            exact q_Ru_ret rfl rfl
          show q_Ru _ _ _ (48, [(2, .int 0), (1, .int col), (0, .ref 64)], [.int (lin - 4)], (q_cM (q_mA pix smp tr (q_nb p 1 dn ins) (q_fb z)) q_IM (q_mJ y pd), 34, 31630)) _
          refine q_Ru_seg (g2 := (53, [(3, .int (lin - 4)), (2, .int 0), (1, .int col), (0, .ref 64)], [.int 31, .int 0, .int (lin - 4)], (q_cM (q_mA pix smp tr (q_nb p 1 dn ins) (q_fb z)) q_IM (q_mJ y pd), 34, 31630))) 4 (fun _ _ => rfl) ?_
          refine q_Ru_call (v := (some (.int 0))) (h2 := (q_cM (q_mA pix smp tr (q_nb p 1 dn ins) (q_fb z)) q_IM (q_mJ y pd), 34, 31630)) rfl rfl ?_ ?_
          · refine q_Ca_of (Nat.le_of_ble_eq_true rfl) ?_
            refine q_Ru_seg (g2 := (2, [(0, .int (lin - 4)), (1, .int 0), (2, .int 31)], [.int 0, .int (lin - 4)], (q_cM (q_mA pix smp tr (q_nb p 1 dn ins) (q_fb z)) q_IM (q_mJ y pd), 34, 31630))) 2 (fun _ _ => rfl) ?_
            refine q_Ru_rsT (g2 := (14, [(0, .int (lin - 4)), (1, .int 0), (2, .int 31)], [], (q_cM (q_mA pix smp tr (q_nb p 1 dn ins) (q_fb z)) q_IM (q_mJ y pd), 34, 31630))) rfl rfl h230 ?_
            refine q_Ru_seg (g2 := (15, [(0, .int (lin - 4)), (1, .int 0), (2, .int 31)], [.int 0], (q_cM (q_mA pix smp tr (q_nb p 1 dn ins) (q_fb z)) q_IM (q_mJ y pd), 34, 31630))) 1 (fun _ _ => rfl) ?_
            exact q_Ru_ret rfl rfl
          show q_Ru _ _ _ (56, [(3, .int (lin - 4)), (2, .int 0), (1, .int col), (0, .ref 64)], [.int 0], (q_cM (q_mA pix smp tr (q_nb p 1 dn ins) (q_fb z)) q_IM (q_mJ y pd), 34, 31630)) _
          refine q_Ru_seg (g2 := (92, [(3, .int (lin - 4)), (2, .int 0), (1, .int col), (0, .ref 64)], [.ref 64], (q_cM (q_mA pix smp tr (q_nb p 1 dn ins) (q_fb z)) q_IM (q_mJ y pd), 34, 31630))) 2 (fun _ _ => rfl) ?_
          refine q_Ru_call (v := none) (h2 := (q_cM (q_mA pix smp tr (q_nb p 1 dn ins) (q_fb z)) q_IM (q_mJ y pd), 34, 31630)) rfl rfl ?_ ?_
          · exact (q_m_times pix smp tr p 1 dn ins z y pd col lin p1 p2 hC hM c0 c1 l0 l1 a0 a1 b0 b1 hp0 hp1 hp2 i0 i1  ).le (Nat.le_of_ble_eq_true rfl)
          show q_Ru _ _ _ (95, [(3, .int (lin - 4)), (2, .int 0), (1, .int col), (0, .ref 64)], [], (q_cM (q_mA pix smp tr (q_nb p 1 dn ins) (q_fb z)) q_IM (q_mJ y pd), 34, 31630)) _
          refine q_Ru_seg (g2 := (96, [(3, .int (lin - 4)), (2, .int 0), (1, .int col), (0, .ref 64)], [.ref 64], (q_cM (q_mA pix smp tr (q_nb p 1 dn ins) (q_fb z)) q_IM (q_mJ y pd), 34, 31630))) 1 (fun _ _ => rfl) ?_
          refine q_Ru_call (v := none) (h2 := (q_cM (q_mA pix smp tr (q_nb p 1 dn ins) (q_fb z)) q_IM (q_mJ y pd), 34, 31630)) rfl rfl ?_ ?_
          · exact (q_m_winds pix smp tr p 1 dn ins z y pd col lin p1 p2 hC hM c0 c1 l0 l1 a0 a1 b0 b1 hp0 hp1 hp2 i0 i1  ).le (Nat.le_of_ble_eq_true rfl)
          show q_Ru _ _ _ (99, [(3, .int (lin - 4)), (2, .int 0), (1, .int col), (0, .ref 64)], [], (q_cM (q_mA pix smp tr (q_nb p 1 dn ins) (q_fb z)) q_IM (q_mJ y pd), 34, 31630)) _
          refine q_Ru_seg (g2 := (102, [(3, .int (lin - 4)), (2, .int 0), (1, .int col), (0, .ref 64)], [.int 23, .int col], (q_cM (q_mA pix smp tr (q_nb p 1 dn ins) (q_fb z)) q_IM (q_mJ y pd), 34, 31630))) 2 (fun _ _ => rfl) ?_
          refine q_Ru_rsT (g2 := (109, [(3, .int (lin - 4)), (2, .int 0), (1, .int col), (0, .ref 64)], [], (q_cM (q_mA pix smp tr (q_nb p 1 dn ins) (q_fb z)) q_IM (q_mJ y pd), 34, 31630))) rfl rfl (q_d_neF h231) ?_
          refine q_Ru_seg (g2 := (114, [(3, .int (lin - 4)), (2, .int 0), (1, .int col), (0, .ref 64)], [.ref 64], (q_cM (q_mA pix smp tr (q_nb p 1 dn ins) (q_fb z)) q_IM (q_mJ y pd), 34, 31630))) 3 (fun _ _ => rfl) ?_
          refine q_Ru_call (v := none) (h2 := (q_cM (q_mA pix smp z272a (q_nb p2 0 (dn + 1) (ins + 1)) (q_fb z272b)) q_IM (q_mJ y pd), 34, 31630)) rfl rfl ?_ ?_
          · exact p272.le (Nat.le_of_ble_eq_true rfl)
          show q_Ru _ _ _ (117, [(3, .int (lin - 4)), (2, .int 0), (1, .int col), (0, .ref 64)], [], (q_cM (q_mA pix smp z272a (q_nb p2 0 (dn + 1) (ins + 1)) (q_fb z272b)) q_IM (q_mJ y pd), 34, 31630)) _
          refine q_Ru_seg (g2 := (122, [(3, .int (lin - 4)), (2, .int 0), (1, .int col), (0, .ref 64)], [.long pd, .ref 64], (q_cM (q_mA pix smp z272a (q_nb p2 0 (dn + 1) (ins + 1)) (q_fb z272b)) q_IM (q_mJ y pd), 34, 31630))) 3 (fun _ _ => rfl) ?_
          refine q_Ru_seg (g2 := (140, [(3, .int (lin - 4)), (2, .int 0), (1, .int col), (0, .ref 64)], [.long y, .ref 64], (q_cM (q_mA pix smp z272a (q_nb p2 0 (dn + 1) (ins + 1)) (q_fb z272b)) q_IM (q_uI (q_mJ y pd) 0 16 (pd + 0)), 34, 31630))) 8 (fun _ _ => rfl) ?_
          refine q_Ru_seg (g2 := (146, [(3, .int (lin - 4)), (2, .int 0), (1, .int col), (0, .ref 64)], [.int 0], (q_cM (q_mA pix smp z272a (q_nb p2 0 (dn + 1) (ins + 1)) (q_fb z272b)) q_IM (q_uI (q_uI (q_mJ y pd) 0 16 (pd + 0)) 0 15 (y + 1)), 34, 31630))) 4 (fun _ _ => rfl) ?_
          exact q_Ru_ret rfl rfl
      | false =>
        cases h232 : decide (31 < lin - 4) with
        | true =>
          cases h233 : decide (col = 23) with
          | true =>
            have eh233 := of_decide_eq_true h233
            subst eh233
            obtain ⟨z277a, p277⟩ := q_m_sample pix smp tr p 1 dn ins z y pd col lin p1 p2 hC hM c0 c1 l0 l1 a0 a1 b0 b1 hp0 hp1 hp2 i0 i1  
            obtain ⟨z278a, z278b, p278⟩ := q_m_go1 pix z277a tr p dn ins z y pd col lin p1 p2 hC hM c0 c1 l0 l1 a0 a1 b0 b1 hp0 hp1 hp2 i0 i1  
            refine ⟨pix, z277a, z278a, z278b, ?_⟩
            refine q_Ca_of (Nat.le_of_ble_eq_true rfl) ?_
            refine q_Ru_seg (g2 := (4, [(0, .ref 64)], [.long y], (q_cM (q_mA pix smp tr (q_nb p 1 dn ins) (q_fb z)) q_IM (q_mJ y pd), 34, 31630))) 2 (fun _ _ => rfl) ?_
            refine q_Ru_seg (g2 := (9, [(0, .ref 64)], [.int ((y - y / 24 * 24).toInt32)], (q_cM (q_mA pix smp tr (q_nb p 1 dn ins) (q_fb z)) q_IM (q_mJ y pd), 34, 31630))) 3 (fun _ _ => rfl) ?_
            rw [hC]
            refine q_Ru_seg (g2 := (11, [(1, .int col), (0, .ref 64)], [.int col], (q_cM (q_mA pix smp tr (q_nb p 1 dn ins) (q_fb z)) q_IM (q_mJ y pd), 34, 31630))) 2 (fun _ _ => rfl) ?_
            refine q_Ru_rsF (g2 := (14, [(1, .int col), (0, .ref 64)], [], (q_cM (q_mA pix smp tr (q_nb p 1 dn ins) (q_fb z)) q_IM (q_mJ y pd), 34, 31630))) rfl rfl (q_d_neT h228) ?_
            refine q_Ru_seg (g2 := (15, [(1, .int col), (0, .ref 64)], [.ref 64], (q_cM (q_mA pix smp tr (q_nb p 1 dn ins) (q_fb z)) q_IM (q_mJ y pd), 34, 31630))) 1 (fun _ _ => rfl) ?_
            refine q_Ru_call (v := (some (.int lin))) (h2 := (q_cM (q_mA pix smp tr (q_nb p 1 dn ins) (q_fb z)) q_IM (q_mJ y pd), 34, 31630)) rfl rfl ?_ ?_
            · refine q_Ca_of (Nat.le_of_ble_eq_true rfl) ?_
              refine q_Ru_seg (g2 := (4, [(0, .ref 64)], [.long y], (q_cM (q_mA pix smp tr (q_nb p 1 dn ins) (q_fb z)) q_IM (q_mJ y pd), 34, 31630))) 2 (fun _ _ => rfl) ?_
              refine q_Ru_seg (g2 := (13, [(0, .ref 64)], [.int (((y / 24) - (y / 24) / 40 * 40).toInt32)], (q_cM (q_mA pix smp tr (q_nb p 1 dn ins) (q_fb z)) q_IM (q_mJ y pd), 34, 31630))) 5 (fun _ _ => rfl) ?_
              rw [hM]
              exact q_Ru_ret rfl rfl
            show q_Ru _ _ _ (18, [(1, .int col), (0, .ref 64)], [.int lin], (q_cM (q_mA pix smp tr (q_nb p 1 dn ins) (q_fb z)) q_IM (q_mJ y pd), 34, 31630)) _
            refine q_Ru_seg (g2 := (25, [(1, .int col), (0, .ref 64)], [.int 0, .int lin], (q_cM (q_mA pix smp tr (q_nb p 1 dn ins) (q_fb z)) q_IM (q_mJ y pd), 34, 31630))) 4 (fun _ _ => rfl) ?_
            refine q_Ru_rsF (g2 := (28, [(1, .int col), (0, .ref 64)], [], (q_cM (q_mA pix smp tr (q_nb p 1 dn ins) (q_fb z)) q_IM (q_mJ y pd), 34, 31630))) rfl rfl (q_d_neT h229) ?_
            refine q_Ru_seg (g2 := (36, [(1, .int col), (0, .ref 64)], [.int 1, .int 9, .ref 78], (q_cM (q_mA pix smp tr (q_nb p 1 dn ins) (q_fb z)) q_IM (q_mJ y pd), 34, 31630))) 5 (fun _ _ => rfl) ?_
            refine q_Ru_seg (g2 := (40, [(1, .int col), (0, .ref 64)], [.ref 64], (q_cM (q_uA (q_mA pix smp tr (q_nb p 1 dn ins) (q_fb z)) 14 (upd (q_nb p 1 dn ins) 9 1)) q_IM (q_mJ y pd), 34, 31630))) 4 (fun _ _ => rfl) ?_
            have hA : ∀ i, i < 34 → (q_uA (q_mA pix smp tr (q_nb p 1 dn ins) (q_fb z)) 14 (upd (q_nb p 1 dn ins) 9 1)) i = (q_mA pix smp tr (q_nb p 1 dn ins) (q_fb z)) i := by
              intro i hi
              match i, hi with
              | 0, _ => rfl
              | 1, _ => rfl
              | 2, _ => rfl
              | 3, _ => rfl
              | 4, _ => rfl
              | 5, _ => rfl
              | 6, _ => rfl
              | 7, _ => rfl
              | 8, _ => rfl
              | 9, _ => rfl
              | 10, _ => rfl
              | 11, _ => rfl
              | 12, _ => rfl
              | 13, _ => rfl
              | 14, _ => exact (show (upd (q_nb p 1 dn ins) 9 1) = (q_nb p 1 dn ins) by simp only [q_upd_upd, q_upd_z, q_nb_4, q_nb_17, q_nb_19, q_nb_20, q_nb_0, q_nb_9, q_nb_18, q_fb_4, q_fb_0])
              | 15, _ => rfl
              | 16, _ => rfl
              | 17, _ => rfl
              | 18, _ => rfl
              | 19, _ => rfl
              | 20, _ => rfl
              | 21, _ => rfl
              | 22, _ => rfl
              | 23, _ => rfl
              | 24, _ => rfl
              | 25, _ => rfl
              | 26, _ => rfl
              | 27, _ => rfl
              | 28, _ => rfl
              | 29, _ => rfl
              | 30, _ => rfl
              | 31, _ => rfl
              | 32, _ => rfl
              | 33, _ => rfl
              | i + 34, hi => exact absurd hi (by omega)
            rw [q_cM_A (I := q_IM) (J := (q_mJ y pd)) hA]
            refine q_Ru_call (v := (some (.int 0))) (h2 := (q_cM (q_mA pix smp tr (q_nb p 1 dn ins) (q_fb z)) q_IM (q_mJ y pd), 34, 31630)) rfl rfl ?_ ?_
            · exact (by have e := q_m_picX pix smp tr p 1 dn ins z y pd col lin p1 p2 hC hM c0 c1 l0 l1 a0 a1 b0 b1 hp0 hp1 hp2 i0 i1; rw [hpic] at e; exact e.le (Nat.le_of_ble_eq_true rfl))
            show q_Ru _ _ _ (43, [(1, .int col), (0, .ref 64)], [.int 0], (q_cM (q_mA pix smp tr (q_nb p 1 dn ins) (q_fb z)) q_IM (q_mJ y pd), 34, 31630)) _
            refine q_Ru_seg (g2 := (45, [(2, .int 0), (1, .int col), (0, .ref 64)], [.ref 64], (q_cM (q_mA pix smp tr (q_nb p 1 dn ins) (q_fb z)) q_IM (q_mJ y pd), 34, 31630))) 2 (fun _ _ => rfl) ?_
            refine q_Ru_call (v := (some (.int (lin - 4)))) (h2 := (q_cM (q_mA pix smp tr (q_nb p 1 dn ins) (q_fb z)) q_IM (q_mJ y pd), 34, 31630)) rfl rfl ?_ ?_
            · refine q_Ca_of (Nat.le_of_ble_eq_true rfl) ?_
              refine q_Ru_seg (g2 := (1, [(0, .ref 64)], [.ref 64], (q_cM (q_mA pix smp tr (q_nb p 1 dn ins) (q_fb z)) q_IM (q_mJ y pd), 34, 31630))) 1 (fun _ _ => rfl) ?_
              refine q_Ru_call (v := (some (.int lin))) (h2 := (q_cM (q_mA pix smp tr (q_nb p 1 dn ins) (q_fb z)) q_IM (q_mJ y pd), 34, 31630)) rfl rfl ?_ ?_
              · refine q_Ca_of (Nat.le_of_ble_eq_true rfl) ?_
                refine q_Ru_seg (g2 := (4, [(0, .ref 64)], [.long y], (q_cM (q_mA pix smp tr (q_nb p 1 dn ins) (q_fb z)) q_IM (q_mJ y pd), 34, 31630))) 2 (fun _ _ => rfl) ?_
                refine q_Ru_seg (g2 := (13, [(0, .ref 64)], [.int (((y / 24) - (y / 24) / 40 * 40).toInt32)], (q_cM (q_mA pix smp tr (q_nb p 1 dn ins) (q_fb z)) q_IM (q_mJ y pd), 34, 31630))) 5 (fun _ _ => rfl) ?_
                rw [hM]
                exact q_Ru_ret rfl rfl
              show q_Ru _ _ _ (4, [(0, .ref 64)], [.int lin], (q_cM (q_mA pix smp tr (q_nb p 1 dn ins) (q_fb z)) q_IM (q_mJ y pd), 34, 31630)) _
              refine q_Ru_seg (g2 := (6, [(0, .ref 64)], [.int (lin - 4)], (q_cM (q_mA pix smp tr (q_nb p 1 dn ins) (q_fb z)) q_IM (q_mJ y pd), 34, 31630))) 2 (fun _ _ => rfl) ?_
              exact q_Ru_ret rfl rfl
            show q_Ru _ _ _ (48, [(2, .int 0), (1, .int col), (0, .ref 64)], [.int (lin - 4)], (q_cM (q_mA pix smp tr (q_nb p 1 dn ins) (q_fb z)) q_IM (q_mJ y pd), 34, 31630)) _
            refine q_Ru_seg (g2 := (53, [(3, .int (lin - 4)), (2, .int 0), (1, .int col), (0, .ref 64)], [.int 31, .int 0, .int (lin - 4)], (q_cM (q_mA pix smp tr (q_nb p 1 dn ins) (q_fb z)) q_IM (q_mJ y pd), 34, 31630))) 4 (fun _ _ => rfl) ?_
            refine q_Ru_call (v := (some (.int 0))) (h2 := (q_cM (q_mA pix smp tr (q_nb p 1 dn ins) (q_fb z)) q_IM (q_mJ y pd), 34, 31630)) rfl rfl ?_ ?_
            · refine q_Ca_of (Nat.le_of_ble_eq_true rfl) ?_
              refine q_Ru_seg (g2 := (2, [(0, .int (lin - 4)), (1, .int 0), (2, .int 31)], [.int 0, .int (lin - 4)], (q_cM (q_mA pix smp tr (q_nb p 1 dn ins) (q_fb z)) q_IM (q_mJ y pd), 34, 31630))) 2 (fun _ _ => rfl) ?_
              refine q_Ru_rsF (g2 := (5, [(0, .int (lin - 4)), (1, .int 0), (2, .int 31)], [], (q_cM (q_mA pix smp tr (q_nb p 1 dn ins) (q_fb z)) q_IM (q_mJ y pd), 34, 31630))) rfl rfl h230 ?_
              refine q_Ru_seg (g2 := (7, [(0, .int (lin - 4)), (1, .int 0), (2, .int 31)], [.int 31, .int (lin - 4)], (q_cM (q_mA pix smp tr (q_nb p 1 dn ins) (q_fb z)) q_IM (q_mJ y pd), 34, 31630))) 2 (fun _ _ => rfl) ?_
              refine q_Ru_rsT (g2 := (14, [(0, .int (lin - 4)), (1, .int 0), (2, .int 31)], [], (q_cM (q_mA pix smp tr (q_nb p 1 dn ins) (q_fb z)) q_IM (q_mJ y pd), 34, 31630))) rfl rfl h232 ?_
              refine q_Ru_seg (g2 := (15, [(0, .int (lin - 4)), (1, .int 0), (2, .int 31)], [.int 0], (q_cM (q_mA pix smp tr (q_nb p 1 dn ins) (q_fb z)) q_IM (q_mJ y pd), 34, 31630))) 1 (fun _ _ => rfl) ?_
              exact q_Ru_ret rfl rfl
            show q_Ru _ _ _ (56, [(3, .int (lin - 4)), (2, .int 0), (1, .int col), (0, .ref 64)], [.int 0], (q_cM (q_mA pix smp tr (q_nb p 1 dn ins) (q_fb z)) q_IM (q_mJ y pd), 34, 31630)) _
            refine q_Ru_seg (g2 := (92, [(3, .int (lin - 4)), (2, .int 0), (1, .int col), (0, .ref 64)], [.ref 64], (q_cM (q_mA pix smp tr (q_nb p 1 dn ins) (q_fb z)) q_IM (q_mJ y pd), 34, 31630))) 2 (fun _ _ => rfl) ?_
            refine q_Ru_call (v := none) (h2 := (q_cM (q_mA pix smp tr (q_nb p 1 dn ins) (q_fb z)) q_IM (q_mJ y pd), 34, 31630)) rfl rfl ?_ ?_
            · exact (q_m_times pix smp tr p 1 dn ins z y pd col lin p1 p2 hC hM c0 c1 l0 l1 a0 a1 b0 b1 hp0 hp1 hp2 i0 i1  ).le (Nat.le_of_ble_eq_true rfl)
            show q_Ru _ _ _ (95, [(3, .int (lin - 4)), (2, .int 0), (1, .int col), (0, .ref 64)], [], (q_cM (q_mA pix smp tr (q_nb p 1 dn ins) (q_fb z)) q_IM (q_mJ y pd), 34, 31630)) _
            refine q_Ru_seg (g2 := (96, [(3, .int (lin - 4)), (2, .int 0), (1, .int col), (0, .ref 64)], [.ref 64], (q_cM (q_mA pix smp tr (q_nb p 1 dn ins) (q_fb z)) q_IM (q_mJ y pd), 34, 31630))) 1 (fun _ _ => rfl) ?_
            refine q_Ru_call (v := none) (h2 := (q_cM (q_mA pix smp tr (q_nb p 1 dn ins) (q_fb z)) q_IM (q_mJ y pd), 34, 31630)) rfl rfl ?_ ?_
            · exact (q_m_winds pix smp tr p 1 dn ins z y pd col lin p1 p2 hC hM c0 c1 l0 l1 a0 a1 b0 b1 hp0 hp1 hp2 i0 i1  ).le (Nat.le_of_ble_eq_true rfl)
            show q_Ru _ _ _ (99, [(3, .int (lin - 4)), (2, .int 0), (1, .int col), (0, .ref 64)], [], (q_cM (q_mA pix smp tr (q_nb p 1 dn ins) (q_fb z)) q_IM (q_mJ y pd), 34, 31630)) _
            refine q_Ru_seg (g2 := (102, [(3, .int (lin - 4)), (2, .int 0), (1, .int col), (0, .ref 64)], [.int 23, .int col], (q_cM (q_mA pix smp tr (q_nb p 1 dn ins) (q_fb z)) q_IM (q_mJ y pd), 34, 31630))) 2 (fun _ _ => rfl) ?_
            refine q_Ru_rsF (g2 := (105, [(3, .int (lin - 4)), (2, .int 0), (1, .int col), (0, .ref 64)], [], (q_cM (q_mA pix smp tr (q_nb p 1 dn ins) (q_fb z)) q_IM (q_mJ y pd), 34, 31630))) rfl rfl (q_d_neT h233) ?_
            refine q_Ru_seg (g2 := (106, [(3, .int (lin - 4)), (2, .int 0), (1, .int col), (0, .ref 64)], [.ref 64], (q_cM (q_mA pix smp tr (q_nb p 1 dn ins) (q_fb z)) q_IM (q_mJ y pd), 34, 31630))) 1 (fun _ _ => rfl) ?_
            refine q_Ru_call (v := none) (h2 := (q_cM (q_mA pix z277a tr (q_nb p 1 dn ins) (q_fb z)) q_IM (q_mJ y pd), 34, 31630)) rfl rfl ?_ ?_
            · exact p277.le (Nat.le_of_ble_eq_true rfl)
            show q_Ru _ _ _ (109, [(3, .int (lin - 4)), (2, .int 0), (1, .int col), (0, .ref 64)], [], (q_cM (q_mA pix z277a tr (q_nb p 1 dn ins) (q_fb z)) q_IM (q_mJ y pd), 34, 31630)) _
            refine q_Ru_seg (g2 := (114, [(3, .int (lin - 4)), (2, .int 0), (1, .int col), (0, .ref 64)], [.ref 64], (q_cM (q_mA pix z277a tr (q_nb p 1 dn ins) (q_fb z)) q_IM (q_mJ y pd), 34, 31630))) 3 (fun _ _ => rfl) ?_
            refine q_Ru_call (v := none) (h2 := (q_cM (q_mA pix z277a z278a (q_nb p2 0 (dn + 1) (ins + 1)) (q_fb z278b)) q_IM (q_mJ y pd), 34, 31630)) rfl rfl ?_ ?_
            · exact p278.le (Nat.le_of_ble_eq_true rfl)
            show q_Ru _ _ _ (117, [(3, .int (lin - 4)), (2, .int 0), (1, .int col), (0, .ref 64)], [], (q_cM (q_mA pix z277a z278a (q_nb p2 0 (dn + 1) (ins + 1)) (q_fb z278b)) q_IM (q_mJ y pd), 34, 31630)) _
            refine q_Ru_seg (g2 := (122, [(3, .int (lin - 4)), (2, .int 0), (1, .int col), (0, .ref 64)], [.long pd, .ref 64], (q_cM (q_mA pix z277a z278a (q_nb p2 0 (dn + 1) (ins + 1)) (q_fb z278b)) q_IM (q_mJ y pd), 34, 31630))) 3 (fun _ _ => rfl) ?_
            refine q_Ru_seg (g2 := (140, [(3, .int (lin - 4)), (2, .int 0), (1, .int col), (0, .ref 64)], [.long y, .ref 64], (q_cM (q_mA pix z277a z278a (q_nb p2 0 (dn + 1) (ins + 1)) (q_fb z278b)) q_IM (q_uI (q_mJ y pd) 0 16 (pd + 0)), 34, 31630))) 8 (fun _ _ => rfl) ?_
            refine q_Ru_seg (g2 := (146, [(3, .int (lin - 4)), (2, .int 0), (1, .int col), (0, .ref 64)], [.int 0], (q_cM (q_mA pix z277a z278a (q_nb p2 0 (dn + 1) (ins + 1)) (q_fb z278b)) q_IM (q_uI (q_uI (q_mJ y pd) 0 16 (pd + 0)) 0 15 (y + 1)), 34, 31630))) 4 (fun _ _ => rfl) ?_
            exact q_Ru_ret rfl rfl
          | false =>
            obtain ⟨z281a, z281b, p281⟩ := q_m_go1 pix smp tr p dn ins z y pd col lin p1 p2 hC hM c0 c1 l0 l1 a0 a1 b0 b1 hp0 hp1 hp2 i0 i1  
            refine ⟨pix, smp, z281a, z281b, ?_⟩
            refine q_Ca_of (Nat.le_of_ble_eq_true rfl) ?_
            refine q_Ru_seg (g2 := (4, [(0, .ref 64)], [.long y], (q_cM (q_mA pix smp tr (q_nb p 1 dn ins) (q_fb z)) q_IM (q_mJ y pd), 34, 31630))) 2 (fun _ _ => rfl) ?_
            refine q_Ru_seg (g2 := (9, [(0, .ref 64)], [.int ((y - y / 24 * 24).toInt32)], (q_cM (q_mA pix smp tr (q_nb p 1 dn ins) (q_fb z)) q_IM (q_mJ y pd), 34, 31630))) 3 (fun _ _ => rfl) ?_
            rw [hC]
            refine q_Ru_seg (g2 := (11, [(1, .int col), (0, .ref 64)], [.int col], (q_cM (q_mA pix smp tr (q_nb p 1 dn ins) (q_fb z)) q_IM (q_mJ y pd), 34, 31630))) 2 (fun _ _ => rfl) ?_
            refine q_Ru_rsF (g2 := (14, [(1, .int col), (0, .ref 64)], [], (q_cM (q_mA pix smp tr (q_nb p 1 dn ins) (q_fb z)) q_IM (q_mJ y pd), 34, 31630))) rfl rfl (q_d_neT h228) ?_
            refine q_Ru_seg (g2 := (15, [(1, .int col), (0, .ref 64)], [.ref 64], (q_cM (q_mA pix smp tr (q_nb p 1 dn ins) (q_fb z)) q_IM (q_mJ y pd), 34, 31630))) 1 (fun _ _ => rfl) ?_
            refine q_Ru_call (v := (some (.int lin))) (h2 := (q_cM (q_mA pix smp tr (q_nb p 1 dn ins) (q_fb z)) q_IM (q_mJ y pd), 34, 31630)) rfl rfl ?_ ?_
            · refine q_Ca_of (Nat.le_of_ble_eq_true rfl) ?_
              refine q_Ru_seg (g2 := (4, [(0, .ref 64)], [.long y], (q_cM (q_mA pix smp tr (q_nb p 1 dn ins) (q_fb z)) q_IM (q_mJ y pd), 34, 31630))) 2 (fun _ _ => rfl) ?_
              refine q_Ru_seg (g2 := (13, [(0, .ref 64)], [.int (((y / 24) - (y / 24) / 40 * 40).toInt32)], (q_cM (q_mA pix smp tr (q_nb p 1 dn ins) (q_fb z)) q_IM (q_mJ y pd), 34, 31630))) 5 (fun _ _ => rfl) ?_
              rw [hM]
              exact q_Ru_ret rfl rfl
            show q_Ru _ _ _ (18, [(1, .int col), (0, .ref 64)], [.int lin], (q_cM (q_mA pix smp tr (q_nb p 1 dn ins) (q_fb z)) q_IM (q_mJ y pd), 34, 31630)) _
            refine q_Ru_seg (g2 := (25, [(1, .int col), (0, .ref 64)], [.int 0, .int lin], (q_cM (q_mA pix smp tr (q_nb p 1 dn ins) (q_fb z)) q_IM (q_mJ y pd), 34, 31630))) 4 (fun _ _ => rfl) ?_
            refine q_Ru_rsF (g2 := (28, [(1, .int col), (0, .ref 64)], [], (q_cM (q_mA pix smp tr (q_nb p 1 dn ins) (q_fb z)) q_IM (q_mJ y pd), 34, 31630))) rfl rfl (q_d_neT h229) ?_
            refine q_Ru_seg (g2 := (36, [(1, .int col), (0, .ref 64)], [.int 1, .int 9, .ref 78], (q_cM (q_mA pix smp tr (q_nb p 1 dn ins) (q_fb z)) q_IM (q_mJ y pd), 34, 31630))) 5 (fun _ _ => rfl) ?_
            refine q_Ru_seg (g2 := (40, [(1, .int col), (0, .ref 64)], [.ref 64], (q_cM (q_uA (q_mA pix smp tr (q_nb p 1 dn ins) (q_fb z)) 14 (upd (q_nb p 1 dn ins) 9 1)) q_IM (q_mJ y pd), 34, 31630))) 4 (fun _ _ => rfl) ?_
            have hA : ∀ i, i < 34 → (q_uA (q_mA pix smp tr (q_nb p 1 dn ins) (q_fb z)) 14 (upd (q_nb p 1 dn ins) 9 1)) i = (q_mA pix smp tr (q_nb p 1 dn ins) (q_fb z)) i := by
              intro i hi
              match i, hi with
              | 0, _ => rfl
              | 1, _ => rfl
              | 2, _ => rfl
              | 3, _ => rfl
              | 4, _ => rfl
              | 5, _ => rfl
              | 6, _ => rfl
              | 7, _ => rfl
              | 8, _ => rfl
              | 9, _ => rfl
              | 10, _ => rfl
              | 11, _ => rfl
              | 12, _ => rfl
              | 13, _ => rfl
              | 14, _ => exact (show (upd (q_nb p 1 dn ins) 9 1) = (q_nb p 1 dn ins) by simp only [q_upd_upd, q_upd_z, q_nb_4, q_nb_17, q_nb_19, q_nb_20, q_nb_0, q_nb_9, q_nb_18, q_fb_4, q_fb_0])
              | 15, _ => rfl
              | 16, _ => rfl
              | 17, _ => rfl
              | 18, _ => rfl
              | 19, _ => rfl
              | 20, _ => rfl
              | 21, _ => rfl
              | 22, _ => rfl
              | 23, _ => rfl
              | 24, _ => rfl
              | 25, _ => rfl
              | 26, _ => rfl
              | 27, _ => rfl
              | 28, _ => rfl
              | 29, _ => rfl
              | 30, _ => rfl
              | 31, _ => rfl
              | 32, _ => rfl
              | 33, _ => rfl
              | i + 34, hi => exact absurd hi (by omega)
            rw [q_cM_A (I := q_IM) (J := (q_mJ y pd)) hA]
            refine q_Ru_call (v := (some (.int 0))) (h2 := (q_cM (q_mA pix smp tr (q_nb p 1 dn ins) (q_fb z)) q_IM (q_mJ y pd), 34, 31630)) rfl rfl ?_ ?_
            · exact (by have e := q_m_picX pix smp tr p 1 dn ins z y pd col lin p1 p2 hC hM c0 c1 l0 l1 a0 a1 b0 b1 hp0 hp1 hp2 i0 i1; rw [hpic] at e; exact e.le (Nat.le_of_ble_eq_true rfl))
            show q_Ru _ _ _ (43, [(1, .int col), (0, .ref 64)], [.int 0], (q_cM (q_mA pix smp tr (q_nb p 1 dn ins) (q_fb z)) q_IM (q_mJ y pd), 34, 31630)) _
            refine q_Ru_seg (g2 := (45, [(2, .int 0), (1, .int col), (0, .ref 64)], [.ref 64], (q_cM (q_mA pix smp tr (q_nb p 1 dn ins) (q_fb z)) q_IM (q_mJ y pd), 34, 31630))) 2 (fun _ _ => rfl) ?_
            refine q_Ru_call (v := (some (.int (lin - 4)))) (h2 := (q_cM (q_mA pix smp tr (q_nb p 1 dn ins) (q_fb z)) q_IM (q_mJ y pd), 34, 31630)) rfl rfl ?_ ?_
            · refine q_Ca_of (Nat.le_of_ble_eq_true rfl) ?_
              refine q_Ru_seg (g2 := (1, [(0, .ref 64)], [.ref 64], (q_cM (q_mA pix smp tr (q_nb p 1 dn ins) (q_fb z)) q_IM (q_mJ y pd), 34, 31630))) 1 (fun _ _ => rfl) ?_
              refine q_Ru_call (v := (some (.int lin))) (h2 := (q_cM (q_mA pix smp tr (q_nb p 1 dn ins) (q_fb z)) q_IM (q_mJ y pd), 34, 31630)) rfl rfl ?_ ?_
              · refine q_Ca_of (Nat.le_of_ble_eq_true rfl) ?_
                refine q_Ru_seg (g2 := (4, [(0, .ref 64)], [.long y], (q_cM (q_mA pix smp tr (q_nb p 1 dn ins) (q_fb z)) q_IM (q_mJ y pd), 34, 31630))) 2 (fun _ _ => rfl) ?_
                refine q_Ru_seg (g2 := (13, [(0, .ref 64)], [.int (((y / 24) - (y / 24) / 40 * 40).toInt32)], (q_cM (q_mA pix smp tr (q_nb p 1 dn ins) (q_fb z)) q_IM (q_mJ y pd), 34, 31630))) 5 (fun _ _ => rfl) ?_
                rw [hM]
                exact q_Ru_ret rfl rfl
              show q_Ru _ _ _ (4, [(0, .ref 64)], [.int lin], (q_cM (q_mA pix smp tr (q_nb p 1 dn ins) (q_fb z)) q_IM (q_mJ y pd), 34, 31630)) _
              refine q_Ru_seg (g2 := (6, [(0, .ref 64)], [.int (lin - 4)], (q_cM (q_mA pix smp tr (q_nb p 1 dn ins) (q_fb z)) q_IM (q_mJ y pd), 34, 31630))) 2 (fun _ _ => rfl) ?_
              exact q_Ru_ret rfl rfl
            show q_Ru _ _ _ (48, [(2, .int 0), (1, .int col), (0, .ref 64)], [.int (lin - 4)], (q_cM (q_mA pix smp tr (q_nb p 1 dn ins) (q_fb z)) q_IM (q_mJ y pd), 34, 31630)) _
            refine q_Ru_seg (g2 := (53, [(3, .int (lin - 4)), (2, .int 0), (1, .int col), (0, .ref 64)], [.int 31, .int 0, .int (lin - 4)], (q_cM (q_mA pix smp tr (q_nb p 1 dn ins) (q_fb z)) q_IM (q_mJ y pd), 34, 31630))) 4 (fun _ _ => rfl) ?_
            refine q_Ru_call (v := (some (.int 0))) (h2 := (q_cM (q_mA pix smp tr (q_nb p 1 dn ins) (q_fb z)) q_IM (q_mJ y pd), 34, 31630)) rfl rfl ?_ ?_
            · refine q_Ca_of (Nat.le_of_ble_eq_true rfl) ?_
              refine q_Ru_seg (g2 := (2, [(0, .int (lin - 4)), (1, .int 0), (2, .int 31)], [.int 0, .int (lin - 4)], (q_cM (q_mA pix smp tr (q_nb p 1 dn ins) (q_fb z)) q_IM (q_mJ y pd), 34, 31630))) 2 (fun _ _ => rfl) ?_
              refine q_Ru_rsF (g2 := (5, [(0, .int (lin - 4)), (1, .int 0), (2, .int 31)], [], (q_cM (q_mA pix smp tr (q_nb p 1 dn ins) (q_fb z)) q_IM (q_mJ y pd), 34, 31630))) rfl rfl h230 ?_
              refine q_Ru_seg (g2 := (7, [(0, .int (lin - 4)), (1, .int 0), (2, .int 31)], [.int 31, .int (lin - 4)], (q_cM (q_mA pix smp tr (q_nb p 1 dn ins) (q_fb z)) q_IM (q_mJ y pd), 34, 31630))) 2 (fun _ _ => rfl) ?_
              refine q_Ru_rsT (g2 := (14, [(0, .int (lin - 4)), (1, .int 0), (2, .int 31)], [], (q_cM (q_mA pix smp tr (q_nb p 1 dn ins) (q_fb z)) q_IM (q_mJ y pd), 34, 31630))) rfl rfl h232 ?_
              refine q_Ru_seg (g2 := (15, [(0, .int (lin - 4)), (1, .int 0), (2, .int 31)], [.int 0], (q_cM (q_mA pix smp tr (q_nb p 1 dn ins) (q_fb z)) q_IM (q_mJ y pd), 34, 31630))) 1 (fun _ _ => rfl) ?_
              exact q_Ru_ret rfl rfl
            show q_Ru _ _ _ (56, [(3, .int (lin - 4)), (2, .int 0), (1, .int col), (0, .ref 64)], [.int 0], (q_cM (q_mA pix smp tr (q_nb p 1 dn ins) (q_fb z)) q_IM (q_mJ y pd), 34, 31630)) _
            refine q_Ru_seg (g2 := (92, [(3, .int (lin - 4)), (2, .int 0), (1, .int col), (0, .ref 64)], [.ref 64], (q_cM (q_mA pix smp tr (q_nb p 1 dn ins) (q_fb z)) q_IM (q_mJ y pd), 34, 31630))) 2 (fun _ _ => rfl) ?_
            refine q_Ru_call (v := none) (h2 := (q_cM (q_mA pix smp tr (q_nb p 1 dn ins) (q_fb z)) q_IM (q_mJ y pd), 34, 31630)) rfl rfl ?_ ?_
            · exact (q_m_times pix smp tr p 1 dn ins z y pd col lin p1 p2 hC hM c0 c1 l0 l1 a0 a1 b0 b1 hp0 hp1 hp2 i0 i1  ).le (Nat.le_of_ble_eq_true rfl)
            show q_Ru _ _ _ (95, [(3, .int (lin - 4)), (2, .int 0), (1, .int col), (0, .ref 64)], [], (q_cM (q_mA pix smp tr (q_nb p 1 dn ins) (q_fb z)) q_IM (q_mJ y pd), 34, 31630)) _
            refine q_Ru_seg (g2 := (96, [(3, .int (lin - 4)), (2, .int 0), (1, .int col), (0, .ref 64)], [.ref 64], (q_cM (q_mA pix smp tr (q_nb p 1 dn ins) (q_fb z)) q_IM (q_mJ y pd), 34, 31630))) 1 (fun _ _ => rfl) ?_
            refine q_Ru_call (v := none) (h2 := (q_cM (q_mA pix smp tr (q_nb p 1 dn ins) (q_fb z)) q_IM (q_mJ y pd), 34, 31630)) rfl rfl ?_ ?_
            · exact (q_m_winds pix smp tr p 1 dn ins z y pd col lin p1 p2 hC hM c0 c1 l0 l1 a0 a1 b0 b1 hp0 hp1 hp2 i0 i1  ).le (Nat.le_of_ble_eq_true rfl)
            show q_Ru _ _ _ (99, [(3, .int (lin - 4)), (2, .int 0), (1, .int col), (0, .ref 64)], [], (q_cM (q_mA pix smp tr (q_nb p 1 dn ins) (q_fb z)) q_IM (q_mJ y pd), 34, 31630)) _
            refine q_Ru_seg (g2 := (102, [(3, .int (lin - 4)), (2, .int 0), (1, .int col), (0, .ref 64)], [.int 23, .int col], (q_cM (q_mA pix smp tr (q_nb p 1 dn ins) (q_fb z)) q_IM (q_mJ y pd), 34, 31630))) 2 (fun _ _ => rfl) ?_
            refine q_Ru_rsT (g2 := (109, [(3, .int (lin - 4)), (2, .int 0), (1, .int col), (0, .ref 64)], [], (q_cM (q_mA pix smp tr (q_nb p 1 dn ins) (q_fb z)) q_IM (q_mJ y pd), 34, 31630))) rfl rfl (q_d_neF h233) ?_
            refine q_Ru_seg (g2 := (114, [(3, .int (lin - 4)), (2, .int 0), (1, .int col), (0, .ref 64)], [.ref 64], (q_cM (q_mA pix smp tr (q_nb p 1 dn ins) (q_fb z)) q_IM (q_mJ y pd), 34, 31630))) 3 (fun _ _ => rfl) ?_
            refine q_Ru_call (v := none) (h2 := (q_cM (q_mA pix smp z281a (q_nb p2 0 (dn + 1) (ins + 1)) (q_fb z281b)) q_IM (q_mJ y pd), 34, 31630)) rfl rfl ?_ ?_
            · exact p281.le (Nat.le_of_ble_eq_true rfl)
            show q_Ru _ _ _ (117, [(3, .int (lin - 4)), (2, .int 0), (1, .int col), (0, .ref 64)], [], (q_cM (q_mA pix smp z281a (q_nb p2 0 (dn + 1) (ins + 1)) (q_fb z281b)) q_IM (q_mJ y pd), 34, 31630)) _
            refine q_Ru_seg (g2 := (122, [(3, .int (lin - 4)), (2, .int 0), (1, .int col), (0, .ref 64)], [.long pd, .ref 64], (q_cM (q_mA pix smp z281a (q_nb p2 0 (dn + 1) (ins + 1)) (q_fb z281b)) q_IM (q_mJ y pd), 34, 31630))) 3 (fun _ _ => rfl) ?_
            refine q_Ru_seg (g2 := (140, [(3, .int (lin - 4)), (2, .int 0), (1, .int col), (0, .ref 64)], [.long y, .ref 64], (q_cM (q_mA pix smp z281a (q_nb p2 0 (dn + 1) (ins + 1)) (q_fb z281b)) q_IM (q_uI (q_mJ y pd) 0 16 (pd + 0)), 34, 31630))) 8 (fun _ _ => rfl) ?_
            refine q_Ru_seg (g2 := (146, [(3, .int (lin - 4)), (2, .int 0), (1, .int col), (0, .ref 64)], [.int 0], (q_cM (q_mA pix smp z281a (q_nb p2 0 (dn + 1) (ins + 1)) (q_fb z281b)) q_IM (q_uI (q_uI (q_mJ y pd) 0 16 (pd + 0)) 0 15 (y + 1)), 34, 31630))) 4 (fun _ _ => rfl) ?_
            exact q_Ru_ret rfl rfl
        | false =>
          cases h234 : decide (col < 4) with
          | true =>
            have h235 : decide (col = 23) = false := q_not_tr (q_tbl1 (fun col => !decide (col = 23)) (l := 0) (n := 3) (by decide +kernel) c0 (q_hi1 h234))
            obtain ⟨z286a, z286b, p286⟩ := q_m_go1 pix smp tr p dn ins z y pd col lin p1 p2 hC hM c0 c1 l0 l1 a0 a1 b0 b1 hp0 hp1 hp2 i0 i1  
            refine ⟨pix, smp, z286a, z286b, ?_⟩
            refine q_Ca_of (Nat.le_of_ble_eq_true rfl) ?_
            refine q_Ru_seg (g2 := (4, [(0, .ref 64)], [.long y], (q_cM (q_mA pix smp tr (q_nb p 1 dn ins) (q_fb z)) q_IM (q_mJ y pd), 34, 31630))) 2 (fun _ _ => rfl) ?_
            refine q_Ru_seg (g2 := (9, [(0, .ref 64)], [.int ((y - y / 24 * 24).toInt32)], (q_cM (q_mA pix smp tr (q_nb p 1 dn ins) (q_fb z)) q_IM (q_mJ y pd), 34, 31630))) 3 (fun _ _ => rfl) ?_
            rw [hC]
            refine q_Ru_seg (g2 := (11, [(1, .int col), (0, .ref 64)], [.int col], (q_cM (q_mA pix smp tr (q_nb p 1 dn ins) (q_fb z)) q_IM (q_mJ y pd), 34, 31630))) 2 (fun _ _ => rfl) ?_
            refine q_Ru_rsF (g2 := (14, [(1, .int col), (0, .ref 64)], [], (q_cM (q_mA pix smp tr (q_nb p 1 dn ins) (q_fb z)) q_IM (q_mJ y pd), 34, 31630))) rfl rfl (q_d_neT h228) ?_
            refine q_Ru_seg (g2 := (15, [(1, .int col), (0, .ref 64)], [.ref 64], (q_cM (q_mA pix smp tr (q_nb p 1 dn ins) (q_fb z)) q_IM (q_mJ y pd), 34, 31630))) 1 (fun _ _ => rfl) ?_
            refine q_Ru_call (v := (some (.int lin))) (h2 := (q_cM (q_mA pix smp tr (q_nb p 1 dn ins) (q_fb z)) q_IM (q_mJ y pd), 34, 31630)) rfl rfl ?_ ?_
            · refine q_Ca_of (Nat.le_of_ble_eq_true rfl) ?_
              refine q_Ru_seg (g2 := (4, [(0, .ref 64)], [.long y], (q_cM (q_mA pix smp tr (q_nb p 1 dn ins) (q_fb z)) q_IM (q_mJ y pd), 34, 31630))) 2 (fun _ _ => rfl) ?_
              refine q_Ru_seg (g2 := (13, [(0, .ref 64)], [.int (((y / 24) - (y / 24) / 40 * 40).toInt32)], (q_cM (q_mA pix smp tr (q_nb p 1 dn ins) (q_fb z)) q_IM (q_mJ y pd), 34, 31630))) 5 (fun _ _ => rfl) ?_
              rw [hM]
              exact q_Ru_ret rfl rfl
            show q_Ru _ _ _ (18, [(1, .int col), (0, .ref 64)], [.int lin], (q_cM (q_mA pix smp tr (q_nb p 1 dn ins) (q_fb z)) q_IM (q_mJ y pd), 34, 31630)) _
            refine q_Ru_seg (g2 := (25, [(1, .int col), (0, .ref 64)], [.int 0, .int lin], (q_cM (q_mA pix smp tr (q_nb p 1 dn ins) (q_fb z)) q_IM (q_mJ y pd), 34, 31630))) 4 (fun _ _ => rfl) ?_
            refine q_Ru_rsF (g2 := (28, [(1, .int col), (0, .ref 64)], [], (q_cM (q_mA pix smp tr (q_nb p 1 dn ins) (q_fb z)) q_IM (q_mJ y pd), 34, 31630))) rfl rfl (q_d_neT h229) ?_
            refine q_Ru_seg (g2 := (36, [(1, .int col), (0, .ref 64)], [.int 1, .int 9, .ref 78], (q_cM (q_mA pix smp tr (q_nb p 1 dn ins) (q_fb z)) q_IM (q_mJ y pd), 34, 31630))) 5 (fun _ _ => rfl) ?_
            refine q_Ru_seg (g2 := (40, [(1, .int col), (0, .ref 64)], [.ref 64], (q_cM (q_uA (q_mA pix smp tr (q_nb p 1 dn ins) (q_fb z)) 14 (upd (q_nb p 1 dn ins) 9 1)) q_IM (q_mJ y pd), 34, 31630))) 4 (fun _ _ => rfl) ?_
            have hA : ∀ i, i < 34 → (q_uA (q_mA pix smp tr (q_nb p 1 dn ins) (q_fb z)) 14 (upd (q_nb p 1 dn ins) 9 1)) i = (q_mA pix smp tr (q_nb p 1 dn ins) (q_fb z)) i := by
              intro i hi
              match i, hi with
              | 0, _ => rfl
              | 1, _ => rfl
              | 2, _ => rfl
              | 3, _ => rfl
              | 4, _ => rfl
              | 5, _ => rfl
              | 6, _ => rfl
              | 7, _ => rfl
              | 8, _ => rfl
              | 9, _ => rfl
              | 10, _ => rfl
              | 11, _ => rfl
              | 12, _ => rfl
              | 13, _ => rfl
              | 14, _ => exact (show (upd (q_nb p 1 dn ins) 9 1) = (q_nb p 1 dn ins) by simp only [q_upd_upd, q_upd_z, q_nb_4, q_nb_17, q_nb_19, q_nb_20, q_nb_0, q_nb_9, q_nb_18, q_fb_4, q_fb_0])
              | 15, _ => rfl
              | 16, _ => rfl
              | 17, _ => rfl
              | 18, _ => rfl
              | 19, _ => rfl
              | 20, _ => rfl
              | 21, _ => rfl
              | 22, _ => rfl
              | 23, _ => rfl
              | 24, _ => rfl
              | 25, _ => rfl
              | 26, _ => rfl
              | 27, _ => rfl
              | 28, _ => rfl
              | 29, _ => rfl
              | 30, _ => rfl
              | 31, _ => rfl
              | 32, _ => rfl
              | 33, _ => rfl
              | i + 34, hi => exact absurd hi (by omega)
            rw [q_cM_A (I := q_IM) (J := (q_mJ y pd)) hA]
            refine q_Ru_call (v := (some (.int 0))) (h2 := (q_cM (q_mA pix smp tr (q_nb p 1 dn ins) (q_fb z)) q_IM (q_mJ y pd), 34, 31630)) rfl rfl ?_ ?_
            · exact (by have e := q_m_picX pix smp tr p 1 dn ins z y pd col lin p1 p2 hC hM c0 c1 l0 l1 a0 a1 b0 b1 hp0 hp1 hp2 i0 i1; rw [hpic] at e; exact e.le (Nat.le_of_ble_eq_true rfl))
            show q_Ru _ _ _ (43, [(1, .int col), (0, .ref 64)], [.int 0], (q_cM (q_mA pix smp tr (q_nb p 1 dn ins) (q_fb z)) q_IM (q_mJ y pd), 34, 31630)) _
            refine q_Ru_seg (g2 := (45, [(2, .int 0), (1, .int col), (0, .ref 64)], [.ref 64], (q_cM (q_mA pix smp tr (q_nb p 1 dn ins) (q_fb z)) q_IM (q_mJ y pd), 34, 31630))) 2 (fun _ _ => rfl) ?_
            refine q_Ru_call (v := (some (.int (lin - 4)))) (h2 := (q_cM (q_mA pix smp tr (q_nb p 1 dn ins) (q_fb z)) q_IM (q_mJ y pd), 34, 31630)) rfl rfl ?_ ?_
            · refine q_Ca_of (Nat.le_of_ble_eq_true rfl) ?_
              refine q_Ru_seg (g2 := (1, [(0, .ref 64)], [.ref 64], (q_cM (q_mA pix smp tr (q_nb p 1 dn ins) (q_fb z)) q_IM (q_mJ y pd), 34, 31630))) 1 (fun _ _ => rfl) ?_
              refine q_Ru_call (v := (some (.int lin))) (h2 := (q_cM (q_mA pix smp tr (q_nb p 1 dn ins) (q_fb z)) q_IM (q_mJ y pd), 34, 31630)) rfl rfl ?_ ?_
              · refine q_Ca_of (Nat.le_of_ble_eq_true rfl) ?_
                refine q_Ru_seg (g2 := (4, [(0, .ref 64)], [.long y], (q_cM (q_mA pix smp tr (q_nb p 1 dn ins) (q_fb z)) q_IM (q_mJ y pd), 34, 31630))) 2 (fun _ _ => rfl) ?_
                refine q_Ru_seg (g2 := (13, [(0, .ref 64)], [.int (((y / 24) - (y / 24) / 40 * 40).toInt32)], (q_cM (q_mA pix smp tr (q_nb p 1 dn ins) (q_fb z)) q_IM (q_mJ y pd), 34, 31630))) 5 (fun _ _ => rfl) ?_
                rw [hM]
                exact q_Ru_ret rfl rfl
              show q_Ru _ _ _ (4, [(0, .ref 64)], [.int lin], (q_cM (q_mA pix smp tr (q_nb p 1 dn ins) (q_fb z)) q_IM (q_mJ y pd), 34, 31630)) _
              refine q_Ru_seg (g2 := (6, [(0, .ref 64)], [.int (lin - 4)], (q_cM (q_mA pix smp tr (q_nb p 1 dn ins) (q_fb z)) q_IM (q_mJ y pd), 34, 31630))) 2 (fun _ _ => rfl) ?_
              exact q_Ru_ret rfl rfl
            show q_Ru _ _ _ (48, [(2, .int 0), (1, .int col), (0, .ref 64)], [.int (lin - 4)], (q_cM (q_mA pix smp tr (q_nb p 1 dn ins) (q_fb z)) q_IM (q_mJ y pd), 34, 31630)) _
            refine q_Ru_seg (g2 := (53, [(3, .int (lin - 4)), (2, .int 0), (1, .int col), (0, .ref 64)], [.int 31, .int 0, .int (lin - 4)], (q_cM (q_mA pix smp tr (q_nb p 1 dn ins) (q_fb z)) q_IM (q_mJ y pd), 34, 31630))) 4 (fun _ _ => rfl) ?_
            refine q_Ru_call (v := (some (.int 1))) (h2 := (q_cM (q_mA pix smp tr (q_nb p 1 dn ins) (q_fb z)) q_IM (q_mJ y pd), 34, 31630)) rfl rfl ?_ ?_
            · refine q_Ca_of (Nat.le_of_ble_eq_true rfl) ?_
              refine q_Ru_seg (g2 := (2, [(0, .int (lin - 4)), (1, .int 0), (2, .int 31)], [.int 0, .int (lin - 4)], (q_cM (q_mA pix smp tr (q_nb p 1 dn ins) (q_fb z)) q_IM (q_mJ y pd), 34, 31630))) 2 (fun _ _ => rfl) ?_
              refine q_Ru_rsF (g2 := (5, [(0, .int (lin - 4)), (1, .int 0), (2, .int 31)], [], (q_cM (q_mA pix smp tr (q_nb p 1 dn ins) (q_fb z)) q_IM (q_mJ y pd), 34, 31630))) rfl rfl h230 ?_
              refine q_Ru_seg (g2 := (7, [(0, .int (lin - 4)), (1, .int 0), (2, .int 31)], [.int 31, .int (lin - 4)], (q_cM (q_mA pix smp tr (q_nb p 1 dn ins) (q_fb z)) q_IM (q_mJ y pd), 34, 31630))) 2 (fun _ _ => rfl) ?_
              refine q_Ru_rsF (g2 := (10, [(0, .int (lin - 4)), (1, .int 0), (2, .int 31)], [], (q_cM (q_mA pix smp tr (q_nb p 1 dn ins) (q_fb z)) q_IM (q_mJ y pd), 34, 31630))) rfl rfl h232 ?_
              refine q_Ru_seg (g2 := (15, [(0, .int (lin - 4)), (1, .int 0), (2, .int 31)], [.int 1], (q_cM (q_mA pix smp tr (q_nb p 1 dn ins) (q_fb z)) q_IM (q_mJ y pd), 34, 31630))) 2 (fun _ _ => rfl) ?_
              exact q_Ru_ret rfl rfl
            show q_Ru _ _ _ (56, [(3, .int (lin - 4)), (2, .int 0), (1, .int col), (0, .ref 64)], [.int 1], (q_cM (q_mA pix smp tr (q_nb p 1 dn ins) (q_fb z)) q_IM (q_mJ y pd), 34, 31630)) _
            refine q_Ru_seg (g2 := (63, [(3, .int (lin - 4)), (2, .int 0), (1, .int col), (0, .ref 64)], [.int 19, .int 4, .int col], (q_cM (q_mA pix smp tr (q_nb p 1 dn ins) (q_fb z)) q_IM (q_mJ y pd), 34, 31630))) 4 (fun _ _ => rfl) ?_
            refine q_Ru_call (v := (some (.int 0))) (h2 := (q_cM (q_mA pix smp tr (q_nb p 1 dn ins) (q_fb z)) q_IM (q_mJ y pd), 34, 31630)) rfl rfl ?_ ?_
            · refine q_Ca_of (Nat.le_of_ble_eq_true rfl) ?_
              refine q_Ru_seg (g2 := (2, [(0, .int col), (1, .int 4), (2, .int 19)], [.int 4, .int col], (q_cM (q_mA pix smp tr (q_nb p 1 dn ins) (q_fb z)) q_IM (q_mJ y pd), 34, 31630))) 2 (fun _ _ => rfl) ?_
              refine q_Ru_rsT (g2 := (14, [(0, .int col), (1, .int 4), (2, .int 19)], [], (q_cM (q_mA pix smp tr (q_nb p 1 dn ins) (q_fb z)) q_IM (q_mJ y pd), 34, 31630))) rfl rfl h234 ?_
              refine q_Ru_seg (g2 := (15, [(0, .int col), (1, .int 4), (2, .int 19)], [.int 0], (q_cM (q_mA pix smp tr (q_nb p 1 dn ins) (q_fb z)) q_IM (q_mJ y pd), 34, 31630))) 1 (fun _ _ => rfl) ?_
              exact q_Ru_ret rfl rfl
            show q_Ru _ _ _ (66, [(3, .int (lin - 4)), (2, .int 0), (1, .int col), (0, .ref 64)], [.int 0], (q_cM (q_mA pix smp tr (q_nb p 1 dn ins) (q_fb z)) q_IM (q_mJ y pd), 34, 31630)) _
            refine q_Ru_seg (g2 := (92, [(3, .int (lin - 4)), (2, .int 0), (1, .int col), (0, .ref 64)], [.ref 64], (q_cM (q_mA pix smp tr (q_nb p 1 dn ins) (q_fb z)) q_IM (q_mJ y pd), 34, 31630))) 2 (fun _ _ => rfl) ?_
            refine q_Ru_call (v := none) (h2 := (q_cM (q_mA pix smp tr (q_nb p 1 dn ins) (q_fb z)) q_IM (q_mJ y pd), 34, 31630)) rfl rfl ?_ ?_
            · exact (q_m_times pix smp tr p 1 dn ins z y pd col lin p1 p2 hC hM c0 c1 l0 l1 a0 a1 b0 b1 hp0 hp1 hp2 i0 i1  ).le (Nat.le_of_ble_eq_true rfl)
            show q_Ru _ _ _ (95, [(3, .int (lin - 4)), (2, .int 0), (1, .int col), (0, .ref 64)], [], (q_cM (q_mA pix smp tr (q_nb p 1 dn ins) (q_fb z)) q_IM (q_mJ y pd), 34, 31630)) _
            refine q_Ru_seg (g2 := (96, [(3, .int (lin - 4)), (2, .int 0), (1, .int col), (0, .ref 64)], [.ref 64], (q_cM (q_mA pix smp tr (q_nb p 1 dn ins) (q_fb z)) q_IM (q_mJ y pd), 34, 31630))) 1 (fun _ _ => rfl) ?_
            refine q_Ru_call (v := none) (h2 := (q_cM (q_mA pix smp tr (q_nb p 1 dn ins) (q_fb z)) q_IM (q_mJ y pd), 34, 31630)) rfl rfl ?_ ?_
            · exact (q_m_winds pix smp tr p 1 dn ins z y pd col lin p1 p2 hC hM c0 c1 l0 l1 a0 a1 b0 b1 hp0 hp1 hp2 i0 i1  ).le (Nat.le_of_ble_eq_true rfl)
            show q_Ru _ _ _ (99, [(3, .int (lin - 4)), (2, .int 0), (1, .int col), (0, .ref 64)], [], (q_cM (q_mA pix smp tr (q_nb p 1 dn ins) (q_fb z)) q_IM (q_mJ y pd), 34, 31630)) _
            refine q_Ru_seg (g2 := (102, [(3, .int (lin - 4)), (2, .int 0), (1, .int col), (0, .ref 64)], [.int 23, .int col], (q_cM (q_mA pix smp tr (q_nb p 1 dn ins) (q_fb z)) q_IM (q_mJ y pd), 34, 31630))) 2 (fun _ _ => rfl) ?_
            refine q_Ru_rsT (g2 := (109, [(3, .int (lin - 4)), (2, .int 0), (1, .int col), (0, .ref 64)], [], (q_cM (q_mA pix smp tr (q_nb p 1 dn ins) (q_fb z)) q_IM (q_mJ y pd), 34, 31630))) rfl rfl (q_d_neF h235) ?_
            refine q_Ru_seg (g2 := (114, [(3, .int (lin - 4)), (2, .int 0), (1, .int col), (0, .ref 64)], [.ref 64], (q_cM (q_mA pix smp tr (q_nb p 1 dn ins) (q_fb z)) q_IM (q_mJ y pd), 34, 31630))) 3 (fun _ _ => rfl) ?_
            refine q_Ru_call (v := none) (h2 := (q_cM (q_mA pix smp z286a (q_nb p2 0 (dn + 1) (ins + 1)) (q_fb z286b)) q_IM (q_mJ y pd), 34, 31630)) rfl rfl ?_ ?_
            · exact p286.le (Nat.le_of_ble_eq_true rfl)
            show q_Ru _ _ _ (117, [(3, .int (lin - 4)), (2, .int 0), (1, .int col), (0, .ref 64)], [], (q_cM (q_mA pix smp z286a (q_nb p2 0 (dn + 1) (ins + 1)) (q_fb z286b)) q_IM (q_mJ y pd), 34, 31630)) _
            refine q_Ru_seg (g2 := (122, [(3, .int (lin - 4)), (2, .int 0), (1, .int col), (0, .ref 64)], [.long pd, .ref 64], (q_cM (q_mA pix smp z286a (q_nb p2 0 (dn + 1) (ins + 1)) (q_fb z286b)) q_IM (q_mJ y pd), 34, 31630))) 3 (fun _ _ => rfl) ?_
            refine q_Ru_seg (g2 := (140, [(3, .int (lin - 4)), (2, .int 0), (1, .int col), (0, .ref 64)], [.long y, .ref 64], (q_cM (q_mA pix smp z286a (q_nb p2 0 (dn + 1) (ins + 1)) (q_fb z286b)) q_IM (q_uI (q_mJ y pd) 0 16 (pd + 0)), 34, 31630))) 8 (fun _ _ => rfl) ?_
            refine q_Ru_seg (g2 := (146, [(3, .int (lin - 4)), (2, .int 0), (1, .int col), (0, .ref 64)], [.int 0], (q_cM (q_mA pix smp z286a (q_nb p2 0 (dn + 1) (ins + 1)) (q_fb z286b)) q_IM (q_uI (q_uI (q_mJ y pd) 0 16 (pd + 0)) 0 15 (y + 1)), 34, 31630))) 4 (fun _ _ => rfl) ?_
            exact q_Ru_ret rfl rfl
          | false =>
            cases h236 : decide (19 < col) with
            | true =>
              cases h237 : decide (col = 23) with
              | true =>
                have eh237 := of_decide_eq_true h237
                subst eh237
                obtain ⟨z291a, p291⟩ := q_m_sample pix smp tr p 1 dn ins z y pd col lin p1 p2 hC hM c0 c1 l0 l1 a0 a1 b0 b1 hp0 hp1 hp2 i0 i1  
                obtain ⟨z292a, z292b, p292⟩ := q_m_go1 pix z291a tr p dn ins z y pd col lin p1 p2 hC hM c0 c1 l0 l1 a0 a1 b0 b1 hp0 hp1 hp2 i0 i1  
                refine ⟨pix, z291a, z292a, z292b, ?_⟩
                refine q_Ca_of (Nat.le_of_ble_eq_true rfl) ?_
                refine q_Ru_seg (g2 := (4, [(0, .ref 64)], [.long y], (q_cM (q_mA pix smp tr (q_nb p 1 dn ins) (q_fb z)) q_IM (q_mJ y pd), 34, 31630))) 2 (fun _ _ => rfl) ?_
                refine q_Ru_seg (g2 := (9, [(0, .ref 64)], [.int ((y - y / 24 * 24).toInt32)], (q_cM (q_mA pix smp tr (q_nb p 1 dn ins) (q_fb z)) q_IM (q_mJ y pd), 34, 31630))) 3 (fun _ _ => rfl) ?_
                rw [hC]
                refine q_Ru_seg (g2 := (11, [(1, .int col), (0, .ref 64)], [.int col], (q_cM (q_mA pix smp tr (q_nb p 1 dn ins) (q_fb z)) q_IM (q_mJ y pd), 34, 31630))) 2 (fun _ _ => rfl) ?_
                refine q_Ru_rsF (g2 := (14, [(1, .int col), (0, .ref 64)], [], (q_cM (q_mA pix smp tr (q_nb p 1 dn ins) (q_fb z)) q_IM (q_mJ y pd), 34, 31630))) rfl rfl (q_d_neT h228) ?_
                refine q_Ru_seg (g2 := (15, [(1, .int col), (0, .ref 64)], [.ref 64], (q_cM (q_mA pix smp tr (q_nb p 1 dn ins) (q_fb z)) q_IM (q_mJ y pd), 34, 31630))) 1 (fun _ _ => rfl) ?_
                refine q_Ru_call (v := (some (.int lin))) (h2 := (q_cM (q_mA pix smp tr (q_nb p 1 dn ins) (q_fb z)) q_IM (q_mJ y pd), 34, 31630)) rfl rfl ?_ ?_
                · refine q_Ca_of (Nat.le_of_ble_eq_true rfl) ?_
                  refine q_Ru_seg (g2 := (4, [(0, .ref 64)], [.long y], (q_cM (q_mA pix smp tr (q_nb p 1 dn ins) (q_fb z)) q_IM (q_mJ y pd), 34, 31630))) 2 (fun _ _ => rfl) ?_
                  refine q_Ru_seg (g2 := (13, [(0, .ref 64)], [.int (((y / 24) - (y / 24) / 40 * 40).toInt32)], (q_cM (q_mA pix smp tr (q_nb p 1 dn ins) (q_fb z)) q_IM (q_mJ y pd), 34, 31630))) 5 (fun _ _ => rfl) ?_
                  rw [hM]
                  exact q_Ru_ret rfl rfl
                show q_Ru _ _ _ (18, [(1, .int col), (0, .ref 64)], [.int lin], (q_cM (q_mA pix smp tr (q_nb p 1 dn ins) (q_fb z)) q_IM (q_mJ y pd), 34, 31630)) _
                refine q_Ru_seg (g2 := (25, [(1, .int col), (0, .ref 64)], [.int 0, .int lin], (q_cM (q_mA pix smp tr (q_nb p 1 dn ins) (q_fb z)) q_IM (q_mJ y pd), 34, 31630))) 4 (fun _ _ => rfl) ?_
                refine q_Ru_rsF (g2 := (28, [(1, .int col), (0, .ref 64)], [], (q_cM (q_mA pix smp tr (q_nb p 1 dn ins) (q_fb z)) q_IM (q_mJ y pd), 34, 31630))) rfl rfl (q_d_neT h229) ?_
                refine q_Ru_seg (g2 := (36, [(1, .int col), (0, .ref 64)], [.int 1, .int 9, .ref 78], (q_cM (q_mA pix smp tr (q_nb p 1 dn ins) (q_fb z)) q_IM (q_mJ y pd), 34, 31630))) 5 (fun _ _ => rfl) ?_
                refine q_Ru_seg (g2 := (40, [(1, .int col), (0, .ref 64)], [.ref 64], (q_cM (q_uA (q_mA pix smp tr (q_nb p 1 dn ins) (q_fb z)) 14 (upd (q_nb p 1 dn ins) 9 1)) q_IM (q_mJ y pd), 34, 31630))) 4 (fun _ _ => rfl) ?_
                have hA : ∀ i, i < 34 → (q_uA (q_mA pix smp tr (q_nb p 1 dn ins) (q_fb z)) 14 (upd (q_nb p 1 dn ins) 9 1)) i = (q_mA pix smp tr (q_nb p 1 dn ins) (q_fb z)) i := by
                  intro i hi
                  match i, hi with
                  | 0, _ => rfl
                  | 1, _ => rfl
                  | 2, _ => rfl
                  | 3, _ => rfl
                  | 4, _ => rfl
                  | 5, _ => rfl
                  | 6, _ => rfl
                  | 7, _ => rfl
                  | 8, _ => rfl
                  | 9, _ => rfl
                  | 10, _ => rfl
                  | 11, _ => rfl
                  | 12, _ => rfl
                  | 13, _ => rfl
                  | 14, _ => exact (show (upd (q_nb p 1 dn ins) 9 1) = (q_nb p 1 dn ins) by simp only [q_upd_upd, q_upd_z, q_nb_4, q_nb_17, q_nb_19, q_nb_20, q_nb_0, q_nb_9, q_nb_18, q_fb_4, q_fb_0])
                  | 15, _ => rfl
                  | 16, _ => rfl
                  | 17, _ => rfl
                  | 18, _ => rfl
                  | 19, _ => rfl
                  | 20, _ => rfl
                  | 21, _ => rfl
                  | 22, _ => rfl
                  | 23, _ => rfl
                  | 24, _ => rfl
                  | 25, _ => rfl
                  | 26, _ => rfl
                  | 27, _ => rfl
                  | 28, _ => rfl
                  | 29, _ => rfl
                  | 30, _ => rfl
                  | 31, _ => rfl
                  | 32, _ => rfl
                  | 33, _ => rfl
                  | i + 34, hi => exact absurd hi (by omega)
                rw [q_cM_A (I := q_IM) (J := (q_mJ y pd)) hA]
                refine q_Ru_call (v := (some (.int 0))) (h2 := (q_cM (q_mA pix smp tr (q_nb p 1 dn ins) (q_fb z)) q_IM (q_mJ y pd), 34, 31630)) rfl rfl ?_ ?_
                · exact (by have e := q_m_picX pix smp tr p 1 dn ins z y pd col lin p1 p2 hC hM c0 c1 l0 l1 a0 a1 b0 b1 hp0 hp1 hp2 i0 i1; rw [hpic] at e; exact e.le (Nat.le_of_ble_eq_true rfl))
                show q_Ru _ _ _ (43, [(1, .int col), (0, .ref 64)], [.int 0], (q_cM (q_mA pix smp tr (q_nb p 1 dn ins) (q_fb z)) q_IM (q_mJ y pd), 34, 31630)) _
                refine q_Ru_seg (g2 := (45, [(2, .int 0), (1, .int col), (0, .ref 64)], [.ref 64], (q_cM (q_mA pix smp tr (q_nb p 1 dn ins) (q_fb z)) q_IM (q_mJ y pd), 34, 31630))) 2 (fun _ _ => rfl) ?_
                refine q_Ru_call (v := (some (.int (lin - 4)))) (h2 := (q_cM (q_mA pix smp tr (q_nb p 1 dn ins) (q_fb z)) q_IM (q_mJ y pd), 34, 31630)) rfl rfl ?_ ?_
                · refine q_Ca_of (Nat.le_of_ble_eq_true rfl) ?_
                  refine q_Ru_seg (g2 := (1, [(0, .ref 64)], [.ref 64], (q_cM (q_mA pix smp tr (q_nb p 1 dn ins) (q_fb z)) q_IM (q_mJ y pd), 34, 31630))) 1 (fun _ _ => rfl) ?_
                  refine q_Ru_call (v := (some (.int lin))) (h2 := (q_cM (q_mA pix smp tr (q_nb p 1 dn ins) (q_fb z)) q_IM (q_mJ y pd), 34, 31630)) rfl rfl ?_ ?_
                  · refine q_Ca_of (Nat.le_of_ble_eq_true rfl) ?_
                    refine q_Ru_seg (g2 := (4, [(0, .ref 64)], [.long y], (q_cM (q_mA pix smp tr (q_nb p 1 dn ins) (q_fb z)) q_IM (q_mJ y pd), 34, 31630))) 2 (fun _ _ => rfl) ?_
                    refine q_Ru_seg (g2 := (13, [(0, .ref 64)], [.int (((y / 24) - (y / 24) / 40 * 40).toInt32)], (q_cM (q_mA pix smp tr (q_nb p 1 dn ins) (q_fb z)) q_IM (q_mJ y pd), 34, 31630))) 5 (fun _ _ => rfl) ?_
                    rw [hM]
                    exact q_Ru_ret rfl rfl
                  show q_Ru _ _ _ (4, [(0, .ref 64)], [.int lin], (q_cM (q_mA pix smp tr (q_nb p 1 dn ins) (q_fb z)) q_IM (q_mJ y pd), 34, 31630)) _
                  refine q_Ru_seg (g2 := (6, [(0, .ref 64)], [.int (lin - 4)], (q_cM (q_mA pix smp tr (q_nb p 1 dn ins) (q_fb z)) q_IM (q_mJ y pd), 34, 31630))) 2 (fun _ _ => rfl) ?_
                  exact q_Ru_ret rfl rfl
                show q_Ru _ _ _ (48, [(2, .int 0), (1, .int col), (0, .ref 64)], [.int (lin - 4)], (q_cM (q_mA pix smp tr (q_nb p 1 dn ins) (q_fb z)) q_IM (q_mJ y pd), 34, 31630)) _
                refine q_Ru_seg (g2 := (53, [(3, .int (lin - 4)), (2, .int 0), (1, .int col), (0, .ref 64)], [.int 31, .int 0, .int (lin - 4)], (q_cM (q_mA pix smp tr (q_nb p 1 dn ins) (q_fb z)) q_IM (q_mJ y pd), 34, 31630))) 4 (fun _ _ => rfl) ?_
                refine q_Ru_call (v := (some (.int 1))) (h2 := (q_cM (q_mA pix smp tr (q_nb p 1 dn ins) (q_fb z)) q_IM (q_mJ y pd), 34, 31630)) rfl rfl ?_ ?_
                · refine q_Ca_of (Nat.le_of_ble_eq_true rfl) ?_
                  refine q_Ru_seg (g2 := (2, [(0, .int (lin - 4)), (1, .int 0), (2, .int 31)], [.int 0, .int (lin - 4)], (q_cM (q_mA pix smp tr (q_nb p 1 dn ins) (q_fb z)) q_IM (q_mJ y pd), 34, 31630))) 2 (fun _ _ => rfl) ?_
                  refine q_Ru_rsF (g2 := (5, [(0, .int (lin - 4)), (1, .int 0), (2, .int 31)], [], (q_cM (q_mA pix smp tr (q_nb p 1 dn ins) (q_fb z)) q_IM (q_mJ y pd), 34, 31630))) rfl rfl h230 ?_
                  refine q_Ru_seg (g2 := (7, [(0, .int (lin - 4)), (1, .int 0), (2, .int 31)], [.int 31, .int (lin - 4)], (q_cM (q_mA pix smp tr (q_nb p 1 dn ins) (q_fb z)) q_IM (q_mJ y pd), 34, 31630))) 2 (fun _ _ => rfl) ?_
                  refine q_Ru_rsF (g2 := (10, [(0, .int (lin - 4)), (1, .int 0), (2, .int 31)], [], (q_cM (q_mA pix smp tr (q_nb p 1 dn ins) (q_fb z)) q_IM (q_mJ y pd), 34, 31630))) rfl rfl h232 ?_
                  refine q_Ru_seg (g2 := (15, [(0, .int (lin - 4)), (1, .int 0), (2, .int 31)], [.int 1], (q_cM (q_mA pix smp tr (q_nb p 1 dn ins) (q_fb z)) q_IM (q_mJ y pd), 34, 31630))) 2 (fun _ _ => rfl) ?_
                  exact q_Ru_ret rfl rfl
                show q_Ru _ _ _ (56, [(3, .int (lin - 4)), (2, .int 0), (1, .int col), (0, .ref 64)], [.int 1], (q_cM (q_mA pix smp tr (q_nb p 1 dn ins) (q_fb z)) q_IM (q_mJ y pd), 34, 31630)) _
                refine q_Ru_seg (g2 := (63, [(3, .int (lin - 4)), (2, .int 0), (1, .int col), (0, .ref 64)], [.int 19, .int 4, .int col], (q_cM (q_mA pix smp tr (q_nb p 1 dn ins) (q_fb z)) q_IM (q_mJ y pd), 34, 31630))) 4 (fun _ _ => rfl) ?_
                refine q_Ru_call (v := (some (.int 0))) (h2 := (q_cM (q_mA pix smp tr (q_nb p 1 dn ins) (q_fb z)) q_IM (q_mJ y pd), 34, 31630)) rfl rfl ?_ ?_
                · refine q_Ca_of (Nat.le_of_ble_eq_true rfl) ?_
                  refine q_Ru_seg (g2 := (2, [(0, .int col), (1, .int 4), (2, .int 19)], [.int 4, .int col], (q_cM (q_mA pix smp tr (q_nb p 1 dn ins) (q_fb z)) q_IM (q_mJ y pd), 34, 31630))) 2 (fun _ _ => rfl) ?_
                  refine q_Ru_rsF (g2 := (5, [(0, .int col), (1, .int 4), (2, .int 19)], [], (q_cM (q_mA pix smp tr (q_nb p 1 dn ins) (q_fb z)) q_IM (q_mJ y pd), 34, 31630))) rfl rfl h234 ?_
                  refine q_Ru_seg (g2 := (7, [(0, .int col), (1, .int 4), (2, .int 19)], [.int 19, .int col], (q_cM (q_mA pix smp tr (q_nb p 1 dn ins) (q_fb z)) q_IM (q_mJ y pd), 34, 31630))) 2 (fun _ _ => rfl) ?_
                  refine q_Ru_rsT (g2 := (14, [(0, .int col), (1, .int 4), (2, .int 19)], [], (q_cM (q_mA pix smp tr (q_nb p 1 dn ins) (q_fb z)) q_IM (q_mJ y pd), 34, 31630))) rfl rfl h236 ?_
                  refine q_Ru_seg (g2 := (15, [(0, .int col), (1, .int 4), (2, .int 19)], [.int 0], (q_cM (q_mA pix smp tr (q_nb p 1 dn ins) (q_fb z)) q_IM (q_mJ y pd), 34, 31630))) 1 (fun _ _ => rfl) ?_
                  exact q_Ru_ret rfl rfl
                show q_Ru _ _ _ (66, [(3, .int (lin - 4)), (2, .int 0), (1, .int col), (0, .ref 64)], [.int 0], (q_cM (q_mA pix smp tr (q_nb p 1 dn ins) (q_fb z)) q_IM (q_mJ y pd), 34, 31630)) _
                refine q_Ru_seg (g2 := (92, [(3, .int (lin - 4)), (2, .int 0), (1, .int col), (0, .ref 64)], [.ref 64], (q_cM (q_mA pix smp tr (q_nb p 1 dn ins) (q_fb z)) q_IM (q_mJ y pd), 34, 31630))) 2 (fun _ _ => rfl) ?_
                refine q_Ru_call (v := none) (h2 := (q_cM (q_mA pix smp tr (q_nb p 1 dn ins) (q_fb z)) q_IM (q_mJ y pd), 34, 31630)) rfl rfl ?_ ?_
                · exact (q_m_times pix smp tr p 1 dn ins z y pd col lin p1 p2 hC hM c0 c1 l0 l1 a0 a1 b0 b1 hp0 hp1 hp2 i0 i1  ).le (Nat.le_of_ble_eq_true rfl)
                show q_Ru _ _ _ (95, [(3, .int (lin - 4)), (2, .int 0), (1, .int col), (0, .ref 64)], [], (q_cM (q_mA pix smp tr (q_nb p 1 dn ins) (q_fb z)) q_IM (q_mJ y pd), 34, 31630)) _
                refine q_Ru_seg (g2 := (96, [(3, .int (lin - 4)), (2, .int 0), (1, .int col), (0, .ref 64)], [.ref 64], (q_cM (q_mA pix smp tr (q_nb p 1 dn ins) (q_fb z)) q_IM (q_mJ y pd), 34, 31630))) 1 (fun _ _ => rfl) ?_
                refine q_Ru_call (v := none) (h2 := (q_cM (q_mA pix smp tr (q_nb p 1 dn ins) (q_fb z)) q_IM (q_mJ y pd), 34, 31630)) rfl rfl ?_ ?_
                · exact (q_m_winds pix smp tr p 1 dn ins z y pd col lin p1 p2 hC hM c0 c1 l0 l1 a0 a1 b0 b1 hp0 hp1 hp2 i0 i1  ).le (Nat.le_of_ble_eq_true rfl)
                show q_Ru _ _ _ (99, [(3, .int (lin - 4)), (2, .int 0), (1, .int col), (0, .ref 64)], [], (q_cM (q_mA pix smp tr (q_nb p 1 dn ins) (q_fb z)) q_IM (q_mJ y pd), 34, 31630)) _
                refine q_Ru_seg (g2 := (102, [(3, .int (lin - 4)), (2, .int 0), (1, .int col), (0, .ref 64)], [.int 23, .int col], (q_cM (q_mA pix smp tr (q_nb p 1 dn ins) (q_fb z)) q_IM (q_mJ y pd), 34, 31630))) 2 (fun _ _ => rfl) ?_
                refine q_Ru_rsF (g2 := (105, [(3, .int (lin - 4)), (2, .int 0), (1, .int col), (0, .ref 64)], [], (q_cM (q_mA pix smp tr (q_nb p 1 dn ins) (q_fb z)) q_IM (q_mJ y pd), 34, 31630))) rfl rfl (q_d_neT h237) ?_
                refine q_Ru_seg (g2 := (106, [(3, .int (lin - 4)), (2, .int 0), (1, .int col), (0, .ref 64)], [.ref 64], (q_cM (q_mA pix smp tr (q_nb p 1 dn ins) (q_fb z)) q_IM (q_mJ y pd), 34, 31630))) 1 (fun _ _ => rfl) ?_
                refine q_Ru_call (v := none) (h2 := (q_cM (q_mA pix z291a tr (q_nb p 1 dn ins) (q_fb z)) q_IM (q_mJ y pd), 34, 31630)) rfl rfl ?_ ?_
                · exact p291.le (Nat.le_of_ble_eq_true rfl)
                show q_Ru _ _ _ (109, [(3, .int (lin - 4)), (2, .int 0), (1, .int col), (0, .ref 64)], [], (q_cM (q_mA pix z291a tr (q_nb p 1 dn ins) (q_fb z)) q_IM (q_mJ y pd), 34, 31630)) _
                refine q_Ru_seg (g2 := (114, [(3, .int (lin - 4)), (2, .int 0), (1, .int col), (0, .ref 64)], [.ref 64], (q_cM (q_mA pix z291a tr (q_nb p 1 dn ins) (q_fb z)) q_IM (q_mJ y pd), 34, 31630))) 3 (fun _ _ => rfl) ?_
                refine q_Ru_call (v := none) (h2 := (q_cM (q_mA pix z291a z292a (q_nb p2 0 (dn + 1) (ins + 1)) (q_fb z292b)) q_IM (q_mJ y pd), 34, 31630)) rfl rfl ?_ ?_
                · exact p292.le (Nat.le_of_ble_eq_true rfl)
                show q_Ru _ _ _ (117, [(3, .int (lin - 4)), (2, .int 0), (1, .int col), (0, .ref 64)], [], (q_cM (q_mA pix z291a z292a (q_nb p2 0 (dn + 1) (ins + 1)) (q_fb z292b)) q_IM (q_mJ y pd), 34, 31630)) _
                refine q_Ru_seg (g2 := (122, [(3, .int (lin - 4)), (2, .int 0), (1, .int col), (0, .ref 64)], [.long pd, .ref 64], (q_cM (q_mA pix z291a z292a (q_nb p2 0 (dn + 1) (ins + 1)) (q_fb z292b)) q_IM (q_mJ y pd), 34, 31630))) 3 (fun _ _ => rfl) ?_
                refine q_Ru_seg (g2 := (140, [(3, .int (lin - 4)), (2, .int 0), (1, .int col), (0, .ref 64)], [.long y, .ref 64], (q_cM (q_mA pix z291a z292a (q_nb p2 0 (dn + 1) (ins + 1)) (q_fb z292b)) q_IM (q_uI (q_mJ y pd) 0 16 (pd + 0)), 34, 31630))) 8 (fun _ _ => rfl) ?_
                refine q_Ru_seg (g2 := (146, [(3, .int (lin - 4)), (2, .int 0), (1, .int col), (0, .ref 64)], [.int 0], (q_cM (q_mA pix z291a z292a (q_nb p2 0 (dn + 1) (ins + 1)) (q_fb z292b)) q_IM (q_uI (q_uI (q_mJ y pd) 0 16 (pd + 0)) 0 15 (y + 1)), 34, 31630))) 4 (fun _ _ => rfl) ?_
                exact q_Ru_ret rfl rfl
              | false =>
                obtain ⟨z295a, z295b, p295⟩ := q_m_go1 pix smp tr p dn ins z y pd col lin p1 p2 hC hM c0 c1 l0 l1 a0 a1 b0 b1 hp0 hp1 hp2 i0 i1  
                refine ⟨pix, smp, z295a, z295b, ?_⟩
                refine q_Ca_of (Nat.le_of_ble_eq_true rfl) ?_
                refine q_Ru_seg (g2 := (4, [(0, .ref 64)], [.long y], (q_cM (q_mA pix smp tr (q_nb p 1 dn ins) (q_fb z)) q_IM (q_mJ y pd), 34, 31630))) 2 (fun _ _ => rfl) ?_
                refine q_Ru_seg (g2 := (9, [(0, .ref 64)], [.int ((y - y / 24 * 24).toInt32)], (q_cM (q_mA pix smp tr (q_nb p 1 dn ins) (q_fb z)) q_IM (q_mJ y pd), 34, 31630))) 3 (fun _ _ => rfl) ?_
                rw [hC]
                refine q_Ru_seg (g2 := (11, [(1, .int col), (0, .ref 64)], [.int col], (q_cM (q_mA pix smp tr (q_nb p 1 dn ins) (q_fb z)) q_IM (q_mJ y pd), 34, 31630))) 2 (fun _ _ => rfl) ?_
                refine q_Ru_rsF (g2 := (14, [(1, .int col), (0, .ref 64)], [], (q_cM (q_mA pix smp tr (q_nb p 1 dn ins) (q_fb z)) q_IM (q_mJ y pd), 34, 31630))) rfl rfl (q_d_neT h228) ?_
                refine q_Ru_seg (g2 := (15, [(1, .int col), (0, .ref 64)], [.ref 64], (q_cM (q_mA pix smp tr (q_nb p 1 dn ins) (q_fb z)) q_IM (q_mJ y pd), 34, 31630))) 1 (fun _ _ => rfl) ?_
                refine q_Ru_call (v := (some (.int lin))) (h2 := (q_cM (q_mA pix smp tr (q_nb p 1 dn ins) (q_fb z)) q_IM (q_mJ y pd), 34, 31630)) rfl rfl ?_ ?_
                · refine q_Ca_of (Nat.le_of_ble_eq_true rfl) ?_
                  refine q_Ru_seg (g2 := (4, [(0, .ref 64)], [.long y], (q_cM (q_mA pix smp tr (q_nb p 1 dn ins) (q_fb z)) q_IM (q_mJ y pd), 34, 31630))) 2 (fun _ _ => rfl) ?_
                  refine q_Ru_seg (g2 := (13, [(0, .ref 64)], [.int (((y / 24) - (y / 24) / 40 * 40).toInt32)], (q_cM (q_mA pix smp tr (q_nb p 1 dn ins) (q_fb z)) q_IM (q_mJ y pd), 34, 31630))) 5 (fun _ _ => rfl) ?_
                  rw [hM]
                  exact q_Ru_ret rfl rfl
                show q_Ru _ _ _ (18, [(1, .int col), (0, .ref 64)], [.int lin], (q_cM (q_mA pix smp tr (q_nb p 1 dn ins) (q_fb z)) q_IM (q_mJ y pd), 34, 31630)) _
                refine q_Ru_seg (g2 := (25, [(1, .int col), (0, .ref 64)], [.int 0, .int lin], (q_cM (q_mA pix smp tr (q_nb p 1 dn ins) (q_fb z)) q_IM (q_mJ y pd), 34, 31630))) 4 (fun _ _ => rfl) ?_
                refine q_Ru_rsF (g2 := (28, [(1, .int col), (0, .ref 64)], [], (q_cM (q_mA pix smp tr (q_nb p 1 dn ins) (q_fb z)) q_IM (q_mJ y pd), 34, 31630))) rfl rfl (q_d_neT h229) ?_
                refine q_Ru_seg (g2 := (36, [(1, .int col), (0, .ref 64)], [.int 1, .int 9, .ref 78], (q_cM (q_mA pix smp tr (q_nb p 1 dn ins) (q_fb z)) q_IM (q_mJ y pd), 34, 31630))) 5 (fun _ _ => rfl) ?_
                refine q_Ru_seg (g2 := (40, [(1, .int col), (0, .ref 64)], [.ref 64], (q_cM (q_uA (q_mA pix smp tr (q_nb p 1 dn ins) (q_fb z)) 14 (upd (q_nb p 1 dn ins) 9 1)) q_IM (q_mJ y pd), 34, 31630))) 4 (fun _ _ => rfl) ?_
                have hA : ∀ i, i < 34 → (q_uA (q_mA pix smp tr (q_nb p 1 dn ins) (q_fb z)) 14 (upd (q_nb p 1 dn ins) 9 1)) i = (q_mA pix smp tr (q_nb p 1 dn ins) (q_fb z)) i := by
                  intro i hi
                  match i, hi with
                  | 0, _ => rfl
                  | 1, _ => rfl
                  | 2, _ => rfl
                  | 3, _ => rfl
                  | 4, _ => rfl
                  | 5, _ => rfl
                  | 6, _ => rfl
                  | 7, _ => rfl
                  | 8, _ => rfl
                  | 9, _ => rfl
                  | 10, _ => rfl
                  | 11, _ => rfl
                  | 12, _ => rfl
                  | 13, _ => rfl
                  | 14, _ => exact (show (upd (q_nb p 1 dn ins) 9 1) = (q_nb p 1 dn ins) by simp only [q_upd_upd, q_upd_z, q_nb_4, q_nb_17, q_nb_19, q_nb_20, q_nb_0, q_nb_9, q_nb_18, q_fb_4, q_fb_0])
                  | 15, _ => rfl
                  | 16, _ => rfl
                  | 17, _ => rfl
                  | 18, _ => rfl
                  | 19, _ => rfl
                  | 20, _ => rfl
                  | 21, _ => rfl
                  | 22, _ => rfl
                  | 23, _ => rfl
                  | 24, _ => rfl
                  | 25, _ => rfl
                  | 26, _ => rfl
                  | 27, _ => rfl
                  | 28, _ => rfl
                  | 29, _ => rfl
                  | 30, _ => rfl
                  | 31, _ => rfl
                  | 32, _ => rfl
                  | 33, _ => rfl
                  | i + 34, hi => exact absurd hi (by omega)
                rw [q_cM_A (I := q_IM) (J := (q_mJ y pd)) hA]
                refine q_Ru_call (v := (some (.int 0))) (h2 := (q_cM (q_mA pix smp tr (q_nb p 1 dn ins) (q_fb z)) q_IM (q_mJ y pd), 34, 31630)) rfl rfl ?_ ?_
                · exact (by have e := q_m_picX pix smp tr p 1 dn ins z y pd col lin p1 p2 hC hM c0 c1 l0 l1 a0 a1 b0 b1 hp0 hp1 hp2 i0 i1; rw [hpic] at e; exact e.le (Nat.le_of_ble_eq_true rfl))
                show q_Ru _ _ _ (43, [(1, .int col), (0, .ref 64)], [.int 0], (q_cM (q_mA pix smp tr (q_nb p 1 dn ins) (q_fb z)) q_IM (q_mJ y pd), 34, 31630)) _
                refine q_Ru_seg (g2 := (45, [(2, .int 0), (1, .int col), (0, .ref 64)], [.ref 64], (q_cM (q_mA pix smp tr (q_nb p 1 dn ins) (q_fb z)) q_IM (q_mJ y pd), 34, 31630))) 2 (fun _ _ => rfl) ?_
                refine q_Ru_call (v := (some (.int (lin - 4)))) (h2 := (q_cM (q_mA pix smp tr (q_nb p 1 dn ins) (q_fb z)) q_IM (q_mJ y pd), 34, 31630)) rfl rfl ?_ ?_
                · refine q_Ca_of (Nat.le_of_ble_eq_true rfl) ?_
                  refine q_Ru_seg (g2 := (1, [(0, .ref 64)], [.ref 64], (q_cM (q_mA pix smp tr (q_nb p 1 dn ins) (q_fb z)) q_IM (q_mJ y pd), 34, 31630))) 1 (fun _ _ => rfl) ?_
                  refine q_Ru_call (v := (some (.int lin))) (h2 := (q_cM (q_mA pix smp tr (q_nb p 1 dn ins) (q_fb z)) q_IM (q_mJ y pd), 34, 31630)) rfl rfl ?_ ?_
                  · refine q_Ca_of (Nat.le_of_ble_eq_true rfl) ?_
                    refine q_Ru_seg (g2 := (4, [(0, .ref 64)], [.long y], (q_cM (q_mA pix smp tr (q_nb p 1 dn ins) (q_fb z)) q_IM (q_mJ y pd), 34, 31630))) 2 (fun _ _ => rfl) ?_
                    refine q_Ru_seg (g2 := (13, [(0, .ref 64)], [.int (((y / 24) - (y / 24) / 40 * 40).toInt32)], (q_cM (q_mA pix smp tr (q_nb p 1 dn ins) (q_fb z)) q_IM (q_mJ y pd), 34, 31630))) 5 (fun _ _ => rfl) ?_
                    rw [hM]
                    exact q_Ru_ret rfl rfl
                  show q_Ru _ _ _ (4, [(0, .ref 64)], [.int lin], (q_cM (q_mA pix smp tr (q_nb p 1 dn ins) (q_fb z)) q_IM (q_mJ y pd), 34, 31630)) _
                  refine q_Ru_seg (g2 := (6, [(0, .ref 64)], [.int (lin - 4)], (q_cM (q_mA pix smp tr (q_nb p 1 dn ins) (q_fb z)) q_IM (q_mJ y pd), 34, 31630))) 2 (fun _ _ => rfl) ?_
                  exact q_Ru_ret rfl rfl
                show q_Ru _ _ _ (48, [(2, .int 0), (1, .int col), (0, .ref 64)], [.int (lin - 4)], (q_cM (q_mA pix smp tr (q_nb p 1 dn ins) (q_fb z)) q_IM (q_mJ y pd), 34, 31630)) _
                refine q_Ru_seg (g2 := (53, [(3, .int (lin - 4)), (2, .int 0), (1, .int col), (0, .ref 64)], [.int 31, .int 0, .int (lin - 4)], (q_cM (q_mA pix smp tr (q_nb p 1 dn ins) (q_fb z)) q_IM (q_mJ y pd), 34, 31630))) 4 (fun _ _ => rfl) ?_
                refine q_Ru_call (v := (some (.int 1))) (h2 := (q_cM (q_mA pix smp tr (q_nb p 1 dn ins) (q_fb z)) q_IM (q_mJ y pd), 34, 31630)) rfl rfl ?_ ?_
                · refine q_Ca_of (Nat.le_of_ble_eq_true rfl) ?_
                  refine q_Ru_seg (g2 := (2, [(0, .int (lin - 4)), (1, .int 0), (2, .int 31)], [.int 0, .int (lin - 4)], (q_cM (q_mA pix smp tr (q_nb p 1 dn ins) (q_fb z)) q_IM (q_mJ y pd), 34, 31630))) 2 (fun _ _ => rfl) ?_
                  refine q_Ru_rsF (g2 := (5, [(0, .int (lin - 4)), (1, .int 0), (2, .int 31)], [], (q_cM (q_mA pix smp tr (q_nb p 1 dn ins) (q_fb z)) q_IM (q_mJ y pd), 34, 31630))) rfl rfl h230 ?_
                  refine q_Ru_seg (g2 := (7, [(0, .int (lin - 4)), (1, .int 0), (2, .int 31)], [.int 31, .int (lin - 4)], (q_cM (q_mA pix smp tr (q_nb p 1 dn ins) (q_fb z)) q_IM (q_mJ y pd), 34, 31630))) 2 (fun _ _ => rfl) ?_
                  refine q_Ru_rsF (g2 := (10, [(0, .int (lin - 4)), (1, .int 0), (2, .int 31)], [], (q_cM (q_mA pix smp tr (q_nb p 1 dn ins) (q_fb z)) q_IM (q_mJ y pd), 34, 31630))) rfl rfl h232 ?_
                  refine q_Ru_seg (g2 := (15, [(0, .int (lin - 4)), (1, .int 0), (2, .int 31)], [.int 1], (q_cM (q_mA pix smp tr (q_nb p 1 dn ins) (q_fb z)) q_IM (q_mJ y pd), 34, 31630))) 2 (fun _ _ => rfl) ?_
                  exact q_Ru_ret rfl rfl
                show q_Ru _ _ _ (56, [(3, .int (lin - 4)), (2, .int 0), (1, .int col), (0, .ref 64)], [.int 1], (q_cM (q_mA pix smp tr (q_nb p 1 dn ins) (q_fb z)) q_IM (q_mJ y pd), 34, 31630)) _
                refine q_Ru_seg (g2 := (63, [(3, .int (lin - 4)), (2, .int 0), (1, .int col), (0, .ref 64)], [.int 19, .int 4, .int col], (q_cM (q_mA pix smp tr (q_nb p 1 dn ins) (q_fb z)) q_IM (q_mJ y pd), 34, 31630))) 4 (fun _ _ => rfl) ?_
                refine q_Ru_call (v := (some (.int 0))) (h2 := (q_cM (q_mA pix smp tr (q_nb p 1 dn ins) (q_fb z)) q_IM (q_mJ y pd), 34, 31630)) rfl rfl ?_ ?_
                · refine q_Ca_of (Nat.le_of_ble_eq_true rfl) ?_
                  refine q_Ru_seg (g2 := (2, [(0, .int col), (1, .int 4), (2, .int 19)], [.int 4, .int col], (q_cM (q_mA pix smp tr (q_nb p 1 dn ins) (q_fb z)) q_IM (q_mJ y pd), 34, 31630))) 2 (fun _ _ => rfl) ?_
                  refine q_Ru_rsF (g2 := (5, [(0, .int col), (1, .int 4), (2, .int 19)], [], (q_cM (q_mA pix smp tr (q_nb p 1 dn ins) (q_fb z)) q_IM (q_mJ y pd), 34, 31630))) rfl rfl h234 ?_
                  refine q_Ru_seg (g2 := (7, [(0, .int col), (1, .int 4), (2, .int 19)], [.int 19, .int col], (q_cM (q_mA pix smp tr (q_nb p 1 dn ins) (q_fb z)) q_IM (q_mJ y pd), 34, 31630))) 2 (fun _ _ => rfl) ?_
                  refine q_Ru_rsT (g2 := (14, [(0, .int col), (1, .int 4), (2, .int 19)], [], (q_cM (q_mA pix smp tr (q_nb p 1 dn ins) (q_fb z)) q_IM (q_mJ y pd), 34, 31630))) rfl rfl h236 ?_
                  refine q_Ru_seg (g2 := (15, [(0, .int col), (1, .int 4), (2, .int 19)], [.int 0], (q_cM (q_mA pix smp tr (q_nb p 1 dn ins) (q_fb z)) q_IM (q_mJ y pd), 34, 31630))) 1 (fun _ _ => rfl) ?_
                  exact q_Ru_ret rfl rfl
                show q_Ru _ _ _ (66, [(3, .int (lin - 4)), (2, .int 0), (1, .int col), (0, .ref 64)], [.int 0], (q_cM (q_mA pix smp tr (q_nb p 1 dn ins) (q_fb z)) q_IM (q_mJ y pd), 34, 31630)) _
                refine q_Ru_seg (g2 := (92, [(3, .int (lin - 4)), (2, .int 0), (1, .int col), (0, .ref 64)], [.ref 64], (q_cM (q_mA pix smp tr (q_nb p 1 dn ins) (q_fb z)) q_IM (q_mJ y pd), 34, 31630))) 2 (fun _ _ => rfl) ?_
                refine q_Ru_call (v := none) (h2 := (q_cM (q_mA pix smp tr (q_nb p 1 dn ins) (q_fb z)) q_IM (q_mJ y pd), 34, 31630)) rfl rfl ?_ ?_
                · exact (q_m_times pix smp tr p 1 dn ins z y pd col lin p1 p2 hC hM c0 c1 l0 l1 a0 a1 b0 b1 hp0 hp1 hp2 i0 i1  ).le (Nat.le_of_ble_eq_true rfl)
                show q_Ru _ _ _ (95, [(3, .int (lin - 4)), (2, .int 0), (1, .int col), (0, .ref 64)], [], (q_cM (q_mA pix smp tr (q_nb p 1 dn ins) (q_fb z)) q_IM (q_mJ y pd), 34, 31630)) _
                refine q_Ru_seg (g2 := (96, [(3, .int (lin - 4)), (2, .int 0), (1, .int col), (0, .ref 64)], [.ref 64], (q_cM (q_mA pix smp tr (q_nb p 1 dn ins) (q_fb z)) q_IM (q_mJ y pd), 34, 31630))) 1 (fun _ _ => rfl) ?_
                refine q_Ru_call (v := none) (h2 := (q_cM (q_mA pix smp tr (q_nb p 1 dn ins) (q_fb z)) q_IM (q_mJ y pd), 34, 31630)) rfl rfl ?_ ?_
                · exact (q_m_winds pix smp tr p 1 dn ins z y pd col lin p1 p2 hC hM c0 c1 l0 l1 a0 a1 b0 b1 hp0 hp1 hp2 i0 i1  ).le (Nat.le_of_ble_eq_true rfl)
                show q_Ru _ _ _ (99, [(3, .int (lin - 4)), (2, .int 0), (1, .int col), (0, .ref 64)], [], (q_cM (q_mA pix smp tr (q_nb p 1 dn ins) (q_fb z)) q_IM (q_mJ y pd), 34, 31630)) _
                refine q_Ru_seg (g2 := (102, [(3, .int (lin - 4)), (2, .int 0), (1, .int col), (0, .ref 64)], [.int 23, .int col], (q_cM (q_mA pix smp tr (q_nb p 1 dn ins) (q_fb z)) q_IM (q_mJ y pd), 34, 31630))) 2 (fun _ _ => rfl) ?_
                refine q_Ru_rsT (g2 := (109, [(3, .int (lin - 4)), (2, .int 0), (1, .int col), (0, .ref 64)], [], (q_cM (q_mA pix smp tr (q_nb p 1 dn ins) (q_fb z)) q_IM (q_mJ y pd), 34, 31630))) rfl rfl (q_d_neF h237) ?_
                refine q_Ru_seg (g2 := (114, [(3, .int (lin - 4)), (2, .int 0), (1, .int col), (0, .ref 64)], [.ref 64], (q_cM (q_mA pix smp tr (q_nb p 1 dn ins) (q_fb z)) q_IM (q_mJ y pd), 34, 31630))) 3 (fun _ _ => rfl) ?_
                refine q_Ru_call (v := none) (h2 := (q_cM (q_mA pix smp z295a (q_nb p2 0 (dn + 1) (ins + 1)) (q_fb z295b)) q_IM (q_mJ y pd), 34, 31630)) rfl rfl ?_ ?_
                · exact p295.le (Nat.le_of_ble_eq_true rfl)
                show q_Ru _ _ _ (117, [(3, .int (lin - 4)), (2, .int 0), (1, .int col), (0, .ref 64)], [], (q_cM (q_mA pix smp z295a (q_nb p2 0 (dn + 1) (ins + 1)) (q_fb z295b)) q_IM (q_mJ y pd), 34, 31630)) _
                refine q_Ru_seg (g2 := (122, [(3, .int (lin - 4)), (2, .int 0), (1, .int col), (0, .ref 64)], [.long pd, .ref 64], (q_cM (q_mA pix smp z295a (q_nb p2 0 (dn + 1) (ins + 1)) (q_fb z295b)) q_IM (q_mJ y pd), 34, 31630))) 3 (fun _ _ => rfl) ?_
                refine q_Ru_seg (g2 := (140, [(3, .int (lin - 4)), (2, .int 0), (1, .int col), (0, .ref 64)], [.long y, .ref 64], (q_cM (q_mA pix smp z295a (q_nb p2 0 (dn + 1) (ins + 1)) (q_fb z295b)) q_IM (q_uI (q_mJ y pd) 0 16 (pd + 0)), 34, 31630))) 8 (fun _ _ => rfl) ?_
                refine q_Ru_seg (g2 := (146, [(3, .int (lin - 4)), (2, .int 0), (1, .int col), (0, .ref 64)], [.int 0], (q_cM (q_mA pix smp z295a (q_nb p2 0 (dn + 1) (ins + 1)) (q_fb z295b)) q_IM (q_uI (q_uI (q_mJ y pd) 0 16 (pd + 0)) 0 15 (y + 1)), 34, 31630))) 4 (fun _ _ => rfl) ?_
                exact q_Ru_ret rfl rfl
            | false =>
              have h238 : decide (col = 23) = false := q_not_tr (q_tbl1 (fun col => !decide (col = 23)) (l := 4) (n := 15) (by decide +kernel) (q_lo1 h234) (q_hi2 h236))
              obtain ⟨x300, p300⟩ := q_m_draws pix smp tr p 1 dn ins z y pd ((2 * col) - 8) (lin - 4) (of_decide_eq_true (q_tbl1 (fun col => decide (0 ≤ ((2 * col) - 8).toInt ∧ ((2 * col) - 8).toInt ≤ 31)) (l := 4) (n := 15) (by decide +kernel) (q_lo1 h234) (q_hi2 h236))).1 (of_decide_eq_true (q_tbl1 (fun col => decide (0 ≤ ((2 * col) - 8).toInt ∧ ((2 * col) - 8).toInt ≤ 31)) (l := 4) (n := 15) (by decide +kernel) (q_lo1 h234) (q_hi2 h236))).2 (of_decide_eq_true (q_tbl1 (fun lin => decide (0 ≤ (lin - 4).toInt ∧ (lin - 4).toInt ≤ 31)) (l := 4) (n := 31) (by decide +kernel) (q_sub_lo 4 (q_lo1 h230) l0 l1) (q_sub_hi 35 (q_hi2 h232) (q_sub_lo 4 (q_lo1 h230) l0 l1) l1))).1 (of_decide_eq_true (q_tbl1 (fun lin => decide (0 ≤ (lin - 4).toInt ∧ (lin - 4).toInt ≤ 31)) (l := 4) (n := 31) (by decide +kernel) (q_sub_lo 4 (q_lo1 h230) l0 l1) (q_sub_hi 35 (q_hi2 h232) (q_sub_lo 4 (q_lo1 h230) l0 l1) l1))).2
              obtain ⟨x301, p301⟩ := q_m_draws x300 smp tr p 1 dn ins z y pd ((2 * col) - 7) (lin - 4) (of_decide_eq_true (q_tbl1 (fun col => decide (0 ≤ ((2 * col) - 7).toInt ∧ ((2 * col) - 7).toInt ≤ 31)) (l := 4) (n := 15) (by decide +kernel) (q_lo1 h234) (q_hi2 h236))).1 (of_decide_eq_true (q_tbl1 (fun col => decide (0 ≤ ((2 * col) - 7).toInt ∧ ((2 * col) - 7).toInt ≤ 31)) (l := 4) (n := 15) (by decide +kernel) (q_lo1 h234) (q_hi2 h236))).2 (of_decide_eq_true (q_tbl1 (fun lin => decide (0 ≤ (lin - 4).toInt ∧ (lin - 4).toInt ≤ 31)) (l := 4) (n := 31) (by decide +kernel) (q_sub_lo 4 (q_lo1 h230) l0 l1) (q_sub_hi 35 (q_hi2 h232) (q_sub_lo 4 (q_lo1 h230) l0 l1) l1))).1 (of_decide_eq_true (q_tbl1 (fun lin => decide (0 ≤ (lin - 4).toInt ∧ (lin - 4).toInt ≤ 31)) (l := 4) (n := 31) (by decide +kernel) (q_sub_lo 4 (q_lo1 h230) l0 l1) (q_sub_hi 35 (q_hi2 h232) (q_sub_lo 4 (q_lo1 h230) l0 l1) l1))).2
              obtain ⟨z304a, z304b, p304⟩ := q_m_go1 x301 smp tr p dn ins z y pd col lin p1 p2 hC hM c0 c1 l0 l1 a0 a1 b0 b1 hp0 hp1 hp2 i0 i1  
              refine ⟨x301, smp, z304a, z304b, ?_⟩
              refine q_Ca_of (Nat.le_of_ble_eq_true rfl) ?_
              refine q_Ru_seg (g2 := (4, [(0, .ref 64)], [.long y], (q_cM (q_mA pix smp tr (q_nb p 1 dn ins) (q_fb z)) q_IM (q_mJ y pd), 34, 31630))) 2 (fun _ _ => rfl) ?_
              refine q_Ru_seg (g2 := (9, [(0, .ref 64)], [.int ((y - y / 24 * 24).toInt32)], (q_cM (q_mA pix smp tr (q_nb p 1 dn ins) (q_fb z)) q_IM (q_mJ y pd), 34, 31630))) 3 (fun _ _ => rfl) ?_
              rw [hC]
              refine q_Ru_seg (g2 := (11, [(1, .int col), (0, .ref 64)], [.int col], (q_cM (q_mA pix smp tr (q_nb p 1 dn ins) (q_fb z)) q_IM (q_mJ y pd), 34, 31630))) 2 (fun _ _ => rfl) ?_
              refine q_Ru_rsF (g2 := (14, [(1, .int col), (0, .ref 64)], [], (q_cM (q_mA pix smp tr (q_nb p 1 dn ins) (q_fb z)) q_IM (q_mJ y pd), 34, 31630))) rfl rfl (q_d_neT h228) ?_
              refine q_Ru_seg (g2 := (15, [(1, .int col), (0, .ref 64)], [.ref 64], (q_cM (q_mA pix smp tr (q_nb p 1 dn ins) (q_fb z)) q_IM (q_mJ y pd), 34, 31630))) 1 (fun _ _ => rfl) ?_
              refine q_Ru_call (v := (some (.int lin))) (h2 := (q_cM (q_mA pix smp tr (q_nb p 1 dn ins) (q_fb z)) q_IM (q_mJ y pd), 34, 31630)) rfl rfl ?_ ?_
              · refine q_Ca_of (Nat.le_of_ble_eq_true rfl) ?_
                refine q_Ru_seg (g2 := (4, [(0, .ref 64)], [.long y], (q_cM (q_mA pix smp tr (q_nb p 1 dn ins) (q_fb z)) q_IM (q_mJ y pd), 34, 31630))) 2 (fun _ _ => rfl) ?_
                refine q_Ru_seg (g2 := (13, [(0, .ref 64)], [.int (((y / 24) - (y / 24) / 40 * 40).toInt32)], (q_cM (q_mA pix smp tr (q_nb p 1 dn ins) (q_fb z)) q_IM (q_mJ y pd), 34, 31630))) 5 (fun _ _ => rfl) ?_
                rw [hM]
                exact q_Ru_ret rfl rfl
              show q_Ru _ _ _ (18, [(1, .int col), (0, .ref 64)], [.int lin], (q_cM (q_mA pix smp tr (q_nb p 1 dn ins) (q_fb z)) q_IM (q_mJ y pd), 34, 31630)) _
              refine q_Ru_seg (g2 := (25, [(1, .int col), (0, .ref 64)], [.int 0, .int lin], (q_cM (q_mA pix smp tr (q_nb p 1 dn ins) (q_fb z)) q_IM (q_mJ y pd), 34, 31630))) 4 (fun _ _ => rfl) ?_
              refine q_Ru_rsF (g2 := (28, [(1, .int col), (0, .ref 64)], [], (q_cM (q_mA pix smp tr (q_nb p 1 dn ins) (q_fb z)) q_IM (q_mJ y pd), 34, 31630))) rfl rfl (q_d_neT h229) ?_
              refine q_Ru_seg (g2 := (36, [(1, .int col), (0, .ref 64)], [.int 1, .int 9, .ref 78], (q_cM (q_mA pix smp tr (q_nb p 1 dn ins) (q_fb z)) q_IM (q_mJ y pd), 34, 31630))) 5 (fun _ _ => rfl) ?_
              refine q_Ru_seg (g2 := (40, [(1, .int col), (0, .ref 64)], [.ref 64], (q_cM (q_uA (q_mA pix smp tr (q_nb p 1 dn ins) (q_fb z)) 14 (upd (q_nb p 1 dn ins) 9 1)) q_IM (q_mJ y pd), 34, 31630))) 4 (fun _ _ => rfl) ?_
              have hA : ∀ i, i < 34 → (q_uA (q_mA pix smp tr (q_nb p 1 dn ins) (q_fb z)) 14 (upd (q_nb p 1 dn ins) 9 1)) i = (q_mA pix smp tr (q_nb p 1 dn ins) (q_fb z)) i := by
                intro i hi
                match i, hi with
                | 0, _ => rfl
                | 1, _ => rfl
                | 2, _ => rfl
                | 3, _ => rfl
                | 4, _ => rfl
                | 5, _ => rfl
                | 6, _ => rfl
                | 7, _ => rfl
                | 8, _ => rfl
                | 9, _ => rfl
                | 10, _ => rfl
                | 11, _ => rfl
                | 12, _ => rfl
                | 13, _ => rfl
                | 14, _ => exact (show (upd (q_nb p 1 dn ins) 9 1) = (q_nb p 1 dn ins) by simp only [q_upd_upd, q_upd_z, q_nb_4, q_nb_17, q_nb_19, q_nb_20, q_nb_0, q_nb_9, q_nb_18, q_fb_4, q_fb_0])
                | 15, _ => rfl
                | 16, _ => rfl
                | 17, _ => rfl
                | 18, _ => rfl
                | 19, _ => rfl
                | 20, _ => rfl
                | 21, _ => rfl
                | 22, _ => rfl
                | 23, _ => rfl
                | 24, _ => rfl
                | 25, _ => rfl
                | 26, _ => rfl
                | 27, _ => rfl
                | 28, _ => rfl
                | 29, _ => rfl
                | 30, _ => rfl
                | 31, _ => rfl
                | 32, _ => rfl
                | 33, _ => rfl
                | i + 34, hi => exact absurd hi (by omega)
              rw [q_cM_A (I := q_IM) (J := (q_mJ y pd)) hA]
              refine q_Ru_call (v := (some (.int 0))) (h2 := (q_cM (q_mA pix smp tr (q_nb p 1 dn ins) (q_fb z)) q_IM (q_mJ y pd), 34, 31630)) rfl rfl ?_ ?_
              · exact (by have e := q_m_picX pix smp tr p 1 dn ins z y pd col lin p1 p2 hC hM c0 c1 l0 l1 a0 a1 b0 b1 hp0 hp1 hp2 i0 i1; rw [hpic] at e; exact e.le (Nat.le_of_ble_eq_true rfl))
              show q_Ru _ _ _ (43, [(1, .int col), (0, .ref 64)], [.int 0], (q_cM (q_mA pix smp tr (q_nb p 1 dn ins) (q_fb z)) q_IM (q_mJ y pd), 34, 31630)) _
              refine q_Ru_seg (g2 := (45, [(2, .int 0), (1, .int col), (0, .ref 64)], [.ref 64], (q_cM (q_mA pix smp tr (q_nb p 1 dn ins) (q_fb z)) q_IM (q_mJ y pd), 34, 31630))) 2 (fun _ _ => rfl) ?_
              refine q_Ru_call (v := (some (.int (lin - 4)))) (h2 := (q_cM (q_mA pix smp tr (q_nb p 1 dn ins) (q_fb z)) q_IM (q_mJ y pd), 34, 31630)) rfl rfl ?_ ?_
              · refine q_Ca_of (Nat.le_of_ble_eq_true rfl) ?_
                refine q_Ru_seg (g2 := (1, [(0, .ref 64)], [.ref 64], (q_cM (q_mA pix smp tr (q_nb p 1 dn ins) (q_fb z)) q_IM (q_mJ y pd), 34, 31630))) 1 (fun _ _ => rfl) ?_
                refine q_Ru_call (v := (some (.int lin))) (h2 := (q_cM (q_mA pix smp tr (q_nb p 1 dn ins) (q_fb z)) q_IM (q_mJ y pd), 34, 31630)) rfl rfl ?_ ?_
                · refine q_Ca_of (Nat.le_of_ble_eq_true rfl) ?_
                  refine q_Ru_seg (g2 := (4, [(0, .ref 64)], [.long y], (q_cM (q_mA pix smp tr (q_nb p 1 dn ins) (q_fb z)) q_IM (q_mJ y pd), 34, 31630))) 2 (fun _ _ => rfl) ?_
                  refine q_Ru_seg (g2 := (13, [(0, .ref 64)], [.int (((y / 24) - (y / 24) / 40 * 40).toInt32)], (q_cM (q_mA pix smp tr (q_nb p 1 dn ins) (q_fb z)) q_IM (q_mJ y pd), 34, 31630))) 5 (fun _ _ => rfl) ?_
                  rw [hM]
                  exact q_Ru_ret rfl rfl
                show q_Ru _ _ _ (4, [(0, .ref 64)], [.int lin], (q_cM (q_mA pix smp tr (q_nb p 1 dn ins) (q_fb z)) q_IM (q_mJ y pd), 34, 31630)) _
                refine q_Ru_seg (g2 := (6, [(0, .ref 64)], [.int (lin - 4)], (q_cM (q_mA pix smp tr (q_nb p 1 dn ins) (q_fb z)) q_IM (q_mJ y pd), 34, 31630))) 2 (fun _ _ => rfl) ?_
                exact q_Ru_ret rfl rfl
              show q_Ru _ _ _ (48, [(2, .int 0), (1, .int col), (0, .ref 64)], [.int (lin - 4)], (q_cM (q_mA pix smp tr (q_nb p 1 dn ins) (q_fb z)) q_IM (q_mJ y pd), 34, 31630)) _
              refine q_Ru_seg (g2 := (53, [(3, .int (lin - 4)), (2, .int 0), (1, .int col), (0, .ref 64)], [.int 31, .int 0, .int (lin - 4)], (q_cM (q_mA pix smp tr (q_nb p 1 dn ins) (q_fb z)) q_IM (q_mJ y pd), 34, 31630))) 4 (fun _ _ => rfl) ?_
              refine q_Ru_call (v := (some (.int 1))) (h2 := (q_cM (q_mA pix smp tr (q_nb p 1 dn ins) (q_fb z)) q_IM (q_mJ y pd), 34, 31630)) rfl rfl ?_ ?_
              · refine q_Ca_of (Nat.le_of_ble_eq_true rfl) ?_
                refine q_Ru_seg (g2 := (2, [(0, .int (lin - 4)), (1, .int 0), (2, .int 31)], [.int 0, .int (lin - 4)], (q_cM (q_mA pix smp tr (q_nb p 1 dn ins) (q_fb z)) q_IM (q_mJ y pd), 34, 31630))) 2 (fun _ _ => rfl) ?_
                refine q_Ru_rsF (g2 := (5, [(0, .int (lin - 4)), (1, .int 0), (2, .int 31)], [], (q_cM (q_mA pix smp tr (q_nb p 1 dn ins) (q_fb z)) q_IM (q_mJ y pd), 34, 31630))) rfl rfl h230 ?_
                refine q_Ru_seg (g2 := (7, [(0, .int (lin - 4)), (1, .int 0), (2, .int 31)], [.int 31, .int (lin - 4)], (q_cM (q_mA pix smp tr (q_nb p 1 dn ins) (q_fb z)) q_IM (q_mJ y pd), 34, 31630))) 2 (fun _ _ => rfl) ?_
                refine q_Ru_rsF (g2 := (10, [(0, .int (lin - 4)), (1, .int 0), (2, .int 31)], [], (q_cM (q_mA pix smp tr (q_nb p 1 dn ins) (q_fb z)) q_IM (q_mJ y pd), 34, 31630))) rfl rfl h232 ?_
                refine q_Ru_seg (g2 := (15, [(0, .int (lin - 4)), (1, .int 0), (2, .int 31)], [.int 1], (q_cM (q_mA pix smp tr (q_nb p 1 dn ins) (q_fb z)) q_IM (q_mJ y pd), 34, 31630))) 2 (fun _ _ => rfl) ?_
                exact q_Ru_ret rfl rfl
              show q_Ru _ _ _ (56, [(3, .int (lin - 4)), (2, .int 0), (1, .int col), (0, .ref 64)], [.int 1], (q_cM (q_mA pix smp tr (q_nb p 1 dn ins) (q_fb z)) q_IM (q_mJ y pd), 34, 31630)) _
              refine q_Ru_seg (g2 := (63, [(3, .int (lin - 4)), (2, .int 0), (1, .int col), (0, .ref 64)], [.int 19, .int 4, .int col], (q_cM (q_mA pix smp tr (q_nb p 1 dn ins) (q_fb z)) q_IM (q_mJ y pd), 34, 31630))) 4 (fun _ _ => rfl) ?_
              refine q_Ru_call (v := (some (.int 1))) (h2 := (q_cM (q_mA pix smp tr (q_nb p 1 dn ins) (q_fb z)) q_IM (q_mJ y pd), 34, 31630)) rfl rfl ?_ ?_
              · refine q_Ca_of (Nat.le_of_ble_eq_true rfl) ?_
                refine q_Ru_seg (g2 := (2, [(0, .int col), (1, .int 4), (2, .int 19)], [.int 4, .int col], (q_cM (q_mA pix smp tr (q_nb p 1 dn ins) (q_fb z)) q_IM (q_mJ y pd), 34, 31630))) 2 (fun _ _ => rfl) ?_
                refine q_Ru_rsF (g2 := (5, [(0, .int col), (1, .int 4), (2, .int 19)], [], (q_cM (q_mA pix smp tr (q_nb p 1 dn ins) (q_fb z)) q_IM (q_mJ y pd), 34, 31630))) rfl rfl h234 ?_
                refine q_Ru_seg (g2 := (7, [(0, .int col), (1, .int 4), (2, .int 19)], [.int 19, .int col], (q_cM (q_mA pix smp tr (q_nb p 1 dn ins) (q_fb z)) q_IM (q_mJ y pd), 34, 31630))) 2 (fun _ _ => rfl) ?_
                refine q_Ru_rsF (g2 := (10, [(0, .int col), (1, .int 4), (2, .int 19)], [], (q_cM (q_mA pix smp tr (q_nb p 1 dn ins) (q_fb z)) q_IM (q_mJ y pd), 34, 31630))) rfl rfl h236 ?_
                refine q_Ru_seg (g2 := (15, [(0, .int col), (1, .int 4), (2, .int 19)], [.int 1], (q_cM (q_mA pix smp tr (q_nb p 1 dn ins) (q_fb z)) q_IM (q_mJ y pd), 34, 31630))) 2 (fun _ _ => rfl) ?_
                exact q_Ru_ret rfl rfl
              show q_Ru _ _ _ (66, [(3, .int (lin - 4)), (2, .int 0), (1, .int col), (0, .ref 64)], [.int 1], (q_cM (q_mA pix smp tr (q_nb p 1 dn ins) (q_fb z)) q_IM (q_mJ y pd), 34, 31630)) _
              refine q_Ru_seg (g2 := (77, [(3, .int (lin - 4)), (2, .int 0), (1, .int col), (0, .ref 64)], [.int (lin - 4), .int ((2 * col) - 8), .ref 64], (q_cM (q_mA pix smp tr (q_nb p 1 dn ins) (q_fb z)) q_IM (q_mJ y pd), 34, 31630))) 8 (fun _ _ => rfl) ?_
              refine q_Ru_call (v := none) (h2 := (q_cM (q_mA x300 smp tr (q_nb p 1 dn ins) (q_fb z)) q_IM (q_mJ y pd), 34, 31630)) rfl rfl ?_ ?_
              · exact p300.le (Nat.le_of_ble_eq_true rfl)
              show q_Ru _ _ _ (80, [(3, .int (lin - 4)), (2, .int 0), (1, .int col), (0, .ref 64)], [], (q_cM (q_mA x300 smp tr (q_nb p 1 dn ins) (q_fb z)) q_IM (q_mJ y pd), 34, 31630)) _
              refine q_Ru_seg (g2 := (88, [(3, .int (lin - 4)), (2, .int 0), (1, .int col), (0, .ref 64)], [.int (lin - 4), .int ((2 * col) - 7), .ref 64], (q_cM (q_mA x300 smp tr (q_nb p 1 dn ins) (q_fb z)) q_IM (q_mJ y pd), 34, 31630))) 7 (fun _ _ => rfl) ?_
              refine q_Ru_call (v := none) (h2 := (q_cM (q_mA x301 smp tr (q_nb p 1 dn ins) (q_fb z)) q_IM (q_mJ y pd), 34, 31630)) rfl rfl ?_ ?_
              · exact p301.le (Nat.le_of_ble_eq_true rfl)
              show q_Ru _ _ _ (91, [(3, .int (lin - 4)), (2, .int 0), (1, .int col), (0, .ref 64)], [], (q_cM (q_mA x301 smp tr (q_nb p 1 dn ins) (q_fb z)) q_IM (q_mJ y pd), 34, 31630)) _
              refine q_Ru_seg (g2 := (92, [(3, .int (lin - 4)), (2, .int 0), (1, .int col), (0, .ref 64)], [.ref 64], (q_cM (q_mA x301 smp tr (q_nb p 1 dn ins) (q_fb z)) q_IM (q_mJ y pd), 34, 31630))) 1 (fun _ _ => rfl) ?_
              refine q_Ru_call (v := none) (h2 := (q_cM (q_mA x301 smp tr (q_nb p 1 dn ins) (q_fb z)) q_IM (q_mJ y pd), 34, 31630)) rfl rfl ?_ ?_
              · exact (q_m_times x301 smp tr p 1 dn ins z y pd col lin p1 p2 hC hM c0 c1 l0 l1 a0 a1 b0 b1 hp0 hp1 hp2 i0 i1  ).le (Nat.le_of_ble_eq_true rfl)
              show q_Ru _ _ _ (95, [(3, .int (lin - 4)), (2, .int 0), (1, .int col), (0, .ref 64)], [], (q_cM (q_mA x301 smp tr (q_nb p 1 dn ins) (q_fb z)) q_IM (q_mJ y pd), 34, 31630)) _
              refine q_Ru_seg (g2 := (96, [(3, .int (lin - 4)), (2, .int 0), (1, .int col), (0, .ref 64)], [.ref 64], (q_cM (q_mA x301 smp tr (q_nb p 1 dn ins) (q_fb z)) q_IM (q_mJ y pd), 34, 31630))) 1 (fun _ _ => rfl) ?_
              refine q_Ru_call (v := none) (h2 := (q_cM (q_mA x301 smp tr (q_nb p 1 dn ins) (q_fb z)) q_IM (q_mJ y pd), 34, 31630)) rfl rfl ?_ ?_
              · exact (q_m_winds x301 smp tr p 1 dn ins z y pd col lin p1 p2 hC hM c0 c1 l0 l1 a0 a1 b0 b1 hp0 hp1 hp2 i0 i1  ).le (Nat.le_of_ble_eq_true rfl)
              show q_Ru _ _ _ (99, [(3, .int (lin - 4)), (2, .int 0), (1, .int col), (0, .ref 64)], [], (q_cM (q_mA x301 smp tr (q_nb p 1 dn ins) (q_fb z)) q_IM (q_mJ y pd), 34, 31630)) _
              refine q_Ru_seg (g2 := (102, [(3, .int (lin - 4)), (2, .int 0), (1, .int col), (0, .ref 64)], [.int 23, .int col], (q_cM (q_mA x301 smp tr (q_nb p 1 dn ins) (q_fb z)) q_IM (q_mJ y pd), 34, 31630))) 2 (fun _ _ => rfl) ?_
              refine q_Ru_rsT (g2 := (109, [(3, .int (lin - 4)), (2, .int 0), (1, .int col), (0, .ref 64)], [], (q_cM (q_mA x301 smp tr (q_nb p 1 dn ins) (q_fb z)) q_IM (q_mJ y pd), 34, 31630))) rfl rfl (q_d_neF h238) ?_
              refine q_Ru_seg (g2 := (114, [(3, .int (lin - 4)), (2, .int 0), (1, .int col), (0, .ref 64)], [.ref 64], (q_cM (q_mA x301 smp tr (q_nb p 1 dn ins) (q_fb z)) q_IM (q_mJ y pd), 34, 31630))) 3 (fun _ _ => rfl) ?_
              refine q_Ru_call (v := none) (h2 := (q_cM (q_mA x301 smp z304a (q_nb p2 0 (dn + 1) (ins + 1)) (q_fb z304b)) q_IM (q_mJ y pd), 34, 31630)) rfl rfl ?_ ?_
              · exact p304.le (Nat.le_of_ble_eq_true rfl)
              show q_Ru _ _ _ (117, [(3, .int (lin - 4)), (2, .int 0), (1, .int col), (0, .ref 64)], [], (q_cM (q_mA x301 smp z304a (q_nb p2 0 (dn + 1) (ins + 1)) (q_fb z304b)) q_IM (q_mJ y pd), 34, 31630)) _
              refine q_Ru_seg (g2 := (122, [(3, .int (lin - 4)), (2, .int 0), (1, .int col), (0, .ref 64)], [.long pd, .ref 64], (q_cM (q_mA x301 smp z304a (q_nb p2 0 (dn + 1) (ins + 1)) (q_fb z304b)) q_IM (q_mJ y pd), 34, 31630))) 3 (fun _ _ => rfl) ?_
              refine q_Ru_seg (g2 := (140, [(3, .int (lin - 4)), (2, .int 0), (1, .int col), (0, .ref 64)], [.long y, .ref 64], (q_cM (q_mA x301 smp z304a (q_nb p2 0 (dn + 1) (ins + 1)) (q_fb z304b)) q_IM (q_uI (q_mJ y pd) 0 16 (pd + 0)), 34, 31630))) 8 (fun _ _ => rfl) ?_
              refine q_Ru_seg (g2 := (146, [(3, .int (lin - 4)), (2, .int 0), (1, .int col), (0, .ref 64)], [.int 0], (q_cM (q_mA x301 smp z304a (q_nb p2 0 (dn + 1) (ins + 1)) (q_fb z304b)) q_IM (q_uI (q_uI (q_mJ y pd) 0 16 (pd + 0)) 0 15 (y + 1)), 34, 31630))) 4 (fun _ _ => rfl) ?_
              exact q_Ru_ret rfl rfl
    | false =>
      cases h239 : decide (lin - 4 < 0) with
      | true =>
        cases h240 : decide (col = 23) with
        | true =>
          have eh240 := of_decide_eq_true h240
          subst eh240
          obtain ⟨z309a, p309⟩ := q_m_sample pix smp tr p 1 dn ins z y pd col lin p1 p2 hC hM c0 c1 l0 l1 a0 a1 b0 b1 hp0 hp1 hp2 i0 i1  
          obtain ⟨z310a, z310b, p310⟩ := q_m_go1 pix z309a tr p dn ins z y pd col lin p1 p2 hC hM c0 c1 l0 l1 a0 a1 b0 b1 hp0 hp1 hp2 i0 i1  
          refine ⟨pix, z309a, z310a, z310b, ?_⟩
          refine q_Ca_of (Nat.le_of_ble_eq_true rfl) ?_
          refine q_Ru_seg (g2 := (4, [(0, .ref 64)], [.long y], (q_cM (q_mA pix smp tr (q_nb p 1 dn ins) (q_fb z)) q_IM (q_mJ y pd), 34, 31630))) 2 (fun _ _ => rfl) ?_
          refine q_Ru_seg (g2 := (9, [(0, .ref 64)], [.int ((y - y / 24 * 24).toInt32)], (q_cM (q_mA pix smp tr (q_nb p 1 dn ins) (q_fb z)) q_IM (q_mJ y pd), 34, 31630))) 3 (fun _ _ => rfl) ?_
          rw [hC]
          refine q_Ru_seg (g2 := (11, [(1, .int col), (0, .ref 64)], [.int col], (q_cM (q_mA pix smp tr (q_nb p 1 dn ins) (q_fb z)) q_IM (q_mJ y pd), 34, 31630))) 2 (fun _ _ => rfl) ?_
          refine q_Ru_rsF (g2 := (14, [(1, .int col), (0, .ref 64)], [], (q_cM (q_mA pix smp tr (q_nb p 1 dn ins) (q_fb z)) q_IM (q_mJ y pd), 34, 31630))) rfl rfl (q_d_neT h228) ?_
          refine q_Ru_seg (g2 := (15, [(1, .int col), (0, .ref 64)], [.ref 64], (q_cM (q_mA pix smp tr (q_nb p 1 dn ins) (q_fb z)) q_IM (q_mJ y pd), 34, 31630))) 1 (fun _ _ => rfl) ?_
          refine q_Ru_call (v := (some (.int lin))) (h2 := (q_cM (q_mA pix smp tr (q_nb p 1 dn ins) (q_fb z)) q_IM (q_mJ y pd), 34, 31630)) rfl rfl ?_ ?_
          · refine q_Ca_of (Nat.le_of_ble_eq_true rfl) ?_
            refine q_Ru_seg (g2 := (4, [(0, .ref 64)], [.long y], (q_cM (q_mA pix smp tr (q_nb p 1 dn ins) (q_fb z)) q_IM (q_mJ y pd), 34, 31630))) 2 (fun _ _ => rfl) ?_
            refine q_Ru_seg (g2 := (13, [(0, .ref 64)], [.int (((y / 24) - (y / 24) / 40 * 40).toInt32)], (q_cM (q_mA pix smp tr (q_nb p 1 dn ins) (q_fb z)) q_IM (q_mJ y pd), 34, 31630))) 5 (fun _ _ => rfl) ?_
            rw [hM]
            exact q_Ru_ret rfl rfl
          show q_Ru _ _ _ (18, [(1, .int col), (0, .ref 64)], [.int lin], (q_cM (q_mA pix smp tr (q_nb p 1 dn ins) (q_fb z)) q_IM (q_mJ y pd), 34, 31630)) _
          refine q_Ru_seg (g2 := (25, [(1, .int col), (0, .ref 64)], [.int 0, .int lin], (q_cM (q_mA pix smp tr (q_nb p 1 dn ins) (q_fb z)) q_IM (q_mJ y pd), 34, 31630))) 4 (fun _ _ => rfl) ?_
          refine q_Ru_rsT (g2 := (39, [(1, .int col), (0, .ref 64)], [], (q_cM (q_mA pix smp tr (q_nb p 1 dn ins) (q_fb z)) q_IM (q_mJ y pd), 34, 31630))) rfl rfl (q_d_neF h229) ?_
          refine q_Ru_seg (g2 := (40, [(1, .int col), (0, .ref 64)], [.ref 64], (q_cM (q_mA pix smp tr (q_nb p 1 dn ins) (q_fb z)) q_IM (q_mJ y pd), 34, 31630))) 1 (fun _ _ => rfl) ?_
          refine q_Ru_call (v := (some (.int 0))) (h2 := (q_cM (q_mA pix smp tr (q_nb p 1 dn ins) (q_fb z)) q_IM (q_mJ y pd), 34, 31630)) rfl rfl ?_ ?_
          · exact (by have e := q_m_picX pix smp tr p 1 dn ins z y pd col lin p1 p2 hC hM c0 c1 l0 l1 a0 a1 b0 b1 hp0 hp1 hp2 i0 i1; rw [hpic] at e; exact e.le (Nat.le_of_ble_eq_true rfl))
          show q_Ru _ _ _ (43, [(1, .int col), (0, .ref 64)], [.int 0], (q_cM (q_mA pix smp tr (q_nb p 1 dn ins) (q_fb z)) q_IM (q_mJ y pd), 34, 31630)) _
          refine q_Ru_seg (g2 := (45, [(2, .int 0), (1, .int col), (0, .ref 64)], [.ref 64], (q_cM (q_mA pix smp tr (q_nb p 1 dn ins) (q_fb z)) q_IM (q_mJ y pd), 34, 31630))) 2 (fun _ _ => rfl) ?_
          refine q_Ru_call (v := (some (.int (lin - 4)))) (h2 := (q_cM (q_mA pix smp tr (q_nb p 1 dn ins) (q_fb z)) q_IM (q_mJ y pd), 34, 31630)) rfl rfl ?_ ?_
          · refine q_Ca_of (Nat.le_of_ble_eq_true rfl) ?_
            refine q_Ru_seg (g2 := (1, [(0, .ref 64)], [.ref 64], (q_cM (q_mA pix smp tr (q_nb p 1 dn ins) (q_fb z)) q_IM (q_mJ y pd), 34, 31630))) 1 (fun _ _ => rfl) ?_
            refine q_Ru_call (v := (some (.int lin))) (h2 := (q_cM (q_mA pix smp tr (q_nb p 1 dn ins) (q_fb z)) q_IM (q_mJ y pd), 34, 31630)) rfl rfl ?_ ?_
            · refine q_Ca_of (Nat.le_of_ble_eq_true rfl) ?_
              refine q_Ru_seg (g2 := (4, [(0, .ref 64)], [.long y], (q_cM (q_mA pix smp tr (q_nb p 1 dn ins) (q_fb z)) q_IM (q_mJ y pd), 34, 31630))) 2 (fun _ _ => rfl) ?_
              refine q_Ru_seg (g2 := (13, [(0, .ref 64)], [.int (((y / 24) - (y / 24) / 40 * 40).toInt32)], (q_cM (q_mA pix smp tr (q_nb p 1 dn ins) (q_fb z)) q_IM (q_mJ y pd), 34, 31630))) 5 (fun _ _ => rfl) ?_
              rw [hM]
              exact q_Ru_ret rfl rfl
            show q_Ru _ _ _ (4, [(0, .ref 64)], [.int lin], (q_cM (q_mA pix smp tr (q_nb p 1 dn ins) (q_fb z)) q_IM (q_mJ y pd), 34, 31630)) _
            refine q_Ru_seg (g2 := (6, [(0, .ref 64)], [.int (lin - 4)], (q_cM (q_mA pix smp tr (q_nb p 1 dn ins) (q_fb z)) q_IM (q_mJ y pd), 34, 31630))) 2 (fun _ _ => rfl) ?_
            exact q_Ru_ret rfl rfl
          show q_Ru _ _ _ (48, [(2, .int 0), (1, .int col), (0, .ref 64)], [.int (lin - 4)], (q_cM (q_mA pix smp tr (q_nb p 1 dn ins) (q_fb z)) q_IM (q_mJ y pd), 34, 31630)) _
          refine q_Ru_seg (g2 := (53, [(3, .int (lin - 4)), (2, .int 0), (1, .int col), (0, .ref 64)], [.int 31, .int 0, .int (lin - 4)], (q_cM (q_mA pix smp tr (q_nb p 1 dn ins) (q_fb z)) q_IM (q_mJ y pd), 34, 31630))) 4 (fun _ _ => rfl) ?_
          refine q_Ru_call (v := (some (.int 0))) (h2 := (q_cM (q_mA pix smp tr (q_nb p 1 dn ins) (q_fb z)) q_IM (q_mJ y pd), 34, 31630)) rfl rfl ?_ ?_
          · refine q_Ca_of (Nat.le_of_ble_eq_true rfl) ?_
            refine q_Ru_seg (g2 := (2, [(0, .int (lin - 4)), (1, .int 0), (2, .int 31)], [.int 0, .int (lin - 4)], (q_cM (q_mA pix smp tr (q_nb p 1 dn ins) (q_fb z)) q_IM (q_mJ y pd), 34, 31630))) 2 (fun _ _ => rfl) ?_
            refine q_Ru_rsT (g2 := (14, [(0, .int (lin - 4)), (1, .int 0), (2, .int 31)], [], (q_cM (q_mA pix smp tr (q_nb p 1 dn ins) (q_fb z)) q_IM (q_mJ y pd), 34, 31630))) rfl rfl h239 ?_
            refine q_Ru_seg (g2 := (15, [(0, .int (lin - 4)), (1, .int 0), (2, .int 31)], [.int 0], (q_cM (q_mA pix smp tr (q_nb p 1 dn ins) (q_fb z)) q_IM (q_mJ y pd), 34, 31630))) 1 (fun _ _ => rfl) ?_
            exact q_Ru_ret rfl rfl
          show q_Ru _ _ _ (56, [(3, .int (lin - 4)), (2, .int 0), (1, .int col), (0, .ref 64)], [.int 0], (q_cM (q_mA pix smp tr (q_nb p 1 dn ins) (q_fb z)) q_IM (q_mJ y pd), 34, 31630)) _
          refine q_Ru_seg (g2 := (92, [(3, .int (lin - 4)), (2, .int 0), (1, .int col), (0, .ref 64)], [.ref 64], (q_cM (q_mA pix smp tr (q_nb p 1 dn ins) (q_fb z)) q_IM (q_mJ y pd), 34, 31630))) 2 (fun _ _ => rfl) ?_
          refine q_Ru_call (v := none) (h2 := (q_cM (q_mA pix smp tr (q_nb p 1 dn ins) (q_fb z)) q_IM (q_mJ y pd), 34, 31630)) rfl rfl ?_ ?_
          · exact (q_m_times pix smp tr p 1 dn ins z y pd col lin p1 p2 hC hM c0 c1 l0 l1 a0 a1 b0 b1 hp0 hp1 hp2 i0 i1  ).le (Nat.le_of_ble_eq_true rfl)
          show q_Ru _ _ _ (95, [(3, .int (lin - 4)), (2, .int 0), (1, .int col), (0, .ref 64)], [], (q_cM (q_mA pix smp tr (q_nb p 1 dn ins) (q_fb z)) q_IM (q_mJ y pd), 34, 31630)) _
          refine q_Ru_seg (g2 := (96, [(3, .int (lin - 4)), (2, .int 0), (1, .int col), (0, .ref 64)], [.ref 64], (q_cM (q_mA pix smp tr (q_nb p 1 dn ins) (q_fb z)) q_IM (q_mJ y pd), 34, 31630))) 1 (fun _ _ => rfl) ?_
          refine q_Ru_call (v := none) (h2 := (q_cM (q_mA pix smp tr (q_nb p 1 dn ins) (q_fb z)) q_IM (q_mJ y pd), 34, 31630)) rfl rfl ?_ ?_
          · exact (q_m_winds pix smp tr p 1 dn ins z y pd col lin p1 p2 hC hM c0 c1 l0 l1 a0 a1 b0 b1 hp0 hp1 hp2 i0 i1  ).le (Nat.le_of_ble_eq_true rfl)
          show q_Ru _ _ _ (99, [(3, .int (lin - 4)), (2, .int 0), (1, .int col), (0, .ref 64)], [], (q_cM (q_mA pix smp tr (q_nb p 1 dn ins) (q_fb z)) q_IM (q_mJ y pd), 34, 31630)) _
          refine q_Ru_seg (g2 := (102, [(3, .int (lin - 4)), (2, .int 0), (1, .int col), (0, .ref 64)], [.int 23, .int col], (q_cM (q_mA pix smp tr (q_nb p 1 dn ins) (q_fb z)) q_IM (q_mJ y pd), 34, 31630))) 2 (fun _ _ => rfl) ?_
          refine q_Ru_rsF (g2 := (105, [(3, .int (lin - 4)), (2, .int 0), (1, .int col), (0, .ref 64)], [], (q_cM (q_mA pix smp tr (q_nb p 1 dn ins) (q_fb z)) q_IM (q_mJ y pd), 34, 31630))) rfl rfl (q_d_neT h240) ?_
          refine q_Ru_seg (g2 := (106, [(3, .int (lin - 4)), (2, .int 0), (1, .int col), (0, .ref 64)], [.ref 64], (q_cM (q_mA pix smp tr (q_nb p 1 dn ins) (q_fb z)) q_IM (q_mJ y pd), 34, 31630))) 1 (fun _ _ => rfl) ?_
          refine q_Ru_call (v := none) (h2 := (q_cM (q_mA pix z309a tr (q_nb p 1 dn ins) (q_fb z)) q_IM (q_mJ y pd), 34, 31630)) rfl rfl ?_ ?_
          · exact p309.le (Nat.le_of_ble_eq_true rfl)
          show q_Ru _ _ _ (109, [(3, .int (lin - 4)), (2, .int 0), (1, .int col), (0, .ref 64)], [], (q_cM (q_mA pix z309a tr (q_nb p 1 dn ins) (q_fb z)) q_IM (q_mJ y pd), 34, 31630)) _
          refine q_Ru_seg (g2 := (114, [(3, .int (lin - 4)), (2, .int 0), (1, .int col), (0, .ref 64)], [.ref 64], (q_cM (q_mA pix z309a tr (q_nb p 1 dn ins) (q_fb z)) q_IM (q_mJ y pd), 34, 31630))) 3 (fun _ _ => rfl) ?_
          refine q_Ru_call (v := none) (h2 := (q_cM (q_mA pix z309a z310a (q_nb p2 0 (dn + 1) (ins + 1)) (q_fb z310b)) q_IM (q_mJ y pd), 34, 31630)) rfl rfl ?_ ?_
          · exact p310.le (Nat.le_of_ble_eq_true rfl)
          show q_Ru _ _ _ (117, [(3, .int (lin - 4)), (2, .int 0), (1, .int col), (0, .ref 64)], [], (q_cM (q_mA pix z309a z310a (q_nb p2 0 (dn + 1) (ins + 1)) (q_fb z310b)) q_IM (q_mJ y pd), 34, 31630)) _
          refine q_Ru_seg (g2 := (122, [(3, .int (lin - 4)), (2, .int 0), (1, .int col), (0, .ref 64)], [.long pd, .ref 64], (q_cM (q_mA pix z309a z310a (q_nb p2 0 (dn + 1) (ins + 1)) (q_fb z310b)) q_IM (q_mJ y pd), 34, 31630))) 3 (fun _ _ => rfl) ?_
          refine q_Ru_seg (g2 := (140, [(3, .int (lin - 4)), (2, .int 0), (1, .int col), (0, .ref 64)], [.long y, .ref 64], (q_cM (q_mA pix z309a z310a (q_nb p2 0 (dn + 1) (ins + 1)) (q_fb z310b)) q_IM (q_uI (q_mJ y pd) 0 16 (pd + 0)), 34, 31630))) 8 (fun _ _ => rfl) ?_
          refine q_Ru_seg (g2 := (146, [(3, .int (lin - 4)), (2, .int 0), (1, .int col), (0, .ref 64)], [.int 0], (q_cM (q_mA pix z309a z310a (q_nb p2 0 (dn + 1) (ins + 1)) (q_fb z310b)) q_IM (q_uI (q_uI (q_mJ y pd) 0 16 (pd + 0)) 0 15 (y + 1)), 34, 31630))) 4 (fun _ _ => rfl) ?_
          exact q_Ru_ret rfl rfl
        | false =>
          obtain ⟨z313a, z313b, p313⟩ := q_m_go1 pix smp tr p dn ins z y pd col lin p1 p2 hC hM c0 c1 l0 l1 a0 a1 b0 b1 hp0 hp1 hp2 i0 i1  
          refine ⟨pix, smp, z313a, z313b, ?_⟩
          refine q_Ca_of (Nat.le_of_ble_eq_true rfl) ?_
          refine q_Ru_seg (g2 := (4, [(0, .ref 64)], [.long y], (q_cM (q_mA pix smp tr (q_nb p 1 dn ins) (q_fb z)) q_IM (q_mJ y pd), 34, 31630))) 2 (fun _ _ => rfl) ?_
          refine q_Ru_seg (g2 := (9, [(0, .ref 64)], [.int ((y - y / 24 * 24).toInt32)], (q_cM (q_mA pix smp tr (q_nb p 1 dn ins) (q_fb z)) q_IM (q_mJ y pd), 34, 31630))) 3 (fun _ _ => rfl) ?_
          rw [hC]
          refine q_Ru_seg (g2 := (11, [(1, .int col), (0, .ref 64)], [.int col], (q_cM (q_mA pix smp tr (q_nb p 1 dn ins) (q_fb z)) q_IM (q_mJ y pd), 34, 31630))) 2 (fun _ _ => rfl) ?_
          refine q_Ru_rsF (g2 := (14, [(1, .int col), (0, .ref 64)], [], (q_cM (q_mA pix smp tr (q_nb p 1 dn ins) (q_fb z)) q_IM (q_mJ y pd), 34, 31630))) rfl rfl (q_d_neT h228) ?_
          refine q_Ru_seg (g2 := (15, [(1, .int col), (0, .ref 64)], [.ref 64], (q_cM (q_mA pix smp tr (q_nb p 1 dn ins) (q_fb z)) q_IM (q_mJ y pd), 34, 31630))) 1 (fun _ _ => rfl) ?_
          refine q_Ru_call (v := (some (.int lin))) (h2 := (q_cM (q_mA pix smp tr (q_nb p 1 dn ins) (q_fb z)) q_IM (q_mJ y pd), 34, 31630)) rfl rfl ?_ ?_
          · refine q_Ca_of (Nat.le_of_ble_eq_true rfl) ?_
            refine q_Ru_seg (g2 := (4, [(0, .ref 64)], [.long y], (q_cM (q_mA pix smp tr (q_nb p 1 dn ins) (q_fb z)) q_IM (q_mJ y pd), 34, 31630))) 2 (fun _ _ => rfl) ?_
            refine q_Ru_seg (g2 := (13, [(0, .ref 64)], [.int (((y / 24) - (y / 24) / 40 * 40).toInt32)], (q_cM (q_mA pix smp tr (q_nb p 1 dn ins) (q_fb z)) q_IM (q_mJ y pd), 34, 31630))) 5 (fun _ _ => rfl) ?_
            rw [hM]
            exact q_Ru_ret rfl rfl
          show q_Ru _ _ _ (18, [(1, .int col), (0, .ref 64)], [.int lin], (q_cM (q_mA pix smp tr (q_nb p 1 dn ins) (q_fb z)) q_IM (q_mJ y pd), 34, 31630)) _
          refine q_Ru_seg (g2 := (25, [(1, .int col), (0, .ref 64)], [.int 0, .int lin], (q_cM (q_mA pix smp tr (q_nb p 1 dn ins) (q_fb z)) q_IM (q_mJ y pd), 34, 31630))) 4 (fun _ _ => rfl) ?_
          refine q_Ru_rsT (g2 := (39, [(1, .int col), (0, .ref 64)], [], (q_cM (q_mA pix smp tr (q_nb p 1 dn ins) (q_fb z)) q_IM (q_mJ y pd), 34, 31630))) rfl rfl (q_d_neF h229) ?_
          refine q_Ru_seg (g2 := (40, [(1, .int col), (0, .ref 64)], [.ref 64], (q_cM (q_mA pix smp tr (q_nb p 1 dn ins) (q_fb z)) q_IM (q_mJ y pd), 34, 31630))) 1 (fun _ _ => rfl) ?_
          refine q_Ru_call (v := (some (.int 0))) (h2 := (q_cM (q_mA pix smp tr (q_nb p 1 dn ins) (q_fb z)) q_IM (q_mJ y pd), 34, 31630)) rfl rfl ?_ ?_
          · exact (by have e := q_m_picX pix smp tr p 1 dn ins z y pd col lin p1 p2 hC hM c0 c1 l0 l1 a0 a1 b0 b1 hp0 hp1 hp2 i0 i1; rw [hpic] at e; exact e.le (Nat.le_of_ble_eq_true rfl))
          show q_Ru _ _ _ (43, [(1, .int col), (0, .ref 64)], [.int 0], (q_cM (q_mA pix smp tr (q_nb p 1 dn ins) (q_fb z)) q_IM (q_mJ y pd), 34, 31630)) _
          refine q_Ru_seg (g2 := (45, [(2, .int 0), (1, .int col), (0, .ref 64)], [.ref 64], (q_cM (q_mA pix smp tr (q_nb p 1 dn ins) (q_fb z)) q_IM (q_mJ y pd), 34, 31630))) 2 (fun _ _ => rfl) ?_
          refine q_Ru_call (v := (some (.int (lin - 4)))) (h2 := (q_cM (q_mA pix smp tr (q_nb p 1 dn ins) (q_fb z)) q_IM (q_mJ y pd), 34, 31630)) rfl rfl ?_ ?_
          · refine q_Ca_of (Nat.le_of_ble_eq_true rfl) ?_
            refine q_Ru_seg (g2 := (1, [(0, .ref 64)], [.ref 64], (q_cM (q_mA pix smp tr (q_nb p 1 dn ins) (q_fb z)) q_IM (q_mJ y pd), 34, 31630))) 1 (fun _ _ => rfl) ?_
            refine q_Ru_call (v := (some (.int lin))) (h2 := (q_cM (q_mA pix smp tr (q_nb p 1 dn ins) (q_fb z)) q_IM (q_mJ y pd), 34, 31630)) rfl rfl ?_ ?_
            · refine q_Ca_of (Nat.le_of_ble_eq_true rfl) ?_
              refine q_Ru_seg (g2 := (4, [(0, .ref 64)], [.long y], (q_cM (q_mA pix smp tr (q_nb p 1 dn ins) (q_fb z)) q_IM (q_mJ y pd), 34, 31630))) 2 (fun _ _ => rfl) ?_
              refine q_Ru_seg (g2 := (13, [(0, .ref 64)], [.int (((y / 24) - (y / 24) / 40 * 40).toInt32)], (q_cM (q_mA pix smp tr (q_nb p 1 dn ins) (q_fb z)) q_IM (q_mJ y pd), 34, 31630))) 5 (fun _ _ => rfl) ?_
              rw [hM]
              exact q_Ru_ret rfl rfl
            show q_Ru _ _ _ (4, [(0, .ref 64)], [.int lin], (q_cM (q_mA pix smp tr (q_nb p 1 dn ins) (q_fb z)) q_IM (q_mJ y pd), 34, 31630)) _
            refine q_Ru_seg (g2 := (6, [(0, .ref 64)], [.int (lin - 4)], (q_cM (q_mA pix smp tr (q_nb p 1 dn ins) (q_fb z)) q_IM (q_mJ y pd), 34, 31630))) 2 (fun _ _ => rfl) ?_
            exact q_Ru_ret rfl rfl
          show q_Ru _ _ _ (48, [(2, .int 0), (1, .int col), (0, .ref 64)], [.int (lin - 4)], (q_cM (q_mA pix smp tr (q_nb p 1 dn ins) (q_fb z)) q_IM (q_mJ y pd), 34, 31630)) _
          refine q_Ru_seg (g2 := (53, [(3, .int (lin - 4)), (2, .int 0), (1, .int col), (0, .ref 64)], [.int 31, .int 0, .int (lin - 4)], (q_cM (q_mA pix smp tr (q_nb p 1 dn ins) (q_fb z)) q_IM (q_mJ y pd), 34, 31630))) 4 (fun _ _ => rfl) ?_
          refine q_Ru_call (v := (some (.int 0))) (h2 := (q_cM (q_mA pix smp tr (q_nb p 1 dn ins) (q_fb z)) q_IM (q_mJ y pd), 34, 31630)) rfl rfl ?_ ?_
          · refine q_Ca_of (Nat.le_of_ble_eq_true rfl) ?_
            refine q_Ru_seg (g2 := (2, [(0, .int (lin - 4)), (1, .int 0), (2, .int 31)], [.int 0, .int (lin - 4)], (q_cM (q_mA pix smp tr (q_nb p 1 dn ins) (q_fb z)) q_IM (q_mJ y pd), 34, 31630))) 2 (fun _ _ => rfl) ?_
            refine q_Ru_rsT (g2 := (14, [(0, .int (lin - 4)), (1, .int 0), (2, .int 31)], [], (q_cM (q_mA pix smp tr (q_nb p 1 dn ins) (q_fb z)) q_IM (q_mJ y pd), 34, 31630))) rfl rfl h239 ?_
            refine q_Ru_seg (g2 := (15, [(0, .int (lin - 4)), (1, .int 0), (2, .int 31)], [.int 0], (q_cM (q_mA pix smp tr (q_nb p 1 dn ins) (q_fb z)) q_IM (q_mJ y pd), 34, 31630))) 1 (fun _ _ => rfl) ?_
            exact q_Ru_ret rfl rfl
          show q_Ru _ _ _ (56, [(3, .int (lin - 4)), (2, .int 0), (1, .int col), (0, .ref 64)], [.int 0], (q_cM (q_mA pix smp tr (q_nb p 1 dn ins) (q_fb z)) q_IM (q_mJ y pd), 34, 31630)) _
          refine q_Ru_seg (g2 := (92, [(3, .int (lin - 4)), (2, .int 0), (1, .int col), (0, .ref 64)], [.ref 64], (q_cM (q_mA pix smp tr (q_nb p 1 dn ins) (q_fb z)) q_IM (q_mJ y pd), 34, 31630))) 2 (fun _ _ => rfl) ?_
          refine q_Ru_call (v := none) (h2 := (q_cM (q_mA pix smp tr (q_nb p 1 dn ins) (q_fb z)) q_IM (q_mJ y pd), 34, 31630)) rfl rfl ?_ ?_
          · exact (q_m_times pix smp tr p 1 dn ins z y pd col lin p1 p2 hC hM c0 c1 l0 l1 a0 a1 b0 b1 hp0 hp1 hp2 i0 i1  ).le (Nat.le_of_ble_eq_true rfl)
          show q_Ru _ _ _ (95, [(3, .int (lin - 4)), (2, .int 0), (1, .int col), (0, .ref 64)], [], (q_cM (q_mA pix smp tr (q_nb p 1 dn ins) (q_fb z)) q_IM (q_mJ y pd), 34, 31630)) _
          refine q_Ru_seg (g2 := (96, [(3, .int (lin - 4)), (2, .int 0), (1, .int col), (0, .ref 64)], [.ref 64], (q_cM (q_mA pix smp tr (q_nb p 1 dn ins) (q_fb z)) q_IM (q_mJ y pd), 34, 31630))) 1 (fun _ _ => rfl) ?_
          refine q_Ru_call (v := none) (h2 := (q_cM (q_mA pix smp tr (q_nb p 1 dn ins) (q_fb z)) q_IM (q_mJ y pd), 34, 31630)) rfl rfl ?_ ?_
          · exact (q_m_winds pix smp tr p 1 dn ins z y pd col lin p1 p2 hC hM c0 c1 l0 l1 a0 a1 b0 b1 hp0 hp1 hp2 i0 i1  ).le (Nat.le_of_ble_eq_true rfl)
          show q_Ru _ _ _ (99, [(3, .int (lin - 4)), (2, .int 0), (1, .int col), (0, .ref 64)], [], (q_cM (q_mA pix smp tr (q_nb p 1 dn ins) (q_fb z)) q_IM (q_mJ y pd), 34, 31630)) _
          refine q_Ru_seg (g2 := (102, [(3, .int (lin - 4)), (2, .int 0), (1, .int col), (0, .ref 64)], [.int 23, .int col], (q_cM (q_mA pix smp tr (q_nb p 1 dn ins) (q_fb z)) q_IM (q_mJ y pd), 34, 31630))) 2 (fun _ _ => rfl) ?_
          refine q_Ru_rsT (g2 := (109, [(3, .int (lin - 4)), (2, .int 0), (1, .int col), (0, .ref 64)], [], (q_cM (q_mA pix smp tr (q_nb p 1 dn ins) (q_fb z)) q_IM (q_mJ y pd), 34, 31630))) rfl rfl (q_d_neF h240) ?_
          refine q_Ru_seg (g2 := (114, [(3, .int (lin - 4)), (2, .int 0), (1, .int col), (0, .ref 64)], [.ref 64], (q_cM (q_mA pix smp tr (q_nb p 1 dn ins) (q_fb z)) q_IM (q_mJ y pd), 34, 31630))) 3 (fun _ _ => rfl) ?_
          refine q_Ru_call (v := none) (h2 := (q_cM (q_mA pix smp z313a (q_nb p2 0 (dn + 1) (ins + 1)) (q_fb z313b)) q_IM (q_mJ y pd), 34, 31630)) rfl rfl ?_ ?_
          · exact p313.le (Nat.le_of_ble_eq_true rfl)
          show q_Ru _ _ _ (117, [(3, .int (lin - 4)), (2, .int 0), (1, .int col), (0, .ref 64)], [], (q_cM (q_mA pix smp z313a (q_nb p2 0 (dn + 1) (ins + 1)) (q_fb z313b)) q_IM (q_mJ y pd), 34, 31630)) _
          refine q_Ru_seg (g2 := (122, [(3, .int (lin - 4)), (2, .int 0), (1, .int col), (0, .ref 64)], [.long pd, .ref 64], (q_cM (q_mA pix smp z313a (q_nb p2 0 (dn + 1) (ins + 1)) (q_fb z313b)) q_IM (q_mJ y pd), 34, 31630))) 3 (fun _ _ => rfl) ?_
          refine q_Ru_seg (g2 := (140, [(3, .int (lin - 4)), (2, .int 0), (1, .int col), (0, .ref 64)], [.long y, .ref 64], (q_cM (q_mA pix smp z313a (q_nb p2 0 (dn + 1) (ins + 1)) (q_fb z313b)) q_IM (q_uI (q_mJ y pd) 0 16 (pd + 0)), 34, 31630))) 8 (fun _ _ => rfl) ?_
          refine q_Ru_seg (g2 := (146, [(3, .int (lin - 4)), (2, .int 0), (1, .int col), (0, .ref 64)], [.int 0], (q_cM (q_mA pix smp z313a (q_nb p2 0 (dn + 1) (ins + 1)) (q_fb z313b)) q_IM (q_uI (q_uI (q_mJ y pd) 0 16 (pd + 0)) 0 15 (y + 1)), 34, 31630))) 4 (fun _ _ => rfl) ?_
          exact q_Ru_ret rfl rfl
      | false =>
        cases h241 : decide (31 < lin - 4) with
        | true =>
          cases h242 : decide (col = 23) with
          | true =>
            have eh242 := of_decide_eq_true h242
            subst eh242
            obtain ⟨z318a, p318⟩ := q_m_sample pix smp tr p 1 dn ins z y pd col lin p1 p2 hC hM c0 c1 l0 l1 a0 a1 b0 b1 hp0 hp1 hp2 i0 i1  
            obtain ⟨z319a, z319b, p319⟩ := q_m_go1 pix z318a tr p dn ins z y pd col lin p1 p2 hC hM c0 c1 l0 l1 a0 a1 b0 b1 hp0 hp1 hp2 i0 i1  
            refine ⟨pix, z318a, z319a, z319b, ?_⟩
            refine q_Ca_of (Nat.le_of_ble_eq_true rfl) ?_
            refine q_Ru_seg (g2 := (4, [(0, .ref 64)], [.long y], (q_cM (q_mA pix smp tr (q_nb p 1 dn ins) (q_fb z)) q_IM (q_mJ y pd), 34, 31630))) 2 (fun _ _ => rfl) ?_
            refine q_Ru_seg (g2 := (9, [(0, .ref 64)], [.int ((y - y / 24 * 24).toInt32)], (q_cM (q_mA pix smp tr (q_nb p 1 dn ins) (q_fb z)) q_IM (q_mJ y pd), 34, 31630))) 3 (fun _ _ => rfl) ?_
            rw [hC]
            refine q_Ru_seg (g2 := (11, [(1, .int col), (0, .ref 64)], [.int col], (q_cM (q_mA pix smp tr (q_nb p 1 dn ins) (q_fb z)) q_IM (q_mJ y pd), 34, 31630))) 2 (fun _ _ => rfl) ?_
            refine q_Ru_rsF (g2 := (14, [(1, .int col), (0, .ref 64)], [], (q_cM (q_mA pix smp tr (q_nb p 1 dn ins) (q_fb z)) q_IM (q_mJ y pd), 34, 31630))) rfl rfl (q_d_neT h228) ?_
            refine q_Ru_seg (g2 := (15, [(1, .int col), (0, .ref 64)], [.ref 64], (q_cM (q_mA pix smp tr (q_nb p 1 dn ins) (q_fb z)) q_IM (q_mJ y pd), 34, 31630))) 1 (fun _ _ => rfl) ?_
            refine q_Ru_call (v := (some (.int lin))) (h2 := (q_cM (q_mA pix smp tr (q_nb p 1 dn ins) (q_fb z)) q_IM (q_mJ y pd), 34, 31630)) rfl rfl ?_ ?_
            · refine q_Ca_of (Nat.le_of_ble_eq_true rfl) ?_
              refine q_Ru_seg (g2 := (4, [(0, .ref 64)], [.long y], (q_cM (q_mA pix smp tr (q_nb p 1 dn ins) (q_fb z)) q_IM (q_mJ y pd), 34, 31630))) 2 (fun _ _ => rfl) ?_
              refine q_Ru_seg (g2 := (13, [(0, .ref 64)], [.int (((y / 24) - (y / 24) / 40 * 40).toInt32)], (q_cM (q_mA pix smp tr (q_nb p 1 dn ins) (q_fb z)) q_IM (q_mJ y pd), 34, 31630))) 5 (fun _ _ => rfl) ?_
              rw [hM]
              exact q_Ru_ret rfl rfl
            show q_Ru _ _ _ (18, [(1, .int col), (0, .ref 64)], [.int lin], (q_cM (q_mA pix smp tr (q_nb p 1 dn ins) (q_fb z)) q_IM (q_mJ y pd), 34, 31630)) _
            refine q_Ru_seg (g2 := (25, [(1, .int col), (0, .ref 64)], [.int 0, .int lin], (q_cM (q_mA pix smp tr (q_nb p 1 dn ins) (q_fb z)) q_IM (q_mJ y pd), 34, 31630))) 4 (fun _ _ => rfl) ?_
            refine q_Ru_rsT (g2 := (39, [(1, .int col), (0, .ref 64)], [], (q_cM (q_mA pix smp tr (q_nb p 1 dn ins) (q_fb z)) q_IM (q_mJ y pd), 34, 31630))) rfl rfl (q_d_neF h229) ?_
            refine q_Ru_seg (g2 := (40, [(1, .int col), (0, .ref 64)], [.ref 64], (q_cM (q_mA pix smp tr (q_nb p 1 dn ins) (q_fb z)) q_IM (q_mJ y pd), 34, 31630))) 1 (fun _ _ => rfl) ?_
            refine q_Ru_call (v := (some (.int 0))) (h2 := (q_cM (q_mA pix smp tr (q_nb p 1 dn ins) (q_fb z)) q_IM (q_mJ y pd), 34, 31630)) rfl rfl ?_ ?_
            · exact (by have e := q_m_picX pix smp tr p 1 dn ins z y pd col lin p1 p2 hC hM c0 c1 l0 l1 a0 a1 b0 b1 hp0 hp1 hp2 i0 i1; rw [hpic] at e; exact e.le (Nat.le_of_ble_eq_true rfl))
            show q_Ru _ _ _ (43, [(1, .int col), (0, .ref 64)], [.int 0], (q_cM (q_mA pix smp tr (q_nb p 1 dn ins) (q_fb z)) q_IM (q_mJ y pd), 34, 31630)) _
            refine q_Ru_seg (g2 := (45, [(2, .int 0), (1, .int col), (0, .ref 64)], [.ref 64], (q_cM (q_mA pix smp tr (q_nb p 1 dn ins) (q_fb z)) q_IM (q_mJ y pd), 34, 31630))) 2 (fun _ _ => rfl) ?_
            refine q_Ru_call (v := (some (.int (lin - 4)))) (h2 := (q_cM (q_mA pix smp tr (q_nb p 1 dn ins) (q_fb z)) q_IM (q_mJ y pd), 34, 31630)) rfl rfl ?_ ?_
            · refine q_Ca_of (Nat.le_of_ble_eq_true rfl) ?_
              refine q_Ru_seg (g2 := (1, [(0, .ref 64)], [.ref 64], (q_cM (q_mA pix smp tr (q_nb p 1 dn ins) (q_fb z)) q_IM (q_mJ y pd), 34, 31630))) 1 (fun _ _ => rfl) ?_
              refine q_Ru_call (v := (some (.int lin))) (h2 := (q_cM (q_mA pix smp tr (q_nb p 1 dn ins) (q_fb z)) q_IM (q_mJ y pd), 34, 31630)) rfl rfl ?_ ?_
              · refine q_Ca_of (Nat.le_of_ble_eq_true rfl) ?_
                refine q_Ru_seg (g2 := (4, [(0, .ref 64)], [.long y], (q_cM (q_mA pix smp tr (q_nb p 1 dn ins) (q_fb z)) q_IM (q_mJ y pd), 34, 31630))) 2 (fun _ _ => rfl) ?_
                refine q_Ru_seg (g2 := (13, [(0, .ref 64)], [.int (((y / 24) - (y / 24) / 40 * 40).toInt32)], (q_cM (q_mA pix smp tr (q_nb p 1 dn ins) (q_fb z)) q_IM (q_mJ y pd), 34, 31630))) 5 (fun _ _ => rfl) ?_
                rw [hM]
                exact q_Ru_ret rfl rfl
              show q_Ru _ _ _ (4, [(0, .ref 64)], [.int lin], (q_cM (q_mA pix smp tr (q_nb p 1 dn ins) (q_fb z)) q_IM (q_mJ y pd), 34, 31630)) _
              refine q_Ru_seg (g2 := (6, [(0, .ref 64)], [.int (lin - 4)], (q_cM (q_mA pix smp tr (q_nb p 1 dn ins) (q_fb z)) q_IM (q_mJ y pd), 34, 31630))) 2 (fun _ _ => rfl) ?_
              exact q_Ru_ret rfl rfl
            show q_Ru _ _ _ (48, [(2, .int 0), (1, .int col), (0, .ref 64)], [.int (lin - 4)], (q_cM (q_mA pix smp tr (q_nb p 1 dn ins) (q_fb z)) q_IM (q_mJ y pd), 34, 31630)) _
            refine q_Ru_seg (g2 := (53, [(3, .int (lin - 4)), (2, .int 0), (1, .int col), (0, .ref 64)], [.int 31, .int 0, .int (lin - 4)], (q_cM (q_mA pix smp tr (q_nb p 1 dn ins) (q_fb z)) q_IM (q_mJ y pd), 34, 31630))) 4 (fun _ _ => rfl) ?_
            refine q_Ru_call (v := (some (.int 0))) (h2 := (q_cM (q_mA pix smp tr (q_nb p 1 dn ins) (q_fb z)) q_IM (q_mJ y pd), 34, 31630)) rfl rfl ?_ ?_
            · refine q_Ca_of (Nat.le_of_ble_eq_true rfl) ?_
              refine q_Ru_seg (g2 := (2, [(0, .int (lin - 4)), (1, .int 0), (2, .int 31)], [.int 0, .int (lin - 4)], (q_cM (q_mA pix smp tr (q_nb p 1 dn ins) (q_fb z)) q_IM (q_mJ y pd), 34, 31630))) 2 (fun _ _ => rfl) ?_
              refine q_Ru_rsF (g2 := (5, [(0, .int (lin - 4)), (1, .int 0), (2, .int 31)], [], (q_cM (q_mA pix smp tr (q_nb p 1 dn ins) (q_fb z)) q_IM (q_mJ y pd), 34, 31630))) rfl rfl h239 ?_
              refine q_Ru_seg (g2 := (7, [(0, .int (lin - 4)), (1, .int 0), (2, .int 31)], [.int 31, .int (lin - 4)], (q_cM (q_mA pix smp tr (q_nb p 1 dn ins) (q_fb z)) q_IM (q_mJ y pd), 34, 31630))) 2 (fun _ _ => rfl) ?_
              refine q_Ru_rsT (g2 := (14, [(0, .int (lin - 4)), (1, .int 0), (2, .int 31)], [], (q_cM (q_mA pix smp tr (q_nb p 1 dn ins) (q_fb z)) q_IM (q_mJ y pd), 34, 31630))) rfl rfl h241 ?_
              refine q_Ru_seg (g2 := (15, [(0, .int (lin - 4)), (1, .int 0), (2, .int 31)], [.int 0], (q_cM (q_mA pix smp tr (q_nb p 1 dn ins) (q_fb z)) q_IM (q_mJ y pd), 34, 31630))) 1 (fun _ _ => rfl) ?_
              exact q_Ru_ret rfl rfl
            show q_Ru _ _ _ (56, [(3, .int (lin - 4)), (2, .int 0), (1, .int col), (0, .ref 64)], [.int 0], (q_cM (q_mA pix smp tr (q_nb p 1 dn ins) (q_fb z)) q_IM (q_mJ y pd), 34, 31630)) _
            refine q_Ru_seg (g2 := (92, [(3, .int (lin - 4)), (2, .int 0), (1, .int col), (0, .ref 64)], [.ref 64], (q_cM (q_mA pix smp tr (q_nb p 1 dn ins) (q_fb z)) q_IM (q_mJ y pd), 34, 31630))) 2 (fun _ _ => rfl) ?_
            refine q_Ru_call (v := none) (h2 := (q_cM (q_mA pix smp tr (q_nb p 1 dn ins) (q_fb z)) q_IM (q_mJ y pd), 34, 31630)) rfl rfl ?_ ?_
            · exact (q_m_times pix smp tr p 1 dn ins z y pd col lin p1 p2 hC hM c0 c1 l0 l1 a0 a1 b0 b1 hp0 hp1 hp2 i0 i1  ).le (Nat.le_of_ble_eq_true rfl)
            show q_Ru _ _ _ (95, [(3, .int (lin - 4)), (2, .int 0), (1, .int col), (0, .ref 64)], [], (q_cM (q_mA pix smp tr (q_nb p 1 dn ins) (q_fb z)) q_IM (q_mJ y pd), 34, 31630)) _
            refine q_Ru_seg (g2 := (96, [(3, .int (lin - 4)), (2, .int 0), (1, .int col), (0, .ref 64)], [.ref 64], (q_cM (q_mA pix smp tr (q_nb p 1 dn ins) (q_fb z)) q_IM (q_mJ y pd), 34, 31630))) 1 (fun _ _ => rfl) ?_
            refine q_Ru_call (v := none) (h2 := (q_cM (q_mA pix smp tr (q_nb p 1 dn ins) (q_fb z)) q_IM (q_mJ y pd), 34, 31630)) rfl rfl ?_ ?_
            · exact (q_m_winds pix smp tr p 1 dn ins z y pd col lin p1 p2 hC hM c0 c1 l0 l1 a0 a1 b0 b1 hp0 hp1 hp2 i0 i1  ).le (Nat.le_of_ble_eq_true rfl)
            show q_Ru _ _ _ (99, [(3, .int (lin - 4)), (2, .int 0), (1, .int col), (0, .ref 64)], [], (q_cM (q_mA pix smp tr (q_nb p 1 dn ins) (q_fb z)) q_IM (q_mJ y pd), 34, 31630)) _
            refine q_Ru_seg (g2 := (102, [(3, .int (lin - 4)), (2, .int 0), (1, .int col), (0, .ref 64)], [.int 23, .int col], (q_cM (q_mA pix smp tr (q_nb p 1 dn ins) (q_fb z)) q_IM (q_mJ y pd), 34, 31630))) 2 (fun _ _ => rfl) ?_
            refine q_Ru_rsF (g2 := (105, [(3, .int (lin - 4)), (2, .int 0), (1, .int col), (0, .ref 64)], [], (q_cM (q_mA pix smp tr (q_nb p 1 dn ins) (q_fb z)) q_IM (q_mJ y pd), 34, 31630))) rfl rfl (q_d_neT h242) ?_
            refine q_Ru_seg (g2 := (106, [(3, .int (lin - 4)), (2, .int 0), (1, .int col), (0, .ref 64)], [.ref 64], (q_cM (q_mA pix smp tr (q_nb p 1 dn ins) (q_fb z)) q_IM (q_mJ y pd), 34, 31630))) 1 (fun _ _ => rfl) ?_
            refine q_Ru_call (v := none) (h2 := (q_cM (q_mA pix z318a tr (q_nb p 1 dn ins) (q_fb z)) q_IM (q_mJ y pd), 34, 31630)) rfl rfl ?_ ?_
            · exact p318.le (Nat.le_of_ble_eq_true rfl)
            show q_Ru _ _ _ (109, [(3, .int (lin - 4)), (2, .int 0), (1, .int col), (0, .ref 64)], [], (q_cM (q_mA pix z318a tr (q_nb p 1 dn ins) (q_fb z)) q_IM (q_mJ y pd), 34, 31630)) _
            refine q_Ru_seg (g2 := (114, [(3, .int (lin - 4)), (2, .int 0), (1, .int col), (0, .ref 64)], [.ref 64], (q_cM (q_mA pix z318a tr (q_nb p 1 dn ins) (q_fb z)) q_IM (q_mJ y pd), 34, 31630))) 3 (fun _ _ => rfl) ?_
            refine q_Ru_call (v := none) (h2 := (q_cM (q_mA pix z318a z319a (q_nb p2 0 (dn + 1) (ins + 1)) (q_fb z319b)) q_IM (q_mJ y pd), 34, 31630)) rfl rfl ?_ ?_
            · exact p319.le (Nat.le_of_ble_eq_true rfl)
            show q_Ru _ _ _ (117, [(3, .int (lin - 4)), (2, .int 0), (1, .int col), (0, .ref 64)], [], (q_cM (q_mA pix z318a z319a (q_nb p2 0 (dn + 1) (ins + 1)) (q_fb z319b)) q_IM (q_mJ y pd), 34, 31630)) _
            refine q_Ru_seg (g2 := (122, [(3, .int (lin - 4)), (2, .int 0), (1, .int col), (0, .ref 64)], [.long pd, .ref 64], (q_cM (q_mA pix z318a z319a (q_nb p2 0 (dn + 1) (ins + 1)) (q_fb z319b)) q_IM (q_mJ y pd), 34, 31630))) 3 (fun _ _ => rfl) ?_
            refine q_Ru_seg (g2 := (140, [(3, .int (lin - 4)), (2, .int 0), (1, .int col), (0, .ref 64)], [.long y, .ref 64], (q_cM (q_mA pix z318a z319a (q_nb p2 0 (dn + 1) (ins + 1)) (q_fb z319b)) q_IM (q_uI (q_mJ y pd) 0 16 (pd + 0)), 34, 31630))) 8 (fun _ _ => rfl) ?_
            refine q_Ru_seg (g2 := (146, [(3, .int (lin - 4)), (2, .int 0), (1, .int col), (0, .ref 64)], [.int 0], (q_cM (q_mA pix z318a z319a (q_nb p2 0 (dn + 1) (ins + 1)) (q_fb z319b)) q_IM (q_uI (q_uI (q_mJ y pd) 0 16 (pd + 0)) 0 15 (y + 1)), 34, 31630))) 4 (fun _ _ => rfl) ?_
            exact q_Ru_ret rfl rfl
          | false =>
            obtain ⟨z322a, z322b, p322⟩ := q_m_go1 pix smp tr p dn ins z y pd col lin p1 p2 hC hM c0 c1 l0 l1 a0 a1 b0 b1 hp0 hp1 hp2 i0 i1  
            refine ⟨pix, smp, z322a, z322b, ?_⟩
            refine q_Ca_of (Nat.le_of_ble_eq_true rfl) ?_
            refine q_Ru_seg (g2 := (4, [(0, .ref 64)], [.long y], (q_cM (q_mA pix smp tr (q_nb p 1 dn ins) (q_fb z)) q_IM (q_mJ y pd), 34, 31630))) 2 (fun _ _ => rfl) ?_
            refine q_Ru_seg (g2 := (9, [(0, .ref 64)], [.int ((y - y / 24 * 24).toInt32)], (q_cM (q_mA pix smp tr (q_nb p 1 dn ins) (q_fb z)) q_IM (q_mJ y pd), 34, 31630))) 3 (fun _ _ => rfl) ?_
            rw [hC]
            refine q_Ru_seg (g2 := (11, [(1, .int col), (0, .ref 64)], [.int col], (q_cM (q_mA pix smp tr (q_nb p 1 dn ins) (q_fb z)) q_IM (q_mJ y pd), 34, 31630))) 2 (fun _ _ => rfl) ?_
            refine q_Ru_rsF (g2 := (14, [(1, .int col), (0, .ref 64)], [], (q_cM (q_mA pix smp tr (q_nb p 1 dn ins) (q_fb z)) q_IM (q_mJ y pd), 34, 31630))) rfl rfl (q_d_neT h228) ?_
            refine q_Ru_seg (g2 := (15, [(1, .int col), (0, .ref 64)], [.ref 64], (q_cM (q_mA pix smp tr (q_nb p 1 dn ins) (q_fb z)) q_IM (q_mJ y pd), 34, 31630))) 1 (fun _ _ => rfl) ?_
            refine q_Ru_call (v := (some (.int lin))) (h2 := (q_cM (q_mA pix smp tr (q_nb p 1 dn ins) (q_fb z)) q_IM (q_mJ y pd), 34, 31630)) rfl rfl ?_ ?_
            · refine q_Ca_of (Nat.le_of_ble_eq_true rfl) ?_
              refine q_Ru_seg (g2 := (4, [(0, .ref 64)], [.long y], (q_cM (q_mA pix smp tr (q_nb p 1 dn ins) (q_fb z)) q_IM (q_mJ y pd), 34, 31630))) 2 (fun _ _ => rfl) ?_
              refine q_Ru_seg (g2 := (13, [(0, .ref 64)], [.int (((y / 24) - (y / 24) / 40 * 40).toInt32)], (q_cM (q_mA pix smp tr (q_nb p 1 dn ins) (q_fb z)) q_IM (q_mJ y pd), 34, 31630))) 5 (fun _ _ => rfl) ?_
              rw [hM]
              exact q_Ru_ret rfl rfl
            show q_Ru _ _ _ (18, [(1, .int col), (0, .ref 64)], [.int lin], (q_cM (q_mA pix smp tr (q_nb p 1 dn ins) (q_fb z)) q_IM (q_mJ y pd), 34, 31630)) _
            refine q_Ru_seg (g2 := (25, [(1, .int col), (0, .ref 64)], [.int 0, .int lin], (q_cM (q_mA pix smp tr (q_nb p 1 dn ins) (q_fb z)) q_IM (q_mJ y pd), 34, 31630))) 4 (fun _ _ => rfl) ?_
            refine q_Ru_rsT (g2 := (39, [(1, .int col), (0, .ref 64)], [], (q_cM (q_mA pix smp tr (q_nb p 1 dn ins) (q_fb z)) q_IM (q_mJ y pd), 34, 31630))) rfl rfl (q_d_neF h229) ?_
            refine q_Ru_seg (g2 := (40, [(1, .int col), (0, .ref 64)], [.ref 64], (q_cM (q_mA pix smp tr (q_nb p 1 dn ins) (q_fb z)) q_IM (q_mJ y pd), 34, 31630))) 1 (fun _ _ => rfl) ?_
            refine q_Ru_call (v := (some (.int 0))) (h2 := (q_cM (q_mA pix smp tr (q_nb p 1 dn ins) (q_fb z)) q_IM (q_mJ y pd), 34, 31630)) rfl rfl ?_ ?_
            · exact (by have e := q_m_picX pix smp tr p 1 dn ins z y pd col lin p1 p2 hC hM c0 c1 l0 l1 a0 a1 b0 b1 hp0 hp1 hp2 i0 i1; rw [hpic] at e; exact e.le (Nat.le_of_ble_eq_true rfl))
            show q_Ru _ _ _ (43, [(1, .int col), (0, .ref 64)], [.int 0], (q_cM (q_mA pix smp tr (q_nb p 1 dn ins) (q_fb z)) q_IM (q_mJ y pd), 34, 31630)) _
            refine q_Ru_seg (g2 := (45, [(2, .int 0), (1, .int col), (0, .ref 64)], [.ref 64], (q_cM (q_mA pix smp tr (q_nb p 1 dn ins) (q_fb z)) q_IM (q_mJ y pd), 34, 31630))) 2 (fun _ _ => rfl) ?_
            refine q_Ru_call (v := (some (.int (lin - 4)))) (h2 := (q_cM (q_mA pix smp tr (q_nb p 1 dn ins) (q_fb z)) q_IM (q_mJ y pd), 34, 31630)) rfl rfl ?_ ?_
            · refine q_Ca_of (Nat.le_of_ble_eq_true rfl) ?_
              refine q_Ru_seg (g2 := (1, [(0, .ref 64)], [.ref 64], (q_cM (q_mA pix smp tr (q_nb p 1 dn ins) (q_fb z)) q_IM (q_mJ y pd), 34, 31630))) 1 (fun _ _ => rfl) ?_
              refine q_Ru_call (v := (some (.int lin))) (h2 := (q_cM (q_mA pix smp tr (q_nb p 1 dn ins) (q_fb z)) q_IM (q_mJ y pd), 34, 31630)) rfl rfl ?_ ?_
              · refine q_Ca_of (Nat.le_of_ble_eq_true rfl) ?_
                refine q_Ru_seg (g2 := (4, [(0, .ref 64)], [.long y], (q_cM (q_mA pix smp tr (q_nb p 1 dn ins) (q_fb z)) q_IM (q_mJ y pd), 34, 31630))) 2 (fun _ _ => rfl) ?_
                refine q_Ru_seg (g2 := (13, [(0, .ref 64)], [.int (((y / 24) - (y / 24) / 40 * 40).toInt32)], (q_cM (q_mA pix smp tr (q_nb p 1 dn ins) (q_fb z)) q_IM (q_mJ y pd), 34, 31630))) 5 (fun _ _ => rfl) ?_
                rw [hM]
                exact q_Ru_ret rfl rfl
              show q_Ru _ _ _ (4, [(0, .ref 64)], [.int lin], (q_cM (q_mA pix smp tr (q_nb p 1 dn ins) (q_fb z)) q_IM (q_mJ y pd), 34, 31630)) _
              refine q_Ru_seg (g2 := (6, [(0, .ref 64)], [.int (lin - 4)], (q_cM (q_mA pix smp tr (q_nb p 1 dn ins) (q_fb z)) q_IM (q_mJ y pd), 34, 31630))) 2 (fun _ _ => rfl) ?_
              exact q_Ru_ret rfl rfl
            show q_Ru _ _ _ (48, [(2, .int 0), (1, .int col), (0, .ref 64)], [.int (lin - 4)], (q_cM (q_mA pix smp tr (q_nb p 1 dn ins) (q_fb z)) q_IM (q_mJ y pd), 34, 31630)) _
            refine q_Ru_seg (g2 := (53, [(3, .int (lin - 4)), (2, .int 0), (1, .int col), (0, .ref 64)], [.int 31, .int 0, .int (lin - 4)], (q_cM (q_mA pix smp tr (q_nb p 1 dn ins) (q_fb z)) q_IM (q_mJ y pd), 34, 31630))) 4 (fun _ _ => rfl) ?_
            refine q_Ru_call (v := (some (.int 0))) (h2 := (q_cM (q_mA pix smp tr (q_nb p 1 dn ins) (q_fb z)) q_IM (q_mJ y pd), 34, 31630)) rfl rfl ?_ ?_
            · refine q_Ca_of (Nat.le_of_ble_eq_true rfl) ?_
              refine q_Ru_seg (g2 := (2, [(0, .int (lin - 4)), (1, .int 0), (2, .int 31)], [.int 0, .int (lin - 4)], (q_cM (q_mA pix smp tr (q_nb p 1 dn ins) (q_fb z)) q_IM (q_mJ y pd), 34, 31630))) 2 (fun _ _ => rfl) ?_
              refine q_Ru_rsF (g2 := (5, [(0, .int (lin - 4)), (1, .int 0), (2, .int 31)], [], (q_cM (q_mA pix smp tr (q_nb p 1 dn ins) (q_fb z)) q_IM (q_mJ y pd), 34, 31630))) rfl rfl h239 ?_
              refine q_Ru_seg (g2 := (7, [(0, .int (lin - 4)), (1, .int 0), (2, .int 31)], [.int 31, .int (lin - 4)], (q_cM (q_mA pix smp tr (q_nb p 1 dn ins) (q_fb z)) q_IM (q_mJ y pd), 34, 31630))) 2 (fun _ _ => rfl) ?_
              refine q_Ru_rsT (g2 := (14, [(0, .int (lin - 4)), (1, .int 0), (2, .int 31)], [], (q_cM (q_mA pix smp tr (q_nb p 1 dn ins) (q_fb z)) q_IM (q_mJ y pd), 34, 31630))) rfl rfl h241 ?_
              refine q_Ru_seg (g2 := (15, [(0, .int (lin - 4)), (1, .int 0), (2, .int 31)], [.int 0], (q_cM (q_mA pix smp tr (q_nb p 1 dn ins) (q_fb z)) q_IM (q_mJ y pd), 34, 31630))) 1 (fun _ _ => rfl) ?_
              exact q_Ru_ret rfl rfl
            show q_Ru _ _ _ (56, [(3, .int (lin - 4)), (2, .int 0), (1, .int col), (0, .ref 64)], [.int 0], (q_cM (q_mA pix smp tr (q_nb p 1 dn ins) (q_fb z)) q_IM (q_mJ y pd), 34, 31630)) _
            refine q_Ru_seg (g2 := (92, [(3, .int (lin - 4)), (2, .int 0), (1, .int col), (0, .ref 64)], [.ref 64], (q_cM (q_mA pix smp tr (q_nb p 1 dn ins) (q_fb z)) q_IM (q_mJ y pd), 34, 31630))) 2 (fun _ _ => rfl) ?_
            refine q_Ru_call (v := none) (h2 := (q_cM (q_mA pix smp tr (q_nb p 1 dn ins) (q_fb z)) q_IM (q_mJ y pd), 34, 31630)) rfl rfl ?_ ?_
            · exact (q_m_times pix smp tr p 1 dn ins z y pd col lin p1 p2 hC hM c0 c1 l0 l1 a0 a1 b0 b1 hp0 hp1 hp2 i0 i1  ).le (Nat.le_of_ble_eq_true rfl)
            show q_Ru _ _ _ (95, [(3, .int (lin - 4)), (2, .int 0), (1, .int col), (0, .ref 64)], [], (q_cM (q_mA pix smp tr (q_nb p 1 dn ins) (q_fb z)) q_IM (q_mJ y pd), 34, 31630)) _
            refine q_Ru_seg (g2 := (96, [(3, .int (lin - 4)), (2, .int 0), (1, .int col), (0, .ref 64)], [.ref 64], (q_cM (q_mA pix smp tr (q_nb p 1 dn ins) (q_fb z)) q_IM (q_mJ y pd), 34, 31630))) 1 (fun _ _ => rfl) ?_
            refine q_Ru_call (v := none) (h2 := (q_cM (q_mA pix smp tr (q_nb p 1 dn ins) (q_fb z)) q_IM (q_mJ y pd), 34, 31630)) rfl rfl ?_ ?_
            · exact (q_m_winds pix smp tr p 1 dn ins z y pd col lin p1 p2 hC hM c0 c1 l0 l1 a0 a1 b0 b1 hp0 hp1 hp2 i0 i1  ).le (Nat.le_of_ble_eq_true rfl)
            show q_Ru _ _ _ (99, [(3, .int (lin - 4)), (2, .int 0), (1, .int col), (0, .ref 64)], [], (q_cM (q_mA pix smp tr (q_nb p 1 dn ins) (q_fb z)) q_IM (q_mJ y pd), 34, 31630)) _
            refine q_Ru_seg (g2 := (102, [(3, .int (lin - 4)), (2, .int 0), (1, .int col), (0, .ref 64)], [.int 23, .int col], (q_cM (q_mA pix smp tr (q_nb p 1 dn ins) (q_fb z)) q_IM (q_mJ y pd), 34, 31630))) 2 (fun _ _ => rfl) ?_
            refine q_Ru_rsT (g2 := (109, [(3, .int (lin - 4)), (2, .int 0), (1, .int col), (0, .ref 64)], [], (q_cM (q_mA pix smp tr (q_nb p 1 dn ins) (q_fb z)) q_IM (q_mJ y pd), 34, 31630))) rfl rfl (q_d_neF h242) ?_
            refine q_Ru_seg (g2 := (114, [(3, .int (lin - 4)), (2, .int 0), (1, .int col), (0, .ref 64)], [.ref 64], (q_cM (q_mA pix smp tr (q_nb p 1 dn ins) (q_fb z)) q_IM (q_mJ y pd), 34, 31630))) 3 (fun _ _ => rfl) ?_
            refine q_Ru_call (v := none) (h2 := (q_cM (q_mA pix smp z322a (q_nb p2 0 (dn + 1) (ins + 1)) (q_fb z322b)) q_IM (q_mJ y pd), 34, 31630)) rfl rfl ?_ ?_
            · exact p322.le (Nat.le_of_ble_eq_true rfl)
            show q_Ru _ _ _ (117, [(3, .int (lin - 4)), (2, .int 0), (1, .int col), (0, .ref 64)], [], (q_cM (q_mA pix smp z322a (q_nb p2 0 (dn + 1) (ins + 1)) (q_fb z322b)) q_IM (q_mJ y pd), 34, 31630)) _
            refine q_Ru_seg (g2 := (122, [(3, .int (lin - 4)), (2, .int 0), (1, .int col), (0, .ref 64)], [.long pd, .ref 64], (q_cM (q_mA pix smp z322a (q_nb p2 0 (dn + 1) (ins + 1)) (q_fb z322b)) q_IM (q_mJ y pd), 34, 31630))) 3 (fun _ _ => rfl) ?_
            refine q_Ru_seg (g2 := (140, [(3, .int (lin - 4)), (2, .int 0), (1, .int col), (0, .ref 64)], [.long y, .ref 64], (q_cM (q_mA pix smp z322a (q_nb p2 0 (dn + 1) (ins + 1)) (q_fb z322b)) q_IM (q_uI (q_mJ y pd) 0 16 (pd + 0)), 34, 31630))) 8 (fun _ _ => rfl) ?_
            refine q_Ru_seg (g2 := (146, [(3, .int (lin - 4)), (2, .int 0), (1, .int col), (0, .ref 64)], [.int 0], (q_cM (q_mA pix smp z322a (q_nb p2 0 (dn + 1) (ins + 1)) (q_fb z322b)) q_IM (q_uI (q_uI (q_mJ y pd) 0 16 (pd + 0)) 0 15 (y + 1)), 34, 31630))) 4 (fun _ _ => rfl) ?_
            exact q_Ru_ret rfl rfl
        | false =>
          cases h243 : decide (col < 4) with
          | true =>
            have h244 : decide (col = 23) = false := q_not_tr (q_tbl1 (fun col => !decide (col = 23)) (l := 0) (n := 3) (by decide +kernel) c0 (q_hi1 h243))
            obtain ⟨z327a, z327b, p327⟩ := q_m_go1 pix smp tr p dn ins z y pd col lin p1 p2 hC hM c0 c1 l0 l1 a0 a1 b0 b1 hp0 hp1 hp2 i0 i1  
            refine ⟨pix, smp, z327a, z327b, ?_⟩
            refine q_Ca_of (Nat.le_of_ble_eq_true rfl) ?_
            refine q_Ru_seg (g2 := (4, [(0, .ref 64)], [.long y], (q_cM (q_mA pix smp tr (q_nb p 1 dn ins) (q_fb z)) q_IM (q_mJ y pd), 34, 31630))) 2 (fun _ _ => rfl) ?_
            refine q_Ru_seg (g2 := (9, [(0, .ref 64)], [.int ((y - y / 24 * 24).toInt32)], (q_cM (q_mA pix smp tr (q_nb p 1 dn ins) (q_fb z)) q_IM (q_mJ y pd), 34, 31630))) 3 (fun _ _ => rfl) ?_
            rw [hC]
            refine q_Ru_seg (g2 := (11, [(1, .int col), (0, .ref 64)], [.int col], (q_cM (q_mA pix smp tr (q_nb p 1 dn ins) (q_fb z)) q_IM (q_mJ y pd), 34, 31630))) 2 (fun _ _ => rfl) ?_
            refine q_Ru_rsF (g2 := (14, [(1, .int col), (0, .ref 64)], [], (q_cM (q_mA pix smp tr (q_nb p 1 dn ins) (q_fb z)) q_IM (q_mJ y pd), 34, 31630))) rfl rfl (q_d_neT h228) ?_
            refine q_Ru_seg (g2 := (15, [(1, .int col), (0, .ref 64)], [.ref 64], (q_cM (q_mA pix smp tr (q_nb p 1 dn ins) (q_fb z)) q_IM (q_mJ y pd), 34, 31630))) 1 (fun _ _ => rfl) ?_
            refine q_Ru_call (v := (some (.int lin))) (h2 := (q_cM (q_mA pix smp tr (q_nb p 1 dn ins) (q_fb z)) q_IM (q_mJ y pd), 34, 31630)) rfl rfl ?_ ?_
            · refine q_Ca_of (Nat.le_of_ble_eq_true rfl) ?_
              refine q_Ru_seg (g2 := (4, [(0, .ref 64)], [.long y], (q_cM (q_mA pix smp tr (q_nb p 1 dn ins) (q_fb z)) q_IM (q_mJ y pd), 34, 31630))) 2 (fun _ _ => rfl) ?_
              refine q_Ru_seg (g2 := (13, [(0, .ref 64)], [.int (((y / 24) - (y / 24) / 40 * 40).toInt32)], (q_cM (q_mA pix smp tr (q_nb p 1 dn ins) (q_fb z)) q_IM (q_mJ y pd), 34, 31630))) 5 (fun _ _ => rfl) ?_
              rw [hM]
              exact q_Ru_ret rfl rfl
            show q_Ru _ _ _ (18, [(1, .int col), (0, .ref 64)], [.int lin], (q_cM (q_mA pix smp tr (q_nb p 1 dn ins) (q_fb z)) q_IM (q_mJ y pd), 34, 31630)) _
            refine q_Ru_seg (g2 := (25, [(1, .int col), (0, .ref 64)], [.int 0, .int lin], (q_cM (q_mA pix smp tr (q_nb p 1 dn ins) (q_fb z)) q_IM (q_mJ y pd), 34, 31630))) 4 (fun _ _ => rfl) ?_
            refine q_Ru_rsT (g2 := (39, [(1, .int col), (0, .ref 64)], [], (q_cM (q_mA pix smp tr (q_nb p 1 dn ins) (q_fb z)) q_IM (q_mJ y pd), 34, 31630))) rfl rfl (q_d_neF h229) ?_
            refine q_Ru_seg (g2 := (40, [(1, .int col), (0, .ref 64)], [.ref 64], (q_cM (q_mA pix smp tr (q_nb p 1 dn ins) (q_fb z)) q_IM (q_mJ y pd), 34, 31630))) 1 (fun _ _ => rfl) ?_
            refine q_Ru_call (v := (some (.int 0))) (h2 := (q_cM (q_mA pix smp tr (q_nb p 1 dn ins) (q_fb z)) q_IM (q_mJ y pd), 34, 31630)) rfl rfl ?_ ?_
            · exact (by have e := q_m_picX pix smp tr p 1 dn ins z y pd col lin p1 p2 hC hM c0 c1 l0 l1 a0 a1 b0 b1 hp0 hp1 hp2 i0 i1; rw [hpic] at e; exact e.le (Nat.le_of_ble_eq_true rfl))
            show q_Ru _ _ _ (43, [(1, .int col), (0, .ref 64)], [.int 0], (q_cM (q_mA pix smp tr (q_nb p 1 dn ins) (q_fb z)) q_IM (q_mJ y pd), 34, 31630)) _
            refine q_Ru_seg (g2 := (45, [(2, .int 0), (1, .int col), (0, .ref 64)], [.ref 64], (q_cM (q_mA pix smp tr (q_nb p 1 dn ins) (q_fb z)) q_IM (q_mJ y pd), 34, 31630))) 2 (fun _ _ => rfl) ?_
            refine q_Ru_call (v := (some (.int (lin - 4)))) (h2 := (q_cM (q_mA pix smp tr (q_nb p 1 dn ins) (q_fb z)) q_IM (q_mJ y pd), 34, 31630)) rfl rfl ?_ ?_
            · refine q_Ca_of (Nat.le_of_ble_eq_true rfl) ?_
              refine q_Ru_seg (g2 := (1, [(0, .ref 64)], [.ref 64], (q_cM (q_mA pix smp tr (q_nb p 1 dn ins) (q_fb z)) q_IM (q_mJ y pd), 34, 31630))) 1 (fun _ _ => rfl) ?_
              refine q_Ru_call (v := (some (.int lin))) (h2 := (q_cM (q_mA pix smp tr (q_nb p 1 dn ins) (q_fb z)) q_IM (q_mJ y pd), 34, 31630)) rfl rfl ?_ ?_
              · refine q_Ca_of (Nat.le_of_ble_eq_true rfl) ?_
                refine q_Ru_seg (g2 := (4, [(0, .ref 64)], [.long y], (q_cM (q_mA pix smp tr (q_nb p 1 dn ins) (q_fb z)) q_IM (q_mJ y pd), 34, 31630))) 2 (fun _ _ => rfl) ?_
                refine q_Ru_seg (g2 := (13, [(0, .ref 64)], [.int (((y / 24) - (y / 24) / 40 * 40).toInt32)], (q_cM (q_mA pix smp tr (q_nb p 1 dn ins) (q_fb z)) q_IM (q_mJ y pd), 34, 31630))) 5 (fun _ _ => rfl) ?_
                rw [hM]
                exact q_Ru_ret rfl rfl
              show q_Ru _ _ _ (4, [(0, .ref 64)], [.int lin], (q_cM (q_mA pix smp tr (q_nb p 1 dn ins) (q_fb z)) q_IM (q_mJ y pd), 34, 31630)) _
              refine q_Ru_seg (g2 := (6, [(0, .ref 64)], [.int (lin - 4)], (q_cM (q_mA pix smp tr (q_nb p 1 dn ins) (q_fb z)) q_IM (q_mJ y pd), 34, 31630))) 2 (fun _ _ => rfl) ?_
              exact q_Ru_ret rfl rfl
            show q_Ru _ _ _ (48, [(2, .int 0), (1, .int col), (0, .ref 64)], [.int (lin - 4)], (q_cM (q_mA pix smp tr (q_nb p 1 dn ins) (q_fb z)) q_IM (q_mJ y pd), 34, 31630)) _
            refine q_Ru_seg (g2 := (53, [(3, .int (lin - 4)), (2, .int 0), (1, .int col), (0, .ref 64)], [.int 31, .int 0, .int (lin - 4)], (q_cM (q_mA pix smp tr (q_nb p 1 dn ins) (q_fb z)) q_IM (q_mJ y pd), 34, 31630))) 4 (fun _ _ => rfl) ?_
            refine q_Ru_call (v := (some (.int 1))) (h2 := (q_cM (q_mA pix smp tr (q_nb p 1 dn ins) (q_fb z)) q_IM (q_mJ y pd), 34, 31630)) rfl rfl ?_ ?_
            · refine q_Ca_of (Nat.le_of_ble_eq_true rfl) ?_
              refine q_Ru_seg (g2 := (2, [(0, .int (lin - 4)), (1, .int 0), (2, .int 31)], [.int 0, .int (lin - 4)], (q_cM (q_mA pix smp tr (q_nb p 1 dn ins) (q_fb z)) q_IM (q_mJ y pd), 34, 31630))) 2 (fun _ _ => rfl) ?_
              refine q_Ru_rsF (g2 := (5, [(0, .int (lin - 4)), (1, .int 0), (2, .int 31)], [], (q_cM (q_mA pix smp tr (q_nb p 1 dn ins) (q_fb z)) q_IM (q_mJ y pd), 34, 31630))) rfl rfl h239 ?_
              refine q_Ru_seg (g2 := (7, [(0, .int (lin - 4)), (1, .int 0), (2, .int 31)], [.int 31, .int (lin - 4)], (q_cM (q_mA pix smp tr (q_nb p 1 dn ins) (q_fb z)) q_IM (q_mJ y pd), 34, 31630))) 2 (fun _ _ => rfl) ?_
              refine q_Ru_rsF (g2 := (10, [(0, .int (lin - 4)), (1, .int 0), (2, .int 31)], [], (q_cM (q_mA pix smp tr (q_nb p 1 dn ins) (q_fb z)) q_IM (q_mJ y pd), 34, 31630))) rfl rfl h241 ?_
              refine q_Ru_seg (g2 := (15, [(0, .int (lin - 4)), (1, .int 0), (2, .int 31)], [.int 1], (q_cM (q_mA pix smp tr (q_nb p 1 dn ins) (q_fb z)) q_IM (q_mJ y pd), 34, 31630))) 2 (fun _ _ => rfl) ?_
              exact q_Ru_ret rfl rfl
            show q_Ru _ _ _ (56, [(3, .int (lin - 4)), (2, .int 0), (1, .int col), (0, .ref 64)], [.int 1], (q_cM (q_mA pix smp tr (q_nb p 1 dn ins) (q_fb z)) q_IM (q_mJ y pd), 34, 31630)) _
            refine q_Ru_seg (g2 := (63, [(3, .int (lin - 4)), (2, .int 0), (1, .int col), (0, .ref 64)], [.int 19, .int 4, .int col], (q_cM (q_mA pix smp tr (q_nb p 1 dn ins) (q_fb z)) q_IM (q_mJ y pd), 34, 31630))) 4 (fun _ _ => rfl) ?_
            refine q_Ru_call (v := (some (.int 0))) (h2 := (q_cM (q_mA pix smp tr (q_nb p 1 dn ins) (q_fb z)) q_IM (q_mJ y pd), 34, 31630)) rfl rfl ?_ ?_
            · refine q_Ca_of (Nat.le_of_ble_eq_true rfl) ?_
              refine q_Ru_seg (g2 := (2, [(0, .int col), (1, .int 4), (2, .int 19)], [.int 4, .int col], (q_cM (q_mA pix smp tr (q_nb p 1 dn ins) (q_fb z)) q_IM (q_mJ y pd), 34, 31630))) 2 (fun _ _ => rfl) ?_
              refine q_Ru_rsT (g2 := (14, [(0, .int col), (1, .int 4), (2, .int 19)], [], (q_cM (q_mA pix smp tr (q_nb p 1 dn ins) (q_fb z)) q_IM (q_mJ y pd), 34, 31630))) rfl rfl h243 ?_
              refine q_Ru_seg (g2 := (15, [(0, .int col), (1, .int 4), (2, .int 19)], [.int 0], (q_cM (q_mA pix smp tr (q_nb p 1 dn ins) (q_fb z)) q_IM (q_mJ y pd), 34, 31630))) 1 (fun _ _ => rfl) ?_
              exact q_Ru_ret rfl rfl
            show q_Ru _ _ _ (66, [(3, .int (lin - 4)), (2, .int 0), (1, .int col), (0, .ref 64)], [.int 0], (q_cM (q_mA pix smp tr (q_nb p 1 dn ins) (q_fb z)) q_IM (q_mJ y pd), 34, 31630)) _
            refine q_Ru_seg (g2 := (92, [(3, .int (lin - 4)), (2, .int 0), (1, .int col), (0, .ref 64)], [.ref 64], (q_cM (q_mA pix smp tr (q_nb p 1 dn ins) (q_fb z)) q_IM (q_mJ y pd), 34, 31630))) 2 (fun _ _ => rfl) ?_
            refine q_Ru_call (v := none) (h2 := (q_cM (q_mA pix smp tr (q_nb p 1 dn ins) (q_fb z)) q_IM (q_mJ y pd), 34, 31630)) rfl rfl ?_ ?_
            · exact (q_m_times pix smp tr p 1 dn ins z y pd col lin p1 p2 hC hM c0 c1 l0 l1 a0 a1 b0 b1 hp0 hp1 hp2 i0 i1  ).le (Nat.le_of_ble_eq_true rfl)
            show q_Ru _ _ _ (95, [(3, .int (lin - 4)), (2, .int 0), (1, .int col), (0, .ref 64)], [], (q_cM (q_mA pix smp tr (q_nb p 1 dn ins) (q_fb z)) q_IM (q_mJ y pd), 34, 31630)) _
            refine q_Ru_seg (g2 := (96, [(3, .int (lin - 4)), (2, .int 0), (1, .int col), (0, .ref 64)], [.ref 64], (q_cM (q_mA pix smp tr (q_nb p 1 dn ins) (q_fb z)) q_IM (q_mJ y pd), 34, 31630))) 1 (fun _ _ => rfl) ?_
            refine q_Ru_call (v := none) (h2 := (q_cM (q_mA pix smp tr (q_nb p 1 dn ins) (q_fb z)) q_IM (q_mJ y pd), 34, 31630)) rfl rfl ?_ ?_
            · exact (q_m_winds pix smp tr p 1 dn ins z y pd col lin p1 p2 hC hM c0 c1 l0 l1 a0 a1 b0 b1 hp0 hp1 hp2 i0 i1  ).le (Nat.le_of_ble_eq_true rfl)
            show q_Ru _ _ _ (99, [(3, .int (lin - 4)), (2, .int 0), (1, .int col), (0, .ref 64)], [], (q_cM (q_mA pix smp tr (q_nb p 1 dn ins) (q_fb z)) q_IM (q_mJ y pd), 34, 31630)) _
            refine q_Ru_seg (g2 := (102, [(3, .int (lin - 4)), (2, .int 0), (1, .int col), (0, .ref 64)], [.int 23, .int col], (q_cM (q_mA pix smp tr (q_nb p 1 dn ins) (q_fb z)) q_IM (q_mJ y pd), 34, 31630))) 2 (fun _ _ => rfl) ?_
            refine q_Ru_rsT (g2 := (109, [(3, .int (lin - 4)), (2, .int 0), (1, .int col), (0, .ref 64)], [], (q_cM (q_mA pix smp tr (q_nb p 1 dn ins) (q_fb z)) q_IM (q_mJ y pd), 34, 31630))) rfl rfl (q_d_neF h244) ?_
            refine q_Ru_seg (g2 := (114, [(3, .int (lin - 4)), (2, .int 0), (1, .int col), (0, .ref 64)], [.ref 64], (q_cM (q_mA pix smp tr (q_nb p 1 dn ins) (q_fb z)) q_IM (q_mJ y pd), 34, 31630))) 3 (fun _ _ => rfl) ?_
            refine q_Ru_call (v := none) (h2 := (q_cM (q_mA pix smp z327a (q_nb p2 0 (dn + 1) (ins + 1)) (q_fb z327b)) q_IM (q_mJ y pd), 34, 31630)) rfl rfl ?_ ?_
            · exact p327.le (Nat.le_of_ble_eq_true rfl)
            show q_Ru _ _ _ (117, [(3, .int (lin - 4)), (2, .int 0), (1, .int col), (0, .ref 64)], [], (q_cM (q_mA pix smp z327a (q_nb p2 0 (dn + 1) (ins + 1)) (q_fb z327b)) q_IM (q_mJ y pd), 34, 31630)) _
            refine q_Ru_seg (g2 := (122, [(3, .int (lin - 4)), (2, .int 0), (1, .int col), (0, .ref 64)], [.long pd, .ref 64], (q_cM (q_mA pix smp z327a (q_nb p2 0 (dn + 1) (ins + 1)) (q_fb z327b)) q_IM (q_mJ y pd), 34, 31630))) 3 (fun _ _ => rfl) ?_
            refine q_Ru_seg (g2 := (140, [(3, .int (lin - 4)), (2, .int 0), (1, .int col), (0, .ref 64)], [.long y, .ref 64], (q_cM (q_mA pix smp z327a (q_nb p2 0 (dn + 1) (ins + 1)) (q_fb z327b)) q_IM (q_uI (q_mJ y pd) 0 16 (pd + 0)), 34, 31630))) 8 (fun _ _ => rfl) ?_
            refine q_Ru_seg (g2 := (146, [(3, .int (lin - 4)), (2, .int 0), (1, .int col), (0, .ref 64)], [.int 0], (q_cM (q_mA pix smp z327a (q_nb p2 0 (dn + 1) (ins + 1)) (q_fb z327b)) q_IM (q_uI (q_uI (q_mJ y pd) 0 16 (pd + 0)) 0 15 (y + 1)), 34, 31630))) 4 (fun _ _ => rfl) ?_
            exact q_Ru_ret rfl rfl
          | false =>
            cases h245 : decide (19 < col) with
            | true =>
              cases h246 : decide (col = 23) with
              | true =>
                have eh246 := of_decide_eq_true h246
                subst eh246
                obtain ⟨z332a, p332⟩ := q_m_sample pix smp tr p 1 dn ins z y pd col lin p1 p2 hC hM c0 c1 l0 l1 a0 a1 b0 b1 hp0 hp1 hp2 i0 i1  
                obtain ⟨z333a, z333b, p333⟩ := q_m_go1 pix z332a tr p dn ins z y pd col lin p1 p2 hC hM c0 c1 l0 l1 a0 a1 b0 b1 hp0 hp1 hp2 i0 i1  
                refine ⟨pix, z332a, z333a, z333b, ?_⟩
                refine q_Ca_of (Nat.le_of_ble_eq_true rfl) ?_
                refine q_Ru_seg (g2 := (4, [(0, .ref 64)], [.long y], (q_cM (q_mA pix smp tr (q_nb p 1 dn ins) (q_fb z)) q_IM (q_mJ y pd), 34, 31630))) 2 (fun _ _ => rfl) ?_
                refine q_Ru_seg (g2 := (9, [(0, .ref 64)], [.int ((y - y / 24 * 24).toInt32)], (q_cM (q_mA pix smp tr (q_nb p 1 dn ins) (q_fb z)) q_IM (q_mJ y pd), 34, 31630))) 3 (fun _ _ => rfl) ?_
                rw [hC]
                refine q_Ru_seg (g2 := (11, [(1, .int col), (0, .ref 64)], [.int col], (q_cM (q_mA pix smp tr (q_nb p 1 dn ins) (q_fb z)) q_IM (q_mJ y pd), 34, 31630))) 2 (fun _ _ => rfl) ?_
                refine q_Ru_rsF (g2 := (14, [(1, .int col), (0, .ref 64)], [], (q_cM (q_mA pix smp tr (q_nb p 1 dn ins) (q_fb z)) q_IM (q_mJ y pd), 34, 31630))) rfl rfl (q_d_neT h228) ?_
                refine q_Ru_seg (g2 := (15, [(1, .int col), (0, .ref 64)], [.ref 64], (q_cM (q_mA pix smp tr (q_nb p 1 dn ins) (q_fb z)) q_IM (q_mJ y pd), 34, 31630))) 1 (fun _ _ => rfl) ?_
                refine q_Ru_call (v := (some (.int lin))) (h2 := (q_cM (q_mA pix smp tr (q_nb p 1 dn ins) (q_fb z)) q_IM (q_mJ y pd), 34, 31630)) rfl rfl ?_ ?_
                · refine q_Ca_of (Nat.le_of_ble_eq_true rfl) ?_
                  refine q_Ru_seg (g2 := (4, [(0, .ref 64)], [.long y], (q_cM (q_mA pix smp tr (q_nb p 1 dn ins) (q_fb z)) q_IM (q_mJ y pd), 34, 31630))) 2 (fun _ _ => rfl) ?_
                  refine q_Ru_seg (g2 := (13, [(0, .ref 64)], [.int (((y / 24) - (y / 24) / 40 * 40).toInt32)], (q_cM (q_mA pix smp tr (q_nb p 1 dn ins) (q_fb z)) q_IM (q_mJ y pd), 34, 31630))) 5 (fun _ _ => rfl) ?_
                  rw [hM]
                  exact q_Ru_ret rfl rfl
                show q_Ru _ _ _ (18, [(1, .int col), (0, .ref 64)], [.int lin], (q_cM (q_mA pix smp tr (q_nb p 1 dn ins) (q_fb z)) q_IM (q_mJ y pd), 34, 31630)) _
                refine q_Ru_seg (g2 := (25, [(1, .int col), (0, .ref 64)], [.int 0, .int lin], (q_cM (q_mA pix smp tr (q_nb p 1 dn ins) (q_fb z)) q_IM (q_mJ y pd), 34, 31630))) 4 (fun _ _ => rfl) ?_
                refine q_Ru_rsT (g2 := (39, [(1, .int col), (0, .ref 64)], [], (q_cM (q_mA pix smp tr (q_nb p 1 dn ins) (q_fb z)) q_IM (q_mJ y pd), 34, 31630))) rfl rfl (q_d_neF h229) ?_
                refine q_Ru_seg (g2 := (40, [(1, .int col), (0, .ref 64)], [.ref 64], (q_cM (q_mA pix smp tr (q_nb p 1 dn ins) (q_fb z)) q_IM (q_mJ y pd), 34, 31630))) 1 (fun _ _ => rfl) ?_
                refine q_Ru_call (v := (some (.int 0))) (h2 := (q_cM (q_mA pix smp tr (q_nb p 1 dn ins) (q_fb z)) q_IM (q_mJ y pd), 34, 31630)) rfl rfl ?_ ?_
                · exact (by have e := q_m_picX pix smp tr p 1 dn ins z y pd col lin p1 p2 hC hM c0 c1 l0 l1 a0 a1 b0 b1 hp0 hp1 hp2 i0 i1; rw [hpic] at e; exact e.le (Nat.le_of_ble_eq_true rfl))
                show q_Ru _ _ _ (43, [(1, .int col), (0, .ref 64)], [.int 0], (q_cM (q_mA pix smp tr (q_nb p 1 dn ins) (q_fb z)) q_IM (q_mJ y pd), 34, 31630)) _
                refine q_Ru_seg (g2 := (45, [(2, .int 0), (1, .int col), (0, .ref 64)], [.ref 64], (q_cM (q_mA pix smp tr (q_nb p 1 dn ins) (q_fb z)) q_IM (q_mJ y pd), 34, 31630))) 2 (fun _ _ => rfl) ?_
                refine q_Ru_call (v := (some (.int (lin - 4)))) (h2 := (q_cM (q_mA pix smp tr (q_nb p 1 dn ins) (q_fb z)) q_IM (q_mJ y pd), 34, 31630)) rfl rfl ?_ ?_
                · refine q_Ca_of (Nat.le_of_ble_eq_true rfl) ?_
                  refine q_Ru_seg (g2 := (1, [(0, .ref 64)], [.ref 64], (q_cM (q_mA pix smp tr (q_nb p 1 dn ins) (q_fb z)) q_IM (q_mJ y pd), 34, 31630))) 1 (fun _ _ => rfl) ?_
                  refine q_Ru_call (v := (some (.int lin))) (h2 := (q_cM (q_mA pix smp tr (q_nb p 1 dn ins) (q_fb z)) q_IM (q_mJ y pd), 34, 31630)) rfl rfl ?_ ?_
                  · refine q_Ca_of (Nat.le_of_ble_eq_true rfl) ?_
                    refine q_Ru_seg (g2 := (4, [(0, .ref 64)], [.long y], (q_cM (q_mA pix smp tr (q_nb p 1 dn ins) (q_fb z)) q_IM (q_mJ y pd), 34, 31630))) 2 (fun _ _ => rfl) ?_
                    refine q_Ru_seg (g2 := (13, [(0, .ref 64)], [.int (((y / 24) - (y / 24) / 40 * 40).toInt32)], (q_cM (q_mA pix smp tr (q_nb p 1 dn ins) (q_fb z)) q_IM (q_mJ y pd), 34, 31630))) 5 (fun _ _ => rfl) ?_
                    rw [hM]
                    exact q_Ru_ret rfl rfl
                  show q_Ru _ _ _ (4, [(0, .ref 64)], [.int lin], (q_cM (q_mA pix smp tr (q_nb p 1 dn ins) (q_fb z)) q_IM (q_mJ y pd), 34, 31630)) _
                  refine q_Ru_seg (g2 := (6, [(0, .ref 64)], [.int (lin - 4)], (q_cM (q_mA pix smp tr (q_nb p 1 dn ins) (q_fb z)) q_IM (q_mJ y pd), 34, 31630))) 2 (fun _ _ => rfl) ?_
                  exact q_Ru_ret rfl rfl
                show q_Ru _ _ _ (48, [(2, .int 0), (1, .int col), (0, .ref 64)], [.int (lin - 4)], (q_cM (q_mA pix smp tr (q_nb p 1 dn ins) (q_fb z)) q_IM (q_mJ y pd), 34, 31630)) _
                refine q_Ru_seg (g2 := (53, [(3, .int (lin - 4)), (2, .int 0), (1, .int col), (0, .ref 64)], [.int 31, .int 0, .int (lin - 4)], (q_cM (q_mA pix smp tr (q_nb p 1 dn ins) (q_fb z)) q_IM (q_mJ y pd), 34, 31630))) 4 (fun _ _ => rfl) ?_
                refine q_Ru_call (v := (some (.int 1))) (h2 := (q_cM (q_mA pix smp tr (q_nb p 1 dn ins) (q_fb z)) q_IM (q_mJ y pd), 34, 31630)) rfl rfl ?_ ?_
                · refine q_Ca_of (Nat.le_of_ble_eq_true rfl) ?_
                  refine q_Ru_seg (g2 := (2, [(0, .int (lin - 4)), (1, .int 0), (2, .int 31)], [.int 0, .int (lin - 4)], (q_cM (q_mA pix smp tr (q_nb p 1 dn ins) (q_fb z)) q_IM (q_mJ y pd), 34, 31630))) 2 (fun _ _ => rfl) ?_
                  refine q_Ru_rsF (g2 := (5, [(0, .int (lin - 4)), (1, .int 0), (2, .int 31)], [], (q_cM (q_mA pix smp tr (q_nb p 1 dn ins) (q_fb z)) q_IM (q_mJ y pd), 34, 31630))) rfl rfl h239 ?_
                  refine q_Ru_seg (g2 := (7, [(0, .int (lin - 4)), (1, .int 0), (2, .int 31)], [.int 31, .int (lin - 4)], (q_cM (q_mA pix smp tr (q_nb p 1 dn ins) (q_fb z)) q_IM (q_mJ y pd), 34, 31630))) 2 (fun _ _ => rfl) ?_
                  refine q_Ru_rsF (g2 := (10, [(0, .int (lin - 4)), (1, .int 0), (2, .int 31)], [], (q_cM (q_mA pix smp tr (q_nb p 1 dn ins) (q_fb z)) q_IM (q_mJ y pd), 34, 31630))) rfl rfl h241 ?_
                  refine q_Ru_seg (g2 := (15, [(0, .int (lin - 4)), (1, .int 0), (2, .int 31)], [.int 1], (q_cM (q_mA pix smp tr (q_nb p 1 dn ins) (q_fb z)) q_IM (q_mJ y pd), 34, 31630))) 2 (fun _ _ => rfl) ?_
                  exact q_Ru_ret rfl rfl
                show q_Ru _ _ _ (56, [(3, .int (lin - 4)), (2, .int 0), (1, .int col), (0, .ref 64)], [.int 1], (q_cM (q_mA pix smp tr (q_nb p 1 dn ins) (q_fb z)) q_IM (q_mJ y pd), 34, 31630)) _
                refine q_Ru_seg (g2 := (63, [(3, .int (lin - 4)), (2, .int 0), (1, .int col), (0, .ref 64)], [.int 19, .int 4, .int col], (q_cM (q_mA pix smp tr (q_nb p 1 dn ins) (q_fb z)) q_IM (q_mJ y pd), 34, 31630))) 4 (fun _ _ => rfl) ?_
                refine q_Ru_call (v := (some (.int 0))) (h2 := (q_cM (q_mA pix smp tr (q_nb p 1 dn ins) (q_fb z)) q_IM (q_mJ y pd), 34, 31630)) rfl rfl ?_ ?_
                · refine q_Ca_of (Nat.le_of_ble_eq_true rfl) ?_
                  refine q_Ru_seg (g2 := (2, [(0, .int col), (1, .int 4), (2, .int 19)], [.int 4, .int col], (q_cM (q_mA pix smp tr (q_nb p 1 dn ins) (q_fb z)) q_IM (q_mJ y pd), 34, 31630))) 2 (fun _ _ => rfl) ?_
                  refine q_Ru_rsF (g2 := (5, [(0, .int col), (1, .int 4), (2, .int 19)], [], (q_cM (q_mA pix smp tr (q_nb p 1 dn ins) (q_fb z)) q_IM (q_mJ y pd), 34, 31630))) rfl rfl h243 ?_
                  refine q_Ru_seg (g2 := (7, [(0, .int col), (1, .int 4), (2, .int 19)], [.int 19, .int col], (q_cM (q_mA pix smp tr (q_nb p 1 dn ins) (q_fb z)) q_IM (q_mJ y pd), 34, 31630))) 2 (fun _ _ => rfl) ?_
                  refine q_Ru_rsT (g2 := (14, [(0, .int col), (1, .int 4), (2, .int 19)], [], (q_cM (q_mA pix smp tr (q_nb p 1 dn ins) (q_fb z)) q_IM (q_mJ y pd), 34, 31630))) rfl rfl h245 ?_
                  refine q_Ru_seg (g2 := (15, [(0, .int col), (1, .int 4), (2, .int 19)], [.int 0], (q_cM (q_mA pix smp tr (q_nb p 1 dn ins) (q_fb z)) q_IM (q_mJ y pd), 34, 31630))) 1 (fun _ _ => rfl) ?_
                  exact q_Ru_ret rfl rfl
                show q_Ru _ _ _ (66, [(3, .int (lin - 4)), (2, .int 0), (1, .int col), (0, .ref 64)], [.int 0], (q_cM (q_mA pix smp tr (q_nb p 1 dn ins) (q_fb z)) q_IM (q_mJ y pd), 34, 31630)) _
                refine q_Ru_seg (g2 := (92, [(3, .int (lin - 4)), (2, .int 0), (1, .int col), (0, .ref 64)], [.ref 64], (q_cM (q_mA pix smp tr (q_nb p 1 dn ins) (q_fb z)) q_IM (q_mJ y pd), 34, 31630))) 2 (fun _ _ => rfl) ?_
                refine q_Ru_call (v := none) (h2 := (q_cM (q_mA pix smp tr (q_nb p 1 dn ins) (q_fb z)) q_IM (q_mJ y pd), 34, 31630)) rfl rfl ?_ ?_
                · exact (q_m_times pix smp tr p 1 dn ins z y pd col lin p1 p2 hC hM c0 c1 l0 l1 a0 a1 b0 b1 hp0 hp1 hp2 i0 i1  ).le (Nat.le_of_ble_eq_true rfl)
                show q_Ru _ _ _ (95, [(3, .int (lin - 4)), (2, .int 0), (1, .int col), (0, .ref 64)], [], (q_cM (q_mA pix smp tr (q_nb p 1 dn ins) (q_fb z)) q_IM (q_mJ y pd), 34, 31630)) _
                refine q_Ru_seg (g2 := (96, [(3, .int (lin - 4)), (2, .int 0), (1, .int col), (0, .ref 64)], [.ref 64], (q_cM (q_mA pix smp tr (q_nb p 1 dn ins) (q_fb z)) q_IM (q_mJ y pd), 34, 31630))) 1 (fun _ _ => rfl) ?_
                refine q_Ru_call (v := none) (h2 := (q_cM (q_mA pix smp tr (q_nb p 1 dn ins) (q_fb z)) q_IM (q_mJ y pd), 34, 31630)) rfl rfl ?_ ?_
                · exact (q_m_winds pix smp tr p 1 dn ins z y pd col lin p1 p2 hC hM c0 c1 l0 l1 a0 a1 b0 b1 hp0 hp1 hp2 i0 i1  ).le (Nat.le_of_ble_eq_true rfl)
                show q_Ru _ _ _ (99, [(3, .int (lin - 4)), (2, .int 0), (1, .int col), (0, .ref 64)], [], (q_cM (q_mA pix smp tr (q_nb p 1 dn ins) (q_fb z)) q_IM (q_mJ y pd), 34, 31630)) _
                refine q_Ru_seg (g2 := (102, [(3, .int (lin - 4)), (2, .int 0), (1, .int col), (0, .ref 64)], [.int 23, .int col], (q_cM (q_mA pix smp tr (q_nb p 1 dn ins) (q_fb z)) q_IM (q_mJ y pd), 34, 31630))) 2 (fun _ _ => rfl) ?_
                refine q_Ru_rsF (g2 := (105, [(3, .int (lin - 4)), (2, .int 0), (1, .int col), (0, .ref 64)], [], (q_cM (q_mA pix smp tr (q_nb p 1 dn ins) (q_fb z)) q_IM (q_mJ y pd), 34, 31630))) rfl rfl (q_d_neT h246) ?_
                refine q_Ru_seg (g2 := (106, [(3, .int (lin - 4)), (2, .int 0), (1, .int col), (0, .ref 64)], [.ref 64], (q_cM (q_mA pix smp tr (q_nb p 1 dn ins) (q_fb z)) q_IM (q_mJ y pd), 34, 31630))) 1 (fun _ _ => rfl) ?_
                refine q_Ru_call (v := none) (h2 := (q_cM (q_mA pix z332a tr (q_nb p 1 dn ins) (q_fb z)) q_IM (q_mJ y pd), 34, 31630)) rfl rfl ?_ ?_
                · exact p332.le (Nat.le_of_ble_eq_true rfl)
                show q_Ru _ _ _ (109, [(3, .int (lin - 4)), (2, .int 0), (1, .int col), (0, .ref 64)], [], (q_cM (q_mA pix z332a tr (q_nb p 1 dn ins) (q_fb z)) q_IM (q_mJ y pd), 34, 31630)) _
                refine q_Ru_seg (g2 := (114, [(3, .int (lin - 4)), (2, .int 0), (1, .int col), (0, .ref 64)], [.ref 64], (q_cM (q_mA pix z332a tr (q_nb p 1 dn ins) (q_fb z)) q_IM (q_mJ y pd), 34, 31630))) 3 (fun _ _ => rfl) ?_
                refine q_Ru_call (v := none) (h2 := (q_cM (q_mA pix z332a z333a (q_nb p2 0 (dn + 1) (ins + 1)) (q_fb z333b)) q_IM (q_mJ y pd), 34, 31630)) rfl rfl ?_ ?_
                · exact p333.le (Nat.le_of_ble_eq_true rfl)
                show q_Ru _ _ _ (117, [(3, .int (lin - 4)), (2, .int 0), (1, .int col), (0, .ref 64)], [], (q_cM (q_mA pix z332a z333a (q_nb p2 0 (dn + 1) (ins + 1)) (q_fb z333b)) q_IM (q_mJ y pd), 34, 31630)) _
                refine q_Ru_seg (g2 := (122, [(3, .int (lin - 4)), (2, .int 0), (1, .int col), (0, .ref 64)], [.long pd, .ref 64], (q_cM (q_mA pix z332a z333a (q_nb p2 0 (dn + 1) (ins + 1)) (q_fb z333b)) q_IM (q_mJ y pd), 34, 31630))) 3 (fun _ _ => rfl) ?_
                refine q_Ru_seg (g2 := (140, [(3, .int (lin - 4)), (2, .int 0), (1, .int col), (0, .ref 64)], [.long y, .ref 64], (q_cM (q_mA pix z332a z333a (q_nb p2 0 (dn + 1) (ins + 1)) (q_fb z333b)) q_IM (q_uI (q_mJ y pd) 0 16 (pd + 0)), 34, 31630))) 8 (fun _ _ => rfl) ?_
                refine q_Ru_seg (g2 := (146, [(3, .int (lin - 4)), (2, .int 0), (1, .int col), (0, .ref 64)], [.int 0], (q_cM (q_mA pix z332a z333a (q_nb p2 0 (dn + 1) (ins + 1)) (q_fb z333b)) q_IM (q_uI (q_uI (q_mJ y pd) 0 16 (pd + 0)) 0 15 (y + 1)), 34, 31630))) 4 (fun _ _ => rfl) ?_
                exact q_Ru_ret rfl rfl
              | false =>
                obtain ⟨z336a, z336b, p336⟩ := q_m_go1 pix smp tr p dn ins z y pd col lin p1 p2 hC hM c0 c1 l0 l1 a0 a1 b0 b1 hp0 hp1 hp2 i0 i1  
                refine ⟨pix, smp, z336a, z336b, ?_⟩
                refine q_Ca_of (Nat.le_of_ble_eq_true rfl) ?_
                refine q_Ru_seg (g2 := (4, [(0, .ref 64)], [.long y], (q_cM (q_mA pix smp tr (q_nb p 1 dn ins) (q_fb z)) q_IM (q_mJ y pd), 34, 31630))) 2 (fun _ _ => rfl) ?_
                refine q_Ru_seg (g2 := (9, [(0, .ref 64)], [.int ((y - y / 24 * 24).toInt32)], (q_cM (q_mA pix smp tr (q_nb p 1 dn ins) (q_fb z)) q_IM (q_mJ y pd), 34, 31630))) 3 (fun _ _ => rfl) ?_
                rw [hC]
                refine q_Ru_seg (g2 := (11, [(1, .int col), (0, .ref 64)], [.int col], (q_cM (q_mA pix smp tr (q_nb p 1 dn ins) (q_fb z)) q_IM (q_mJ y pd), 34, 31630))) 2 (fun _ _ => rfl) ?_
                refine q_Ru_rsF (g2 := (14, [(1, .int col), (0, .ref 64)], [], (q_cM (q_mA pix smp tr (q_nb p 1 dn ins) (q_fb z)) q_IM (q_mJ y pd), 34, 31630))) rfl rfl (q_d_neT h228) ?_
                refine q_Ru_seg (g2 := (15, [(1, .int col), (0, .ref 64)], [.ref 64], (q_cM (q_mA pix smp tr (q_nb p 1 dn ins) (q_fb z)) q_IM (q_mJ y pd), 34, 31630))) 1 (fun _ _ => rfl) ?_
                refine q_Ru_call (v := (some (.int lin))) (h2 := (q_cM (q_mA pix smp tr (q_nb p 1 dn ins) (q_fb z)) q_IM (q_mJ y pd), 34, 31630)) rfl rfl ?_ ?_
                · refine q_Ca_of (Nat.le_of_ble_eq_true rfl) ?_
                  refine q_Ru_seg (g2 := (4, [(0, .ref 64)], [.long y], (q_cM (q_mA pix smp tr (q_nb p 1 dn ins) (q_fb z)) q_IM (q_mJ y pd), 34, 31630))) 2 (fun _ _ => rfl) ?_
                  refine q_Ru_seg (g2 := (13, [(0, .ref 64)], [.int (((y / 24) - (y / 24) / 40 * 40).toInt32)], (q_cM (q_mA pix smp tr (q_nb p 1 dn ins) (q_fb z)) q_IM (q_mJ y pd), 34, 31630))) 5 (fun _ _ => rfl) ?_
                  rw [hM]
                  exact q_Ru_ret rfl rfl
                show q_Ru _ _ _ (18, [(1, .int col), (0, .ref 64)], [.int lin], (q_cM (q_mA pix smp tr (q_nb p 1 dn ins) (q_fb z)) q_IM (q_mJ y pd), 34, 31630)) _
                refine q_Ru_seg (g2 := (25, [(1, .int col), (0, .ref 64)], [.int 0, .int lin], (q_cM (q_mA pix smp tr (q_nb p 1 dn ins) (q_fb z)) q_IM (q_mJ y pd), 34, 31630))) 4 (fun _ _ => rfl) ?_
                refine q_Ru_rsT (g2 := (39, [(1, .int col), (0, .ref 64)], [], (q_cM (q_mA pix smp tr (q_nb p 1 dn ins) (q_fb z)) q_IM (q_mJ y pd), 34, 31630))) rfl rfl (q_d_neF h229) ?_
                refine q_Ru_seg (g2 := (40, [(1, .int col), (0, .ref 64)], [.ref 64], (q_cM (q_mA pix smp tr (q_nb p 1 dn ins) (q_fb z)) q_IM (q_mJ y pd), 34, 31630))) 1 (fun _ _ => rfl) ?_
                refine q_Ru_call (v := (some (.int 0))) (h2 := (q_cM (q_mA pix smp tr (q_nb p 1 dn ins) (q_fb z)) q_IM (q_mJ y pd), 34, 31630)) rfl rfl ?_ ?_
                · exact (by have e := q_m_picX pix smp tr p 1 dn ins z y pd col lin p1 p2 hC hM c0 c1 l0 l1 a0 a1 b0 b1 hp0 hp1 hp2 i0 i1; rw [hpic] at e; exact e.le (Nat.le_of_ble_eq_true rfl))
                show q_Ru _ _ _ (43, [(1, .int col), (0, .ref 64)], [.int 0], (q_cM (q_mA pix smp tr (q_nb p 1 dn ins) (q_fb z)) q_IM (q_mJ y pd), 34, 31630)) _
                refine q_Ru_seg (g2 := (45, [(2, .int 0), (1, .int col), (0, .ref 64)], [.ref 64], (q_cM (q_mA pix smp tr (q_nb p 1 dn ins) (q_fb z)) q_IM (q_mJ y pd), 34, 31630))) 2 (fun _ _ => rfl) ?_
                refine q_Ru_call (v := (some (.int (lin - 4)))) (h2 := (q_cM (q_mA pix smp tr (q_nb p 1 dn ins) (q_fb z)) q_IM (q_mJ y pd), 34, 31630)) rfl rfl ?_ ?_
                · refine q_Ca_of (Nat.le_of_ble_eq_true rfl) ?_
                  refine q_Ru_seg (g2 := (1, [(0, .ref 64)], [.ref 64], (q_cM (q_mA pix smp tr (q_nb p 1 dn ins) (q_fb z)) q_IM (q_mJ y pd), 34, 31630))) 1 (fun _ _ => rfl) ?_
                  refine q_Ru_call (v := (some (.int lin))) (h2 := (q_cM (q_mA pix smp tr (q_nb p 1 dn ins) (q_fb z)) q_IM (q_mJ y pd), 34, 31630)) rfl rfl ?_ ?_
                  · refine q_Ca_of (Nat.le_of_ble_eq_true rfl) ?_
                    refine q_Ru_seg (g2 := (4, [(0, .ref 64)], [.long y], (q_cM (q_mA pix smp tr (q_nb p 1 dn ins) (q_fb z)) q_IM (q_mJ y pd), 34, 31630))) 2 (fun _ _ => rfl) ?_
                    refine q_Ru_seg (g2 := (13, [(0, .ref 64)], [.int (((y / 24) - (y / 24) / 40 * 40).toInt32)], (q_cM (q_mA pix smp tr (q_nb p 1 dn ins) (q_fb z)) q_IM (q_mJ y pd), 34, 31630))) 5 (fun _ _ => rfl) ?_
                    rw [hM]
                    exact q_Ru_ret rfl rfl
                  show q_Ru _ _ _ (4, [(0, .ref 64)], [.int lin], (q_cM (q_mA pix smp tr (q_nb p 1 dn ins) (q_fb z)) q_IM (q_mJ y pd), 34, 31630)) _
                  refine q_Ru_seg (g2 := (6, [(0, .ref 64)], [.int (lin - 4)], (q_cM (q_mA pix smp tr (q_nb p 1 dn ins) (q_fb z)) q_IM (q_mJ y pd), 34, 31630))) 2 (fun _ _ => rfl) ?_
                  exact q_Ru_ret rfl rfl
                show q_Ru _ _ _ (48, [(2, .int 0), (1, .int col), (0, .ref 64)], [.int (lin - 4)], (q_cM (q_mA pix smp tr (q_nb p 1 dn ins) (q_fb z)) q_IM (q_mJ y pd), 34, 31630)) _
                refine q_Ru_seg (g2 := (53, [(3, .int (lin - 4)), (2, .int 0), (1, .int col), (0, .ref 64)], [.int 31, .int 0, .int (lin - 4)], (q_cM (q_mA pix smp tr (q_nb p 1 dn ins) (q_fb z)) q_IM (q_mJ y pd), 34, 31630))) 4 (fun _ _ => rfl) ?_
                refine q_Ru_call (v := (some (.int 1))) (h2 := (q_cM (q_mA pix smp tr (q_nb p 1 dn ins) (q_fb z)) q_IM (q_mJ y pd), 34, 31630)) rfl rfl ?_ ?_
                · refine q_Ca_of (Nat.le_of_ble_eq_true rfl) ?_
                  refine q_Ru_seg (g2 := (2, [(0, .int (lin - 4)), (1, .int 0), (2, .int 31)], [.int 0, .int (lin - 4)], (q_cM (q_mA pix smp tr (q_nb p 1 dn ins) (q_fb z)) q_IM (q_mJ y pd), 34, 31630))) 2 (fun _ _ => rfl) ?_
                  refine q_Ru_rsF (g2 := (5, [(0, .int (lin - 4)), (1, .int 0), (2, .int 31)], [], (q_cM (q_mA pix smp tr (q_nb p 1 dn ins) (q_fb z)) q_IM (q_mJ y pd), 34, 31630))) rfl rfl h239 ?_
                  refine q_Ru_seg (g2 := (7, [(0, .int (lin - 4)), (1, .int 0), (2, .int 31)], [.int 31, .int (lin - 4)], (q_cM (q_mA pix smp tr (q_nb p 1 dn ins) (q_fb z)) q_IM (q_mJ y pd), 34, 31630))) 2 (fun _ _ => rfl) ?_
                  refine q_Ru_rsF (g2 := (10, [(0, .int (lin - 4)), (1, .int 0), (2, .int 31)], [], (q_cM (q_mA pix smp tr (q_nb p 1 dn ins) (q_fb z)) q_IM (q_mJ y pd), 34, 31630))) rfl rfl h241 ?_
                  refine q_Ru_seg (g2 := (15, [(0, .int (lin - 4)), (1, .int 0), (2, .int 31)], [.int 1], (q_cM (q_mA pix smp tr (q_nb p 1 dn ins) (q_fb z)) q_IM (q_mJ y pd), 34, 31630))) 2 (fun _ _ => rfl) ?_
                  exact q_Ru_ret rfl rfl
                show q_Ru _ _ _ (56, [(3, .int (lin - 4)), (2, .int 0), (1, .int col), (0, .ref 64)], [.int 1], (q_cM (q_mA pix smp tr (q_nb p 1 dn ins) (q_fb z)) q_IM (q_mJ y pd), 34, 31630)) _
                refine q_Ru_seg (g2 := (63, [(3, .int (lin - 4)), (2, .int 0), (1, .int col), (0, .ref 64)], [.int 19, .int 4, .int col], (q_cM (q_mA pix smp tr (q_nb p 1 dn ins) (q_fb z)) q_IM (q_mJ y pd), 34, 31630))) 4 (fun _ _ => rfl) ?_
                refine q_Ru_call (v := (some (.int 0))) (h2 := (q_cM (q_mA pix smp tr (q_nb p 1 dn ins) (q_fb z)) q_IM (q_mJ y pd), 34, 31630)) rfl rfl ?_ ?_
                · refine q_Ca_of (Nat.le_of_ble_eq_true rfl) ?_
                  refine q_Ru_seg (g2 := (2, [(0, .int col), (1, .int 4), (2, .int 19)], [.int 4, .int col], (q_cM (q_mA pix smp tr (q_nb p 1 dn ins) (q_fb z)) q_IM (q_mJ y pd), 34, 31630))) 2 (fun _ _ => rfl) ?_
                  refine q_Ru_rsF (g2 := (5, [(0, .int col), (1, .int 4), (2, .int 19)], [], (q_cM (q_mA pix smp tr (q_nb p 1 dn ins) (q_fb z)) q_IM (q_mJ y pd), 34, 31630))) rfl rfl h243 ?_
                  refine q_Ru_seg (g2 := (7, [(0, .int col), (1, .int 4), (2, .int 19)], [.int 19, .int col], (q_cM (q_mA pix smp tr (q_nb p 1 dn ins) (q_fb z)) q_IM (q_mJ y pd), 34, 31630))) 2 (fun _ _ => rfl) ?_
                  refine q_Ru_rsT (g2 := (14, [(0, .int col), (1, .int 4), (2, .int 19)], [], (q_cM (q_mA pix smp tr (q_nb p 1 dn ins) (q_fb z)) q_IM (q_mJ y pd), 34, 31630))) rfl rfl h245 ?_
                  refine q_Ru_seg (g2 := (15, [(0, .int col), (1, .int 4), (2, .int 19)], [.int 0], (q_cM (q_mA pix smp tr (q_nb p 1 dn ins) (q_fb z)) q_IM (q_mJ y pd), 34, 31630))) 1 (fun _ _ => rfl) ?_
                  exact q_Ru_ret rfl rfl
                show q_Ru _ _ _ (66, [(3, .int (lin - 4)), (2, .int 0), (1, .int col), (0, .ref 64)], [.int 0], (q_cM (q_mA pix smp tr (q_nb p 1 dn ins) (q_fb z)) q_IM (q_mJ y pd), 34, 31630)) _
                refine q_Ru_seg (g2 := (92, [(3, .int (lin - 4)), (2, .int 0), (1, .int col), (0, .ref 64)], [.ref 64], (q_cM (q_mA pix smp tr (q_nb p 1 dn ins) (q_fb z)) q_IM (q_mJ y pd), 34, 31630))) 2 (fun _ _ => rfl) ?_
                refine q_Ru_call (v := none) (h2 := (q_cM (q_mA pix smp tr (q_nb p 1 dn ins) (q_fb z)) q_IM (q_mJ y pd), 34, 31630)) rfl rfl ?_ ?_
                · exact (q_m_times pix smp tr p 1 dn ins z y pd col lin p1 p2 hC hM c0 c1 l0 l1 a0 a1 b0 b1 hp0 hp1 hp2 i0 i1  ).le (Nat.le_of_ble_eq_true rfl)
                show q_Ru _ _ _ (95, [(3, .int (lin - 4)), (2, .int 0), (1, .int col), (0, .ref 64)], [], (q_cM (q_mA pix smp tr (q_nb p 1 dn ins) (q_fb z)) q_IM (q_mJ y pd), 34, 31630)) _
                refine q_Ru_seg (g2 := (96, [(3, .int (lin - 4)), (2, .int 0), (1, .int col), (0, .ref 64)], [.ref 64], (q_cM (q_mA pix smp tr (q_nb p 1 dn ins) (q_fb z)) q_IM (q_mJ y pd), 34, 31630))) 1 (fun _ _ => rfl) ?_
                refine q_Ru_call (v := none) (h2 := (q_cM (q_mA pix smp tr (q_nb p 1 dn ins) (q_fb z)) q_IM (q_mJ y pd), 34, 31630)) rfl rfl ?_ ?_
                · exact (q_m_winds pix smp tr p 1 dn ins z y pd col lin p1 p2 hC hM c0 c1 l0 l1 a0 a1 b0 b1 hp0 hp1 hp2 i0 i1  ).le (Nat.le_of_ble_eq_true rfl)
                show q_Ru _ _ _ (99, [(3, .int (lin - 4)), (2, .int 0), (1, .int col), (0, .ref 64)], [], (q_cM (q_mA pix smp tr (q_nb p 1 dn ins) (q_fb z)) q_IM (q_mJ y pd), 34, 31630)) _
                refine q_Ru_seg (g2 := (102, [(3, .int (lin - 4)), (2, .int 0), (1, .int col), (0, .ref 64)], [.int 23, .int col], (q_cM (q_mA pix smp tr (q_nb p 1 dn ins) (q_fb z)) q_IM (q_mJ y pd), 34, 31630))) 2 (fun _ _ => rfl) ?_
                refine q_Ru_rsT (g2 := (109, [(3, .int (lin - 4)), (2, .int 0), (1, .int col), (0, .ref 64)], [], (q_cM (q_mA pix smp tr (q_nb p 1 dn ins) (q_fb z)) q_IM (q_mJ y pd), 34, 31630))) rfl rfl (q_d_neF h246) ?_
                refine q_Ru_seg (g2 := (114, [(3, .int (lin - 4)), (2, .int 0), (1, .int col), (0, .ref 64)], [.ref 64], (q_cM (q_mA pix smp tr (q_nb p 1 dn ins) (q_fb z)) q_IM (q_mJ y pd), 34, 31630))) 3 (fun _ _ => rfl) ?_
                refine q_Ru_call (v := none) (h2 := (q_cM (q_mA pix smp z336a (q_nb p2 0 (dn + 1) (ins + 1)) (q_fb z336b)) q_IM (q_mJ y pd), 34, 31630)) rfl rfl ?_ ?_
                · exact p336.le (Nat.le_of_ble_eq_true rfl)
                show q_Ru _ _ _ (117, [(3, .int (lin - 4)), (2, .int 0), (1, .int col), (0, .ref 64)], [], (q_cM (q_mA pix smp z336a (q_nb p2 0 (dn + 1) (ins + 1)) (q_fb z336b)) q_IM (q_mJ y pd), 34, 31630)) _
                refine q_Ru_seg (g2 := (122, [(3, .int (lin - 4)), (2, .int 0), (1, .int col), (0, .ref 64)], [.long pd, .ref 64], (q_cM (q_mA pix smp z336a (q_nb p2 0 (dn + 1) (ins + 1)) (q_fb z336b)) q_IM (q_mJ y pd), 34, 31630))) 3 (fun _ _ => rfl) ?_
                refine q_Ru_seg (g2 := (140, [(3, .int (lin - 4)), (2, .int 0), (1, .int col), (0, .ref 64)], [.long y, .ref 64], (q_cM (q_mA pix smp z336a (q_nb p2 0 (dn + 1) (ins + 1)) (q_fb z336b)) q_IM (q_uI (q_mJ y pd) 0 16 (pd + 0)), 34, 31630))) 8 (fun _ _ => rfl) ?_
                refine q_Ru_seg (g2 := (146, [(3, .int (lin - 4)), (2, .int 0), (1, .int col), (0, .ref 64)], [.int 0], (q_cM (q_mA pix smp z336a (q_nb p2 0 (dn + 1) (ins + 1)) (q_fb z336b)) q_IM (q_uI (q_uI (q_mJ y pd) 0 16 (pd + 0)) 0 15 (y + 1)), 34, 31630))) 4 (fun _ _ => rfl) ?_
                exact q_Ru_ret rfl rfl
            | false =>
              have h247 : decide (col = 23) = false := q_not_tr (q_tbl1 (fun col => !decide (col = 23)) (l := 4) (n := 15) (by decide +kernel) (q_lo1 h243) (q_hi2 h245))
              obtain ⟨x341, p341⟩ := q_m_draws pix smp tr p 1 dn ins z y pd ((2 * col) - 8) (lin - 4) (of_decide_eq_true (q_tbl1 (fun col => decide (0 ≤ ((2 * col) - 8).toInt ∧ ((2 * col) - 8).toInt ≤ 31)) (l := 4) (n := 15) (by decide +kernel) (q_lo1 h243) (q_hi2 h245))).1 (of_decide_eq_true (q_tbl1 (fun col => decide (0 ≤ ((2 * col) - 8).toInt ∧ ((2 * col) - 8).toInt ≤ 31)) (l := 4) (n := 15) (by decide +kernel) (q_lo1 h243) (q_hi2 h245))).2 (of_decide_eq_true (q_tbl1 (fun lin => decide (0 ≤ (lin - 4).toInt ∧ (lin - 4).toInt ≤ 31)) (l := 4) (n := 31) (by decide +kernel) (q_sub_lo 4 (q_lo1 h239) l0 l1) (q_sub_hi 35 (q_hi2 h241) (q_sub_lo 4 (q_lo1 h239) l0 l1) l1))).1 (of_decide_eq_true (q_tbl1 (fun lin => decide (0 ≤ (lin - 4).toInt ∧ (lin - 4).toInt ≤ 31)) (l := 4) (n := 31) (by decide +kernel) (q_sub_lo 4 (q_lo1 h239) l0 l1) (q_sub_hi 35 (q_hi2 h241) (q_sub_lo 4 (q_lo1 h239) l0 l1) l1))).2
              obtain ⟨x342, p342⟩ := q_m_draws x341 smp tr p 1 dn ins z y pd ((2 * col) - 7) (lin - 4) (of_decide_eq_true (q_tbl1 (fun col => decide (0 ≤ ((2 * col) - 7).toInt ∧ ((2 * col) - 7).toInt ≤ 31)) (l := 4) (n := 15) (by decide +kernel) (q_lo1 h243) (q_hi2 h245))).1 (of_decide_eq_true (q_tbl1 (fun col => decide (0 ≤ ((2 * col) - 7).toInt ∧ ((2 * col) - 7).toInt ≤ 31)) (l := 4) (n := 15) (by decide +kernel) (q_lo1 h243) (q_hi2 h245))).2 (of_decide_eq_true (q_tbl1 (fun lin => decide (0 ≤ (lin - 4).toInt ∧ (lin - 4).toInt ≤ 31)) (l := 4) (n := 31) (by decide +kernel) (q_sub_lo 4 (q_lo1 h239) l0 l1) (q_sub_hi 35 (q_hi2 h241) (q_sub_lo 4 (q_lo1 h239) l0 l1) l1))).1 (of_decide_eq_true (q_tbl1 (fun lin => decide (0 ≤ (lin - 4).toInt ∧ (lin - 4).toInt ≤ 31)) (l := 4) (n := 31) (by decide +kernel) (q_sub_lo 4 (q_lo1 h239) l0 l1) (q_sub_hi 35 (q_hi2 h241) (q_sub_lo 4 (q_lo1 h239) l0 l1) l1))).2
              obtain ⟨z345a, z345b, p345⟩ := q_m_go1 x342 smp tr p dn ins z y pd col lin p1 p2 hC hM c0 c1 l0 l1 a0 a1 b0 b1 hp0 hp1 hp2 i0 i1  
              refine ⟨x342, smp, z345a, z345b, ?_⟩
              refine q_Ca_of (Nat.le_of_ble_eq_true rfl) ?_
              refine q_Ru_seg (g2 := (4, [(0, .ref 64)], [.long y], (q_cM (q_mA pix smp tr (q_nb p 1 dn ins) (q_fb z)) q_IM (q_mJ y pd), 34, 31630))) 2 (fun _ _ => rfl) ?_
              refine q_Ru_seg (g2 := (9, [(0, .ref 64)], [.int ((y - y / 24 * 24).toInt32)], (q_cM (q_mA pix smp tr (q_nb p 1 dn ins) (q_fb z)) q_IM (q_mJ y pd), 34, 31630))) 3 (fun _ _ => rfl) ?_
              rw [hC]
              refine q_Ru_seg (g2 := (11, [(1, .int col), (0, .ref 64)], [.int col], (q_cM (q_mA pix smp tr (q_nb p 1 dn ins) (q_fb z)) q_IM (q_mJ y pd), 34, 31630))) 2 (fun _ _ => rfl) ?_
              refine q_Ru_rsF (g2 := (14, [(1, .int col), (0, .ref 64)], [], (q_cM (q_mA pix smp tr (q_nb p 1 dn ins) (q_fb z)) q_IM (q_mJ y pd), 34, 31630))) rfl rfl (q_d_neT h228) ?_
              refine q_Ru_seg (g2 := (15, [(1, .int col), (0, .ref 64)], [.ref 64], (q_cM (q_mA pix smp tr (q_nb p 1 dn ins) (q_fb z)) q_IM (q_mJ y pd), 34, 31630))) 1 (fun _ _ => rfl) ?_
              refine q_Ru_call (v := (some (.int lin))) (h2 := (q_cM (q_mA pix smp tr (q_nb p 1 dn ins) (q_fb z)) q_IM (q_mJ y pd), 34, 31630)) rfl rfl ?_ ?_
              · refine q_Ca_of (Nat.le_of_ble_eq_true rfl) ?_
                refine q_Ru_seg (g2 := (4, [(0, .ref 64)], [.long y], (q_cM (q_mA pix smp tr (q_nb p 1 dn ins) (q_fb z)) q_IM (q_mJ y pd), 34, 31630))) 2 (fun _ _ => rfl) ?_
                refine q_Ru_seg (g2 := (13, [(0, .ref 64)], [.int (((y / 24) - (y / 24) / 40 * 40).toInt32)], (q_cM (q_mA pix smp tr (q_nb p 1 dn ins) (q_fb z)) q_IM (q_mJ y pd), 34, 31630))) 5 (fun _ _ => rfl) ?_
                rw [hM]
                exact q_Ru_ret rfl rfl
              show q_Ru _ _ _ (18, [(1, .int col), (0, .ref 64)], [.int lin], (q_cM (q_mA pix smp tr (q_nb p 1 dn ins) (q_fb z)) q_IM (q_mJ y pd), 34, 31630)) _
              refine q_Ru_seg (g2 := (25, [(1, .int col), (0, .ref 64)], [.int 0, .int lin], (q_cM (q_mA pix smp tr (q_nb p 1 dn ins) (q_fb z)) q_IM (q_mJ y pd), 34, 31630))) 4 (fun _ _ => rfl) ?_
              refine q_Ru_rsT (g2 := (39, [(1, .int col), (0, .ref 64)], [], (q_cM (q_mA pix smp tr (q_nb p 1 dn ins) (q_fb z)) q_IM (q_mJ y pd), 34, 31630))) rfl rfl (q_d_neF h229) ?_
              refine q_Ru_seg (g2 := (40, [(1, .int col), (0, .ref 64)], [.ref 64], (q_cM (q_mA pix smp tr (q_nb p 1 dn ins) (q_fb z)) q_IM (q_mJ y pd), 34, 31630))) 1 (fun _ _ => rfl) ?_
              refine q_Ru_call (v := (some (.int 0))) (h2 := (q_cM (q_mA pix smp tr (q_nb p 1 dn ins) (q_fb z)) q_IM (q_mJ y pd), 34, 31630)) rfl rfl ?_ ?_
              · exact (by have e := q_m_picX pix smp tr p 1 dn ins z y pd col lin p1 p2 hC hM c0 c1 l0 l1 a0 a1 b0 b1 hp0 hp1 hp2 i0 i1; rw [hpic] at e; exact e.le (Nat.le_of_ble_eq_true rfl))
              show q_Ru _ _ _ (43, [(1, .int col), (0, .ref 64)], [.int 0], (q_cM (q_mA pix smp tr (q_nb p 1 dn ins) (q_fb z)) q_IM (q_mJ y pd), 34, 31630)) _
              refine q_Ru_seg (g2 := (45, [(2, .int 0), (1, .int col), (0, .ref 64)], [.ref 64], (q_cM (q_mA pix smp tr (q_nb p 1 dn ins) (q_fb z)) q_IM (q_mJ y pd), 34, 31630))) 2 (fun _ _ => rfl) ?_
              refine q_Ru_call (v := (some (.int (lin - 4)))) (h2 := (q_cM (q_mA pix smp tr (q_nb p 1 dn ins) (q_fb z)) q_IM (q_mJ y pd), 34, 31630)) rfl rfl ?_ ?_
              · refine q_Ca_of (Nat.le_of_ble_eq_true rfl) ?_
                refine q_Ru_seg (g2 := (1, [(0, .ref 64)], [.ref 64], (q_cM (q_mA pix smp tr (q_nb p 1 dn ins) (q_fb z)) q_IM (q_mJ y pd), 34, 31630))) 1 (fun _ _ => rfl) ?_
                refine q_Ru_call (v := (some (.int lin))) (h2 := (q_cM (q_mA pix smp tr (q_nb p 1 dn ins) (q_fb z)) q_IM (q_mJ y pd), 34, 31630)) rfl rfl ?_ ?_
                · refine q_Ca_of (Nat.le_of_ble_eq_true rfl) ?_
                  refine q_Ru_seg (g2 := (4, [(0, .ref 64)], [.long y], (q_cM (q_mA pix smp tr (q_nb p 1 dn ins) (q_fb z)) q_IM (q_mJ y pd), 34, 31630))) 2 (fun _ _ => rfl) ?_
                  refine q_Ru_seg (g2 := (13, [(0, .ref 64)], [.int (((y / 24) - (y / 24) / 40 * 40).toInt32)], (q_cM (q_mA pix smp tr (q_nb p 1 dn ins) (q_fb z)) q_IM (q_mJ y pd), 34, 31630))) 5 (fun _ _ => rfl) ?_
                  rw [hM]
                  exact q_Ru_ret rfl rfl
                show q_Ru _ _ _ (4, [(0, .ref 64)], [.int lin], (q_cM (q_mA pix smp tr (q_nb p 1 dn ins) (q_fb z)) q_IM (q_mJ y pd), 34, 31630)) _
                refine q_Ru_seg (g2 := (6, [(0, .ref 64)], [.int (lin - 4)], (q_cM (q_mA pix smp tr (q_nb p 1 dn ins) (q_fb z)) q_IM (q_mJ y pd), 34, 31630))) 2 (fun _ _ => rfl) ?_
                exact q_Ru_ret rfl rfl
              show q_Ru _ _ _ (48, [(2, .int 0), (1, .int col), (0, .ref 64)], [.int (lin - 4)], (q_cM (q_mA pix smp tr (q_nb p 1 dn ins) (q_fb z)) q_IM (q_mJ y pd), 34, 31630)) _
              refine q_Ru_seg (g2 := (53, [(3, .int (lin - 4)), (2, .int 0), (1, .int col), (0, .ref 64)], [.int 31, .int 0, .int (lin - 4)], (q_cM (q_mA pix smp tr (q_nb p 1 dn ins) (q_fb z)) q_IM (q_mJ y pd), 34, 31630))) 4 (fun _ _ => rfl) ?_
              refine q_Ru_call (v := (some (.int 1))) (h2 := (q_cM (q_mA pix smp tr (q_nb p 1 dn ins) (q_fb z)) q_IM (q_mJ y pd), 34, 31630)) rfl rfl ?_ ?_
              · refine q_Ca_of (Nat.le_of_ble_eq_true rfl) ?_
                refine q_Ru_seg (g2 := (2, [(0, .int (lin - 4)), (1, .int 0), (2, .int 31)], [.int 0, .int (lin - 4)], (q_cM (q_mA pix smp tr (q_nb p 1 dn ins) (q_fb z)) q_IM (q_mJ y pd), 34, 31630))) 2 (fun _ _ => rfl) ?_
                refine q_Ru_rsF (g2 := (5, [(0, .int (lin - 4)), (1, .int 0), (2, .int 31)], [], (q_cM (q_mA pix smp tr (q_nb p 1 dn ins) (q_fb z)) q_IM (q_mJ y pd), 34, 31630))) rfl rfl h239 ?_
                refine q_Ru_seg (g2 := (7, [(0, .int (lin - 4)), (1, .int 0), (2, .int 31)], [.int 31, .int (lin - 4)], (q_cM (q_mA pix smp tr (q_nb p 1 dn ins) (q_fb z)) q_IM (q_mJ y pd), 34, 31630))) 2 (fun _ _ => rfl) ?_
                refine q_Ru_rsF (g2 := (10, [(0, .int (lin - 4)), (1, .int 0), (2, .int 31)], [], (q_cM (q_mA pix smp tr (q_nb p 1 dn ins) (q_fb z)) q_IM (q_mJ y pd), 34, 31630))) rfl rfl h241 ?_
                refine q_Ru_seg (g2 := (15, [(0, .int (lin - 4)), (1, .int 0), (2, .int 31)], [.int 1], (q_cM (q_mA pix smp tr (q_nb p 1 dn ins) (q_fb z)) q_IM (q_mJ y pd), 34, 31630))) 2 (fun _ _ => rfl) ?_
                exact q_Ru_ret rfl rfl
              show q_Ru _ _ _ (56, [(3, .int (lin - 4)), (2, .int 0), (1, .int col), (0, .ref 64)], [.int 1], (q_cM (q_mA pix smp tr (q_nb p 1 dn ins) (q_fb z)) q_IM (q_mJ y pd), 34, 31630)) _
              refine q_Ru_seg (g2 := (63, [(3, .int (lin - 4)), (2, .int 0), (1, .int col), (0, .ref 64)], [.int 19, .int 4, .int col], (q_cM (q_mA pix smp tr (q_nb p 1 dn ins) (q_fb z)) q_IM (q_mJ y pd), 34, 31630))) 4 (fun _ _ => rfl) ?_
              refine q_Ru_call (v := (some (.int 1))) (h2 := (q_cM (q_mA pix smp tr (q_nb p 1 dn ins) (q_fb z)) q_IM (q_mJ y pd), 34, 31630)) rfl rfl ?_ ?_
              · refine q_Ca_of (Nat.le_of_ble_eq_true rfl) ?_
                refine q_Ru_seg (g2 := (2, [(0, .int col), (1, .int 4), (2, .int 19)], [.int 4, .int col], (q_cM (q_mA pix smp tr (q_nb p 1 dn ins) (q_fb z)) q_IM (q_mJ y pd), 34, 31630))) 2 (fun _ _ => rfl) ?_
                refine q_Ru_rsF (g2 := (5, [(0, .int col), (1, .int 4), (2, .int 19)], [], (q_cM (q_mA pix smp tr (q_nb p 1 dn ins) (q_fb z)) q_IM (q_mJ y pd), 34, 31630))) rfl rfl h243 ?_
                refine q_Ru_seg (g2 := (7, [(0, .int col), (1, .int 4), (2, .int 19)], [.int 19, .int col], (q_cM (q_mA pix smp tr (q_nb p 1 dn ins) (q_fb z)) q_IM (q_mJ y pd), 34, 31630))) 2 (fun _ _ => rfl) ?_
                refine q_Ru_rsF (g2 := (10, [(0, .int col), (1, .int 4), (2, .int 19)], [], (q_cM (q_mA pix smp tr (q_nb p 1 dn ins) (q_fb z)) q_IM (q_mJ y pd), 34, 31630))) rfl rfl h245 ?_
                refine q_Ru_seg (g2 := (15, [(0, .int col), (1, .int 4), (2, .int 19)], [.int 1], (q_cM (q_mA pix smp tr (q_nb p 1 dn ins) (q_fb z)) q_IM (q_mJ y pd), 34, 31630))) 2 (fun _ _ => rfl) ?_
                exact q_Ru_ret rfl rfl
              show q_Ru _ _ _ (66, [(3, .int (lin - 4)), (2, .int 0), (1, .int col), (0, .ref 64)], [.int 1], (q_cM (q_mA pix smp tr (q_nb p 1 dn ins) (q_fb z)) q_IM (q_mJ y pd), 34, 31630)) _
              refine q_Ru_seg (g2 := (77, [(3, .int (lin - 4)), (2, .int 0), (1, .int col), (0, .ref 64)], [.int (lin - 4), .int ((2 * col) - 8), .ref 64], (q_cM (q_mA pix smp tr (q_nb p 1 dn ins) (q_fb z)) q_IM (q_mJ y pd), 34, 31630))) 8 (fun _ _ => rfl) ?_
              refine q_Ru_call (v := none) (h2 := (q_cM (q_mA x341 smp tr (q_nb p 1 dn ins) (q_fb z)) q_IM (q_mJ y pd), 34, 31630)) rfl rfl ?_ ?_
              · exact p341.le (Nat.le_of_ble_eq_true rfl)
              show q_Ru _ _ _ (80, [(3, .int (lin - 4)), (2, .int 0), (1, .int col), (0, .ref 64)], [], (q_cM (q_mA x341 smp tr (q_nb p 1 dn ins) (q_fb z)) q_IM (q_mJ y pd), 34, 31630)) _
              refine q_Ru_seg (g2 := (88, [(3, .int (lin - 4)), (2, .int 0), (1, .int col), (0, .ref 64)], [.int (lin - 4), .int ((2 * col) - 7), .ref 64], (q_cM (q_mA x341 smp tr (q_nb p 1 dn ins) (q_fb z)) q_IM (q_mJ y pd), 34, 31630))) 7 (fun _ _ => rfl) ?_
              refine q_Ru_call (v := none) (h2 := (q_cM (q_mA x342 smp tr (q_nb p 1 dn ins) (q_fb z)) q_IM (q_mJ y pd), 34, 31630)) rfl rfl ?_ ?_
              · exact p342.le (Nat.le_of_ble_eq_true rfl)
              show q_Ru _ _ _ (91, [(3, .int (lin - 4)), (2, .int 0), (1, .int col), (0, .ref 64)], [], (q_cM (q_mA x342 smp tr (q_nb p 1 dn ins) (q_fb z)) q_IM (q_mJ y pd), 34, 31630)) _
              refine q_Ru_seg (g2 := (92, [(3, .int (lin - 4)), (2, .int 0), (1, .int col), (0, .ref 64)], [.ref 64], (q_cM (q_mA x342 smp tr (q_nb p 1 dn ins) (q_fb z)) q_IM (q_mJ y pd), 34, 31630))) 1 (fun _ _ => rfl) ?_
              refine q_Ru_call (v := none) (h2 := (q_cM (q_mA x342 smp tr (q_nb p 1 dn ins) (q_fb z)) q_IM (q_mJ y pd), 34, 31630)) rfl rfl ?_ ?_
              · exact (q_m_times x342 smp tr p 1 dn ins z y pd col lin p1 p2 hC hM c0 c1 l0 l1 a0 a1 b0 b1 hp0 hp1 hp2 i0 i1  ).le (Nat.le_of_ble_eq_true rfl)
              show q_Ru _ _ _ (95, [(3, .int (lin - 4)), (2, .int 0), (1, .int col), (0, .ref 64)], [], (q_cM (q_mA x342 smp tr (q_nb p 1 dn ins) (q_fb z)) q_IM (q_mJ y pd), 34, 31630)) _
              refine q_Ru_seg (g2 := (96, [(3, .int (lin - 4)), (2, .int 0), (1, .int col), (0, .ref 64)], [.ref 64], (q_cM (q_mA x342 smp tr (q_nb p 1 dn ins) (q_fb z)) q_IM (q_mJ y pd), 34, 31630))) 1 (fun _ _ => rfl) ?_
              refine q_Ru_call (v := none) (h2 := (q_cM (q_mA x342 smp tr (q_nb p 1 dn ins) (q_fb z)) q_IM (q_mJ y pd), 34, 31630)) rfl rfl ?_ ?_
              · exact (q_m_winds x342 smp tr p 1 dn ins z y pd col lin p1 p2 hC hM c0 c1 l0 l1 a0 a1 b0 b1 hp0 hp1 hp2 i0 i1  ).le (Nat.le_of_ble_eq_true rfl)
              show q_Ru _ _ _ (99, [(3, .int (lin - 4)), (2, .int 0), (1, .int col), (0, .ref 64)], [], (q_cM (q_mA x342 smp tr (q_nb p 1 dn ins) (q_fb z)) q_IM (q_mJ y pd), 34, 31630)) _
              refine q_Ru_seg (g2 := (102, [(3, .int (lin - 4)), (2, .int 0), (1, .int col), (0, .ref 64)], [.int 23, .int col], (q_cM (q_mA x342 smp tr (q_nb p 1 dn ins) (q_fb z)) q_IM (q_mJ y pd), 34, 31630))) 2 (fun _ _ => rfl) ?_
              refine q_Ru_rsT (g2 := (109, [(3, .int (lin - 4)), (2, .int 0), (1, .int col), (0, .ref 64)], [], (q_cM (q_mA x342 smp tr (q_nb p 1 dn ins) (q_fb z)) q_IM (q_mJ y pd), 34, 31630))) rfl rfl (q_d_neF h247) ?_
              refine q_Ru_seg (g2 := (114, [(3, .int (lin - 4)), (2, .int 0), (1, .int col), (0, .ref 64)], [.ref 64], (q_cM (q_mA x342 smp tr (q_nb p 1 dn ins) (q_fb z)) q_IM (q_mJ y pd), 34, 31630))) 3 (fun _ _ => rfl) ?_
              refine q_Ru_call (v := none) (h2 := (q_cM (q_mA x342 smp z345a (q_nb p2 0 (dn + 1) (ins + 1)) (q_fb z345b)) q_IM (q_mJ y pd), 34, 31630)) rfl rfl ?_ ?_
              · exact p345.le (Nat.le_of_ble_eq_true rfl)
              show q_Ru _ _ _ (117, [(3, .int (lin - 4)), (2, .int 0), (1, .int col), (0, .ref 64)], [], (q_cM (q_mA x342 smp z345a (q_nb p2 0 (dn + 1) (ins + 1)) (q_fb z345b)) q_IM (q_mJ y pd), 34, 31630)) _
              refine q_Ru_seg (g2 := (122, [(3, .int (lin - 4)), (2, .int 0), (1, .int col), (0, .ref 64)], [.long pd, .ref 64], (q_cM (q_mA x342 smp z345a (q_nb p2 0 (dn + 1) (ins + 1)) (q_fb z345b)) q_IM (q_mJ y pd), 34, 31630))) 3 (fun _ _ => rfl) ?_
              refine q_Ru_seg (g2 := (140, [(3, .int (lin - 4)), (2, .int 0), (1, .int col), (0, .ref 64)], [.long y, .ref 64], (q_cM (q_mA x342 smp z345a (q_nb p2 0 (dn + 1) (ins + 1)) (q_fb z345b)) q_IM (q_uI (q_mJ y pd) 0 16 (pd + 0)), 34, 31630))) 8 (fun _ _ => rfl) ?_
              refine q_Ru_seg (g2 := (146, [(3, .int (lin - 4)), (2, .int 0), (1, .int col), (0, .ref 64)], [.int 0], (q_cM (q_mA x342 smp z345a (q_nb p2 0 (dn + 1) (ins + 1)) (q_fb z345b)) q_IM (q_uI (q_uI (q_mJ y pd) 0 16 (pd + 0)) 0 15 (y + 1)), 34, 31630))) 4 (fun _ _ => rfl) ?_
              exact q_Ru_ret rfl rfl
  | false =>
    cases h248 : decide (lin - 4 < 0) with
    | true =>
      cases h249 : decide (col = 23) with
      | true =>
        have eh249 := of_decide_eq_true h249
        subst eh249
        obtain ⟨z350a, p350⟩ := q_m_sample pix smp tr p 1 dn ins z y pd col lin p1 p2 hC hM c0 c1 l0 l1 a0 a1 b0 b1 hp0 hp1 hp2 i0 i1  
        obtain ⟨z351a, z351b, p351⟩ := q_m_go1 pix z350a tr p dn ins z y pd col lin p1 p2 hC hM c0 c1 l0 l1 a0 a1 b0 b1 hp0 hp1 hp2 i0 i1  
        refine ⟨pix, z350a, z351a, z351b, ?_⟩
        refine q_Ca_of (Nat.le_of_ble_eq_true rfl) ?_
        refine q_Ru_seg (g2 := (4, [(0, .ref 64)], [.long y], (q_cM (q_mA pix smp tr (q_nb p 1 dn ins) (q_fb z)) q_IM (q_mJ y pd), 34, 31630))) 2 (fun _ _ => rfl) ?_
        refine q_Ru_seg (g2 := (9, [(0, .ref 64)], [.int ((y - y / 24 * 24).toInt32)], (q_cM (q_mA pix smp tr (q_nb p 1 dn ins) (q_fb z)) q_IM (q_mJ y pd), 34, 31630))) 3 (fun _ _ => rfl) ?_
        rw [hC]
        refine q_Ru_seg (g2 := (11, [(1, .int col), (0, .ref 64)], [.int col], (q_cM (q_mA pix smp tr (q_nb p 1 dn ins) (q_fb z)) q_IM (q_mJ y pd), 34, 31630))) 2 (fun _ _ => rfl) ?_
        refine q_Ru_rsT (g2 := (39, [(1, .int col), (0, .ref 64)], [], (q_cM (q_mA pix smp tr (q_nb p 1 dn ins) (q_fb z)) q_IM (q_mJ y pd), 34, 31630))) rfl rfl (q_d_neF h228) ?_
        refine q_Ru_seg (g2 := (40, [(1, .int col), (0, .ref 64)], [.ref 64], (q_cM (q_mA pix smp tr (q_nb p 1 dn ins) (q_fb z)) q_IM (q_mJ y pd), 34, 31630))) 1 (fun _ _ => rfl) ?_
        refine q_Ru_call (v := (some (.int 0))) (h2 := (q_cM (q_mA pix smp tr (q_nb p 1 dn ins) (q_fb z)) q_IM (q_mJ y pd), 34, 31630)) rfl rfl ?_ ?_
        · exact (by have e := q_m_picX pix smp tr p 1 dn ins z y pd col lin p1 p2 hC hM c0 c1 l0 l1 a0 a1 b0 b1 hp0 hp1 hp2 i0 i1; rw [hpic] at e; exact e.le (Nat.le_of_ble_eq_true rfl))
        show q_Ru _ _ _ (43, [(1, .int col), (0, .ref 64)], [.int 0], (q_cM (q_mA pix smp tr (q_nb p 1 dn ins) (q_fb z)) q_IM (q_mJ y pd), 34, 31630)) _
        refine q_Ru_seg (g2 := (45, [(2, .int 0), (1, .int col), (0, .ref 64)], [.ref 64], (q_cM (q_mA pix smp tr (q_nb p 1 dn ins) (q_fb z)) q_IM (q_mJ y pd), 34, 31630))) 2 (fun _ _ => rfl) ?_
        refine q_Ru_call (v := (some (.int (lin - 4)))) (h2 := (q_cM (q_mA pix smp tr (q_nb p 1 dn ins) (q_fb z)) q_IM (q_mJ y pd), 34, 31630)) rfl rfl ?_ ?_
        · refine q_Ca_of (Nat.le_of_ble_eq_true rfl) ?_
          refine q_Ru_seg (g2 := (1, [(0, .ref 64)], [.ref 64], (q_cM (q_mA pix smp tr (q_nb p 1 dn ins) (q_fb z)) q_IM (q_mJ y pd), 34, 31630))) 1 (fun _ _ => rfl) ?_
          refine q_Ru_call (v := (some (.int lin))) (h2 := (q_cM (q_mA pix smp tr (q_nb p 1 dn ins) (q_fb z)) q_IM (q_mJ y pd), 34, 31630)) rfl rfl ?_ ?_
          · refine q_Ca_of (Nat.le_of_ble_eq_true rfl) ?_
            refine q_Ru_seg (g2 := (4, [(0, .ref 64)], [.long y], (q_cM (q_mA pix smp tr (q_nb p 1 dn ins) (q_fb z)) q_IM (q_mJ y pd), 34, 31630))) 2 (fun _ _ => rfl) ?_
            refine q_Ru_seg (g2 := (13, [(0, .ref 64)], [.int (((y / 24) - (y / 24) / 40 * 40).toInt32)], (q_cM (q_mA pix smp tr (q_nb p 1 dn ins) (q_fb z)) q_IM (q_mJ y pd), 34, 31630))) 5 (fun _ _ => rfl) ?_
            rw [hM]
            exact q_Ru_ret rfl rfl
          show q_Ru _ _ _ (4, [(0, .ref 64)], [.int lin], (q_cM (q_mA pix smp tr (q_nb p 1 dn ins) (q_fb z)) q_IM (q_mJ y pd), 34, 31630)) _
          refine q_Ru_seg (g2 := (6, [(0, .ref 64)], [.int (lin - 4)], (q_cM (q_mA pix smp tr (q_nb p 1 dn ins) (q_fb z)) q_IM (q_mJ y pd), 34, 31630))) 2 (fun _ _ => rfl) ?_
          exact q_Ru_ret rfl rfl
        show q_Ru _ _ _ (48, [(2, .int 0), (1, .int col), (0, .ref 64)], [.int (lin - 4)], (q_cM (q_mA pix smp tr (q_nb p 1 dn ins) (q_fb z)) q_IM (q_mJ y pd), 34, 31630)) _
        refine q_Ru_seg (g2 := (53, [(3, .int (lin - 4)), (2, .int 0), (1, .int col), (0, .ref 64)], [.int 31, .int 0, .int (lin - 4)], (q_cM (q_mA pix smp tr (q_nb p 1 dn ins) (q_fb z)) q_IM (q_mJ y pd), 34, 31630))) 4 (fun _ _ => rfl) ?_
        refine q_Ru_call (v := (some (.int 0))) (h2 := (q_cM (q_mA pix smp tr (q_nb p 1 dn ins) (q_fb z)) q_IM (q_mJ y pd), 34, 31630)) rfl rfl ?_ ?_
        · refine q_Ca_of (Nat.le_of_ble_eq_true rfl) ?_
          refine q_Ru_seg (g2 := (2, [(0, .int (lin - 4)), (1, .int 0), (2, .int 31)], [.int 0, .int (lin - 4)], (q_cM (q_mA pix smp tr (q_nb p 1 dn ins) (q_fb z)) q_IM (q_mJ y pd), 34, 31630))) 2 (fun _ _ => rfl) ?_
          refine q_Ru_rsT (g2 := (14, [(0, .int (lin - 4)), (1, .int 0), (2, .int 31)], [], (q_cM (q_mA pix smp tr (q_nb p 1 dn ins) (q_fb z)) q_IM (q_mJ y pd), 34, 31630))) rfl rfl h248 ?_
          refine q_Ru_seg (g2 := (15, [(0, .int (lin - 4)), (1, .int 0), (2, .int 31)], [.int 0], (q_cM (q_mA pix smp tr (q_nb p 1 dn ins) (q_fb z)) q_IM (q_mJ y pd), 34, 31630))) 1 (fun _ _ => rfl) ?_
          exact q_Ru_ret rfl rfl
        show q_Ru _ _ _ (56, [(3, .int (lin - 4)), (2, .int 0), (1, .int col), (0, .ref 64)], [.int 0], (q_cM (q_mA pix smp tr (q_nb p 1 dn ins) (q_fb z)) q_IM (q_mJ y pd), 34, 31630)) _
        refine q_Ru_seg (g2 := (92, [(3, .int (lin - 4)), (2, .int 0), (1, .int col), (0, .ref 64)], [.ref 64], (q_cM (q_mA pix smp tr (q_nb p 1 dn ins) (q_fb z)) q_IM (q_mJ y pd), 34, 31630))) 2 (fun _ _ => rfl) ?_
        refine q_Ru_call (v := none) (h2 := (q_cM (q_mA pix smp tr (q_nb p 1 dn ins) (q_fb z)) q_IM (q_mJ y pd), 34, 31630)) rfl rfl ?_ ?_
        · exact (q_m_times pix smp tr p 1 dn ins z y pd col lin p1 p2 hC hM c0 c1 l0 l1 a0 a1 b0 b1 hp0 hp1 hp2 i0 i1  ).le (Nat.le_of_ble_eq_true rfl)
        show q_Ru _ _ _ (95, [(3, .int (lin - 4)), (2, .int 0), (1, .int col), (0, .ref 64)], [], (q_cM (q_mA pix smp tr (q_nb p 1 dn ins) (q_fb z)) q_IM (q_mJ y pd), 34, 31630)) _
        refine q_Ru_seg (g2 := (96, [(3, .int (lin - 4)), (2, .int 0), (1, .int col), (0, .ref 64)], [.ref 64], (q_cM (q_mA pix smp tr (q_nb p 1 dn ins) (q_fb z)) q_IM (q_mJ y pd), 34, 31630))) 1 (fun _ _ => rfl) ?_
        refine q_Ru_call (v := none) (h2 := (q_cM (q_mA pix smp tr (q_nb p 1 dn ins) (q_fb z)) q_IM (q_mJ y pd), 34, 31630)) rfl rfl ?_ ?_
        · exact (q_m_winds pix smp tr p 1 dn ins z y pd col lin p1 p2 hC hM c0 c1 l0 l1 a0 a1 b0 b1 hp0 hp1 hp2 i0 i1  ).le (Nat.le_of_ble_eq_true rfl)
        show q_Ru _ _ _ (99, [(3, .int (lin - 4)), (2, .int 0), (1, .int col), (0, .ref 64)], [], (q_cM (q_mA pix smp tr (q_nb p 1 dn ins) (q_fb z)) q_IM (q_mJ y pd), 34, 31630)) _
        refine q_Ru_seg (g2 := (102, [(3, .int (lin - 4)), (2, .int 0), (1, .int col), (0, .ref 64)], [.int 23, .int col], (q_cM (q_mA pix smp tr (q_nb p 1 dn ins) (q_fb z)) q_IM (q_mJ y pd), 34, 31630))) 2 (fun _ _ => rfl) ?_
        refine q_Ru_rsF (g2 := (105, [(3, .int (lin - 4)), (2, .int 0), (1, .int col), (0, .ref 64)], [], (q_cM (q_mA pix smp tr (q_nb p 1 dn ins) (q_fb z)) q_IM (q_mJ y pd), 34, 31630))) rfl rfl (q_d_neT h249) ?_
        refine q_Ru_seg (g2 := (106, [(3, .int (lin - 4)), (2, .int 0), (1, .int col), (0, .ref 64)], [.ref 64], (q_cM (q_mA pix smp tr (q_nb p 1 dn ins) (q_fb z)) q_IM (q_mJ y pd), 34, 31630))) 1 (fun _ _ => rfl) ?_
        refine q_Ru_call (v := none) (h2 := (q_cM (q_mA pix z350a tr (q_nb p 1 dn ins) (q_fb z)) q_IM (q_mJ y pd), 34, 31630)) rfl rfl ?_ ?_
        · exact p350.le (Nat.le_of_ble_eq_true rfl)
        show q_Ru _ _ _ (109, [(3, .int (lin - 4)), (2, .int 0), (1, .int col), (0, .ref 64)], [], (q_cM (q_mA pix z350a tr (q_nb p 1 dn ins) (q_fb z)) q_IM (q_mJ y pd), 34, 31630)) _
        refine q_Ru_seg (g2 := (114, [(3, .int (lin - 4)), (2, .int 0), (1, .int col), (0, .ref 64)], [.ref 64], (q_cM (q_mA pix z350a tr (q_nb p 1 dn ins) (q_fb z)) q_IM (q_mJ y pd), 34, 31630))) 3 (fun _ _ => rfl) ?_
        refine q_Ru_call (v := none) (h2 := (q_cM (q_mA pix z350a z351a (q_nb p2 0 (dn + 1) (ins + 1)) (q_fb z351b)) q_IM (q_mJ y pd), 34, 31630)) rfl rfl ?_ ?_
        · exact p351.le (Nat.le_of_ble_eq_true rfl)
        show q_Ru _ _ _ (117, [(3, .int (lin - 4)), (2, .int 0), (1, .int col), (0, .ref 64)], [], (q_cM (q_mA pix z350a z351a (q_nb p2 0 (dn + 1) (ins + 1)) (q_fb z351b)) q_IM (q_mJ y pd), 34, 31630)) _
        refine q_Ru_seg (g2 := (122, [(3, .int (lin - 4)), (2, .int 0), (1, .int col), (0, .ref 64)], [.long pd, .ref 64], (q_cM (q_mA pix z350a z351a (q_nb p2 0 (dn + 1) (ins + 1)) (q_fb z351b)) q_IM (q_mJ y pd), 34, 31630))) 3 (fun _ _ => rfl) ?_
        refine q_Ru_seg (g2 := (140, [(3, .int (lin - 4)), (2, .int 0), (1, .int col), (0, .ref 64)], [.long y, .ref 64], (q_cM (q_mA pix z350a z351a (q_nb p2 0 (dn + 1) (ins + 1)) (q_fb z351b)) q_IM (q_uI (q_mJ y pd) 0 16 (pd + 0)), 34, 31630))) 8 (fun _ _ => rfl) ?_
        refine q_Ru_seg (g2 := (146, [(3, .int (lin - 4)), (2, .int 0), (1, .int col), (0, .ref 64)], [.int 0], (q_cM (q_mA pix z350a z351a (q_nb p2 0 (dn + 1) (ins + 1)) (q_fb z351b)) q_IM (q_uI (q_uI (q_mJ y pd) 0 16 (pd + 0)) 0 15 (y + 1)), 34, 31630))) 4 (fun _ _ => rfl) ?_
        exact q_Ru_ret rfl rfl
      | false =>
        obtain ⟨z354a, z354b, p354⟩ := q_m_go1 pix smp tr p dn ins z y pd col lin p1 p2 hC hM c0 c1 l0 l1 a0 a1 b0 b1 hp0 hp1 hp2 i0 i1  
        refine ⟨pix, smp, z354a, z354b, ?_⟩
        refine q_Ca_of (Nat.le_of_ble_eq_true rfl) ?_
        refine q_Ru_seg (g2 := (4, [(0, .ref 64)], [.long y], (q_cM (q_mA pix smp tr (q_nb p 1 dn ins) (q_fb z)) q_IM (q_mJ y pd), 34, 31630))) 2 (fun _ _ => rfl) ?_
        refine q_Ru_seg (g2 := (9, [(0, .ref 64)], [.int ((y - y / 24 * 24).toInt32)], (q_cM (q_mA pix smp tr (q_nb p 1 dn ins) (q_fb z)) q_IM (q_mJ y pd), 34, 31630))) 3 (fun _ _ => rfl) ?_
        rw [hC]
        refine q_Ru_seg (g2 := (11, [(1, .int col), (0, .ref 64)], [.int col], (q_cM (q_mA pix smp tr (q_nb p 1 dn ins) (q_fb z)) q_IM (q_mJ y pd), 34, 31630))) 2 (fun _ _ => rfl) ?_
        refine q_Ru_rsT (g2 := (39, [(1, .int col), (0, .ref 64)], [], (q_cM (q_mA pix smp tr (q_nb p 1 dn ins) (q_fb z)) q_IM (q_mJ y pd), 34, 31630))) rfl rfl (q_d_neF h228) ?_
        refine q_Ru_seg (g2 := (40, [(1, .int col), (0, .ref 64)], [.ref 64], (q_cM (q_mA pix smp tr (q_nb p 1 dn ins) (q_fb z)) q_IM (q_mJ y pd), 34, 31630))) 1 (fun _ _ => rfl) ?_
        refine q_Ru_call (v := (some (.int 0))) (h2 := (q_cM (q_mA pix smp tr (q_nb p 1 dn ins) (q_fb z)) q_IM (q_mJ y pd), 34, 31630)) rfl rfl ?_ ?_
        · exact (by have e := q_m_picX pix smp tr p 1 dn ins z y pd col lin p1 p2 hC hM c0 c1 l0 l1 a0 a1 b0 b1 hp0 hp1 hp2 i0 i1; rw [hpic] at e; exact e.le (Nat.le_of_ble_eq_true rfl))
        show q_Ru _ _ _ (43, [(1, .int col), (0, .ref 64)], [.int 0], (q_cM (q_mA pix smp tr (q_nb p 1 dn ins) (q_fb z)) q_IM (q_mJ y pd), 34, 31630)) _
        refine q_Ru_seg (g2 := (45, [(2, .int 0), (1, .int col), (0, .ref 64)], [.ref 64], (q_cM (q_mA pix smp tr (q_nb p 1 dn ins) (q_fb z)) q_IM (q_mJ y pd), 34, 31630))) 2 (fun _ _ => rfl) ?_
        refine q_Ru_call (v := (some (.int (lin - 4)))) (h2 := (q_cM (q_mA pix smp tr (q_nb p 1 dn ins) (q_fb z)) q_IM (q_mJ y pd), 34, 31630)) rfl rfl ?_ ?_
        · refine q_Ca_of (Nat.le_of_ble_eq_true rfl) ?_
          refine q_Ru_seg (g2 := (1, [(0, .ref 64)], [.ref 64], (q_cM (q_mA pix smp tr (q_nb p 1 dn ins) (q_fb z)) q_IM (q_mJ y pd), 34, 31630))) 1 (fun _ _ => rfl) ?_
          refine q_Ru_call (v := (some (.int lin))) (h2 := (q_cM (q_mA pix smp tr (q_nb p 1 dn ins) (q_fb z)) q_IM (q_mJ y pd), 34, 31630)) rfl rfl ?_ ?_
          · refine q_Ca_of (Nat.le_of_ble_eq_true rfl) ?_
            refine q_Ru_seg (g2 := (4, [(0, .ref 64)], [.long y], (q_cM (q_mA pix smp tr (q_nb p 1 dn ins) (q_fb z)) q_IM (q_mJ y pd), 34, 31630))) 2 (fun _ _ => rfl) ?_
            refine q_Ru_seg (g2 := (13, [(0, .ref 64)], [.int (((y / 24) - (y / 24) / 40 * 40).toInt32)], (q_cM (q_mA pix smp tr (q_nb p 1 dn ins) (q_fb z)) q_IM (q_mJ y pd), 34, 31630))) 5 (fun _ _ => rfl) ?_
            rw [hM]
            exact q_Ru_ret rfl rfl
          show q_Ru _ _ _ (4, [(0, .ref 64)], [.int lin], (q_cM (q_mA pix smp tr (q_nb p 1 dn ins) (q_fb z)) q_IM (q_mJ y pd), 34, 31630)) _
          refine q_Ru_seg (g2 := (6, [(0, .ref 64)], [.int (lin - 4)], (q_cM (q_mA pix smp tr (q_nb p 1 dn ins) (q_fb z)) q_IM (q_mJ y pd), 34, 31630))) 2 (fun _ _ => rfl) ?_
          exact q_Ru_ret rfl rfl
        show q_Ru _ _ _ (48, [(2, .int 0), (1, .int col), (0, .ref 64)], [.int (lin - 4)], (q_cM (q_mA pix smp tr (q_nb p 1 dn ins) (q_fb z)) q_IM (q_mJ y pd), 34, 31630)) _
        refine q_Ru_seg (g2 := (53, [(3, .int (lin - 4)), (2, .int 0), (1, .int col), (0, .ref 64)], [.int 31, .int 0, .int (lin - 4)], (q_cM (q_mA pix smp tr (q_nb p 1 dn ins) (q_fb z)) q_IM (q_mJ y pd), 34, 31630))) 4 (fun _ _ => rfl) ?_
        refine q_Ru_call (v := (some (.int 0))) (h2 := (q_cM (q_mA pix smp tr (q_nb p 1 dn ins) (q_fb z)) q_IM (q_mJ y pd), 34, 31630)) rfl rfl ?_ ?_
        · refine q_Ca_of (Nat.le_of_ble_eq_true rfl) ?_
          refine q_Ru_seg (g2 := (2, [(0, .int (lin - 4)), (1, .int 0), (2, .int 31)], [.int 0, .int (lin - 4)], (q_cM (q_mA pix smp tr (q_nb p 1 dn ins) (q_fb z)) q_IM (q_mJ y pd), 34, 31630))) 2 (fun _ _ => rfl) ?_
          refine q_Ru_rsT (g2 := (14, [(0, .int (lin - 4)), (1, .int 0), (2, .int 31)], [], (q_cM (q_mA pix smp tr (q_nb p 1 dn ins) (q_fb z)) q_IM (q_mJ y pd), 34, 31630))) rfl rfl h248 ?_
          refine q_Ru_seg (g2 := (15, [(0, .int (lin - 4)), (1, .int 0), (2, .int 31)], [.int 0], (q_cM (q_mA pix smp tr (q_nb p 1 dn ins) (q_fb z)) q_IM (q_mJ y pd), 34, 31630))) 1 (fun _ _ => rfl) ?_
          exact q_Ru_ret rfl rfl
        show q_Ru _ _ _ (56, [(3, .int (lin - 4)), (2, .int 0), (1, .int col), (0, .ref 64)], [.int 0], (q_cM (q_mA pix smp tr (q_nb p 1 dn ins) (q_fb z)) q_IM (q_mJ y pd), 34, 31630)) _
        refine q_Ru_seg (g2 := (92, [(3, .int (lin - 4)), (2, .int 0), (1, .int col), (0, .ref 64)], [.ref 64], (q_cM (q_mA pix smp tr (q_nb p 1 dn ins) (q_fb z)) q_IM (q_mJ y pd), 34, 31630))) 2 (fun _ _ => rfl) ?_
        refine q_Ru_call (v := none) (h2 := (q_cM (q_mA pix smp tr (q_nb p 1 dn ins) (q_fb z)) q_IM (q_mJ y pd), 34, 31630)) rfl rfl ?_ ?_
        · exact (q_m_times pix smp tr p 1 dn ins z y pd col lin p1 p2 hC hM c0 c1 l0 l1 a0 a1 b0 b1 hp0 hp1 hp2 i0 i1  ).le (Nat.le_of_ble_eq_true rfl)
        show q_Ru _ _ _ (95, [(3, .int (lin - 4)), (2, .int 0), (1, .int col), (0, .ref 64)], [], (q_cM (q_mA pix smp tr (q_nb p 1 dn ins) (q_fb z)) q_IM (q_mJ y pd), 34, 31630)) _
        refine q_Ru_seg (g2 := (96, [(3, .int (lin - 4)), (2, .int 0), (1, .int col), (0, .ref 64)], [.ref 64], (q_cM (q_mA pix smp tr (q_nb p 1 dn ins) (q_fb z)) q_IM (q_mJ y pd), 34, 31630))) 1 (fun _ _ => rfl) ?_
        refine q_Ru_call (v := none) (h2 := (q_cM (q_mA pix smp tr (q_nb p 1 dn ins) (q_fb z)) q_IM (q_mJ y pd), 34, 31630)) rfl rfl ?_ ?_
        · exact (q_m_winds pix smp tr p 1 dn ins z y pd col lin p1 p2 hC hM c0 c1 l0 l1 a0 a1 b0 b1 hp0 hp1 hp2 i0 i1  ).le (Nat.le_of_ble_eq_true rfl)
        show q_Ru _ _ _ (99, [(3, .int (lin - 4)), (2, .int 0), (1, .int col), (0, .ref 64)], [], (q_cM (q_mA pix smp tr (q_nb p 1 dn ins) (q_fb z)) q_IM (q_mJ y pd), 34, 31630)) _
        refine q_Ru_seg (g2 := (102, [(3, .int (lin - 4)), (2, .int 0), (1, .int col), (0, .ref 64)], [.int 23, .int col], (q_cM (q_mA pix smp tr (q_nb p 1 dn ins) (q_fb z)) q_IM (q_mJ y pd), 34, 31630))) 2 (fun _ _ => rfl) ?_
        refine q_Ru_rsT (g2 := (109, [(3, .int (lin - 4)), (2, .int 0), (1, .int col), (0, .ref 64)], [], (q_cM (q_mA pix smp tr (q_nb p 1 dn ins) (q_fb z)) q_IM (q_mJ y pd), 34, 31630))) rfl rfl (q_d_neF h249) ?_
        refine q_Ru_seg (g2 := (114, [(3, .int (lin - 4)), (2, .int 0), (1, .int col), (0, .ref 64)], [.ref 64], (q_cM (q_mA pix smp tr (q_nb p 1 dn ins) (q_fb z)) q_IM (q_mJ y pd), 34, 31630))) 3 (fun _ _ => rfl) ?_
        refine q_Ru_call (v := none) (h2 := (q_cM (q_mA pix smp z354a (q_nb p2 0 (dn + 1) (ins + 1)) (q_fb z354b)) q_IM (q_mJ y pd), 34, 31630)) rfl rfl ?_ ?_
        · exact p354.le (Nat.le_of_ble_eq_true rfl)
        show q_Ru _ _ _ (117, [(3, .int (lin - 4)), (2, .int 0), (1, .int col), (0, .ref 64)], [], (q_cM (q_mA pix smp z354a (q_nb p2 0 (dn + 1) (ins + 1)) (q_fb z354b)) q_IM (q_mJ y pd), 34, 31630)) _
        refine q_Ru_seg (g2 := (122, [(3, .int (lin - 4)), (2, .int 0), (1, .int col), (0, .ref 64)], [.long pd, .ref 64], (q_cM (q_mA pix smp z354a (q_nb p2 0 (dn + 1) (ins + 1)) (q_fb z354b)) q_IM (q_mJ y pd), 34, 31630))) 3 (fun _ _ => rfl) ?_
        refine q_Ru_seg (g2 := (140, [(3, .int (lin - 4)), (2, .int 0), (1, .int col), (0, .ref 64)], [.long y, .ref 64], (q_cM (q_mA pix smp z354a (q_nb p2 0 (dn + 1) (ins + 1)) (q_fb z354b)) q_IM (q_uI (q_mJ y pd) 0 16 (pd + 0)), 34, 31630))) 8 (fun _ _ => rfl) ?_
        refine q_Ru_seg (g2 := (146, [(3, .int (lin - 4)), (2, .int 0), (1, .int col), (0, .ref 64)], [.int 0], (q_cM (q_mA pix smp z354a (q_nb p2 0 (dn + 1) (ins + 1)) (q_fb z354b)) q_IM (q_uI (q_uI (q_mJ y pd) 0 16 (pd + 0)) 0 15 (y + 1)), 34, 31630))) 4 (fun _ _ => rfl) ?_
        exact q_Ru_ret rfl rfl
    | false =>
      cases h250 : decide (31 < lin - 4) with
      | true =>
        cases h251 : decide (col = 23) with
        | true =>
          have eh251 := of_decide_eq_true h251
          subst eh251
          obtain ⟨z359a, p359⟩ := q_m_sample pix smp tr p 1 dn ins z y pd col lin p1 p2 hC hM c0 c1 l0 l1 a0 a1 b0 b1 hp0 hp1 hp2 i0 i1  
          obtain ⟨z360a, z360b, p360⟩ := q_m_go1 pix z359a tr p dn ins z y pd col lin p1 p2 hC hM c0 c1 l0 l1 a0 a1 b0 b1 hp0 hp1 hp2 i0 i1  
          refine ⟨pix, z359a, z360a, z360b, ?_⟩
          refine q_Ca_of (Nat.le_of_ble_eq_true rfl) ?_
          refine q_Ru_seg (g2 := (4, [(0, .ref 64)], [.long y], (q_cM (q_mA pix smp tr (q_nb p 1 dn ins) (q_fb z)) q_IM (q_mJ y pd), 34, 31630))) 2 (fun _ _ => rfl) ?_
          refine q_Ru_seg (g2 := (9, [(0, .ref 64)], [.int ((y - y / 24 * 24).toInt32)], (q_cM (q_mA pix smp tr (q_nb p 1 dn ins) (q_fb z)) q_IM (q_mJ y pd), 34, 31630))) 3 (fun _ _ => rfl) ?_
          rw [hC]
          refine q_Ru_seg (g2 := (11, [(1, .int col), (0, .ref 64)], [.int col], (q_cM (q_mA pix smp tr (q_nb p 1 dn ins) (q_fb z)) q_IM (q_mJ y pd), 34, 31630))) 2 (fun _ _ => rfl) ?_
          refine q_Ru_rsT (g2 := (39, [(1, .int col), (0, .ref 64)], [], (q_cM (q_mA pix smp tr (q_nb p 1 dn ins) (q_fb z)) q_IM (q_mJ y pd), 34, 31630))) rfl rfl (q_d_neF h228) ?_
          refine q_Ru_seg (g2 := (40, [(1, .int col), (0, .ref 64)], [.ref 64], (q_cM (q_mA pix smp tr (q_nb p 1 dn ins) (q_fb z)) q_IM (q_mJ y pd), 34, 31630))) 1 (fun _ _ => rfl) ?_
          refine q_Ru_call (v := (some (.int 0))) (h2 := (q_cM (q_mA pix smp tr (q_nb p 1 dn ins) (q_fb z)) q_IM (q_mJ y pd), 34, 31630)) rfl rfl ?_ ?_
          · exact (by have e := q_m_picX pix smp tr p 1 dn ins z y pd col lin p1 p2 hC hM c0 c1 l0 l1 a0 a1 b0 b1 hp0 hp1 hp2 i0 i1; rw [hpic] at e; exact e.le (Nat.le_of_ble_eq_true rfl))
          show q_Ru _ _ _ (43, [(1, .int col), (0, .ref 64)], [.int 0], (q_cM (q_mA pix smp tr (q_nb p 1 dn ins) (q_fb z)) q_IM (q_mJ y pd), 34, 31630)) _
          refine q_Ru_seg (g2 := (45, [(2, .int 0), (1, .int col), (0, .ref 64)], [.ref 64], (q_cM (q_mA pix smp tr (q_nb p 1 dn ins) (q_fb z)) q_IM (q_mJ y pd), 34, 31630))) 2 (fun _ _ => rfl) ?_
          refine q_Ru_call (v := (some (.int (lin - 4)))) (h2 := (q_cM (q_mA pix smp tr (q_nb p 1 dn ins) (q_fb z)) q_IM (q_mJ y pd), 34, 31630)) rfl rfl ?_ ?_
          · refine q_Ca_of (Nat.le_of_ble_eq_true rfl) ?_
            refine q_Ru_seg (g2 := (1, [(0, .ref 64)], [.ref 64], (q_cM (q_mA pix smp tr (q_nb p 1 dn ins) (q_fb z)) q_IM (q_mJ y pd), 34, 31630))) 1 (fun _ _ => rfl) ?_
            refine q_Ru_call (v := (some (.int lin))) (h2 := (q_cM (q_mA pix smp tr (q_nb p 1 dn ins) (q_fb z)) q_IM (q_mJ y pd), 34, 31630)) rfl rfl ?_ ?_
            · refine q_Ca_of (Nat.le_of_ble_eq_true rfl) ?_
              refine q_Ru_seg (g2 := (4, [(0, .ref 64)], [.long y], (q_cM (q_mA pix smp tr (q_nb p 1 dn ins) (q_fb z)) q_IM (q_mJ y pd), 34, 31630))) 2 (fun _ _ => rfl) ?_
              refine q_Ru_seg (g2 := (13, [(0, .ref 64)], [.int (((y / 24) - (y / 24) / 40 * 40).toInt32)], (q_cM (q_mA pix smp tr (q_nb p 1 dn ins) (q_fb z)) q_IM (q_mJ y pd), 34, 31630))) 5 (fun _ _ => rfl) ?_
              rw [hM]
              exact q_Ru_ret rfl rfl
            show q_Ru _ _ _ (4, [(0, .ref 64)], [.int lin], (q_cM (q_mA pix smp tr (q_nb p 1 dn ins) (q_fb z)) q_IM (q_mJ y pd), 34, 31630)) _
            refine q_Ru_seg (g2 := (6, [(0, .ref 64)], [.int (lin - 4)], (q_cM (q_mA pix smp tr (q_nb p 1 dn ins) (q_fb z)) q_IM (q_mJ y pd), 34, 31630))) 2 (fun _ _ => rfl) ?_
            exact q_Ru_ret rfl rfl
          show q_Ru _ _ _ (48, [(2, .int 0), (1, .int col), (0, .ref 64)], [.int (lin - 4)], (q_cM (q_mA pix smp tr (q_nb p 1 dn ins) (q_fb z)) q_IM (q_mJ y pd), 34, 31630)) _
          refine q_Ru_seg (g2 := (53, [(3, .int (lin - 4)), (2, .int 0), (1, .int col), (0, .ref 64)], [.int 31, .int 0, .int (lin - 4)], (q_cM (q_mA pix smp tr (q_nb p 1 dn ins) (q_fb z)) q_IM (q_mJ y pd), 34, 31630))) 4 (fun _ _ => rfl) ?_
          refine q_Ru_call (v := (some (.int 0))) (h2 := (q_cM (q_mA pix smp tr (q_nb p 1 dn ins) (q_fb z)) q_IM (q_mJ y pd), 34, 31630)) rfl rfl ?_ ?_
          · refine q_Ca_of (Nat.le_of_ble_eq_true rfl) ?_
            refine q_Ru_seg (g2 := (2, [(0, .int (lin - 4)), (1, .int 0), (2, .int 31)], [.int 0, .int (lin - 4)], (q_cM (q_mA pix smp tr (q_nb p 1 dn ins) (q_fb z)) q_IM (q_mJ y pd), 34, 31630))) 2 (fun _ _ => rfl) ?_
            refine q_Ru_rsF (g2 := (5, [(0, .int (lin - 4)), (1, .int 0), (2, .int 31)], [], (q_cM (q_mA pix smp tr (q_nb p 1 dn ins) (q_fb z)) q_IM (q_mJ y pd), 34, 31630))) rfl rfl h248 ?_
            refine q_Ru_seg (g2 := (7, [(0, .int (lin - 4)), (1, .int 0), (2, .int 31)], [.int 31, .int (lin - 4)], (q_cM (q_mA pix smp tr (q_nb p 1 dn ins) (q_fb z)) q_IM (q_mJ y pd), 34, 31630))) 2 (fun _ _ => rfl) ?_
            refine q_Ru_rsT (g2 := (14, [(0, .int (lin - 4)), (1, .int 0), (2, .int 31)], [], (q_cM (q_mA pix smp tr (q_nb p 1 dn ins) (q_fb z)) q_IM (q_mJ y pd), 34, 31630))) rfl rfl h250 ?_
            refine q_Ru_seg (g2 := (15, [(0, .int (lin - 4)), (1, .int 0), (2, .int 31)], [.int 0], (q_cM (q_mA pix smp tr (q_nb p 1 dn ins) (q_fb z)) q_IM (q_mJ y pd), 34, 31630))) 1 (fun _ _ => rfl) ?_
            exact q_Ru_ret rfl rfl
          show q_Ru _ _ _ (56, [(3, .int (lin - 4)), (2, .int 0), (1, .int col), (0, .ref 64)], [.int 0], (q_cM (q_mA pix smp tr (q_nb p 1 dn ins) (q_fb z)) q_IM (q_mJ y pd), 34, 31630)) _
          refine q_Ru_seg (g2 := (92, [(3, .int (lin - 4)), (2, .int 0), (1, .int col), (0, .ref 64)], [.ref 64], (q_cM (q_mA pix smp tr (q_nb p 1 dn ins) (q_fb z)) q_IM (q_mJ y pd), 34, 31630))) 2 (fun _ _ => rfl) ?_
          refine q_Ru_call (v := none) (h2 := (q_cM (q_mA pix smp tr (q_nb p 1 dn ins) (q_fb z)) q_IM (q_mJ y pd), 34, 31630)) rfl rfl ?_ ?_
          · exact (q_m_times pix smp tr p 1 dn ins z y pd col lin p1 p2 hC hM c0 c1 l0 l1 a0 a1 b0 b1 hp0 hp1 hp2 i0 i1  ).le (Nat.le_of_ble_eq_true rfl)
          show q_Ru _ _ _ (95, [(3, .int (lin - 4)), (2, .int 0), (1, .int col), (0, .ref 64)], [], (q_cM (q_mA pix smp tr (q_nb p 1 dn ins) (q_fb z)) q_IM (q_mJ y pd), 34, 31630)) _
          refine q_Ru_seg (g2 := (96, [(3, .int (lin - 4)), (2, .int 0), (1, .int col), (0, .ref 64)], [.ref 64], (q_cM (q_mA pix smp tr (q_nb p 1 dn ins) (q_fb z)) q_IM (q_mJ y pd), 34, 31630))) 1 (fun _ _ => rfl) ?_
          refine q_Ru_call (v := none) (h2 := (q_cM (q_mA pix smp tr (q_nb p 1 dn ins) (q_fb z)) q_IM (q_mJ y pd), 34, 31630)) rfl rfl ?_ ?_
          · exact (q_m_winds pix smp tr p 1 dn ins z y pd col lin p1 p2 hC hM c0 c1 l0 l1 a0 a1 b0 b1 hp0 hp1 hp2 i0 i1  ).le (Nat.le_of_ble_eq_true rfl)
          show q_Ru _ _ _ (99, [(3, .int (lin - 4)), (2, .int 0), (1, .int col), (0, .ref 64)], [], (q_cM (q_mA pix smp tr (q_nb p 1 dn ins) (q_fb z)) q_IM (q_mJ y pd), 34, 31630)) _
          refine q_Ru_seg (g2 := (102, [(3, .int (lin - 4)), (2, .int 0), (1, .int col), (0, .ref 64)], [.int 23, .int col], (q_cM (q_mA pix smp tr (q_nb p 1 dn ins) (q_fb z)) q_IM (q_mJ y pd), 34, 31630))) 2 (fun _ _ => rfl) ?_
          refine q_Ru_rsF (g2 := (105, [(3, .int (lin - 4)), (2, .int 0), (1, .int col), (0, .ref 64)], [], (q_cM (q_mA pix smp tr (q_nb p 1 dn ins) (q_fb z)) q_IM (q_mJ y pd), 34, 31630))) rfl rfl (q_d_neT h251) ?_
          refine q_Ru_seg (g2 := (106, [(3, .int (lin - 4)), (2, .int 0), (1, .int col), (0, .ref 64)], [.ref 64], (q_cM (q_mA pix smp tr (q_nb p 1 dn ins) (q_fb z)) q_IM (q_mJ y pd), 34, 31630))) 1 (fun _ _ => rfl) ?_
          refine q_Ru_call (v := none) (h2 := (q_cM (q_mA pix z359a tr (q_nb p 1 dn ins) (q_fb z)) q_IM (q_mJ y pd), 34, 31630)) rfl rfl ?_ ?_
          · exact p359.le (Nat.le_of_ble_eq_true rfl)
          show q_Ru _ _ _ (109, [(3, .int (lin - 4)), (2, .int 0), (1, .int col), (0, .ref 64)], [], (q_cM (q_mA pix z359a tr (q_nb p 1 dn ins) (q_fb z)) q_IM (q_mJ y pd), 34, 31630)) _
          refine q_Ru_seg (g2 := (114, [(3, .int (lin - 4)), (2, .int 0), (1, .int col), (0, .ref 64)], [.ref 64], (q_cM (q_mA pix z359a tr (q_nb p 1 dn ins) (q_fb z)) q_IM (q_mJ y pd), 34, 31630))) 3 (fun _ _ => rfl) ?_
          refine q_Ru_call (v := none) (h2 := (q_cM (q_mA pix z359a z360a (q_nb p2 0 (dn + 1) (ins + 1)) (q_fb z360b)) q_IM (q_mJ y pd), 34, 31630)) rfl rfl ?_ ?_
          · exact p360.le (Nat.le_of_ble_eq_true rfl)
          show q_Ru _ _ _ (117, [(3, .int (lin - 4)), (2, .int 0), (1, .int col), (0, .ref 64)], [], (q_cM (q_mA pix z359a z360a (q_nb p2 0 (dn + 1) (ins + 1)) (q_fb z360b)) q_IM (q_mJ y pd), 34, 31630)) _
          refine q_Ru_seg (g2 := (122, [(3, .int (lin - 4)), (2, .int 0), (1, .int col), (0, .ref 64)], [.long pd, .ref 64], (q_cM (q_mA pix z359a z360a (q_nb p2 0 (dn + 1) (ins + 1)) (q_fb z360b)) q_IM (q_mJ y pd), 34, 31630))) 3 (fun _ _ => rfl) ?_
          refine q_Ru_seg (g2 := (140, [(3, .int (lin - 4)), (2, .int 0), (1, .int col), (0, .ref 64)], [.long y, .ref 64], (q_cM (q_mA pix z359a z360a (q_nb p2 0 (dn + 1) (ins + 1)) (q_fb z360b)) q_IM (q_uI (q_mJ y pd) 0 16 (pd + 0)), 34, 31630))) 8 (fun _ _ => rfl) ?_
          refine q_Ru_seg (g2 := (146, [(3, .int (lin - 4)), (2, .int 0), (1, .int col), (0, .ref 64)], [.int 0], (q_cM (q_mA pix z359a z360a (q_nb p2 0 (dn + 1) (ins + 1)) (q_fb z360b)) q_IM (q_uI (q_uI (q_mJ y pd) 0 16 (pd + 0)) 0 15 (y + 1)), 34, 31630))) 4 (fun _ _ => rfl) ?_
          exact q_Ru_ret rfl rfl
        | false =>
          obtain ⟨z363a, z363b, p363⟩ := q_m_go1 pix smp tr p dn ins z y pd col lin p1 p2 hC hM c0 c1 l0 l1 a0 a1 b0 b1 hp0 hp1 hp2 i0 i1  
          refine ⟨pix, smp, z363a, z363b, ?_⟩
          refine q_Ca_of (Nat.le_of_ble_eq_true rfl) ?_
          refine q_Ru_seg (g2 := (4, [(0, .ref 64)], [.long y], (q_cM (q_mA pix smp tr (q_nb p 1 dn ins) (q_fb z)) q_IM (q_mJ y pd), 34, 31630))) 2 (fun _ _ => rfl) ?_
          refine q_Ru_seg (g2 := (9, [(0, .ref 64)], [.int ((y - y / 24 * 24).toInt32)], (q_cM (q_mA pix smp tr (q_nb p 1 dn ins) (q_fb z)) q_IM (q_mJ y pd), 34, 31630))) 3 (fun _ _ => rfl) ?_
          rw [hC]
          refine q_Ru_seg (g2 := (11, [(1, .int col), (0, .ref 64)], [.int col], (q_cM (q_mA pix smp tr (q_nb p 1 dn ins) (q_fb z)) q_IM (q_mJ y pd), 34, 31630))) 2 (fun _ _ => rfl) ?_
          refine q_Ru_rsT (g2 := (39, [(1, .int col), (0, .ref 64)], [], (q_cM (q_mA pix smp tr (q_nb p 1 dn ins) (q_fb z)) q_IM (q_mJ y pd), 34, 31630))) rfl rfl (q_d_neF h228) ?_
          refine q_Ru_seg (g2 := (40, [(1, .int col), (0, .ref 64)], [.ref 64], (q_cM (q_mA pix smp tr (q_nb p 1 dn ins) (q_fb z)) q_IM (q_mJ y pd), 34, 31630))) 1 (fun _ _ => rfl) ?_
          refine q_Ru_call (v := (some (.int 0))) (h2 := (q_cM (q_mA pix smp tr (q_nb p 1 dn ins) (q_fb z)) q_IM (q_mJ y pd), 34, 31630)) rfl rfl ?_ ?_
          · exact (by have e := q_m_picX pix smp tr p 1 dn ins z y pd col lin p1 p2 hC hM c0 c1 l0 l1 a0 a1 b0 b1 hp0 hp1 hp2 i0 i1; rw [hpic] at e; exact e.le (Nat.le_of_ble_eq_true rfl))
          show q_Ru _ _ _ (43, [(1, .int col), (0, .ref 64)], [.int 0], (q_cM (q_mA pix smp tr (q_nb p 1 dn ins) (q_fb z)) q_IM (q_mJ y pd), 34, 31630)) _
          refine q_Ru_seg (g2 := (45, [(2, .int 0), (1, .int col), (0, .ref 64)], [.ref 64], (q_cM (q_mA pix smp tr (q_nb p 1 dn ins) (q_fb z)) q_IM (q_mJ y pd), 34, 31630))) 2 (fun _ _ => rfl) ?_
          refine q_Ru_call (v := (some (.int (lin - 4)))) (h2 := (q_cM (q_mA pix smp tr (q_nb p 1 dn ins) (q_fb z)) q_IM (q_mJ y pd), 34, 31630)) rfl rfl ?_ ?_
          · refine q_Ca_of (Nat.le_of_ble_eq_true rfl) ?_
            refine q_Ru_seg (g2 := (1, [(0, .ref 64)], [.ref 64], (q_cM (q_mA pix smp tr (q_nb p 1 dn ins) (q_fb z)) q_IM (q_mJ y pd), 34, 31630))) 1 (fun _ _ => rfl) ?_
            refine q_Ru_call (v := (some (.int lin))) (h2 := (q_cM (q_mA pix smp tr (q_nb p 1 dn ins) (q_fb z)) q_IM (q_mJ y pd), 34, 31630)) rfl rfl ?_ ?_
            · refine q_Ca_of (Nat.le_of_ble_eq_true rfl) ?_
              refine q_Ru_seg (g2 := (4, [(0, .ref 64)], [.long y], (q_cM (q_mA pix smp tr (q_nb p 1 dn ins) (q_fb z)) q_IM (q_mJ y pd), 34, 31630))) 2 (fun _ _ => rfl) ?_
              refine q_Ru_seg (g2 := (13, [(0, .ref 64)], [.int (((y / 24) - (y / 24) / 40 * 40).toInt32)], (q_cM (q_mA pix smp tr (q_nb p 1 dn ins) (q_fb z)) q_IM (q_mJ y pd), 34, 31630))) 5 (fun _ _ => rfl) ?_
              rw [hM]
              exact q_Ru_ret rfl rfl
            show q_Ru _ _ _ (4, [(0, .ref 64)], [.int lin], (q_cM (q_mA pix smp tr (q_nb p 1 dn ins) (q_fb z)) q_IM (q_mJ y pd), 34, 31630)) _
            refine q_Ru_seg (g2 := (6, [(0, .ref 64)], [.int (lin - 4)], (q_cM (q_mA pix smp tr (q_nb p 1 dn ins) (q_fb z)) q_IM (q_mJ y pd), 34, 31630))) 2 (fun _ _ => rfl) ?_
            exact q_Ru_ret rfl rfl
          show q_Ru _ _ _ (48, [(2, .int 0), (1, .int col), (0, .ref 64)], [.int (lin - 4)], (q_cM (q_mA pix smp tr (q_nb p 1 dn ins) (q_fb z)) q_IM (q_mJ y pd), 34, 31630)) _
          refine q_Ru_seg (g2 := (53, [(3, .int (lin - 4)), (2, .int 0), (1, .int col), (0, .ref 64)], [.int 31, .int 0, .int (lin - 4)], (q_cM (q_mA pix smp tr (q_nb p 1 dn ins) (q_fb z)) q_IM (q_mJ y pd), 34, 31630))) 4 (fun _ _ => rfl) ?_
          refine q_Ru_call (v := (some (.int 0))) (h2 := (q_cM (q_mA pix smp tr (q_nb p 1 dn ins) (q_fb z)) q_IM (q_mJ y pd), 34, 31630)) rfl rfl ?_ ?_
          · refine q_Ca_of (Nat.le_of_ble_eq_true rfl) ?_
            refine q_Ru_seg (g2 := (2, [(0, .int (lin - 4)), (1, .int 0), (2, .int 31)], [.int 0, .int (lin - 4)], (q_cM (q_mA pix smp tr (q_nb p 1 dn ins) (q_fb z)) q_IM (q_mJ y pd), 34, 31630))) 2 (fun _ _ => rfl) ?_
            refine q_Ru_rsF (g2 := (5, [(0, .int (lin - 4)), (1, .int 0), (2, .int 31)], [], (q_cM (q_mA pix smp tr (q_nb p 1 dn ins) (q_fb z)) q_IM (q_mJ y pd), 34, 31630))) rfl rfl h248 ?_
            refine q_Ru_seg (g2 := (7, [(0, .int (lin - 4)), (1, .int 0), (2, .int 31)], [.int 31, .int (lin - 4)], (q_cM (q_mA pix smp tr (q_nb p 1 dn ins) (q_fb z)) q_IM (q_mJ y pd), 34, 31630))) 2 (fun _ _ => rfl) ?_
            refine q_Ru_rsT (g2 := (14, [(0, .int (lin - 4)), (1, .int 0), (2, .int 31)], [], (q_cM (q_mA pix smp tr (q_nb p 1 dn ins) (q_fb z)) q_IM (q_mJ y pd), 34, 31630))) rfl rfl h250 ?_
            refine q_Ru_seg (g2 := (15, [(0, .int (lin - 4)), (1, .int 0), (2, .int 31)], [.int 0], (q_cM (q_mA pix smp tr (q_nb p 1 dn ins) (q_fb z)) q_IM (q_mJ y pd), 34, 31630))) 1 (fun _ _ => rfl) ?_
            exact q_Ru_ret rfl rfl
          show q_Ru _ _ _ (56, [(3, .int (lin - 4)), (2, .int 0), (1, .int col), (0, .ref 64)], [.int 0], (q_cM (q_mA pix smp tr (q_nb p 1 dn ins) (q_fb z)) q_IM (q_mJ y pd), 34, 31630)) _
          refine q_Ru_seg (g2 := (92, [(3, .int (lin - 4)), (2, .int 0), (1, .int col), (0, .ref 64)], [.ref 64], (q_cM (q_mA pix smp tr (q_nb p 1 dn ins) (q_fb z)) q_IM (q_mJ y pd), 34, 31630))) 2 (fun _ _ => rfl) ?_
          refine q_Ru_call (v := none) (h2 := (q_cM (q_mA pix smp tr (q_nb p 1 dn ins) (q_fb z)) q_IM (q_mJ y pd), 34, 31630)) rfl rfl ?_ ?_
          · exact (q_m_times pix smp tr p 1 dn ins z y pd col lin p1 p2 hC hM c0 c1 l0 l1 a0 a1 b0 b1 hp0 hp1 hp2 i0 i1  ).le (Nat.le_of_ble_eq_true rfl)
          show q_Ru _ _ _ (95, [(3, .int (lin - 4)), (2, .int 0), (1, .int col), (0, .ref 64)], [], (q_cM (q_mA pix smp tr (q_nb p 1 dn ins) (q_fb z)) q_IM (q_mJ y pd), 34, 31630)) _
          refine q_Ru_seg (g2 := (96, [(3, .int (lin - 4)), (2, .int 0), (1, .int col), (0, .ref 64)], [.ref 64], (q_cM (q_mA pix smp tr (q_nb p 1 dn ins) (q_fb z)) q_IM (q_mJ y pd), 34, 31630))) 1 (fun _ _ => rfl) ?_
          refine q_Ru_call (v := none) (h2 := (q_cM (q_mA pix smp tr (q_nb p 1 dn ins) (q_fb z)) q_IM (q_mJ y pd), 34, 31630)) rfl rfl ?_ ?_
          · exact (q_m_winds pix smp tr p 1 dn ins z y pd col lin p1 p2 hC hM c0 c1 l0 l1 a0 a1 b0 b1 hp0 hp1 hp2 i0 i1  ).le (Nat.le_of_ble_eq_true rfl)
          show q_Ru _ _ _ (99, [(3, .int (lin - 4)), (2, .int 0), (1, .int col), (0, .ref 64)], [], (q_cM (q_mA pix smp tr (q_nb p 1 dn ins) (q_fb z)) q_IM (q_mJ y pd), 34, 31630)) _
          refine q_Ru_seg (g2 := (102, [(3, .int (lin - 4)), (2, .int 0), (1, .int col), (0, .ref 64)], [.int 23, .int col], (q_cM (q_mA pix smp tr (q_nb p 1 dn ins) (q_fb z)) q_IM (q_mJ y pd), 34, 31630))) 2 (fun _ _ => rfl) ?_
          refine q_Ru_rsT (g2 := (109, [(3, .int (lin - 4)), (2, .int 0), (1, .int col), (0, .ref 64)], [], (q_cM (q_mA pix smp tr (q_nb p 1 dn ins) (q_fb z)) q_IM (q_mJ y pd), 34, 31630))) rfl rfl (q_d_neF h251) ?_
          refine q_Ru_seg (g2 := (114, [(3, .int (lin - 4)), (2, .int 0), (1, .int col), (0, .ref 64)], [.ref 64], (q_cM (q_mA pix smp tr (q_nb p 1 dn ins) (q_fb z)) q_IM (q_mJ y pd), 34, 31630))) 3 (fun _ _ => rfl) ?_
          refine q_Ru_call (v := none) (h2 := (q_cM (q_mA pix smp z363a (q_nb p2 0 (dn + 1) (ins + 1)) (q_fb z363b)) q_IM (q_mJ y pd), 34, 31630)) rfl rfl ?_ ?_
          · exact p363.le (Nat.le_of_ble_eq_true rfl)
          show q_Ru _ _ _ (117, [(3, .int (lin - 4)), (2, .int 0), (1, .int col), (0, .ref 64)], [], (q_cM (q_mA pix smp z363a (q_nb p2 0 (dn + 1) (ins + 1)) (q_fb z363b)) q_IM (q_mJ y pd), 34, 31630)) _
          refine q_Ru_seg (g2 := (122, [(3, .int (lin - 4)), (2, .int 0), (1, .int col), (0, .ref 64)], [.long pd, .ref 64], (q_cM (q_mA pix smp z363a (q_nb p2 0 (dn + 1) (ins + 1)) (q_fb z363b)) q_IM (q_mJ y pd), 34, 31630))) 3 (fun _ _ => rfl) ?_
          refine q_Ru_seg (g2 := (140, [(3, .int (lin - 4)), (2, .int 0), (1, .int col), (0, .ref 64)], [.long y, .ref 64], (q_cM (q_mA pix smp z363a (q_nb p2 0 (dn + 1) (ins + 1)) (q_fb z363b)) q_IM (q_uI (q_mJ y pd) 0 16 (pd + 0)), 34, 31630))) 8 (fun _ _ => rfl) ?_
          refine q_Ru_seg (g2 := (146, [(3, .int (lin - 4)), (2, .int 0), (1, .int col), (0, .ref 64)], [.int 0], (q_cM (q_mA pix smp z363a (q_nb p2 0 (dn + 1) (ins + 1)) (q_fb z363b)) q_IM (q_uI (q_uI (q_mJ y pd) 0 16 (pd + 0)) 0 15 (y + 1)), 34, 31630))) 4 (fun _ _ => rfl) ?_
          exact q_Ru_ret rfl rfl
      | false =>
        cases h252 : decide (col < 4) with
        | true =>
          have h253 : decide (col = 23) = false := q_not_tr (q_tbl1 (fun col => !decide (col = 23)) (l := 0) (n := 3) (by decide +kernel) c0 (q_hi1 h252))
          obtain ⟨z368a, z368b, p368⟩ := q_m_go1 pix smp tr p dn ins z y pd col lin p1 p2 hC hM c0 c1 l0 l1 a0 a1 b0 b1 hp0 hp1 hp2 i0 i1  
          refine ⟨pix, smp, z368a, z368b, ?_⟩
          refine q_Ca_of (Nat.le_of_ble_eq_true rfl) ?_
          refine q_Ru_seg (g2 := (4, [(0, .ref 64)], [.long y], (q_cM (q_mA pix smp tr (q_nb p 1 dn ins) (q_fb z)) q_IM (q_mJ y pd), 34, 31630))) 2 (fun _ _ => rfl) ?_
          refine q_Ru_seg (g2 := (9, [(0, .ref 64)], [.int ((y - y / 24 * 24).toInt32)], (q_cM (q_mA pix smp tr (q_nb p 1 dn ins) (q_fb z)) q_IM (q_mJ y pd), 34, 31630))) 3 (fun _ _ => rfl) ?_
          rw [hC]
          refine q_Ru_seg (g2 := (11, [(1, .int col), (0, .ref 64)], [.int col], (q_cM (q_mA pix smp tr (q_nb p 1 dn ins) (q_fb z)) q_IM (q_mJ y pd), 34, 31630))) 2 (fun _ _ => rfl) ?_
          refine q_Ru_rsT (g2 := (39, [(1, .int col), (0, .ref 64)], [], (q_cM (q_mA pix smp tr (q_nb p 1 dn ins) (q_fb z)) q_IM (q_mJ y pd), 34, 31630))) rfl rfl (q_d_neF h228) ?_
          refine q_Ru_seg (g2 := (40, [(1, .int col), (0, .ref 64)], [.ref 64], (q_cM (q_mA pix smp tr (q_nb p 1 dn ins) (q_fb z)) q_IM (q_mJ y pd), 34, 31630))) 1 (fun _ _ => rfl) ?_
          refine q_Ru_call (v := (some (.int 0))) (h2 := (q_cM (q_mA pix smp tr (q_nb p 1 dn ins) (q_fb z)) q_IM (q_mJ y pd), 34, 31630)) rfl rfl ?_ ?_
          · exact (by have e := q_m_picX pix smp tr p 1 dn ins z y pd col lin p1 p2 hC hM c0 c1 l0 l1 a0 a1 b0 b1 hp0 hp1 hp2 i0 i1; rw [hpic] at e; exact e.le (Nat.le_of_ble_eq_true rfl))
          show q_Ru _ _ _ (43, [(1, .int col), (0, .ref 64)], [.int 0], (q_cM (q_mA pix smp tr (q_nb p 1 dn ins) (q_fb z)) q_IM (q_mJ y pd), 34, 31630)) _
          refine q_Ru_seg (g2 := (45, [(2, .int 0), (1, .int col), (0, .ref 64)], [.ref 64], (q_cM (q_mA pix smp tr (q_nb p 1 dn ins) (q_fb z)) q_IM (q_mJ y pd), 34, 31630))) 2 (fun _ _ => rfl) ?_
          refine q_Ru_call (v := (some (.int (lin - 4)))) (h2 := (q_cM (q_mA pix smp tr (q_nb p 1 dn ins) (q_fb z)) q_IM (q_mJ y pd), 34, 31630)) rfl rfl ?_ ?_
          · refine q_Ca_of (Nat.le_of_ble_eq_true rfl) ?_
            refine q_Ru_seg (g2 := (1, [(0, .ref 64)], [.ref 64], (q_cM (q_mA pix smp tr (q_nb p 1 dn ins) (q_fb z)) q_IM (q_mJ y pd), 34, 31630))) 1 (fun _ _ => rfl) ?_
            refine q_Ru_call (v := (some (.int lin))) (h2 := (q_cM (q_mA pix smp tr (q_nb p 1 dn ins) (q_fb z)) q_IM (q_mJ y pd), 34, 31630)) rfl rfl ?_ ?_
            · refine q_Ca_of (Nat.le_of_ble_eq_true rfl) ?_
              refine q_Ru_seg (g2 := (4, [(0, .ref 64)], [.long y], (q_cM (q_mA pix smp tr (q_nb p 1 dn ins) (q_fb z)) q_IM (q_mJ y pd), 34, 31630))) 2 (fun _ _ => rfl) ?_
              refine q_Ru_seg (g2 := (13, [(0, .ref 64)], [.int (((y / 24) - (y / 24) / 40 * 40).toInt32)], (q_cM (q_mA pix smp tr (q_nb p 1 dn ins) (q_fb z)) q_IM (q_mJ y pd), 34, 31630))) 5 (fun _ _ => rfl) ?_
              rw [hM]
              exact q_Ru_ret rfl rfl
            show q_Ru _ _ _ (4, [(0, .ref 64)], [.int lin], (q_cM (q_mA pix smp tr (q_nb p 1 dn ins) (q_fb z)) q_IM (q_mJ y pd), 34, 31630)) _
            refine q_Ru_seg (g2 := (6, [(0, .ref 64)], [.int (lin - 4)], (q_cM (q_mA pix smp tr (q_nb p 1 dn ins) (q_fb z)) q_IM (q_mJ y pd), 34, 31630))) 2 (fun _ _ => rfl) ?_
            exact q_Ru_ret rfl rfl
          show q_Ru _ _ _ (48, [(2, .int 0), (1, .int col), (0, .ref 64)], [.int (lin - 4)], (q_cM (q_mA pix smp tr (q_nb p 1 dn ins) (q_fb z)) q_IM (q_mJ y pd), 34, 31630)) _
          refine q_Ru_seg (g2 := (53, [(3, .int (lin - 4)), (2, .int 0), (1, .int col), (0, .ref 64)], [.int 31, .int 0, .int (lin - 4)], (q_cM (q_mA pix smp tr (q_nb p 1 dn ins) (q_fb z)) q_IM (q_mJ y pd), 34, 31630))) 4 (fun _ _ => rfl) ?_
          refine q_Ru_call (v := (some (.int 1))) (h2 := (q_cM (q_mA pix smp tr (q_nb p 1 dn ins) (q_fb z)) q_IM (q_mJ y pd), 34, 31630)) rfl rfl ?_ ?_
          · refine q_Ca_of (Nat.le_of_ble_eq_true rfl) ?_
            refine q_Ru_seg (g2 := (2, [(0, .int (lin - 4)), (1, .int 0), (2, .int 31)], [.int 0, .int (lin - 4)], (q_cM (q_mA pix smp tr (q_nb p 1 dn ins) (q_fb z)) q_IM (q_mJ y pd), 34, 31630))) 2 (fun _ _ => rfl) ?_
            refine q_Ru_rsF (g2 := (5, [(0, .int (lin - 4)), (1, .int 0), (2, .int 31)], [], (q_cM (q_mA pix smp tr (q_nb p 1 dn ins) (q_fb z)) q_IM (q_mJ y pd), 34, 31630))) rfl rfl h248 ?_
            refine q_Ru_seg (g2 := (7, [(0, .int (lin - 4)), (1, .int 0), (2, .int 31)], [.int 31, .int (lin - 4)], (q_cM (q_mA pix smp tr (q_nb p 1 dn ins) (q_fb z)) q_IM (q_mJ y pd), 34, 31630))) 2 (fun _ _ => rfl) ?_
            refine q_Ru_rsF (g2 := (10, [(0, .int (lin - 4)), (1, .int 0), (2, .int 31)], [], (q_cM (q_mA pix smp tr (q_nb p 1 dn ins) (q_fb z)) q_IM (q_mJ y pd), 34, 31630))) rfl rfl h250 ?_
            refine q_Ru_seg (g2 := (15, [(0, .int (lin - 4)), (1, .int 0), (2, .int 31)], [.int 1], (q_cM (q_mA pix smp tr (q_nb p 1 dn ins) (q_fb z)) q_IM (q_mJ y pd), 34, 31630))) 2 (fun _ _ => rfl) ?_
            exact q_Ru_ret rfl rfl
          show q_Ru _ _ _ (56, [(3, .int (lin - 4)), (2, .int 0), (1, .int col), (0, .ref 64)], [.int 1], (q_cM (q_mA pix smp tr (q_nb p 1 dn ins) (q_fb z)) q_IM (q_mJ y pd), 34, 31630)) _
          refine q_Ru_seg (g2 := (63, [(3, .int (lin - 4)), (2, .int 0), (1, .int col), (0, .ref 64)], [.int 19, .int 4, .int col], (q_cM (q_mA pix smp tr (q_nb p 1 dn ins) (q_fb z)) q_IM (q_mJ y pd), 34, 31630))) 4 (fun _ _ => rfl) ?_
          refine q_Ru_call (v := (some (.int 0))) (h2 := (q_cM (q_mA pix smp tr (q_nb p 1 dn ins) (q_fb z)) q_IM (q_mJ y pd), 34, 31630)) rfl rfl ?_ ?_
          · refine q_Ca_of (Nat.le_of_ble_eq_true rfl) ?_
            refine q_Ru_seg (g2 := (2, [(0, .int col), (1, .int 4), (2, .int 19)], [.int 4, .int col], (q_cM (q_mA pix smp tr (q_nb p 1 dn ins) (q_fb z)) q_IM (q_mJ y pd), 34, 31630))) 2 (fun _ _ => rfl) ?_
            refine q_Ru_rsT (g2 := (14, [(0, .int col), (1, .int 4), (2, .int 19)], [], (q_cM (q_mA pix smp tr (q_nb p 1 dn ins) (q_fb z)) q_IM (q_mJ y pd), 34, 31630))) rfl rfl h252 ?_
            refine q_Ru_seg (g2 := (15, [(0, .int col), (1, .int 4), (2, .int 19)], [.int 0], (q_cM (q_mA pix smp tr (q_nb p 1 dn ins) (q_fb z)) q_IM (q_mJ y pd), 34, 31630))) 1 (fun _ _ => rfl) ?_
            exact q_Ru_ret rfl rfl
          show q_Ru _ _ _ (66, [(3, .int (lin - 4)), (2, .int 0), (1, .int col), (0, .ref 64)], [.int 0], (q_cM (q_mA pix smp tr (q_nb p 1 dn ins) (q_fb z)) q_IM (q_mJ y pd), 34, 31630)) _
          refine q_Ru_seg (g2 := (92, [(3, .int (lin - 4)), (2, .int 0), (1, .int col), (0, .ref 64)], [.ref 64], (q_cM (q_mA pix smp tr (q_nb p 1 dn ins) (q_fb z)) q_IM (q_mJ y pd), 34, 31630))) 2 (fun _ _ => rfl) ?_
          refine q_Ru_call (v := none) (h2 := (q_cM (q_mA pix smp tr (q_nb p 1 dn ins) (q_fb z)) q_IM (q_mJ y pd), 34, 31630)) rfl rfl ?_ ?_
          · exact (q_m_times pix smp tr p 1 dn ins z y pd col lin p1 p2 hC hM c0 c1 l0 l1 a0 a1 b0 b1 hp0 hp1 hp2 i0 i1  ).le (Nat.le_of_ble_eq_true rfl)
          show q_Ru _ _ _ (95, [(3, .int (lin - 4)), (2, .int 0), (1, .int col), (0, .ref 64)], [], (q_cM (q_mA pix smp tr (q_nb p 1 dn ins) (q_fb z)) q_IM (q_mJ y pd), 34, 31630)) _
          refine q_Ru_seg (g2 := (96, [(3, .int (lin - 4)), (2, .int 0), (1, .int col), (0, .ref 64)], [.ref 64], (q_cM (q_mA pix smp tr (q_nb p 1 dn ins) (q_fb z)) q_IM (q_mJ y pd), 34, 31630))) 1 (fun _ _ => rfl) ?_
          refine q_Ru_call (v := none) (h2 := (q_cM (q_mA pix smp tr (q_nb p 1 dn ins) (q_fb z)) q_IM (q_mJ y pd), 34, 31630)) rfl rfl ?_ ?_
          · exact (q_m_winds pix smp tr p 1 dn ins z y pd col lin p1 p2 hC hM c0 c1 l0 l1 a0 a1 b0 b1 hp0 hp1 hp2 i0 i1  ).le (Nat.le_of_ble_eq_true rfl)
          show q_Ru _ _ _ (99, [(3, .int (lin - 4)), (2, .int 0), (1, .int col), (0, .ref 64)], [], (q_cM (q_mA pix smp tr (q_nb p 1 dn ins) (q_fb z)) q_IM (q_mJ y pd), 34, 31630)) _
          refine q_Ru_seg (g2 := (102, [(3, .int (lin - 4)), (2, .int 0), (1, .int col), (0, .ref 64)], [.int 23, .int col], (q_cM (q_mA pix smp tr (q_nb p 1 dn ins) (q_fb z)) q_IM (q_mJ y pd), 34, 31630))) 2 (fun _ _ => rfl) ?_
          refine q_Ru_rsT (g2 := (109, [(3, .int (lin - 4)), (2, .int 0), (1, .int col), (0, .ref 64)], [], (q_cM (q_mA pix smp tr (q_nb p 1 dn ins) (q_fb z)) q_IM (q_mJ y pd), 34, 31630))) rfl rfl (q_d_neF h253) ?_
          refine q_Ru_seg (g2 := (114, [(3, .int (lin - 4)), (2, .int 0), (1, .int col), (0, .ref 64)], [.ref 64], (q_cM (q_mA pix smp tr (q_nb p 1 dn ins) (q_fb z)) q_IM (q_mJ y pd), 34, 31630))) 3 (fun _ _ => rfl) ?_
          refine q_Ru_call (v := none) (h2 := (q_cM (q_mA pix smp z368a (q_nb p2 0 (dn + 1) (ins + 1)) (q_fb z368b)) q_IM (q_mJ y pd), 34, 31630)) rfl rfl ?_ ?_
          · exact p368.le (Nat.le_of_ble_eq_true rfl)
          show q_Ru _ _ _ (117, [(3, .int (lin - 4)), (2, .int 0), (1, .int col), (0, .ref 64)], [], (q_cM (q_mA pix smp z368a (q_nb p2 0 (dn + 1) (ins + 1)) (q_fb z368b)) q_IM (q_mJ y pd), 34, 31630)) _
          refine q_Ru_seg (g2 := (122, [(3, .int (lin - 4)), (2, .int 0), (1, .int col), (0, .ref 64)], [.long pd, .ref 64], (q_cM (q_mA pix smp z368a (q_nb p2 0 (dn + 1) (ins + 1)) (q_fb z368b)) q_IM (q_mJ y pd), 34, 31630))) 3 (fun _ _ => rfl) ?_
          refine q_Ru_seg (g2 := (140, [(3, .int (lin - 4)), (2, .int 0), (1, .int col), (0, .ref 64)], [.long y, .ref 64], (q_cM (q_mA pix smp z368a (q_nb p2 0 (dn + 1) (ins + 1)) (q_fb z368b)) q_IM (q_uI (q_mJ y pd) 0 16 (pd + 0)), 34, 31630))) 8 (fun _ _ => rfl) ?_
          refine q_Ru_seg (g2 := (146, [(3, .int (lin - 4)), (2, .int 0), (1, .int col), (0, .ref 64)], [.int 0], (q_cM (q_mA pix smp z368a (q_nb p2 0 (dn + 1) (ins + 1)) (q_fb z368b)) q_IM (q_uI (q_uI (q_mJ y pd) 0 16 (pd + 0)) 0 15 (y + 1)), 34, 31630))) 4 (fun _ _ => rfl) ?_
          exact q_Ru_ret rfl rfl
        | false =>
          cases h254 : decide (19 < col) with
          | true =>
            cases h255 : decide (col = 23) with
            | true =>
              have eh255 := of_decide_eq_true h255
              subst eh255
              obtain ⟨z373a, p373⟩ := q_m_sample pix smp tr p 1 dn ins z y pd col lin p1 p2 hC hM c0 c1 l0 l1 a0 a1 b0 b1 hp0 hp1 hp2 i0 i1  
              obtain ⟨z374a, z374b, p374⟩ := q_m_go1 pix z373a tr p dn ins z y pd col lin p1 p2 hC hM c0 c1 l0 l1 a0 a1 b0 b1 hp0 hp1 hp2 i0 i1  
              refine ⟨pix, z373a, z374a, z374b, ?_⟩
              refine q_Ca_of (Nat.le_of_ble_eq_true rfl) ?_
              refine q_Ru_seg (g2 := (4, [(0, .ref 64)], [.long y], (q_cM (q_mA pix smp tr (q_nb p 1 dn ins) (q_fb z)) q_IM (q_mJ y pd), 34, 31630))) 2 (fun _ _ => rfl) ?_
              refine q_Ru_seg (g2 := (9, [(0, .ref 64)], [.int ((y - y / 24 * 24).toInt32)], (q_cM (q_mA pix smp tr (q_nb p 1 dn ins) (q_fb z)) q_IM (q_mJ y pd), 34, 31630))) 3 (fun _ _ => rfl) ?_
              rw [hC]
              refine q_Ru_seg (g2 := (11, [(1, .int col), (0, .ref 64)], [.int col], (q_cM (q_mA pix smp tr (q_nb p 1 dn ins) (q_fb z)) q_IM (q_mJ y pd), 34, 31630))) 2 (fun _ _ => rfl) ?_
              refine q_Ru_rsT (g2 := (39, [(1, .int col), (0, .ref 64)], [], (q_cM (q_mA pix smp tr (q_nb p 1 dn ins) (q_fb z)) q_IM (q_mJ y pd), 34, 31630))) rfl rfl (q_d_neF h228) ?_
              refine q_Ru_seg (g2 := (40, [(1, .int col), (0, .ref 64)], [.ref 64], (q_cM (q_mA pix smp tr (q_nb p 1 dn ins) (q_fb z)) q_IM (q_mJ y pd), 34, 31630))) 1 (fun _ _ => rfl) ?_
              refine q_Ru_call (v := (some (.int 0))) (h2 := (q_cM (q_mA pix smp tr (q_nb p 1 dn ins) (q_fb z)) q_IM (q_mJ y pd), 34, 31630)) rfl rfl ?_ ?_
              · exact (by have e := q_m_picX pix smp tr p 1 dn ins z y pd col lin p1 p2 hC hM c0 c1 l0 l1 a0 a1 b0 b1 hp0 hp1 hp2 i0 i1; rw [hpic] at e; exact e.le (Nat.le_of_ble_eq_true rfl))
              show q_Ru _ _ _ (43, [(1, .int col), (0, .ref 64)], [.int 0], (q_cM (q_mA pix smp tr (q_nb p 1 dn ins) (q_fb z)) q_IM (q_mJ y pd), 34, 31630)) _
              refine q_Ru_seg (g2 := (45, [(2, .int 0), (1, .int col), (0, .ref 64)], [.ref 64], (q_cM (q_mA pix smp tr (q_nb p 1 dn ins) (q_fb z)) q_IM (q_mJ y pd), 34, 31630))) 2 (fun _ _ => rfl) ?_
              refine q_Ru_call (v := (some (.int (lin - 4)))) (h2 := (q_cM (q_mA pix smp tr (q_nb p 1 dn ins) (q_fb z)) q_IM (q_mJ y pd), 34, 31630)) rfl rfl ?_ ?_
              · refine q_Ca_of (Nat.le_of_ble_eq_true rfl) ?_
                refine q_Ru_seg (g2 := (1, [(0, .ref 64)], [.ref 64], (q_cM (q_mA pix smp tr (q_nb p 1 dn ins) (q_fb z)) q_IM (q_mJ y pd), 34, 31630))) 1 (fun _ _ => rfl) ?_
                refine q_Ru_call (v := (some (.int lin))) (h2 := (q_cM (q_mA pix smp tr (q_nb p 1 dn ins) (q_fb z)) q_IM (q_mJ y pd), 34, 31630)) rfl rfl ?_ ?_
                · refine q_Ca_of (Nat.le_of_ble_eq_true rfl) ?_
                  refine q_Ru_seg (g2 := (4, [(0, .ref 64)], [.long y], (q_cM (q_mA pix smp tr (q_nb p 1 dn ins) (q_fb z)) q_IM (q_mJ y pd), 34, 31630))) 2 (fun _ _ => rfl) ?_
                  refine q_Ru_seg (g2 := (13, [(0, .ref 64)], [.int (((y / 24) - (y / 24) / 40 * 40).toInt32)], (q_cM (q_mA pix smp tr (q_nb p 1 dn ins) (q_fb z)) q_IM (q_mJ y pd), 34, 31630))) 5 (fun _ _ => rfl) ?_
                  rw [hM]
                  exact q_Ru_ret rfl rfl
                show q_Ru _ _ _ (4, [(0, .ref 64)], [.int lin], (q_cM (q_mA pix smp tr (q_nb p 1 dn ins) (q_fb z)) q_IM (q_mJ y pd), 34, 31630)) _
                refine q_Ru_seg (g2 := (6, [(0, .ref 64)], [.int (lin - 4)], (q_cM (q_mA pix smp tr (q_nb p 1 dn ins) (q_fb z)) q_IM (q_mJ y pd), 34, 31630))) 2 (fun _ _ => rfl) ?_
                exact q_Ru_ret rfl rfl
              show q_Ru _ _ _ (48, [(2, .int 0), (1, .int col), (0, .ref 64)], [.int (lin - 4)], (q_cM (q_mA pix smp tr (q_nb p 1 dn ins) (q_fb z)) q_IM (q_mJ y pd), 34, 31630)) _
              refine q_Ru_seg (g2 := (53, [(3, .int (lin - 4)), (2, .int 0), (1, .int col), (0, .ref 64)], [.int 31, .int 0, .int (lin - 4)], (q_cM (q_mA pix smp tr (q_nb p 1 dn ins) (q_fb z)) q_IM (q_mJ y pd), 34, 31630))) 4 (fun _ _ => rfl) ?_
              refine q_Ru_call (v := (some (.int 1))) (h2 := (q_cM (q_mA pix smp tr (q_nb p 1 dn ins) (q_fb z)) q_IM (q_mJ y pd), 34, 31630)) rfl rfl ?_ ?_
              · refine q_Ca_of (Nat.le_of_ble_eq_true rfl) ?_
                refine q_Ru_seg (g2 := (2, [(0, .int (lin - 4)), (1, .int 0), (2, .int 31)], [.int 0, .int (lin - 4)], (q_cM (q_mA pix smp tr (q_nb p 1 dn ins) (q_fb z)) q_IM (q_mJ y pd), 34, 31630))) 2 (fun _ _ => rfl) ?_
                refine q_Ru_rsF (g2 := (5, [(0, .int (lin - 4)), (1, .int 0), (2, .int 31)], [], (q_cM (q_mA pix smp tr (q_nb p 1 dn ins) (q_fb z)) q_IM (q_mJ y pd), 34, 31630))) rfl rfl h248 ?_
                refine q_Ru_seg (g2 := (7, [(0, .int (lin - 4)), (1, .int 0), (2, .int 31)], [.int 31, .int (lin - 4)], (q_cM (q_mA pix smp tr (q_nb p 1 dn ins) (q_fb z)) q_IM (q_mJ y pd), 34, 31630))) 2 (fun _ _ => rfl) ?_
                refine q_Ru_rsF (g2 := (10, [(0, .int (lin - 4)), (1, .int 0), (2, .int 31)], [], (q_cM (q_mA pix smp tr (q_nb p 1 dn ins) (q_fb z)) q_IM (q_mJ y pd), 34, 31630))) rfl rfl h250 ?_
                refine q_Ru_seg (g2 := (15, [(0, .int (lin - 4)), (1, .int 0), (2, .int 31)], [.int 1], (q_cM (q_mA pix smp tr (q_nb p 1 dn ins) (q_fb z)) q_IM (q_mJ y pd), 34, 31630))) 2 (fun _ _ => rfl) ?_
                exact q_Ru_ret rfl rfl
              show q_Ru _ _ _ (56, [(3, .int (lin - 4)), (2, .int 0), (1, .int col), (0, .ref 64)], [.int 1], (q_cM (q_mA pix smp tr (q_nb p 1 dn ins) (q_fb z)) q_IM (q_mJ y pd), 34, 31630)) _
              refine q_Ru_seg (g2 := (63, [(3, .int (lin - 4)), (2, .int 0), (1, .int col), (0, .ref 64)], [.int 19, .int 4, .int col], (q_cM (q_mA pix smp tr (q_nb p 1 dn ins) (q_fb z)) q_IM (q_mJ y pd), 34, 31630))) 4 (fun _ _ => rfl) ?_
              refine q_Ru_call (v := (some (.int 0))) (h2 := (q_cM (q_mA pix smp tr (q_nb p 1 dn ins) (q_fb z)) q_IM (q_mJ y pd), 34, 31630)) rfl rfl ?_ ?_
              · refine q_Ca_of (Nat.le_of_ble_eq_true rfl) ?_
                refine q_Ru_seg (g2 := (2, [(0, .int col), (1, .int 4), (2, .int 19)], [.int 4, .int col], (q_cM (q_mA pix smp tr (q_nb p 1 dn ins) (q_fb z)) q_IM (q_mJ y pd), 34, 31630))) 2 (fun _ _ => rfl) ?_
                refine q_Ru_rsF (g2 := (5, [(0, .int col), (1, .int 4), (2, .int 19)], [], (q_cM (q_mA pix smp tr (q_nb p 1 dn ins) (q_fb z)) q_IM (q_mJ y pd), 34, 31630))) rfl rfl h252 ?_
                refine q_Ru_seg (g2 := (7, [(0, .int col), (1, .int 4), (2, .int 19)], [.int 19, .int col], (q_cM (q_mA pix smp tr (q_nb p 1 dn ins) (q_fb z)) q_IM (q_mJ y pd), 34, 31630))) 2 (fun _ _ => rfl) ?_
                refine q_Ru_rsT (g2 := (14, [(0, .int col), (1, .int 4), (2, .int 19)], [], (q_cM (q_mA pix smp tr (q_nb p 1 dn ins) (q_fb z)) q_IM (q_mJ y pd), 34, 31630))) rfl rfl h254 ?_
                refine q_Ru_seg (g2 := (15, [(0, .int col), (1, .int 4), (2, .int 19)], [.int 0], (q_cM (q_mA pix smp tr (q_nb p 1 dn ins) (q_fb z)) q_IM (q_mJ y pd), 34, 31630))) 1 (fun _ _ => rfl) ?_
                exact q_Ru_ret rfl rfl
              show q_Ru _ _ _ (66, [(3, .int (lin - 4)), (2, .int 0), (1, .int col), (0, .ref 64)], [.int 0], (q_cM (q_mA pix smp tr (q_nb p 1 dn ins) (q_fb z)) q_IM (q_mJ y pd), 34, 31630)) _
              refine q_Ru_seg (g2 := (92, [(3, .int (lin - 4)), (2, .int 0), (1, .int col), (0, .ref 64)], [.ref 64], (q_cM (q_mA pix smp tr (q_nb p 1 dn ins) (q_fb z)) q_IM (q_mJ y pd), 34, 31630))) 2 (fun _ _ => rfl) ?_
              refine q_Ru_call (v := none) (h2 := (q_cM (q_mA pix smp tr (q_nb p 1 dn ins) (q_fb z)) q_IM (q_mJ y pd), 34, 31630)) rfl rfl ?_ ?_
              · exact (q_m_times pix smp tr p 1 dn ins z y pd col lin p1 p2 hC hM c0 c1 l0 l1 a0 a1 b0 b1 hp0 hp1 hp2 i0 i1  ).le (Nat.le_of_ble_eq_true rfl)
              show q_Ru _ _ _ (95, [(3, .int (lin - 4)), (2, .int 0), (1, .int col), (0, .ref 64)], [], (q_cM (q_mA pix smp tr (q_nb p 1 dn ins) (q_fb z)) q_IM (q_mJ y pd), 34, 31630)) _
              refine q_Ru_seg (g2 := (96, [(3, .int (lin - 4)), (2, .int 0), (1, .int col), (0, .ref 64)], [.ref 64], (q_cM (q_mA pix smp tr (q_nb p 1 dn ins) (q_fb z)) q_IM (q_mJ y pd), 34, 31630))) 1 (fun _ _ => rfl) ?_
              refine q_Ru_call (v := none) (h2 := (q_cM (q_mA pix smp tr (q_nb p 1 dn ins) (q_fb z)) q_IM (q_mJ y pd), 34, 31630)) rfl rfl ?_ ?_
              · exact (q_m_winds pix smp tr p 1 dn ins z y pd col lin p1 p2 hC hM c0 c1 l0 l1 a0 a1 b0 b1 hp0 hp1 hp2 i0 i1  ).le (Nat.le_of_ble_eq_true rfl)
              show q_Ru _ _ _ (99, [(3, .int (lin - 4)), (2, .int 0), (1, .int col), (0, .ref 64)], [], (q_cM (q_mA pix smp tr (q_nb p 1 dn ins) (q_fb z)) q_IM (q_mJ y pd), 34, 31630)) _
              refine q_Ru_seg (g2 := (102, [(3, .int (lin - 4)), (2, .int 0), (1, .int col), (0, .ref 64)], [.int 23, .int col], (q_cM (q_mA pix smp tr (q_nb p 1 dn ins) (q_fb z)) q_IM (q_mJ y pd), 34, 31630))) 2 (fun _ _ => rfl) ?_
              refine q_Ru_rsF (g2 := (105, [(3, .int (lin - 4)), (2, .int 0), (1, .int col), (0, .ref 64)], [], (q_cM (q_mA pix smp tr (q_nb p 1 dn ins) (q_fb z)) q_IM (q_mJ y pd), 34, 31630))) rfl rfl (q_d_neT h255) ?_
              refine q_Ru_seg (g2 := (106, [(3, .int (lin - 4)), (2, .int 0), (1, .int col), (0, .ref 64)], [.ref 64], (q_cM (q_mA pix smp tr (q_nb p 1 dn ins) (q_fb z)) q_IM (q_mJ y pd), 34, 31630))) 1 (fun _ _ => rfl) ?_
              refine q_Ru_call (v := none) (h2 := (q_cM (q_mA pix z373a tr (q_nb p 1 dn ins) (q_fb z)) q_IM (q_mJ y pd), 34, 31630)) rfl rfl ?_ ?_
              · exact p373.le (Nat.le_of_ble_eq_true rfl)
              show q_Ru _ _ _ (109, [(3, .int (lin - 4)), (2, .int 0), (1, .int col), (0, .ref 64)], [], (q_cM (q_mA pix z373a tr (q_nb p 1 dn ins) (q_fb z)) q_IM (q_mJ y pd), 34, 31630)) _
              refine q_Ru_seg (g2 := (114, [(3, .int (lin - 4)), (2, .int 0), (1, .int col), (0, .ref 64)], [.ref 64], (q_cM (q_mA pix z373a tr (q_nb p 1 dn ins) (q_fb z)) q_IM (q_mJ y pd), 34, 31630))) 3 (fun _ _ => rfl) ?_
              refine q_Ru_call (v := none) (h2 := (q_cM (q_mA pix z373a z374a (q_nb p2 0 (dn + 1) (ins + 1)) (q_fb z374b)) q_IM (q_mJ y pd), 34, 31630)) rfl rfl ?_ ?_
              · exact p374.le (Nat.le_of_ble_eq_true rfl)
              show q_Ru _ _ _ (117, [(3, .int (lin - 4)), (2, .int 0), (1, .int col), (0, .ref 64)], [], (q_cM (q_mA pix z373a z374a (q_nb p2 0 (dn + 1) (ins + 1)) (q_fb z374b)) q_IM (q_mJ y pd), 34, 31630)) _
              refine q_Ru_seg (g2 := (122, [(3, .int (lin - 4)), (2, .int 0), (1, .int col), (0, .ref 64)], [.long pd, .ref 64], (q_cM (q_mA pix z373a z374a (q_nb p2 0 (dn + 1) (ins + 1)) (q_fb z374b)) q_IM (q_mJ y pd), 34, 31630))) 3 (fun _ _ => rfl) ?_
              refine q_Ru_seg (g2 := (140, [(3, .int (lin - 4)), (2, .int 0), (1, .int col), (0, .ref 64)], [.long y, .ref 64], (q_cM (q_mA pix z373a z374a (q_nb p2 0 (dn + 1) (ins + 1)) (q_fb z374b)) q_IM (q_uI (q_mJ y pd) 0 16 (pd + 0)), 34, 31630))) 8 (fun _ _ => rfl) ?_
              refine q_Ru_seg (g2 := (146, [(3, .int (lin - 4)), (2, .int 0), (1, .int col), (0, .ref 64)], [.int 0], (q_cM (q_mA pix z373a z374a (q_nb p2 0 (dn + 1) (ins + 1)) (q_fb z374b)) q_IM (q_uI (q_uI (q_mJ y pd) 0 16 (pd + 0)) 0 15 (y + 1)), 34, 31630))) 4 (fun _ _ => rfl) ?_
              exact q_Ru_ret rfl rfl
            | false =>
              obtain ⟨z377a, z377b, p377⟩ := q_m_go1 pix smp tr p dn ins z y pd col lin p1 p2 hC hM c0 c1 l0 l1 a0 a1 b0 b1 hp0 hp1 hp2 i0 i1  
              refine ⟨pix, smp, z377a, z377b, ?_⟩
              refine q_Ca_of (Nat.le_of_ble_eq_true rfl) ?_
              refine q_Ru_seg (g2 := (4, [(0, .ref 64)], [.long y], (q_cM (q_mA pix smp tr (q_nb p 1 dn ins) (q_fb z)) q_IM (q_mJ y pd), 34, 31630))) 2 (fun _ _ => rfl) ?_
              refine q_Ru_seg (g2 := (9, [(0, .ref 64)], [.int ((y - y / 24 * 24).toInt32)], (q_cM (q_mA pix smp tr (q_nb p 1 dn ins) (q_fb z)) q_IM (q_mJ y pd), 34, 31630))) 3 (fun _ _ => rfl) ?_
              rw [hC]
              refine q_Ru_seg (g2 := (11, [(1, .int col), (0, .ref 64)], [.int col], (q_cM (q_mA pix smp tr (q_nb p 1 dn ins) (q_fb z)) q_IM (q_mJ y pd), 34, 31630))) 2 (fun _ _ => rfl) ?_
              refine q_Ru_rsT (g2 := (39, [(1, .int col), (0, .ref 64)], [], (q_cM (q_mA pix smp tr (q_nb p 1 dn ins) (q_fb z)) q_IM (q_mJ y pd), 34, 31630))) rfl rfl (q_d_neF h228) ?_
              refine q_Ru_seg (g2 := (40, [(1, .int col), (0, .ref 64)], [.ref 64], (q_cM (q_mA pix smp tr (q_nb p 1 dn ins) (q_fb z)) q_IM (q_mJ y pd), 34, 31630))) 1 (fun _ _ => rfl) ?_
              refine q_Ru_call (v := (some (.int 0))) (h2 := (q_cM (q_mA pix smp tr (q_nb p 1 dn ins) (q_fb z)) q_IM (q_mJ y pd), 34, 31630)) rfl rfl ?_ ?_
              · exact (by have e := q_m_picX pix smp tr p 1 dn ins z y pd col lin p1 p2 hC hM c0 c1 l0 l1 a0 a1 b0 b1 hp0 hp1 hp2 i0 i1; rw [hpic] at e; exact e.le (Nat.le_of_ble_eq_true rfl))
              show q_Ru _ _ _ (43, [(1, .int col), (0, .ref 64)], [.int 0], (q_cM (q_mA pix smp tr (q_nb p 1 dn ins) (q_fb z)) q_IM (q_mJ y pd), 34, 31630)) _
              refine q_Ru_seg (g2 := (45, [(2, .int 0), (1, .int col), (0, .ref 64)], [.ref 64], (q_cM (q_mA pix smp tr (q_nb p 1 dn ins) (q_fb z)) q_IM (q_mJ y pd), 34, 31630))) 2 (fun _ _ => rfl) ?_
              refine q_Ru_call (v := (some (.int (lin - 4)))) (h2 := (q_cM (q_mA pix smp tr (q_nb p 1 dn ins) (q_fb z)) q_IM (q_mJ y pd), 34, 31630)) rfl rfl ?_ ?_
              · refine q_Ca_of (Nat.le_of_ble_eq_true rfl) ?_
                refine q_Ru_seg (g2 := (1, [(0, .ref 64)], [.ref 64], (q_cM (q_mA pix smp tr (q_nb p 1 dn ins) (q_fb z)) q_IM (q_mJ y pd), 34, 31630))) 1 (fun _ _ => rfl) ?_
                refine q_Ru_call (v := (some (.int lin))) (h2 := (q_cM (q_mA pix smp tr (q_nb p 1 dn ins) (q_fb z)) q_IM (q_mJ y pd), 34, 31630)) rfl rfl ?_ ?_
                · refine q_Ca_of (Nat.le_of_ble_eq_true rfl) ?_
                  refine q_Ru_seg (g2 := (4, [(0, .ref 64)], [.long y], (q_cM (q_mA pix smp tr (q_nb p 1 dn ins) (q_fb z)) q_IM (q_mJ y pd), 34, 31630))) 2 (fun _ _ => rfl) ?_
                  refine q_Ru_seg (g2 := (13, [(0, .ref 64)], [.int (((y / 24) - (y / 24) / 40 * 40).toInt32)], (q_cM (q_mA pix smp tr (q_nb p 1 dn ins) (q_fb z)) q_IM (q_mJ y pd), 34, 31630))) 5 (fun _ _ => rfl) ?_
                  rw [hM]
                  exact q_Ru_ret rfl rfl
                show q_Ru _ _ _ (4, [(0, .ref 64)], [.int lin], (q_cM (q_mA pix smp tr (q_nb p 1 dn ins) (q_fb z)) q_IM (q_mJ y pd), 34, 31630)) _
                refine q_Ru_seg (g2 := (6, [(0, .ref 64)], [.int (lin - 4)], (q_cM (q_mA pix smp tr (q_nb p 1 dn ins) (q_fb z)) q_IM (q_mJ y pd), 34, 31630))) 2 (fun _ _ => rfl) ?_
                exact q_Ru_ret rfl rfl
              show q_Ru _ _ _ (48, [(2, .int 0), (1, .int col), (0, .ref 64)], [.int (lin - 4)], (q_cM (q_mA pix smp tr (q_nb p 1 dn ins) (q_fb z)) q_IM (q_mJ y pd), 34, 31630)) _
              refine q_Ru_seg (g2 := (53, [(3, .int (lin - 4)), (2, .int 0), (1, .int col), (0, .ref 64)], [.int 31, .int 0, .int (lin - 4)], (q_cM (q_mA pix smp tr (q_nb p 1 dn ins) (q_fb z)) q_IM (q_mJ y pd), 34, 31630))) 4 (fun _ _ => rfl) ?_
              refine q_Ru_call (v := (some (.int 1))) (h2 := (q_cM (q_mA pix smp tr (q_nb p 1 dn ins) (q_fb z)) q_IM (q_mJ y pd), 34, 31630)) rfl rfl ?_ ?_
              · refine q_Ca_of (Nat.le_of_ble_eq_true rfl) ?_
                refine q_Ru_seg (g2 := (2, [(0, .int (lin - 4)), (1, .int 0), (2, .int 31)], [.int 0, .int (lin - 4)], (q_cM (q_mA pix smp tr (q_nb p 1 dn ins) (q_fb z)) q_IM (q_mJ y pd), 34, 31630))) 2 (fun _ _ => rfl) ?_
                refine q_Ru_rsF (g2 := (5, [(0, .int (lin - 4)), (1, .int 0), (2, .int 31)], [], (q_cM (q_mA pix smp tr (q_nb p 1 dn ins) (q_fb z)) q_IM (q_mJ y pd), 34, 31630))) rfl rfl h248 ?_
                refine q_Ru_seg (g2 := (7, [(0, .int (lin - 4)), (1, .int 0), (2, .int 31)], [.int 31, .int (lin - 4)], (q_cM (q_mA pix smp tr (q_nb p 1 dn ins) (q_fb z)) q_IM (q_mJ y pd), 34, 31630))) 2 (fun _ _ => rfl) ?_
                refine q_Ru_rsF (g2 := (10, [(0, .int (lin - 4)), (1, .int 0), (2, .int 31)], [], (q_cM (q_mA pix smp tr (q_nb p 1 dn ins) (q_fb z)) q_IM (q_mJ y pd), 34, 31630))) rfl rfl h250 ?_
                refine q_Ru_seg (g2 := (15, [(0, .int (lin - 4)), (1, .int 0), (2, .int 31)], [.int 1], (q_cM (q_mA pix smp tr (q_nb p 1 dn ins) (q_fb z)) q_IM (q_mJ y pd), 34, 31630))) 2 (fun _ _ => rfl) ?_
                exact q_Ru_ret rfl rfl
              show q_Ru _ _ _ (56, [(3, .int (lin - 4)), (2, .int 0), (1, .int col), (0, .ref 64)], [.int 1], (q_cM (q_mA pix smp tr (q_nb p 1 dn ins) (q_fb z)) q_IM (q_mJ y pd), 34, 31630)) _
              refine q_Ru_seg (g2 := (63, [(3, .int (lin - 4)), (2, .int 0), (1, .int col), (0, .ref 64)], [.int 19, .int 4, .int col], (q_cM (q_mA pix smp tr (q_nb p 1 dn ins) (q_fb z)) q_IM (q_mJ y pd), 34, 31630))) 4 (fun _ _ => rfl) ?_
              refine q_Ru_call (v := (some (.int 0))) (h2 := (q_cM (q_mA pix smp tr (q_nb p 1 dn ins) (q_fb z)) q_IM (q_mJ y pd), 34, 31630)) rfl rfl ?_ ?_
              · refine q_Ca_of (Nat.le_of_ble_eq_true rfl) ?_
                refine q_Ru_seg (g2 := (2, [(0, .int col), (1, .int 4), (2, .int 19)], [.int 4, .int col], (q_cM (q_mA pix smp tr (q_nb p 1 dn ins) (q_fb z)) q_IM (q_mJ y pd), 34, 31630))) 2 (fun _ _ => rfl) ?_
                refine q_Ru_rsF (g2 := (5, [(0, .int col), (1, .int 4), (2, .int 19)], [], (q_cM (q_mA pix smp tr (q_nb p 1 dn ins) (q_fb z)) q_IM (q_mJ y pd), 34, 31630))) rfl rfl h252 ?_
                refine q_Ru_seg (g2 := (7, [(0, .int col), (1, .int 4), (2, .int 19)], [.int 19, .int col], (q_cM (q_mA pix smp tr (q_nb p 1 dn ins) (q_fb z)) q_IM (q_mJ y pd), 34, 31630))) 2 (fun _ _ => rfl) ?_
                refine q_Ru_rsT (g2 := (14, [(0, .int col), (1, .int 4), (2, .int 19)], [], (q_cM (q_mA pix smp tr (q_nb p 1 dn ins) (q_fb z)) q_IM (q_mJ y pd), 34, 31630))) rfl rfl h254 ?_
                refine q_Ru_seg (g2 := (15, [(0, .int col), (1, .int 4), (2, .int 19)], [.int 0], (q_cM (q_mA pix smp tr (q_nb p 1 dn ins) (q_fb z)) q_IM (q_mJ y pd), 34, 31630))) 1 (fun _ _ => rfl) ?_
                exact q_Ru_ret rfl rfl
              show q_Ru _ _ _ (66, [(3, .int (lin - 4)), (2, .int 0), (1, .int col), (0, .ref 64)], [.int 0], (q_cM (q_mA pix smp tr (q_nb p 1 dn ins) (q_fb z)) q_IM (q_mJ y pd), 34, 31630)) _
              refine q_Ru_seg (g2 := (92, [(3, .int (lin - 4)), (2, .int 0), (1, .int col), (0, .ref 64)], [.ref 64], (q_cM (q_mA pix smp tr (q_nb p 1 dn ins) (q_fb z)) q_IM (q_mJ y pd), 34, 31630))) 2 (fun _ _ => rfl) ?_
              refine q_Ru_call (v := none) (h2 := (q_cM (q_mA pix smp tr (q_nb p 1 dn ins) (q_fb z)) q_IM (q_mJ y pd), 34, 31630)) rfl rfl ?_ ?_
              · exact (q_m_times pix smp tr p 1 dn ins z y pd col lin p1 p2 hC hM c0 c1 l0 l1 a0 a1 b0 b1 hp0 hp1 hp2 i0 i1  ).le (Nat.le_of_ble_eq_true rfl)
              show q_Ru _ _ _ (95, [(3, .int (lin - 4)), (2, .int 0), (1, .int col), (0, .ref 64)], [], (q_cM (q_mA pix smp tr (q_nb p 1 dn ins) (q_fb z)) q_IM (q_mJ y pd), 34, 31630)) _
              refine q_Ru_seg (g2 := (96, [(3, .int (lin - 4)), (2, .int 0), (1, .int col), (0, .ref 64)], [.ref 64], (q_cM (q_mA pix smp tr (q_nb p 1 dn ins) (q_fb z)) q_IM (q_mJ y pd), 34, 31630))) 1 (fun _ _ => rfl) ?_
              refine q_Ru_call (v := none) (h2 := (q_cM (q_mA pix smp tr (q_nb p 1 dn ins) (q_fb z)) q_IM (q_mJ y pd), 34, 31630)) rfl rfl ?_ ?_
              · exact (q_m_winds pix smp tr p 1 dn ins z y pd col lin p1 p2 hC hM c0 c1 l0 l1 a0 a1 b0 b1 hp0 hp1 hp2 i0 i1  ).le (Nat.le_of_ble_eq_true rfl)
              show q_Ru _ _ _ (99, [(3, .int (lin - 4)), (2, .int 0), (1, .int col), (0, .ref 64)], [], (q_cM (q_mA pix smp tr (q_nb p 1 dn ins) (q_fb z)) q_IM (q_mJ y pd), 34, 31630)) _
              refine q_Ru_seg (g2 := (102, [(3, .int (lin - 4)), (2, .int 0), (1, .int col), (0, .ref 64)], [.int 23, .int col], (q_cM (q_mA pix smp tr (q_nb p 1 dn ins) (q_fb z)) q_IM (q_mJ y pd), 34, 31630))) 2 (fun _ _ => rfl) ?_
              refine q_Ru_rsT (g2 := (109, [(3, .int (lin - 4)), (2, .int 0), (1, .int col), (0, .ref 64)], [], (q_cM (q_mA pix smp tr (q_nb p 1 dn ins) (q_fb z)) q_IM (q_mJ y pd), 34, 31630))) rfl rfl (q_d_neF h255) ?_
              refine q_Ru_seg (g2 := (114, [(3, .int (lin - 4)), (2, .int 0), (1, .int col), (0, .ref 64)], [.ref 64], (q_cM (q_mA pix smp tr (q_nb p 1 dn ins) (q_fb z)) q_IM (q_mJ y pd), 34, 31630))) 3 (fun _ _ => rfl) ?_
              refine q_Ru_call (v := none) (h2 := (q_cM (q_mA pix smp z377a (q_nb p2 0 (dn + 1) (ins + 1)) (q_fb z377b)) q_IM (q_mJ y pd), 34, 31630)) rfl rfl ?_ ?_
              · exact p377.le (Nat.le_of_ble_eq_true rfl)
              show q_Ru _ _ _ (117, [(3, .int (lin - 4)), (2, .int 0), (1, .int col), (0, .ref 64)], [], (q_cM (q_mA pix smp z377a (q_nb p2 0 (dn + 1) (ins + 1)) (q_fb z377b)) q_IM (q_mJ y pd), 34, 31630)) _
              refine q_Ru_seg (g2 := (122, [(3, .int (lin - 4)), (2, .int 0), (1, .int col), (0, .ref 64)], [.long pd, .ref 64], (q_cM (q_mA pix smp z377a (q_nb p2 0 (dn + 1) (ins + 1)) (q_fb z377b)) q_IM (q_mJ y pd), 34, 31630))) 3 (fun _ _ => rfl) ?_
              refine q_Ru_seg (g2 := (140, [(3, .int (lin - 4)), (2, .int 0), (1, .int col), (0, .ref 64)], [.long y, .ref 64], (q_cM (q_mA pix smp z377a (q_nb p2 0 (dn + 1) (ins + 1)) (q_fb z377b)) q_IM (q_uI (q_mJ y pd) 0 16 (pd + 0)), 34, 31630))) 8 (fun _ _ => rfl) ?_
              refine q_Ru_seg (g2 := (146, [(3, .int (lin - 4)), (2, .int 0), (1, .int col), (0, .ref 64)], [.int 0], (q_cM (q_mA pix smp z377a (q_nb p2 0 (dn + 1) (ins + 1)) (q_fb z377b)) q_IM (q_uI (q_uI (q_mJ y pd) 0 16 (pd + 0)) 0 15 (y + 1)), 34, 31630))) 4 (fun _ _ => rfl) ?_
              exact q_Ru_ret rfl rfl
          | false =>
            have h256 : decide (col = 23) = false := q_not_tr (q_tbl1 (fun col => !decide (col = 23)) (l := 4) (n := 15) (by decide +kernel) (q_lo1 h252) (q_hi2 h254))
            obtain ⟨x382, p382⟩ := q_m_draws pix smp tr p 1 dn ins z y pd ((2 * col) - 8) (lin - 4) (of_decide_eq_true (q_tbl1 (fun col => decide (0 ≤ ((2 * col) - 8).toInt ∧ ((2 * col) - 8).toInt ≤ 31)) (l := 4) (n := 15) (by decide +kernel) (q_lo1 h252) (q_hi2 h254))).1 (of_decide_eq_true (q_tbl1 (fun col => decide (0 ≤ ((2 * col) - 8).toInt ∧ ((2 * col) - 8).toInt ≤ 31)) (l := 4) (n := 15) (by decide +kernel) (q_lo1 h252) (q_hi2 h254))).2 (of_decide_eq_true (q_tbl1 (fun lin => decide (0 ≤ (lin - 4).toInt ∧ (lin - 4).toInt ≤ 31)) (l := 4) (n := 31) (by decide +kernel) (q_sub_lo 4 (q_lo1 h248) l0 l1) (q_sub_hi 35 (q_hi2 h250) (q_sub_lo 4 (q_lo1 h248) l0 l1) l1))).1 (of_decide_eq_true (q_tbl1 (fun lin => decide (0 ≤ (lin - 4).toInt ∧ (lin - 4).toInt ≤ 31)) (l := 4) (n := 31) (by decide +kernel) (q_sub_lo 4 (q_lo1 h248) l0 l1) (q_sub_hi 35 (q_hi2 h250) (q_sub_lo 4 (q_lo1 h248) l0 l1) l1))).2
            obtain ⟨x383, p383⟩ := q_m_draws x382 smp tr p 1 dn ins z y pd ((2 * col) - 7) (lin - 4) (of_decide_eq_true (q_tbl1 (fun col => decide (0 ≤ ((2 * col) - 7).toInt ∧ ((2 * col) - 7).toInt ≤ 31)) (l := 4) (n := 15) (by decide +kernel) (q_lo1 h252) (q_hi2 h254))).1 (of_decide_eq_true (q_tbl1 (fun col => decide (0 ≤ ((2 * col) - 7).toInt ∧ ((2 * col) - 7).toInt ≤ 31)) (l := 4) (n := 15) (by decide +kernel) (q_lo1 h252) (q_hi2 h254))).2 (of_decide_eq_true (q_tbl1 (fun lin => decide (0 ≤ (lin - 4).toInt ∧ (lin - 4).toInt ≤ 31)) (l := 4) (n := 31) (by decide +kernel) (q_sub_lo 4 (q_lo1 h248) l0 l1) (q_sub_hi 35 (q_hi2 h250) (q_sub_lo 4 (q_lo1 h248) l0 l1) l1))).1 (of_decide_eq_true (q_tbl1 (fun lin => decide (0 ≤ (lin - 4).toInt ∧ (lin - 4).toInt ≤ 31)) (l := 4) (n := 31) (by decide +kernel) (q_sub_lo 4 (q_lo1 h248) l0 l1) (q_sub_hi 35 (q_hi2 h250) (q_sub_lo 4 (q_lo1 h248) l0 l1) l1))).2
            obtain ⟨z386a, z386b, p386⟩ := q_m_go1 x383 smp tr p dn ins z y pd col lin p1 p2 hC hM c0 c1 l0 l1 a0 a1 b0 b1 hp0 hp1 hp2 i0 i1  
            refine ⟨x383, smp, z386a, z386b, ?_⟩
            refine q_Ca_of (Nat.le_of_ble_eq_true rfl) ?_
            refine q_Ru_seg (g2 := (4, [(0, .ref 64)], [.long y], (q_cM (q_mA pix smp tr (q_nb p 1 dn ins) (q_fb z)) q_IM (q_mJ y pd), 34, 31630))) 2 (fun _ _ => rfl) ?_
            refine q_Ru_seg (g2 := (9, [(0, .ref 64)], [.int ((y - y / 24 * 24).toInt32)], (q_cM (q_mA pix smp tr (q_nb p 1 dn ins) (q_fb z)) q_IM (q_mJ y pd), 34, 31630))) 3 (fun _ _ => rfl) ?_
            rw [hC]
            refine q_Ru_seg (g2 := (11, [(1, .int col), (0, .ref 64)], [.int col], (q_cM (q_mA pix smp tr (q_nb p 1 dn ins) (q_fb z)) q_IM (q_mJ y pd), 34, 31630))) 2 (fun _ _ => rfl) ?_
            refine q_Ru_rsT (g2 := (39, [(1, .int col), (0, .ref 64)], [], (q_cM (q_mA pix smp tr (q_nb p 1 dn ins) (q_fb z)) q_IM (q_mJ y pd), 34, 31630))) rfl rfl (q_d_neF h228) ?_
            refine q_Ru_seg (g2 := (40, [(1, .int col), (0, .ref 64)], [.ref 64], (q_cM (q_mA pix smp tr (q_nb p 1 dn ins) (q_fb z)) q_IM (q_mJ y pd), 34, 31630))) 1 (fun _ _ => rfl) ?_
            refine q_Ru_call (v := (some (.int 0))) (h2 := (q_cM (q_mA pix smp tr (q_nb p 1 dn ins) (q_fb z)) q_IM (q_mJ y pd), 34, 31630)) rfl rfl ?_ ?_
            · exact (by have e := q_m_picX pix smp tr p 1 dn ins z y pd col lin p1 p2 hC hM c0 c1 l0 l1 a0 a1 b0 b1 hp0 hp1 hp2 i0 i1; rw [hpic] at e; exact e.le (Nat.le_of_ble_eq_true rfl))
            show q_Ru _ _ _ (43, [(1, .int col), (0, .ref 64)], [.int 0], (q_cM (q_mA pix smp tr (q_nb p 1 dn ins) (q_fb z)) q_IM (q_mJ y pd), 34, 31630)) _
            refine q_Ru_seg (g2 := (45, [(2, .int 0), (1, .int col), (0, .ref 64)], [.ref 64], (q_cM (q_mA pix smp tr (q_nb p 1 dn ins) (q_fb z)) q_IM (q_mJ y pd), 34, 31630))) 2 (fun _ _ => rfl) ?_
            refine q_Ru_call (v := (some (.int (lin - 4)))) (h2 := (q_cM (q_mA pix smp tr (q_nb p 1 dn ins) (q_fb z)) q_IM (q_mJ y pd), 34, 31630)) rfl rfl ?_ ?_
            · refine q_Ca_of (Nat.le_of_ble_eq_true rfl) ?_
              refine q_Ru_seg (g2 := (1, [(0, .ref 64)], [.ref 64], (q_cM (q_mA pix smp tr (q_nb p 1 dn ins) (q_fb z)) q_IM (q_mJ y pd), 34, 31630))) 1 (fun _ _ => rfl) ?_
              refine q_Ru_call (v := (some (.int lin))) (h2 := (q_cM (q_mA pix smp tr (q_nb p 1 dn ins) (q_fb z)) q_IM (q_mJ y pd), 34, 31630)) rfl rfl ?_ ?_
              · refine q_Ca_of (Nat.le_of_ble_eq_true rfl) ?_
                refine q_Ru_seg (g2 := (4, [(0, .ref 64)], [.long y], (q_cM (q_mA pix smp tr (q_nb p 1 dn ins) (q_fb z)) q_IM (q_mJ y pd), 34, 31630))) 2 (fun _ _ => rfl) ?_
                refine q_Ru_seg (g2 := (13, [(0, .ref 64)], [.int (((y / 24) - (y / 24) / 40 * 40).toInt32)], (q_cM (q_mA pix smp tr (q_nb p 1 dn ins) (q_fb z)) q_IM (q_mJ y pd), 34, 31630))) 5 (fun _ _ => rfl) ?_
                rw [hM]
                exact q_Ru_ret rfl rfl
              show q_Ru _ _ _ (4, [(0, .ref 64)], [.int lin], (q_cM (q_mA pix smp tr (q_nb p 1 dn ins) (q_fb z)) q_IM (q_mJ y pd), 34, 31630)) _
              refine q_Ru_seg (g2 := (6, [(0, .ref 64)], [.int (lin - 4)], (q_cM (q_mA pix smp tr (q_nb p 1 dn ins) (q_fb z)) q_IM (q_mJ y pd), 34, 31630))) 2 (fun _ _ => rfl) ?_
              exact q_Ru_ret rfl rfl
            show q_Ru _ _ _ (48, [(2, .int 0), (1, .int col), (0, .ref 64)], [.int (lin - 4)], (q_cM (q_mA pix smp tr (q_nb p 1 dn ins) (q_fb z)) q_IM (q_mJ y pd), 34, 31630)) _
            refine q_Ru_seg (g2 := (53, [(3, .int (lin - 4)), (2, .int 0), (1, .int col), (0, .ref 64)], [.int 31, .int 0, .int (lin - 4)], (q_cM (q_mA pix smp tr (q_nb p 1 dn ins) (q_fb z)) q_IM (q_mJ y pd), 34, 31630))) 4 (fun _ _ => rfl) ?_
            refine q_Ru_call (v := (some (.int 1))) (h2 := (q_cM (q_mA pix smp tr (q_nb p 1 dn ins) (q_fb z)) q_IM (q_mJ y pd), 34, 31630)) rfl rfl ?_ ?_
            · refine q_Ca_of (Nat.le_of_ble_eq_true rfl) ?_
              refine q_Ru_seg (g2 := (2, [(0, .int (lin - 4)), (1, .int 0), (2, .int 31)], [.int 0, .int (lin - 4)], (q_cM (q_mA pix smp tr (q_nb p 1 dn ins) (q_fb z)) q_IM (q_mJ y pd), 34, 31630))) 2 (fun _ _ => rfl) ?_
              refine q_Ru_rsF (g2 := (5, [(0, .int (lin - 4)), (1, .int 0), (2, .int 31)], [], (q_cM (q_mA pix smp tr (q_nb p 1 dn ins) (q_fb z)) q_IM (q_mJ y pd), 34, 31630))) rfl rfl h248 ?_
              refine q_Ru_seg (g2 := (7, [(0, .int (lin - 4)), (1, .int 0), (2, .int 31)], [.int 31, .int (lin - 4)], (q_cM (q_mA pix smp tr (q_nb p 1 dn ins) (q_fb z)) q_IM (q_mJ y pd), 34, 31630))) 2 (fun _ _ => rfl) ?_
              refine q_Ru_rsF (g2 := (10, [(0, .int (lin - 4)), (1, .int 0), (2, .int 31)], [], (q_cM (q_mA pix smp tr (q_nb p 1 dn ins) (q_fb z)) q_IM (q_mJ y pd), 34, 31630))) rfl rfl h250 ?_
              refine q_Ru_seg (g2 := (15, [(0, .int (lin - 4)), (1, .int 0), (2, .int 31)], [.int 1], (q_cM (q_mA pix smp tr (q_nb p 1 dn ins) (q_fb z)) q_IM (q_mJ y pd), 34, 31630))) 2 (fun _ _ => rfl) ?_
              exact q_Ru_ret rfl rfl
            show q_Ru _ _ _ (56, [(3, .int (lin - 4)), (2, .int 0), (1, .int col), (0, .ref 64)], [.int 1], (q_cM (q_mA pix smp tr (q_nb p 1 dn ins) (q_fb z)) q_IM (q_mJ y pd), 34, 31630)) _
            refine q_Ru_seg (g2 := (63, [(3, .int (lin - 4)), (2, .int 0), (1, .int col), (0, .ref 64)], [.int 19, .int 4, .int col], (q_cM (q_mA pix smp tr (q_nb p 1 dn ins) (q_fb z)) q_IM (q_mJ y pd), 34, 31630))) 4 (fun _ _ => rfl) ?_
            refine q_Ru_call (v := (some (.int 1))) (h2 := (q_cM (q_mA pix smp tr (q_nb p 1 dn ins) (q_fb z)) q_IM (q_mJ y pd), 34, 31630)) rfl rfl ?_ ?_
            · refine q_Ca_of (Nat.le_of_ble_eq_true rfl) ?_
              refine q_Ru_seg (g2 := (2, [(0, .int col), (1, .int 4), (2, .int 19)], [.int 4, .int col], (q_cM (q_mA pix smp tr (q_nb p 1 dn ins) (q_fb z)) q_IM (q_mJ y pd), 34, 31630))) 2 (fun _ _ => rfl) ?_
              refine q_Ru_rsF (g2 := (5, [(0, .int col), (1, .int 4), (2, .int 19)], [], (q_cM (q_mA pix smp tr (q_nb p 1 dn ins) (q_fb z)) q_IM (q_mJ y pd), 34, 31630))) rfl rfl h252 ?_
              refine q_Ru_seg (g2 := (7, [(0, .int col), (1, .int 4), (2, .int 19)], [.int 19, .int col], (q_cM (q_mA pix smp tr (q_nb p 1 dn ins) (q_fb z)) q_IM (q_mJ y pd), 34, 31630))) 2 (fun _ _ => rfl) ?_
              refine q_Ru_rsF (g2 := (10, [(0, .int col), (1, .int 4), (2, .int 19)], [], (q_cM (q_mA pix smp tr (q_nb p 1 dn ins) (q_fb z)) q_IM (q_mJ y pd), 34, 31630))) rfl rfl h254 ?_
              refine q_Ru_seg (g2 := (15, [(0, .int col), (1, .int 4), (2, .int 19)], [.int 1], (q_cM (q_mA pix smp tr (q_nb p 1 dn ins) (q_fb z)) q_IM (q_mJ y pd), 34, 31630))) 2 (fun _ _ => rfl) ?_
              exact q_Ru_ret rfl rfl
            show q_Ru _ _ _ (66, [(3, .int (lin - 4)), (2, .int 0), (1, .int col), (0, .ref 64)], [.int 1], (q_cM (q_mA pix smp tr (q_nb p 1 dn ins) (q_fb z)) q_IM (q_mJ y pd), 34, 31630)) _
            refine q_Ru_seg (g2 := (77, [(3, .int (lin - 4)), (2, .int 0), (1, .int col), (0, .ref 64)], [.int (lin - 4), .int ((2 * col) - 8), .ref 64], (q_cM (q_mA pix smp tr (q_nb p 1 dn ins) (q_fb z)) q_IM (q_mJ y pd), 34, 31630))) 8 (fun _ _ => rfl) ?_
            refine q_Ru_call (v := none) (h2 := (q_cM (q_mA x382 smp tr (q_nb p 1 dn ins) (q_fb z)) q_IM (q_mJ y pd), 34, 31630)) rfl rfl ?_ ?_
            · exact p382.le (Nat.le_of_ble_eq_true rfl)
            show q_Ru _ _ _ (80, [(3, .int (lin - 4)), (2, .int 0), (1, .int col), (0, .ref 64)], [], (q_cM (q_mA x382 smp tr (q_nb p 1 dn ins) (q_fb z)) q_IM (q_mJ y pd), 34, 31630)) _
            refine q_Ru_seg (g2 := (88, [(3, .int (lin - 4)), (2, .int 0), (1, .int col), (0, .ref 64)], [.int (lin - 4), .int ((2 * col) - 7), .ref 64], (q_cM (q_mA x382 smp tr (q_nb p 1 dn ins) (q_fb z)) q_IM (q_mJ y pd), 34, 31630))) 7 (fun _ _ => rfl) ?_
            refine q_Ru_call (v := none) (h2 := (q_cM (q_mA x383 smp tr (q_nb p 1 dn ins) (q_fb z)) q_IM (q_mJ y pd), 34, 31630)) rfl rfl ?_ ?_
            · exact p383.le (Nat.le_of_ble_eq_true rfl)
            show q_Ru _ _ _ (91, [(3, .int (lin - 4)), (2, .int 0), (1, .int col), (0, .ref 64)], [], (q_cM (q_mA x383 smp tr (q_nb p 1 dn ins) (q_fb z)) q_IM (q_mJ y pd), 34, 31630)) _
            refine q_Ru_seg (g2 := (92, [(3, .int (lin - 4)), (2, .int 0), (1, .int col), (0, .ref 64)], [.ref 64], (q_cM (q_mA x383 smp tr (q_nb p 1 dn ins) (q_fb z)) q_IM (q_mJ y pd), 34, 31630))) 1 (fun _ _ => rfl) ?_
            refine q_Ru_call (v := none) (h2 := (q_cM (q_mA x383 smp tr (q_nb p 1 dn ins) (q_fb z)) q_IM (q_mJ y pd), 34, 31630)) rfl rfl ?_ ?_
            · exact (q_m_times x383 smp tr p 1 dn ins z y pd col lin p1 p2 hC hM c0 c1 l0 l1 a0 a1 b0 b1 hp0 hp1 hp2 i0 i1  ).le (Nat.le_of_ble_eq_true rfl)
            show q_Ru _ _ _ (95, [(3, .int (lin - 4)), (2, .int 0), (1, .int col), (0, .ref 64)], [], (q_cM (q_mA x383 smp tr (q_nb p 1 dn ins) (q_fb z)) q_IM (q_mJ y pd), 34, 31630)) _
            refine q_Ru_seg (g2 := (96, [(3, .int (lin - 4)), (2, .int 0), (1, .int col), (0, .ref 64)], [.ref 64], (q_cM (q_mA x383 smp tr (q_nb p 1 dn ins) (q_fb z)) q_IM (q_mJ y pd), 34, 31630))) 1 (fun _ _ => rfl) ?_
            refine q_Ru_call (v := none) (h2 := (q_cM (q_mA x383 smp tr (q_nb p 1 dn ins) (q_fb z)) q_IM (q_mJ y pd), 34, 31630)) rfl rfl ?_ ?_
            · exact (q_m_winds x383 smp tr p 1 dn ins z y pd col lin p1 p2 hC hM c0 c1 l0 l1 a0 a1 b0 b1 hp0 hp1 hp2 i0 i1  ).le (Nat.le_of_ble_eq_true rfl)
            show q_Ru _ _ _ (99, [(3, .int (lin - 4)), (2, .int 0), (1, .int col), (0, .ref 64)], [], (q_cM (q_mA x383 smp tr (q_nb p 1 dn ins) (q_fb z)) q_IM (q_mJ y pd), 34, 31630)) _
            refine q_Ru_seg (g2 := (102, [(3, .int (lin - 4)), (2, .int 0), (1, .int col), (0, .ref 64)], [.int 23, .int col], (q_cM (q_mA x383 smp tr (q_nb p 1 dn ins) (q_fb z)) q_IM (q_mJ y pd), 34, 31630))) 2 (fun _ _ => rfl) ?_
            refine q_Ru_rsT (g2 := (109, [(3, .int (lin - 4)), (2, .int 0), (1, .int col), (0, .ref 64)], [], (q_cM (q_mA x383 smp tr (q_nb p 1 dn ins) (q_fb z)) q_IM (q_mJ y pd), 34, 31630))) rfl rfl (q_d_neF h256) ?_
            refine q_Ru_seg (g2 := (114, [(3, .int (lin - 4)), (2, .int 0), (1, .int col), (0, .ref 64)], [.ref 64], (q_cM (q_mA x383 smp tr (q_nb p 1 dn ins) (q_fb z)) q_IM (q_mJ y pd), 34, 31630))) 3 (fun _ _ => rfl) ?_
            refine q_Ru_call (v := none) (h2 := (q_cM (q_mA x383 smp z386a (q_nb p2 0 (dn + 1) (ins + 1)) (q_fb z386b)) q_IM (q_mJ y pd), 34, 31630)) rfl rfl ?_ ?_
            · exact p386.le (Nat.le_of_ble_eq_true rfl)
            show q_Ru _ _ _ (117, [(3, .int (lin - 4)), (2, .int 0), (1, .int col), (0, .ref 64)], [], (q_cM (q_mA x383 smp z386a (q_nb p2 0 (dn + 1) (ins + 1)) (q_fb z386b)) q_IM (q_mJ y pd), 34, 31630)) _
            refine q_Ru_seg (g2 := (122, [(3, .int (lin - 4)), (2, .int 0), (1, .int col), (0, .ref 64)], [.long pd, .ref 64], (q_cM (q_mA x383 smp z386a (q_nb p2 0 (dn + 1) (ins + 1)) (q_fb z386b)) q_IM (q_mJ y pd), 34, 31630))) 3 (fun _ _ => rfl) ?_
            refine q_Ru_seg (g2 := (140, [(3, .int (lin - 4)), (2, .int 0), (1, .int col), (0, .ref 64)], [.long y, .ref 64], (q_cM (q_mA x383 smp z386a (q_nb p2 0 (dn + 1) (ins + 1)) (q_fb z386b)) q_IM (q_uI (q_mJ y pd) 0 16 (pd + 0)), 34, 31630))) 8 (fun _ _ => rfl) ?_
            refine q_Ru_seg (g2 := (146, [(3, .int (lin - 4)), (2, .int 0), (1, .int col), (0, .ref 64)], [.int 0], (q_cM (q_mA x383 smp z386a (q_nb p2 0 (dn + 1) (ins + 1)) (q_fb z386b)) q_IM (q_uI (q_uI (q_mJ y pd) 0 16 (pd + 0)) 0 15 (y + 1)), 34, 31630))) 4 (fun _ _ => rfl) ?_
            exact q_Ru_ret rfl rfl
set_option maxHeartbeats 4000000 in
theorem q_itM1 (pix smp tr : Nat → Int32) (p left dn ins z : Int32) (y pd : Int64) (col lin p1 p2 : Int32) (hC : (y - y / 24 * 24).toInt32 = col) (hM : (y / 24 - y / 24 / 40 * 40).toInt32 = lin) (c0 : 0 ≤ col.toInt) (c1 : col.toInt ≤ 23) (l0 : 0 ≤ lin.toInt) (l1 : lin.toInt ≤ 39) (a0 : 0 ≤ p.toInt) (a1 : p.toInt ≤ 3839) (b0 : 0 ≤ p1.toInt) (b1 : p1.toInt ≤ 3839) (hp0 : p &&& 4095 = p) (hp1 : (p + 1) &&& 4095 = p1) (hp2 : (p + 2) &&& 4095 = p2) (i0 : 0 ≤ ins.toInt) (i1 : ins.toInt ≤ 1000) (hpic : q_picX lin col = 1) (k c u : Int32) (hk : decide (k < u) = true) : ∃ pix2 smp2, ∀ o, q_Ru q_TB0 9 236 (29, [(3, .int (k + 1)), (2, .int (c + 1)), (0, .ref 64), (1, .int u)], [], (q_cM (q_mA pix2 smp2 tr (q_nb p left dn ins) (q_fb z)) q_IM (q_mJ (y + 1) (pd + 1)), 34, 31630)) o → q_Ru q_TB0 9 236 (29, [(3, .int k), (2, .int c), (0, .ref 64), (1, .int u)], [], (q_cM (q_mA pix smp tr (q_nb p left dn ins) (q_fb z)) q_IM (q_mJ y pd), 34, 31630)) o := by
  obtain ⟨z387a, z387b, p387⟩ := q_m_pass1 pix smp tr p left dn ins z y pd col lin p1 p2 hC hM c0 c1 l0 l1 a0 a1 b0 b1 hp0 hp1 hp2 i0 i1 hpic 
  refine ⟨z387a, z387b, fun o h => ?_⟩
  refine q_Ru_seg (g2 := (31, [(3, .int k), (2, .int c), (0, .ref 64), (1, .int u)], [.int u, .int k], (q_cM (q_mA pix smp tr (q_nb p left dn ins) (q_fb z)) q_IM (q_mJ y pd), 34, 31630))) 2 (fun _ _ => rfl) ?_
  refine q_Ru_rsF (g2 := (34, [(3, .int k), (2, .int c), (0, .ref 64), (1, .int u)], [], (q_cM (q_mA pix smp tr (q_nb p left dn ins) (q_fb z)) q_IM (q_mJ y pd), 34, 31630))) rfl rfl (q_d_geT hk) ?_
  refine q_Ru_seg (g2 := (36, [(3, .int k), (2, .int c), (0, .ref 64), (1, .int u)], [.ref 64, .int c], (q_cM (q_mA pix smp tr (q_nb p left dn ins) (q_fb z)) q_IM (q_mJ y pd), 34, 31630))) 2 (fun _ _ => rfl) ?_
  refine q_Ru_call (v := (some (.int 1))) (h2 := (q_cM (q_mA z387a z387b tr (q_nb p left dn ins) (q_fb z)) q_IM (q_mJ (y + 1) (pd + 1)), 34, 31630)) rfl rfl ?_ ?_
  · exact p387.le (Nat.le_of_ble_eq_true rfl)
  show q_Ru _ _ _ (39, [(3, .int k), (2, .int c), (0, .ref 64), (1, .int u)], [.int 1, .int c], (q_cM (q_mA z387a z387b tr (q_nb p left dn ins) (q_fb z)) q_IM (q_mJ (y + 1) (pd + 1)), 34, 31630)) _
  refine q_Ru_seg (g2 := (29, [(3, .int (k + 1)), (2, .int (c + 1)), (0, .ref 64), (1, .int u)], [], (q_cM (q_mA z387a z387b tr (q_nb p left dn ins) (q_fb z)) q_IM (q_mJ (y + 1) (pd + 1)), 34, 31630))) 7 (fun _ _ => rfl) ?_
  exact h
set_option maxHeartbeats 4000000 in
theorem q_itM00 (pix smp tr : Nat → Int32) (p dn ins z : Int32) (y pd : Int64) (col lin p1 p2 : Int32) (hC : (y - y / 24 * 24).toInt32 = col) (hM : (y / 24 - y / 24 / 40 * 40).toInt32 = lin) (c0 : 0 ≤ col.toInt) (c1 : col.toInt ≤ 23) (l0 : 0 ≤ lin.toInt) (l1 : lin.toInt ≤ 39) (a0 : 0 ≤ p.toInt) (a1 : p.toInt ≤ 3839) (b0 : 0 ≤ p1.toInt) (b1 : p1.toInt ≤ 3839) (hp0 : p &&& 4095 = p) (hp1 : (p + 1) &&& 4095 = p1) (hp2 : (p + 2) &&& 4095 = p2) (i0 : 0 ≤ ins.toInt) (i1 : ins.toInt ≤ 1000) (hpic : q_picX lin col = 0) (k c u : Int32) (hk : decide (k < u) = true) : ∃ pix2 smp2, ∀ o, q_Ru q_TB0 9 236 (29, [(3, .int (k + 1)), (2, .int (c + 0)), (0, .ref 64), (1, .int u)], [], (q_cM (q_mA pix2 smp2 tr (q_nb p 1 dn ins) (q_fb z)) q_IM (q_mJ (y + 1) (pd + 0)), 34, 31630)) o → q_Ru q_TB0 9 236 (29, [(3, .int k), (2, .int c), (0, .ref 64), (1, .int u)], [], (q_cM (q_mA pix smp tr (q_nb p 0 dn ins) (q_fb z)) q_IM (q_mJ y pd), 34, 31630)) o := by
  obtain ⟨z388a, z388b, p388⟩ := q_m_pass00 pix smp tr p dn ins z y pd col lin p1 p2 hC hM c0 c1 l0 l1 a0 a1 b0 b1 hp0 hp1 hp2 i0 i1 hpic 
  refine ⟨z388a, z388b, fun o h => ?_⟩
  refine q_Ru_seg (g2 := (31, [(3, .int k), (2, .int c), (0, .ref 64), (1, .int u)], [.int u, .int k], (q_cM (q_mA pix smp tr (q_nb p 0 dn ins) (q_fb z)) q_IM (q_mJ y pd), 34, 31630))) 2 (fun _ _ => rfl) ?_
  refine q_Ru_rsF (g2 := (34, [(3, .int k), (2, .int c), (0, .ref 64), (1, .int u)], [], (q_cM (q_mA pix smp tr (q_nb p 0 dn ins) (q_fb z)) q_IM (q_mJ y pd), 34, 31630))) rfl rfl (q_d_geT hk) ?_
  refine q_Ru_seg (g2 := (36, [(3, .int k), (2, .int c), (0, .ref 64), (1, .int u)], [.ref 64, .int c], (q_cM (q_mA pix smp tr (q_nb p 0 dn ins) (q_fb z)) q_IM (q_mJ y pd), 34, 31630))) 2 (fun _ _ => rfl) ?_
  refine q_Ru_call (v := (some (.int 0))) (h2 := (q_cM (q_mA z388a z388b tr (q_nb p 1 dn ins) (q_fb z)) q_IM (q_mJ (y + 1) (pd + 0)), 34, 31630)) rfl rfl ?_ ?_
  · exact p388.le (Nat.le_of_ble_eq_true rfl)
  show q_Ru _ _ _ (39, [(3, .int k), (2, .int c), (0, .ref 64), (1, .int u)], [.int 0, .int c], (q_cM (q_mA z388a z388b tr (q_nb p 1 dn ins) (q_fb z)) q_IM (q_mJ (y + 1) (pd + 0)), 34, 31630)) _
  refine q_Ru_seg (g2 := (29, [(3, .int (k + 1)), (2, .int (c + 0)), (0, .ref 64), (1, .int u)], [], (q_cM (q_mA z388a z388b tr (q_nb p 1 dn ins) (q_fb z)) q_IM (q_mJ (y + 1) (pd + 0)), 34, 31630))) 6 (fun _ _ => rfl) ?_
  exact h
set_option maxHeartbeats 4000000 in
theorem q_itM01 (pix smp tr : Nat → Int32) (p dn ins z : Int32) (y pd : Int64) (col lin p1 p2 : Int32) (hC : (y - y / 24 * 24).toInt32 = col) (hM : (y / 24 - y / 24 / 40 * 40).toInt32 = lin) (c0 : 0 ≤ col.toInt) (c1 : col.toInt ≤ 23) (l0 : 0 ≤ lin.toInt) (l1 : lin.toInt ≤ 39) (a0 : 0 ≤ p.toInt) (a1 : p.toInt ≤ 3839) (b0 : 0 ≤ p1.toInt) (b1 : p1.toInt ≤ 3839) (hp0 : p &&& 4095 = p) (hp1 : (p + 1) &&& 4095 = p1) (hp2 : (p + 2) &&& 4095 = p2) (i0 : 0 ≤ ins.toInt) (i1 : ins.toInt ≤ 1000) (hpic : q_picX lin col = 0) (k c u : Int32) (hk : decide (k < u) = true) : ∃ pix2 smp2 tr2 z2, ∀ o, q_Ru q_TB0 9 236 (29, [(3, .int (k + 1)), (2, .int (c + 0)), (0, .ref 64), (1, .int u)], [], (q_cM (q_mA pix2 smp2 tr2 (q_nb p2 0 (dn + 1) (ins + 1)) (q_fb z2)) q_IM (q_mJ (y + 1) (pd + 0)), 34, 31630)) o → q_Ru q_TB0 9 236 (29, [(3, .int k), (2, .int c), (0, .ref 64), (1, .int u)], [], (q_cM (q_mA pix smp tr (q_nb p 1 dn ins) (q_fb z)) q_IM (q_mJ y pd), 34, 31630)) o := by
  obtain ⟨z389a, z389b, z389c, z389d, p389⟩ := q_m_pass01 pix smp tr p dn ins z y pd col lin p1 p2 hC hM c0 c1 l0 l1 a0 a1 b0 b1 hp0 hp1 hp2 i0 i1 hpic 
  refine ⟨z389a, z389b, z389c, z389d, fun o h => ?_⟩
  refine q_Ru_seg (g2 := (31, [(3, .int k), (2, .int c), (0, .ref 64), (1, .int u)], [.int u, .int k], (q_cM (q_mA pix smp tr (q_nb p 1 dn ins) (q_fb z)) q_IM (q_mJ y pd), 34, 31630))) 2 (fun _ _ => rfl) ?_
  refine q_Ru_rsF (g2 := (34, [(3, .int k), (2, .int c), (0, .ref 64), (1, .int u)], [], (q_cM (q_mA pix smp tr (q_nb p 1 dn ins) (q_fb z)) q_IM (q_mJ y pd), 34, 31630))) rfl rfl (q_d_geT hk) ?_
  refine q_Ru_seg (g2 := (36, [(3, .int k), (2, .int c), (0, .ref 64), (1, .int u)], [.ref 64, .int c], (q_cM (q_mA pix smp tr (q_nb p 1 dn ins) (q_fb z)) q_IM (q_mJ y pd), 34, 31630))) 2 (fun _ _ => rfl) ?_
  refine q_Ru_call (v := (some (.int 0))) (h2 := (q_cM (q_mA z389a z389b z389c (q_nb p2 0 (dn + 1) (ins + 1)) (q_fb z389d)) q_IM (q_mJ (y + 1) (pd + 0)), 34, 31630)) rfl rfl ?_ ?_
  · exact p389.le (Nat.le_of_ble_eq_true rfl)
  show q_Ru _ _ _ (39, [(3, .int k), (2, .int c), (0, .ref 64), (1, .int u)], [.int 0, .int c], (q_cM (q_mA z389a z389b z389c (q_nb p2 0 (dn + 1) (ins + 1)) (q_fb z389d)) q_IM (q_mJ (y + 1) (pd + 0)), 34, 31630)) _
  refine q_Ru_seg (g2 := (29, [(3, .int (k + 1)), (2, .int (c + 0)), (0, .ref 64), (1, .int u)], [], (q_cM (q_mA z389a z389b z389c (q_nb p2 0 (dn + 1) (ins + 1)) (q_fb z389d)) q_IM (q_mJ (y + 1) (pd + 0)), 34, 31630))) 6 (fun _ _ => rfl) ?_
  exact h
