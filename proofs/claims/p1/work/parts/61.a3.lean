def q_nb (p left dn ins : Int32) : Nat → Int32 := upd (upd (upd (upd (upd (upd (fun _ => 0) 3 255) 9 1) 4 p) 17 left) 19 dn) 20 ins
def q_fb (z : Int32) : Nat → Int32 := upd (upd (fun _ => 0) 3 1) 4 z
def q_mA (pix smp tr nb fb : Nat → Int32) (i : Nat) : Nat → Int32 := cond (Nat.beq i 5) pix (cond (Nat.beq i 6) smp (cond (Nat.beq i 9) tr (cond (Nat.beq i 14) nb (cond (Nat.beq i 15) fb (q_AM i)))))
def q_mJ (y pd : Int64) (i k : Nat) : Int64 := cond (Nat.beq i 0 && Nat.beq k 15) y (cond (Nat.beq i 0 && Nat.beq k 16) pd 0)
theorem q_nb_4 (p left dn ins x : Int32) : upd (q_nb p left dn ins) 4 x = q_nb x left dn ins := by
  funext j
  unfold q_nb upd
  repeat' split
  all_goals first | rfl | omega
theorem q_nb_17 (p left dn ins x : Int32) : upd (q_nb p left dn ins) 17 x = q_nb p x dn ins := by
  funext j
  unfold q_nb upd
  repeat' split
  all_goals first | rfl | omega
theorem q_nb_19 (p left dn ins x : Int32) : upd (q_nb p left dn ins) 19 x = q_nb p left x ins := by
  funext j
  unfold q_nb upd
  repeat' split
  all_goals first | rfl | omega
theorem q_nb_20 (p left dn ins x : Int32) : upd (q_nb p left dn ins) 20 x = q_nb p left dn x := by
  funext j
  unfold q_nb upd
  repeat' split
  all_goals first | rfl | omega
theorem q_nb_0 (p left dn ins : Int32) : upd (q_nb p left dn ins) 0 0 = q_nb p left dn ins := by
  funext j
  unfold q_nb upd
  repeat' split
  all_goals first | rfl | omega
theorem q_nb_9 (p left dn ins : Int32) : upd (q_nb p left dn ins) 9 1 = q_nb p left dn ins := by
  funext j
  unfold q_nb upd
  repeat' split
  all_goals first | rfl | omega
theorem q_nb_18 (p left dn ins : Int32) : upd (q_nb p left dn ins) 18 0 = q_nb p left dn ins := by
  funext j
  unfold q_nb upd
  repeat' split
  all_goals first | rfl | omega
theorem q_fb_4 (z x : Int32) : upd (q_fb z) 4 x = q_fb x := by
  funext j
  unfold q_fb upd
  repeat' split
  all_goals first | rfl | omega
theorem q_fb_0 (z : Int32) : upd (q_fb z) 0 0 = q_fb z := by
  funext j
  unfold q_fb upd
  repeat' split
  all_goals first | rfl | omega
theorem q_cM_A {A B I : Nat → Nat → Int32} {J : Nat → Nat → Int64} (h : ∀ i, i < 34 → A i = B i) : q_cM A I J = q_cM B I J := by
  unfold q_cM
  simp only [h 1 (by decide), h 2 (by decide), h 3 (by decide), h 4 (by decide), h 5 (by decide), h 6 (by decide), h 7 (by decide), h 8 (by decide), h 9 (by decide), h 10 (by decide), h 11 (by decide), h 12 (by decide), h 13 (by decide), h 14 (by decide), h 15 (by decide), h 16 (by decide), h 17 (by decide), h 18 (by decide), h 19 (by decide), h 20 (by decide), h 21 (by decide), h 22 (by decide), h 23 (by decide), h 24 (by decide), h 25 (by decide), h 26 (by decide), h 27 (by decide), h 28 (by decide), h 29 (by decide), h 30 (by decide), h 32 (by decide), h 33 (by decide)]
set_option maxHeartbeats 4000000 in
theorem q_m_picX (pix smp tr : Nat → Int32) (p left dn ins z : Int32) (y pd : Int64) (col lin p1 p2 : Int32) (hC : (y - y / 24 * 24).toInt32 = col) (hM : (y / 24 - y / 24 / 40 * 40).toInt32 = lin) (c0 : 0 ≤ col.toInt) (c1 : col.toInt ≤ 23) (l0 : 0 ≤ lin.toInt) (l1 : lin.toInt ≤ 39) (a0 : 0 ≤ p.toInt) (a1 : p.toInt ≤ 3839) (b0 : 0 ≤ p1.toInt) (b1 : p1.toInt ≤ 3839) (hp0 : p &&& 4095 = p) (hp1 : (p + 1) &&& 4095 = p1) (hp2 : (p + 2) &&& 4095 = p2) (i0 : 0 ≤ ins.toInt) (i1 : ins.toInt ≤ 1000) : q_Ca q_TB0 6 225 [.ref 64] (q_cM (q_mA pix smp tr (q_nb p left dn ins) (q_fb z)) q_IM (q_mJ y pd), 34, 31630) (.inl (some (.int (q_picX lin col))), (q_cM (q_mA pix smp tr (q_nb p left dn ins) (q_fb z)) q_IM (q_mJ y pd), 34, 31630)) := by
  cases h156 : decide (lin - 4 < 0) with
  | true =>
    have t9 := q_tbl2 (fun lin col => decide (q_picX lin col = 0)) (l := 0) (n := 3) (l2 := 0) (n2 := 23) (by decide +kernel) l0 (q_sub_hi 3 (q_hi1 h156) l0 l1) c0 c1
    rw [of_decide_eq_true t9]
    refine q_Ca_of (Nat.le_of_ble_eq_true rfl) ?_
    refine q_Ru_seg (g2 := (1, [(0, .ref 64)], [.ref 64], (q_cM (q_mA pix smp tr (q_nb p left dn ins) (q_fb z)) q_IM (q_mJ y pd), 34, 31630))) 1 (fun _ _ => rfl) ?_
    refine q_Ru_call (v := (some (.int (lin - 4)))) (h2 := (q_cM (q_mA pix smp tr (q_nb p left dn ins) (q_fb z)) q_IM (q_mJ y pd), 34, 31630)) rfl rfl ?_ ?_
    · refine q_Ca_of (Nat.le_of_ble_eq_true rfl) ?_
      refine q_Ru_seg (g2 := (1, [(0, .ref 64)], [.ref 64], (q_cM (q_mA pix smp tr (q_nb p left dn ins) (q_fb z)) q_IM (q_mJ y pd), 34, 31630))) 1 (fun _ _ => rfl) ?_
      refine q_Ru_call (v := (some (.int lin))) (h2 := (q_cM (q_mA pix smp tr (q_nb p left dn ins) (q_fb z)) q_IM (q_mJ y pd), 34, 31630)) rfl rfl ?_ ?_
      · refine q_Ca_of (Nat.le_of_ble_eq_true rfl) ?_
        refine q_Ru_seg (g2 := (4, [(0, .ref 64)], [.long y], (q_cM (q_mA pix smp tr (q_nb p left dn ins) (q_fb z)) q_IM (q_mJ y pd), 34, 31630))) 2 (fun _ _ => rfl) ?_
        refine q_Ru_seg (g2 := (13, [(0, .ref 64)], [.int (((y / 24) - (y / 24) / 40 * 40).toInt32)], (q_cM (q_mA pix smp tr (q_nb p left dn ins) (q_fb z)) q_IM (q_mJ y pd), 34, 31630))) 5 (fun _ _ => rfl) ?_
        rw [hM]
        exact q_Ru_ret rfl rfl
      show q_Ru _ _ _ (4, [(0, .ref 64)], [.int lin], (q_cM (q_mA pix smp tr (q_nb p left dn ins) (q_fb z)) q_IM (q_mJ y pd), 34, 31630)) _
      refine q_Ru_seg (g2 := (6, [(0, .ref 64)], [.int (lin - 4)], (q_cM (q_mA pix smp tr (q_nb p left dn ins) (q_fb z)) q_IM (q_mJ y pd), 34, 31630))) 2 (fun _ _ => rfl) ?_
      exact q_Ru_ret rfl rfl
    show q_Ru _ _ _ (4, [(0, .ref 64)], [.int (lin - 4)], (q_cM (q_mA pix smp tr (q_nb p left dn ins) (q_fb z)) q_IM (q_mJ y pd), 34, 31630)) _
    refine q_Ru_seg (g2 := (9, [(1, .int (lin - 4)), (0, .ref 64)], [.long y], (q_cM (q_mA pix smp tr (q_nb p left dn ins) (q_fb z)) q_IM (q_mJ y pd), 34, 31630))) 3 (fun _ _ => rfl) ?_
    refine q_Ru_seg (g2 := (14, [(1, .int (lin - 4)), (0, .ref 64)], [.int ((y - y / 24 * 24).toInt32)], (q_cM (q_mA pix smp tr (q_nb p left dn ins) (q_fb z)) q_IM (q_mJ y pd), 34, 31630))) 3 (fun _ _ => rfl) ?_
    rw [hC]
    refine q_Ru_seg (g2 := (19, [(2, .int col), (1, .int (lin - 4)), (0, .ref 64)], [.int 31, .int 0, .int (lin - 4)], (q_cM (q_mA pix smp tr (q_nb p left dn ins) (q_fb z)) q_IM (q_mJ y pd), 34, 31630))) 4 (fun _ _ => rfl) ?_
    refine q_Ru_call (v := (some (.int 0))) (h2 := (q_cM (q_mA pix smp tr (q_nb p left dn ins) (q_fb z)) q_IM (q_mJ y pd), 34, 31630)) rfl rfl ?_ ?_
    · refine q_Ca_of (Nat.le_of_ble_eq_true rfl) ?_
      refine q_Ru_seg (g2 := (2, [(0, .int (lin - 4)), (1, .int 0), (2, .int 31)], [.int 0, .int (lin - 4)], (q_cM (q_mA pix smp tr (q_nb p left dn ins) (q_fb z)) q_IM (q_mJ y pd), 34, 31630))) 2 (fun _ _ => rfl) ?_
      refine q_Ru_rsT (g2 := (14, [(0, .int (lin - 4)), (1, .int 0), (2, .int 31)], [], (q_cM (q_mA pix smp tr (q_nb p left dn ins) (q_fb z)) q_IM (q_mJ y pd), 34, 31630))) rfl rfl h156 ?_
      refine q_Ru_seg (g2 := (15, [(0, .int (lin - 4)), (1, .int 0), (2, .int 31)], [.int 0], (q_cM (q_mA pix smp tr (q_nb p left dn ins) (q_fb z)) q_IM (q_mJ y pd), 34, 31630))) 1 (fun _ _ => rfl) ?_
      exact q_Ru_ret rfl rfl
    show q_Ru _ _ _ (22, [(2, .int col), (1, .int (lin - 4)), (0, .ref 64)], [.int 0], (q_cM (q_mA pix smp tr (q_nb p left dn ins) (q_fb z)) q_IM (q_mJ y pd), 34, 31630)) _
    refine q_Ru_seg (g2 := (26, [(2, .int col), (1, .int (lin - 4)), (0, .ref 64)], [.int 0], (q_cM (q_mA pix smp tr (q_nb p left dn ins) (q_fb z)) q_IM (q_mJ y pd), 34, 31630))) 2 (fun _ _ => rfl) ?_
    exact q_Ru_ret rfl rfl
  | false =>
    cases h157 : decide (31 < lin - 4) with
    | true =>
      have t9 := q_tbl2 (fun lin col => decide (q_picX lin col = 0)) (l := 36) (n := 3) (l2 := 0) (n2 := 23) (by decide +kernel) (q_sub_lo 36 (q_lo2 h157) (q_sub_lo 4 (q_lo1 h156) l0 l1) l1) l1 c0 c1
      rw [of_decide_eq_true t9]
      refine q_Ca_of (Nat.le_of_ble_eq_true rfl) ?_
      refine q_Ru_seg (g2 := (1, [(0, .ref 64)], [.ref 64], (q_cM (q_mA pix smp tr (q_nb p left dn ins) (q_fb z)) q_IM (q_mJ y pd), 34, 31630))) 1 (fun _ _ => rfl) ?_
      refine q_Ru_call (v := (some (.int (lin - 4)))) (h2 := (q_cM (q_mA pix smp tr (q_nb p left dn ins) (q_fb z)) q_IM (q_mJ y pd), 34, 31630)) rfl rfl ?_ ?_
      · refine q_Ca_of (Nat.le_of_ble_eq_true rfl) ?_
        refine q_Ru_seg (g2 := (1, [(0, .ref 64)], [.ref 64], (q_cM (q_mA pix smp tr (q_nb p left dn ins) (q_fb z)) q_IM (q_mJ y pd), 34, 31630))) 1 (fun _ _ => rfl) ?_
        refine q_Ru_call (v := (some (.int lin))) (h2 := (q_cM (q_mA pix smp tr (q_nb p left dn ins) (q_fb z)) q_IM (q_mJ y pd), 34, 31630)) rfl rfl ?_ ?_
        · refine q_Ca_of (Nat.le_of_ble_eq_true rfl) ?_
          refine q_Ru_seg (g2 := (4, [(0, .ref 64)], [.long y], (q_cM (q_mA pix smp tr (q_nb p left dn ins) (q_fb z)) q_IM (q_mJ y pd), 34, 31630))) 2 (fun _ _ => rfl) ?_
          refine q_Ru_seg (g2 := (13, [(0, .ref 64)], [.int (((y / 24) - (y / 24) / 40 * 40).toInt32)], (q_cM (q_mA pix smp tr (q_nb p left dn ins) (q_fb z)) q_IM (q_mJ y pd), 34, 31630))) 5 (fun _ _ => rfl) ?_
          rw [hM]
          exact q_Ru_ret rfl rfl
        show q_Ru _ _ _ (4, [(0, .ref 64)], [.int lin], (q_cM (q_mA pix smp tr (q_nb p left dn ins) (q_fb z)) q_IM (q_mJ y pd), 34, 31630)) _
        refine q_Ru_seg (g2 := (6, [(0, .ref 64)], [.int (lin - 4)], (q_cM (q_mA pix smp tr (q_nb p left dn ins) (q_fb z)) q_IM (q_mJ y pd), 34, 31630))) 2 (fun _ _ => rfl) ?_
        exact q_Ru_ret rfl rfl
      show q_Ru _ _ _ (4, [(0, .ref 64)], [.int (lin - 4)], (q_cM (q_mA pix smp tr (q_nb p left dn ins) (q_fb z)) q_IM (q_mJ y pd), 34, 31630)) _
      refine q_Ru_seg (g2 := (9, [(1, .int (lin - 4)), (0, .ref 64)], [.long y], (q_cM (q_mA pix smp tr (q_nb p left dn ins) (q_fb z)) q_IM (q_mJ y pd), 34, 31630))) 3 (fun _ _ => rfl) ?_
      refine q_Ru_seg (g2 := (14, [(1, .int (lin - 4)), (0, .ref 64)], [.int ((y - y / 24 * 24).toInt32)], (q_cM (q_mA pix smp tr (q_nb p left dn ins) (q_fb z)) q_IM (q_mJ y pd), 34, 31630))) 3 (fun _ _ => rfl) ?_
      rw [hC]
      refine q_Ru_seg (g2 := (19, [(2, .int col), (1, .int (lin - 4)), (0, .ref 64)], [.int 31, .int 0, .int (lin - 4)], (q_cM (q_mA pix smp tr (q_nb p left dn ins) (q_fb z)) q_IM (q_mJ y pd), 34, 31630))) 4 (fun _ _ => rfl) ?_
      refine q_Ru_call (v := (some (.int 0))) (h2 := (q_cM (q_mA pix smp tr (q_nb p left dn ins) (q_fb z)) q_IM (q_mJ y pd), 34, 31630)) rfl rfl ?_ ?_
      · refine q_Ca_of (Nat.le_of_ble_eq_true rfl) ?_
        refine q_Ru_seg (g2 := (2, [(0, .int (lin - 4)), (1, .int 0), (2, .int 31)], [.int 0, .int (lin - 4)], (q_cM (q_mA pix smp tr (q_nb p left dn ins) (q_fb z)) q_IM (q_mJ y pd), 34, 31630))) 2 (fun _ _ => rfl) ?_
        refine q_Ru_rsF (g2 := (5, [(0, .int (lin - 4)), (1, .int 0), (2, .int 31)], [], (q_cM (q_mA pix smp tr (q_nb p left dn ins) (q_fb z)) q_IM (q_mJ y pd), 34, 31630))) rfl rfl h156 ?_
        refine q_Ru_seg (g2 := (7, [(0, .int (lin - 4)), (1, .int 0), (2, .int 31)], [.int 31, .int (lin - 4)], (q_cM (q_mA pix smp tr (q_nb p left dn ins) (q_fb z)) q_IM (q_mJ y pd), 34, 31630))) 2 (fun _ _ => rfl) ?_
        refine q_Ru_rsT (g2 := (14, [(0, .int (lin - 4)), (1, .int 0), (2, .int 31)], [], (q_cM (q_mA pix smp tr (q_nb p left dn ins) (q_fb z)) q_IM (q_mJ y pd), 34, 31630))) rfl rfl h157 ?_
        refine q_Ru_seg (g2 := (15, [(0, .int (lin - 4)), (1, .int 0), (2, .int 31)], [.int 0], (q_cM (q_mA pix smp tr (q_nb p left dn ins) (q_fb z)) q_IM (q_mJ y pd), 34, 31630))) 1 (fun _ _ => rfl) ?_
        exact q_Ru_ret rfl rfl
      show q_Ru _ _ _ (22, [(2, .int col), (1, .int (lin - 4)), (0, .ref 64)], [.int 0], (q_cM (q_mA pix smp tr (q_nb p left dn ins) (q_fb z)) q_IM (q_mJ y pd), 34, 31630)) _
      refine q_Ru_seg (g2 := (26, [(2, .int col), (1, .int (lin - 4)), (0, .ref 64)], [.int 0], (q_cM (q_mA pix smp tr (q_nb p left dn ins) (q_fb z)) q_IM (q_mJ y pd), 34, 31630))) 2 (fun _ _ => rfl) ?_
      exact q_Ru_ret rfl rfl
    | false =>
      cases h158 : decide (col < 8) with
      | true =>
        cases h159 : decide (((lin - 4) + 0) - ((lin - 4) + 0) / 8 * 8 = 0) with
        | true =>
          have t9 := q_tbl2 (fun lin col => !decide (((lin - 4) + 0) - ((lin - 4) + 0) / 8 * 8 = 0) || decide (q_picX lin col = 1)) (l := 4) (n := 31) (l2 := 0) (n2 := 7) (by decide +kernel) (q_sub_lo 4 (q_lo1 h156) l0 l1) (q_sub_hi 35 (q_hi2 h157) (q_sub_lo 4 (q_lo1 h156) l0 l1) l1) c0 (q_hi1 h158)
          simp only [h159, Bool.not_true, Bool.not_false, Bool.false_or] at t9
          rw [of_decide_eq_true t9]
          refine q_Ca_of (Nat.le_of_ble_eq_true rfl) ?_
          refine q_Ru_seg (g2 := (1, [(0, .ref 64)], [.ref 64], (q_cM (q_mA pix smp tr (q_nb p left dn ins) (q_fb z)) q_IM (q_mJ y pd), 34, 31630))) 1 (fun _ _ => rfl) ?_
          refine q_Ru_call (v := (some (.int (lin - 4)))) (h2 := (q_cM (q_mA pix smp tr (q_nb p left dn ins) (q_fb z)) q_IM (q_mJ y pd), 34, 31630)) rfl rfl ?_ ?_
          · refine q_Ca_of (Nat.le_of_ble_eq_true rfl) ?_
            refine q_Ru_seg (g2 := (1, [(0, .ref 64)], [.ref 64], (q_cM (q_mA pix smp tr (q_nb p left dn ins) (q_fb z)) q_IM (q_mJ y pd), 34, 31630))) 1 (fun _ _ => rfl) ?_
            refine q_Ru_call (v := (some (.int lin))) (h2 := (q_cM (q_mA pix smp tr (q_nb p left dn ins) (q_fb z)) q_IM (q_mJ y pd), 34, 31630)) rfl rfl ?_ ?_
            · refine q_Ca_of (Nat.le_of_ble_eq_true rfl) ?_
              refine q_Ru_seg (g2 := (4, [(0, .ref 64)], [.long y], (q_cM (q_mA pix smp tr (q_nb p left dn ins) (q_fb z)) q_IM (q_mJ y pd), 34, 31630))) 2 (fun _ _ => rfl) ?_
              refine q_Ru_seg (g2 := (13, [(0, .ref 64)], [.int (((y / 24) - (y / 24) / 40 * 40).toInt32)], (q_cM (q_mA pix smp tr (q_nb p left dn ins) (q_fb z)) q_IM (q_mJ y pd), 34, 31630))) 5 (fun _ _ => rfl) ?_
              rw [hM]
              exact q_Ru_ret rfl rfl
            show q_Ru _ _ _ (4, [(0, .ref 64)], [.int lin], (q_cM (q_mA pix smp tr (q_nb p left dn ins) (q_fb z)) q_IM (q_mJ y pd), 34, 31630)) _
            refine q_Ru_seg (g2 := (6, [(0, .ref 64)], [.int (lin - 4)], (q_cM (q_mA pix smp tr (q_nb p left dn ins) (q_fb z)) q_IM (q_mJ y pd), 34, 31630))) 2 (fun _ _ => rfl) ?_
            exact q_Ru_ret rfl rfl
          show q_Ru _ _ _ (4, [(0, .ref 64)], [.int (lin - 4)], (q_cM (q_mA pix smp tr (q_nb p left dn ins) (q_fb z)) q_IM (q_mJ y pd), 34, 31630)) _
          refine q_Ru_seg (g2 := (9, [(1, .int (lin - 4)), (0, .ref 64)], [.long y], (q_cM (q_mA pix smp tr (q_nb p left dn ins) (q_fb z)) q_IM (q_mJ y pd), 34, 31630))) 3 (fun _ _ => rfl) ?_
          refine q_Ru_seg (g2 := (14, [(1, .int (lin - 4)), (0, .ref 64)], [.int ((y - y / 24 * 24).toInt32)], (q_cM (q_mA pix smp tr (q_nb p left dn ins) (q_fb z)) q_IM (q_mJ y pd), 34, 31630))) 3 (fun _ _ => rfl) ?_
          rw [hC]
          refine q_Ru_seg (g2 := (19, [(2, .int col), (1, .int (lin - 4)), (0, .ref 64)], [.int 31, .int 0, .int (lin - 4)], (q_cM (q_mA pix smp tr (q_nb p left dn ins) (q_fb z)) q_IM (q_mJ y pd), 34, 31630))) 4 (fun _ _ => rfl) ?_
          refine q_Ru_call (v := (some (.int 1))) (h2 := (q_cM (q_mA pix smp tr (q_nb p left dn ins) (q_fb z)) q_IM (q_mJ y pd), 34, 31630)) rfl rfl ?_ ?_
          · refine q_Ca_of (Nat.le_of_ble_eq_true rfl) ?_
            refine q_Ru_seg (g2 := (2, [(0, .int (lin - 4)), (1, .int 0), (2, .int 31)], [.int 0, .int (lin - 4)], (q_cM (q_mA pix smp tr (q_nb p left dn ins) (q_fb z)) q_IM (q_mJ y pd), 34, 31630))) 2 (fun _ _ => rfl) ?_
            refine q_Ru_rsF (g2 := (5, [(0, .int (lin - 4)), (1, .int 0), (2, .int 31)], [], (q_cM (q_mA pix smp tr (q_nb p left dn ins) (q_fb z)) q_IM (q_mJ y pd), 34, 31630))) rfl rfl h156 ?_
            refine q_Ru_seg (g2 := (7, [(0, .int (lin - 4)), (1, .int 0), (2, .int 31)], [.int 31, .int (lin - 4)], (q_cM (q_mA pix smp tr (q_nb p left dn ins) (q_fb z)) q_IM (q_mJ y pd), 34, 31630))) 2 (fun _ _ => rfl) ?_
            refine q_Ru_rsF (g2 := (10, [(0, .int (lin - 4)), (1, .int 0), (2, .int 31)], [], (q_cM (q_mA pix smp tr (q_nb p left dn ins) (q_fb z)) q_IM (q_mJ y pd), 34, 31630))) rfl rfl h157 ?_
            refine q_Ru_seg (g2 := (15, [(0, .int (lin - 4)), (1, .int 0), (2, .int 31)], [.int 1], (q_cM (q_mA pix smp tr (q_nb p left dn ins) (q_fb z)) q_IM (q_mJ y pd), 34, 31630))) 2 (fun _ _ => rfl) ?_
            exact q_Ru_ret rfl rfl
          show q_Ru _ _ _ (22, [(2, .int col), (1, .int (lin - 4)), (0, .ref 64)], [.int 1], (q_cM (q_mA pix smp tr (q_nb p left dn ins) (q_fb z)) q_IM (q_mJ y pd), 34, 31630)) _
          refine q_Ru_seg (g2 := (33, [(2, .int col), (1, .int (lin - 4)), (0, .ref 64)], [.int 0], (q_cM (q_mA pix smp tr (q_nb p left dn ins) (q_fb z)) q_IM (q_mJ y pd), 34, 31630))) 5 (fun _ _ => rfl) ?_
          refine q_Ru_seg (g2 := (39, [(2, .int col), (1, .int (lin - 4)), (0, .ref 64)], [.int 8, .int col], (q_cM (q_mA pix smp tr (q_nb p left dn ins) (q_fb z)) q_IM (q_mJ y pd), 34, 31630))) 3 (fun _ _ => rfl) ?_
          refine q_Ru_rsF (g2 := (42, [(2, .int col), (1, .int (lin - 4)), (0, .ref 64)], [], (q_cM (q_mA pix smp tr (q_nb p left dn ins) (q_fb z)) q_IM (q_mJ y pd), 34, 31630))) rfl rfl (q_d_geT h158) ?_
          refine q_Ru_seg (g2 := (49, [(2, .int col), (1, .int (lin - 4)), (0, .ref 64)], [.int 0, .int (lin - 4)], (q_cM (q_mA pix smp tr (q_nb p left dn ins) (q_fb z)) q_IM (q_mJ y pd), 34, 31630))) 5 (fun _ _ => rfl) ?_
          refine q_Ru_seg (g2 := (55, [(2, .int col), (1, .int (lin - 4)), (0, .ref 64)], [.int (((lin - 4) + 0) - ((lin - 4) + 0) / 8 * 8)], (q_cM (q_mA pix smp tr (q_nb p left dn ins) (q_fb z)) q_IM (q_mJ y pd), 34, 31630))) 5 (fun _ _ => rfl) ?_
          refine q_Ru_rsF (g2 := (58, [(2, .int col), (1, .int (lin - 4)), (0, .ref 64)], [], (q_cM (q_mA pix smp tr (q_nb p left dn ins) (q_fb z)) q_IM (q_mJ y pd), 34, 31630))) rfl rfl (q_d_neT h159) ?_
          refine q_Ru_seg (g2 := (63, [(2, .int col), (1, .int (lin - 4)), (0, .ref 64)], [.int 1], (q_cM (q_mA pix smp tr (q_nb p left dn ins) (q_fb z)) q_IM (q_mJ y pd), 34, 31630))) 2 (fun _ _ => rfl) ?_
          exact q_Ru_ret rfl rfl
        | false =>
          have t9 := q_tbl2 (fun lin col => decide (((lin - 4) + 0) - ((lin - 4) + 0) / 8 * 8 = 0) || decide (q_picX lin col = 0)) (l := 4) (n := 31) (l2 := 0) (n2 := 7) (by decide +kernel) (q_sub_lo 4 (q_lo1 h156) l0 l1) (q_sub_hi 35 (q_hi2 h157) (q_sub_lo 4 (q_lo1 h156) l0 l1) l1) c0 (q_hi1 h158)
          simp only [h159, Bool.not_true, Bool.not_false, Bool.false_or] at t9
          rw [of_decide_eq_true t9]
          refine q_Ca_of (Nat.le_of_ble_eq_true rfl) ?_
          refine q_Ru_seg (g2 := (1, [(0, .ref 64)], [.ref 64], (q_cM (q_mA pix smp tr (q_nb p left dn ins) (q_fb z)) q_IM (q_mJ y pd), 34, 31630))) 1 (fun _ _ => rfl) ?_
          refine q_Ru_call (v := (some (.int (lin - 4)))) (h2 := (q_cM (q_mA pix smp tr (q_nb p left dn ins) (q_fb z)) q_IM (q_mJ y pd), 34, 31630)) rfl rfl ?_ ?_
          · refine q_Ca_of (Nat.le_of_ble_eq_true rfl) ?_
            refine q_Ru_seg (g2 := (1, [(0, .ref 64)], [.ref 64], (q_cM (q_mA pix smp tr (q_nb p left dn ins) (q_fb z)) q_IM (q_mJ y pd), 34, 31630))) 1 (fun _ _ => rfl) ?_
            refine q_Ru_call (v := (some (.int lin))) (h2 := (q_cM (q_mA pix smp tr (q_nb p left dn ins) (q_fb z)) q_IM (q_mJ y pd), 34, 31630)) rfl rfl ?_ ?_
            · refine q_Ca_of (Nat.le_of_ble_eq_true rfl) ?_
              refine q_Ru_seg (g2 := (4, [(0, .ref 64)], [.long y], (q_cM (q_mA pix smp tr (q_nb p left dn ins) (q_fb z)) q_IM (q_mJ y pd), 34, 31630))) 2 (fun _ _ => rfl) ?_
              refine q_Ru_seg (g2 := (13, [(0, .ref 64)], [.int (((y / 24) - (y / 24) / 40 * 40).toInt32)], (q_cM (q_mA pix smp tr (q_nb p left dn ins) (q_fb z)) q_IM (q_mJ y pd), 34, 31630))) 5 (fun _ _ => rfl) ?_
              rw [hM]
              exact q_Ru_ret rfl rfl
            show q_Ru _ _ _ (4, [(0, .ref 64)], [.int lin], (q_cM (q_mA pix smp tr (q_nb p left dn ins) (q_fb z)) q_IM (q_mJ y pd), 34, 31630)) _
            refine q_Ru_seg (g2 := (6, [(0, .ref 64)], [.int (lin - 4)], (q_cM (q_mA pix smp tr (q_nb p left dn ins) (q_fb z)) q_IM (q_mJ y pd), 34, 31630))) 2 (fun _ _ => rfl) ?_
            exact q_Ru_ret rfl rfl
          show q_Ru _ _ _ (4, [(0, .ref 64)], [.int (lin - 4)], (q_cM (q_mA pix smp tr (q_nb p left dn ins) (q_fb z)) q_IM (q_mJ y pd), 34, 31630)) _
          refine q_Ru_seg (g2 := (9, [(1, .int (lin - 4)), (0, .ref 64)], [.long y], (q_cM (q_mA pix smp tr (q_nb p left dn ins) (q_fb z)) q_IM (q_mJ y pd), 34, 31630))) 3 (fun _ _ => rfl) ?_
          refine q_Ru_seg (g2 := (14, [(1, .int (lin - 4)), (0, .ref 64)], [.int ((y - y / 24 * 24).toInt32)], (q_cM (q_mA pix smp tr (q_nb p left dn ins) (q_fb z)) q_IM (q_mJ y pd), 34, 31630))) 3 (fun _ _ => rfl) ?_
          rw [hC]
          refine q_Ru_seg (g2 := (19, [(2, .int col), (1, .int (lin - 4)), (0, .ref 64)], [.int 31, .int 0, .int (lin - 4)], (q_cM (q_mA pix smp tr (q_nb p left dn ins) (q_fb z)) q_IM (q_mJ y pd), 34, 31630))) 4 (fun _ _ => rfl) ?_
          refine q_Ru_call (v := (some (.int 1))) (h2 := (q_cM (q_mA pix smp tr (q_nb p left dn ins) (q_fb z)) q_IM (q_mJ y pd), 34, 31630)) rfl rfl ?_ ?_
          · refine q_Ca_of (Nat.le_of_ble_eq_true rfl) ?_
            refine q_Ru_seg (g2 := (2, [(0, .int (lin - 4)), (1, .int 0), (2, .int 31)], [.int 0, .int (lin - 4)], (q_cM (q_mA pix smp tr (q_nb p left dn ins) (q_fb z)) q_IM (q_mJ y pd), 34, 31630))) 2 (fun _ _ => rfl) ?_
            refine q_Ru_rsF (g2 := (5, [(0, .int (lin - 4)), (1, .int 0), (2, .int 31)], [], (q_cM (q_mA pix smp tr (q_nb p left dn ins) (q_fb z)) q_IM (q_mJ y pd), 34, 31630))) rfl rfl h156 ?_
            refine q_Ru_seg (g2 := (7, [(0, .int (lin - 4)), (1, .int 0), (2, .int 31)], [.int 31, .int (lin - 4)], (q_cM (q_mA pix smp tr (q_nb p left dn ins) (q_fb z)) q_IM (q_mJ y pd), 34, 31630))) 2 (fun _ _ => rfl) ?_
            refine q_Ru_rsF (g2 := (10, [(0, .int (lin - 4)), (1, .int 0), (2, .int 31)], [], (q_cM (q_mA pix smp tr (q_nb p left dn ins) (q_fb z)) q_IM (q_mJ y pd), 34, 31630))) rfl rfl h157 ?_
            refine q_Ru_seg (g2 := (15, [(0, .int (lin - 4)), (1, .int 0), (2, .int 31)], [.int 1], (q_cM (q_mA pix smp tr (q_nb p left dn ins) (q_fb z)) q_IM (q_mJ y pd), 34, 31630))) 2 (fun _ _ => rfl) ?_
            exact q_Ru_ret rfl rfl
          show q_Ru _ _ _ (22, [(2, .int col), (1, .int (lin - 4)), (0, .ref 64)], [.int 1], (q_cM (q_mA pix smp tr (q_nb p left dn ins) (q_fb z)) q_IM (q_mJ y pd), 34, 31630)) _
          refine q_Ru_seg (g2 := (33, [(2, .int col), (1, .int (lin - 4)), (0, .ref 64)], [.int 0], (q_cM (q_mA pix smp tr (q_nb p left dn ins) (q_fb z)) q_IM (q_mJ y pd), 34, 31630))) 5 (fun _ _ => rfl) ?_
          refine q_Ru_seg (g2 := (39, [(2, .int col), (1, .int (lin - 4)), (0, .ref 64)], [.int 8, .int col], (q_cM (q_mA pix smp tr (q_nb p left dn ins) (q_fb z)) q_IM (q_mJ y pd), 34, 31630))) 3 (fun _ _ => rfl) ?_
          refine q_Ru_rsF (g2 := (42, [(2, .int col), (1, .int (lin - 4)), (0, .ref 64)], [], (q_cM (q_mA pix smp tr (q_nb p left dn ins) (q_fb z)) q_IM (q_mJ y pd), 34, 31630))) rfl rfl (q_d_geT h158) ?_
          refine q_Ru_seg (g2 := (49, [(2, .int col), (1, .int (lin - 4)), (0, .ref 64)], [.int 0, .int (lin - 4)], (q_cM (q_mA pix smp tr (q_nb p left dn ins) (q_fb z)) q_IM (q_mJ y pd), 34, 31630))) 5 (fun _ _ => rfl) ?_
          refine q_Ru_seg (g2 := (55, [(2, .int col), (1, .int (lin - 4)), (0, .ref 64)], [.int (((lin - 4) + 0) - ((lin - 4) + 0) / 8 * 8)], (q_cM (q_mA pix smp tr (q_nb p left dn ins) (q_fb z)) q_IM (q_mJ y pd), 34, 31630))) 5 (fun _ _ => rfl) ?_
          refine q_Ru_rsT (g2 := (62, [(2, .int col), (1, .int (lin - 4)), (0, .ref 64)], [], (q_cM (q_mA pix smp tr (q_nb p left dn ins) (q_fb z)) q_IM (q_mJ y pd), 34, 31630))) rfl rfl (q_d_neF h159) ?_
          refine q_Ru_seg (g2 := (63, [(2, .int col), (1, .int (lin - 4)), (0, .ref 64)], [.int 0], (q_cM (q_mA pix smp tr (q_nb p left dn ins) (q_fb z)) q_IM (q_mJ y pd), 34, 31630))) 1 (fun _ _ => rfl) ?_
          exact q_Ru_ret rfl rfl
      | false =>
        cases h160 : decide (col < 20) with
        | true =>
          have t9 := q_tbl2 (fun lin col => decide (q_picX lin col = 0)) (l := 4) (n := 31) (l2 := 8) (n2 := 11) (by decide +kernel) (q_sub_lo 4 (q_lo1 h156) l0 l1) (q_sub_hi 35 (q_hi2 h157) (q_sub_lo 4 (q_lo1 h156) l0 l1) l1) (q_lo1 h158) (q_hi1 h160)
          rw [of_decide_eq_true t9]
          refine q_Ca_of (Nat.le_of_ble_eq_true rfl) ?_
          refine q_Ru_seg (g2 := (1, [(0, .ref 64)], [.ref 64], (q_cM (q_mA pix smp tr (q_nb p left dn ins) (q_fb z)) q_IM (q_mJ y pd), 34, 31630))) 1 (fun _ _ => rfl) ?_
          refine q_Ru_call (v := (some (.int (lin - 4)))) (h2 := (q_cM (q_mA pix smp tr (q_nb p left dn ins) (q_fb z)) q_IM (q_mJ y pd), 34, 31630)) rfl rfl ?_ ?_
          · refine q_Ca_of (Nat.le_of_ble_eq_true rfl) ?_
            refine q_Ru_seg (g2 := (1, [(0, .ref 64)], [.ref 64], (q_cM (q_mA pix smp tr (q_nb p left dn ins) (q_fb z)) q_IM (q_mJ y pd), 34, 31630))) 1 (fun _ _ => rfl) ?_
            refine q_Ru_call (v := (some (.int lin))) (h2 := (q_cM (q_mA pix smp tr (q_nb p left dn ins) (q_fb z)) q_IM (q_mJ y pd), 34, 31630)) rfl rfl ?_ ?_
            · refine q_Ca_of (Nat.le_of_ble_eq_true rfl) ?_
              refine q_Ru_seg (g2 := (4, [(0, .ref 64)], [.long y], (q_cM (q_mA pix smp tr (q_nb p left dn ins) (q_fb z)) q_IM (q_mJ y pd), 34, 31630))) 2 (fun _ _ => rfl) ?_
              refine q_Ru_seg (g2 := (13, [(0, .ref 64)], [.int (((y / 24) - (y / 24) / 40 * 40).toInt32)], (q_cM (q_mA pix smp tr (q_nb p left dn ins) (q_fb z)) q_IM (q_mJ y pd), 34, 31630))) 5 (fun _ _ => rfl) ?_
              rw [hM]
              exact q_Ru_ret rfl rfl
            show q_Ru _ _ _ (4, [(0, .ref 64)], [.int lin], (q_cM (q_mA pix smp tr (q_nb p left dn ins) (q_fb z)) q_IM (q_mJ y pd), 34, 31630)) _
            refine q_Ru_seg (g2 := (6, [(0, .ref 64)], [.int (lin - 4)], (q_cM (q_mA pix smp tr (q_nb p left dn ins) (q_fb z)) q_IM (q_mJ y pd), 34, 31630))) 2 (fun _ _ => rfl) ?_
            exact q_Ru_ret rfl rfl
          show q_Ru _ _ _ (4, [(0, .ref 64)], [.int (lin - 4)], (q_cM (q_mA pix smp tr (q_nb p left dn ins) (q_fb z)) q_IM (q_mJ y pd), 34, 31630)) _
          refine q_Ru_seg (g2 := (9, [(1, .int (lin - 4)), (0, .ref 64)], [.long y], (q_cM (q_mA pix smp tr (q_nb p left dn ins) (q_fb z)) q_IM (q_mJ y pd), 34, 31630))) 3 (fun _ _ => rfl) ?_
          refine q_Ru_seg (g2 := (14, [(1, .int (lin - 4)), (0, .ref 64)], [.int ((y - y / 24 * 24).toInt32)], (q_cM (q_mA pix smp tr (q_nb p left dn ins) (q_fb z)) q_IM (q_mJ y pd), 34, 31630))) 3 (fun _ _ => rfl) ?_
          rw [hC]
          refine q_Ru_seg (g2 := (19, [(2, .int col), (1, .int (lin - 4)), (0, .ref 64)], [.int 31, .int 0, .int (lin - 4)], (q_cM (q_mA pix smp tr (q_nb p left dn ins) (q_fb z)) q_IM (q_mJ y pd), 34, 31630))) 4 (fun _ _ => rfl) ?_
          refine q_Ru_call (v := (some (.int 1))) (h2 := (q_cM (q_mA pix smp tr (q_nb p left dn ins) (q_fb z)) q_IM (q_mJ y pd), 34, 31630)) rfl rfl ?_ ?_
          · refine q_Ca_of (Nat.le_of_ble_eq_true rfl) ?_
            refine q_Ru_seg (g2 := (2, [(0, .int (lin - 4)), (1, .int 0), (2, .int 31)], [.int 0, .int (lin - 4)], (q_cM (q_mA pix smp tr (q_nb p left dn ins) (q_fb z)) q_IM (q_mJ y pd), 34, 31630))) 2 (fun _ _ => rfl) ?_
            refine q_Ru_rsF (g2 := (5, [(0, .int (lin - 4)), (1, .int 0), (2, .int 31)], [], (q_cM (q_mA pix smp tr (q_nb p left dn ins) (q_fb z)) q_IM (q_mJ y pd), 34, 31630))) rfl rfl h156 ?_
            refine q_Ru_seg (g2 := (7, [(0, .int (lin - 4)), (1, .int 0), (2, .int 31)], [.int 31, .int (lin - 4)], (q_cM (q_mA pix smp tr (q_nb p left dn ins) (q_fb z)) q_IM (q_mJ y pd), 34, 31630))) 2 (fun _ _ => rfl) ?_
            refine q_Ru_rsF (g2 := (10, [(0, .int (lin - 4)), (1, .int 0), (2, .int 31)], [], (q_cM (q_mA pix smp tr (q_nb p left dn ins) (q_fb z)) q_IM (q_mJ y pd), 34, 31630))) rfl rfl h157 ?_
            refine q_Ru_seg (g2 := (15, [(0, .int (lin - 4)), (1, .int 0), (2, .int 31)], [.int 1], (q_cM (q_mA pix smp tr (q_nb p left dn ins) (q_fb z)) q_IM (q_mJ y pd), 34, 31630))) 2 (fun _ _ => rfl) ?_
            exact q_Ru_ret rfl rfl
          show q_Ru _ _ _ (22, [(2, .int col), (1, .int (lin - 4)), (0, .ref 64)], [.int 1], (q_cM (q_mA pix smp tr (q_nb p left dn ins) (q_fb z)) q_IM (q_mJ y pd), 34, 31630)) _
          refine q_Ru_seg (g2 := (33, [(2, .int col), (1, .int (lin - 4)), (0, .ref 64)], [.int 0], (q_cM (q_mA pix smp tr (q_nb p left dn ins) (q_fb z)) q_IM (q_mJ y pd), 34, 31630))) 5 (fun _ _ => rfl) ?_
          refine q_Ru_seg (g2 := (39, [(2, .int col), (1, .int (lin - 4)), (0, .ref 64)], [.int 8, .int col], (q_cM (q_mA pix smp tr (q_nb p left dn ins) (q_fb z)) q_IM (q_mJ y pd), 34, 31630))) 3 (fun _ _ => rfl) ?_
          refine q_Ru_rsT (g2 := (64, [(2, .int col), (1, .int (lin - 4)), (0, .ref 64)], [], (q_cM (q_mA pix smp tr (q_nb p left dn ins) (q_fb z)) q_IM (q_mJ y pd), 34, 31630))) rfl rfl (q_d_geF h158) ?_
          refine q_Ru_seg (g2 := (70, [(2, .int col), (1, .int (lin - 4)), (0, .ref 64)], [.int 0], (q_cM (q_mA pix smp tr (q_nb p left dn ins) (q_fb z)) q_IM (q_mJ y pd), 34, 31630))) 4 (fun _ _ => rfl) ?_
          refine q_Ru_seg (g2 := (72, [(2, .int col), (1, .int (lin - 4)), (0, .ref 64)], [.int 2, .int 1, .int 0], (q_cM (q_mA pix smp tr (q_nb p left dn ins) (q_fb z)) q_IM (q_mJ y pd), 34, 31630))) 2 (fun _ _ => rfl) ?_
          refine q_Ru_call (v := (some (.int 0))) (h2 := (q_cM (q_mA pix smp tr (q_nb p left dn ins) (q_fb z)) q_IM (q_mJ y pd), 34, 31630)) rfl rfl ?_ ?_
          · refine q_Ca_of (Nat.le_of_ble_eq_true rfl) ?_
            refine q_Ru_seg (g2 := (15, [(0, .int 0), (1, .int 1), (2, .int 2)], [.int 0], (q_cM (q_mA pix smp tr (q_nb p left dn ins) (q_fb z)) q_IM (q_mJ y pd), 34, 31630))) 4 (fun _ _ => rfl) ?_
            exact q_Ru_ret rfl rfl
          show q_Ru _ _ _ (75, [(2, .int col), (1, .int (lin - 4)), (0, .ref 64)], [.int 0], (q_cM (q_mA pix smp tr (q_nb p left dn ins) (q_fb z)) q_IM (q_mJ y pd), 34, 31630)) _
          refine q_Ru_seg (g2 := (88, [(2, .int col), (1, .int (lin - 4)), (0, .ref 64)], [.int 20, .int col], (q_cM (q_mA pix smp tr (q_nb p left dn ins) (q_fb z)) q_IM (q_mJ y pd), 34, 31630))) 3 (fun _ _ => rfl) ?_
          refine q_Ru_rsT (g2 := (118, [(2, .int col), (1, .int (lin - 4)), (0, .ref 64)], [], (q_cM (q_mA pix smp tr (q_nb p left dn ins) (q_fb z)) q_IM (q_mJ y pd), 34, 31630))) rfl rfl h160 ?_
          refine q_Ru_seg (g2 := (119, [(2, .int col), (1, .int (lin - 4)), (0, .ref 64)], [.int 0], (q_cM (q_mA pix smp tr (q_nb p left dn ins) (q_fb z)) q_IM (q_mJ y pd), 34, 31630))) 1 (fun _ _ => rfl) ?_
          exact q_Ru_ret rfl rfl
        | false =>
          have t9 := q_tbl2 (fun lin col => decide (q_picX lin col = 0)) (l := 4) (n := 31) (l2 := 20) (n2 := 3) (by decide +kernel) (q_sub_lo 4 (q_lo1 h156) l0 l1) (q_sub_hi 35 (q_hi2 h157) (q_sub_lo 4 (q_lo1 h156) l0 l1) l1) (q_lo1 h160) c1
          rw [of_decide_eq_true t9]
          refine q_Ca_of (Nat.le_of_ble_eq_true rfl) ?_
          refine q_Ru_seg (g2 := (1, [(0, .ref 64)], [.ref 64], (q_cM (q_mA pix smp tr (q_nb p left dn ins) (q_fb z)) q_IM (q_mJ y pd), 34, 31630))) 1 (fun _ _ => rfl) ?_
          refine q_Ru_call (v := (some (.int (lin - 4)))) (h2 := (q_cM (q_mA pix smp tr (q_nb p left dn ins) (q_fb z)) q_IM (q_mJ y pd), 34, 31630)) rfl rfl ?_ ?_
          · refine q_Ca_of (Nat.le_of_ble_eq_true rfl) ?_
            refine q_Ru_seg (g2 := (1, [(0, .ref 64)], [.ref 64], (q_cM (q_mA pix smp tr (q_nb p left dn ins) (q_fb z)) q_IM (q_mJ y pd), 34, 31630))) 1 (fun _ _ => rfl) ?_
            refine q_Ru_call (v := (some (.int lin))) (h2 := (q_cM (q_mA pix smp tr (q_nb p left dn ins) (q_fb z)) q_IM (q_mJ y pd), 34, 31630)) rfl rfl ?_ ?_
            · refine q_Ca_of (Nat.le_of_ble_eq_true rfl) ?_
              refine q_Ru_seg (g2 := (4, [(0, .ref 64)], [.long y], (q_cM (q_mA pix smp tr (q_nb p left dn ins) (q_fb z)) q_IM (q_mJ y pd), 34, 31630))) 2 (fun _ _ => rfl) ?_
              refine q_Ru_seg (g2 := (13, [(0, .ref 64)], [.int (((y / 24) - (y / 24) / 40 * 40).toInt32)], (q_cM (q_mA pix smp tr (q_nb p left dn ins) (q_fb z)) q_IM (q_mJ y pd), 34, 31630))) 5 (fun _ _ => rfl) ?_
              rw [hM]
              exact q_Ru_ret rfl rfl
            show q_Ru _ _ _ (4, [(0, .ref 64)], [.int lin], (q_cM (q_mA pix smp tr (q_nb p left dn ins) (q_fb z)) q_IM (q_mJ y pd), 34, 31630)) _
            refine q_Ru_seg (g2 := (6, [(0, .ref 64)], [.int (lin - 4)], (q_cM (q_mA pix smp tr (q_nb p left dn ins) (q_fb z)) q_IM (q_mJ y pd), 34, 31630))) 2 (fun _ _ => rfl) ?_
            exact q_Ru_ret rfl rfl
          show q_Ru _ _ _ (4, [(0, .ref 64)], [.int (lin - 4)], (q_cM (q_mA pix smp tr (q_nb p left dn ins) (q_fb z)) q_IM (q_mJ y pd), 34, 31630)) _
          refine q_Ru_seg (g2 := (9, [(1, .int (lin - 4)), (0, .ref 64)], [.long y], (q_cM (q_mA pix smp tr (q_nb p left dn ins) (q_fb z)) q_IM (q_mJ y pd), 34, 31630))) 3 (fun _ _ => rfl) ?_
          refine q_Ru_seg (g2 := (14, [(1, .int (lin - 4)), (0, .ref 64)], [.int ((y - y / 24 * 24).toInt32)], (q_cM (q_mA pix smp tr (q_nb p left dn ins) (q_fb z)) q_IM (q_mJ y pd), 34, 31630))) 3 (fun _ _ => rfl) ?_
          rw [hC]
          refine q_Ru_seg (g2 := (19, [(2, .int col), (1, .int (lin - 4)), (0, .ref 64)], [.int 31, .int 0, .int (lin - 4)], (q_cM (q_mA pix smp tr (q_nb p left dn ins) (q_fb z)) q_IM (q_mJ y pd), 34, 31630))) 4 (fun _ _ => rfl) ?_
          refine q_Ru_call (v := (some (.int 1))) (h2 := (q_cM (q_mA pix smp tr (q_nb p left dn ins) (q_fb z)) q_IM (q_mJ y pd), 34, 31630)) rfl rfl ?_ ?_
          · refine q_Ca_of (Nat.le_of_ble_eq_true rfl) ?_
            refine q_Ru_seg (g2 := (2, [(0, .int (lin - 4)), (1, .int 0), (2, .int 31)], [.int 0, .int (lin - 4)], (q_cM (q_mA pix smp tr (q_nb p left dn ins) (q_fb z)) q_IM (q_mJ y pd), 34, 31630))) 2 (fun _ _ => rfl) ?_
            refine q_Ru_rsF (g2 := (5, [(0, .int (lin - 4)), (1, .int 0), (2, .int 31)], [], (q_cM (q_mA pix smp tr (q_nb p left dn ins) (q_fb z)) q_IM (q_mJ y pd), 34, 31630))) rfl rfl h156 ?_
            refine q_Ru_seg (g2 := (7, [(0, .int (lin - 4)), (1, .int 0), (2, .int 31)], [.int 31, .int (lin - 4)], (q_cM (q_mA pix smp tr (q_nb p left dn ins) (q_fb z)) q_IM (q_mJ y pd), 34, 31630))) 2 (fun _ _ => rfl) ?_
            refine q_Ru_rsF (g2 := (10, [(0, .int (lin - 4)), (1, .int 0), (2, .int 31)], [], (q_cM (q_mA pix smp tr (q_nb p left dn ins) (q_fb z)) q_IM (q_mJ y pd), 34, 31630))) rfl rfl h157 ?_
            refine q_Ru_seg (g2 := (15, [(0, .int (lin - 4)), (1, .int 0), (2, .int 31)], [.int 1], (q_cM (q_mA pix smp tr (q_nb p left dn ins) (q_fb z)) q_IM (q_mJ y pd), 34, 31630))) 2 (fun _ _ => rfl) ?_
            exact q_Ru_ret rfl rfl
          show q_Ru _ _ _ (22, [(2, .int col), (1, .int (lin - 4)), (0, .ref 64)], [.int 1], (q_cM (q_mA pix smp tr (q_nb p left dn ins) (q_fb z)) q_IM (q_mJ y pd), 34, 31630)) _
          refine q_Ru_seg (g2 := (33, [(2, .int col), (1, .int (lin - 4)), (0, .ref 64)], [.int 0], (q_cM (q_mA pix smp tr (q_nb p left dn ins) (q_fb z)) q_IM (q_mJ y pd), 34, 31630))) 5 (fun _ _ => rfl) ?_
          refine q_Ru_seg (g2 := (39, [(2, .int col), (1, .int (lin - 4)), (0, .ref 64)], [.int 8, .int col], (q_cM (q_mA pix smp tr (q_nb p left dn ins) (q_fb z)) q_IM (q_mJ y pd), 34, 31630))) 3 (fun _ _ => rfl) ?_
          refine q_Ru_rsT (g2 := (64, [(2, .int col), (1, .int (lin - 4)), (0, .ref 64)], [], (q_cM (q_mA pix smp tr (q_nb p left dn ins) (q_fb z)) q_IM (q_mJ y pd), 34, 31630))) rfl rfl (q_d_geF h158) ?_
          refine q_Ru_seg (g2 := (70, [(2, .int col), (1, .int (lin - 4)), (0, .ref 64)], [.int 0], (q_cM (q_mA pix smp tr (q_nb p left dn ins) (q_fb z)) q_IM (q_mJ y pd), 34, 31630))) 4 (fun _ _ => rfl) ?_
          refine q_Ru_seg (g2 := (72, [(2, .int col), (1, .int (lin - 4)), (0, .ref 64)], [.int 2, .int 1, .int 0], (q_cM (q_mA pix smp tr (q_nb p left dn ins) (q_fb z)) q_IM (q_mJ y pd), 34, 31630))) 2 (fun _ _ => rfl) ?_
          refine q_Ru_call (v := (some (.int 0))) (h2 := (q_cM (q_mA pix smp tr (q_nb p left dn ins) (q_fb z)) q_IM (q_mJ y pd), 34, 31630)) rfl rfl ?_ ?_
          · refine q_Ca_of (Nat.le_of_ble_eq_true rfl) ?_
            refine q_Ru_seg (g2 := (15, [(0, .int 0), (1, .int 1), (2, .int 2)], [.int 0], (q_cM (q_mA pix smp tr (q_nb p left dn ins) (q_fb z)) q_IM (q_mJ y pd), 34, 31630))) 4 (fun _ _ => rfl) ?_
            exact q_Ru_ret rfl rfl
          show q_Ru _ _ _ (75, [(2, .int col), (1, .int (lin - 4)), (0, .ref 64)], [.int 0], (q_cM (q_mA pix smp tr (q_nb p left dn ins) (q_fb z)) q_IM (q_mJ y pd), 34, 31630)) _
          refine q_Ru_seg (g2 := (88, [(2, .int col), (1, .int (lin - 4)), (0, .ref 64)], [.int 20, .int col], (q_cM (q_mA pix smp tr (q_nb p left dn ins) (q_fb z)) q_IM (q_mJ y pd), 34, 31630))) 3 (fun _ _ => rfl) ?_
          refine q_Ru_rsF (g2 := (91, [(2, .int col), (1, .int (lin - 4)), (0, .ref 64)], [], (q_cM (q_mA pix smp tr (q_nb p left dn ins) (q_fb z)) q_IM (q_mJ y pd), 34, 31630))) rfl rfl h160 ?_
          refine q_Ru_seg (g2 := (96, [(2, .int col), (1, .int (lin - 4)), (0, .ref 64)], [.int (col - 20), .ref 64], (q_cM (q_mA pix smp tr (q_nb p left dn ins) (q_fb z)) q_IM (q_mJ y pd), 34, 31630))) 4 (fun _ _ => rfl) ?_
          refine q_Ru_call (v := (some (.int 0))) (h2 := (q_cM (q_mA pix smp tr (q_nb p left dn ins) (q_fb z)) q_IM (q_mJ y pd), 34, 31630)) rfl rfl ?_ ?_
          · refine q_Ca_of (Nat.le_of_ble_eq_true rfl) ?_
            refine q_Ru_seg (g2 := (7, [(0, .ref 64), (1, .int (col - 20))], [.int 0], (q_cM (q_mA pix smp tr (q_nb p left dn ins) (q_fb z)) q_IM (q_mJ y pd), 34, 31630))) 4 (fun _ _ => rfl) ?_
            refine q_Ru_seg (g2 := (8, [(0, .ref 64), (1, .int (col - 20))], [.int (col - 20), .int 0], (q_cM (q_mA pix smp tr (q_nb p left dn ins) (q_fb z)) q_IM (q_mJ y pd), 34, 31630))) 1 (fun _ _ => rfl) ?_
            refine q_Ru_call (v := (some (.int 0))) (h2 := (q_cM (q_mA pix smp tr (q_nb p left dn ins) (q_fb z)) q_IM (q_mJ y pd), 34, 31630)) rfl rfl ?_ ?_
            · refine q_Ca_of (Nat.le_of_ble_eq_true rfl) ?_
              refine q_Ru_seg (g2 := (3, [(0, .int 0), (1, .int (col - 20))], [.int ((0 : Int32) >>> ((col - 20) &&& 31))], (q_cM (q_mA pix smp tr (q_nb p left dn ins) (q_fb z)) q_IM (q_mJ y pd), 34, 31630))) 3 (fun _ _ => rfl) ?_
              rw [q_shr0]
              refine q_Ru_seg (g2 := (14, [(0, .int 0), (1, .int (col - 20))], [.int 0], (q_cM (q_mA pix smp tr (q_nb p left dn ins) (q_fb z)) q_IM (q_mJ y pd), 34, 31630))) 5 (fun _ _ => rfl) ?_
              exact q_Ru_ret rfl rfl
            show q_Ru _ _ _ (11, [(0, .ref 64), (1, .int (col - 20))], [.int 0], (q_cM (q_mA pix smp tr (q_nb p left dn ins) (q_fb z)) q_IM (q_mJ y pd), 34, 31630)) _
            exact q_Ru_ret rfl rfl
          show q_Ru _ _ _ (99, [(2, .int col), (1, .int (lin - 4)), (0, .ref 64)], [.int 0], (q_cM (q_mA pix smp tr (q_nb p left dn ins) (q_fb z)) q_IM (q_mJ y pd), 34, 31630)) _
          refine q_Ru_seg (g2 := (119, [(2, .int col), (1, .int (lin - 4)), (0, .ref 64)], [.int 0], (q_cM (q_mA pix smp tr (q_nb p left dn ins) (q_fb z)) q_IM (q_mJ y pd), 34, 31630))) 2 (fun _ _ => rfl) ?_
          exact q_Ru_ret rfl rfl
set_option maxHeartbeats 4000000 in
theorem q_m_pictureAt (pix smp tr : Nat → Int32) (p left dn ins z : Int32) (y pd : Int64) (u v : Int32) : q_Ca q_TB0 4 226 [.ref 64, .int u, .int v] (q_cM (q_mA pix smp tr (q_nb p left dn ins) (q_fb z)) q_IM (q_mJ y pd), 34, 31630) (.inl (some (.int 0)), (q_cM (q_mA pix smp tr (q_nb p left dn ins) (q_fb z)) q_IM (q_mJ y pd), 34, 31630)) := by
  refine q_Ca_of (Nat.le_of_ble_eq_true rfl) ?_
  refine q_Ru_seg (g2 := (7, [(0, .ref 64), (1, .int u), (2, .int v)], [.int 0, .int u], (q_cM (q_mA pix smp tr (q_nb p left dn ins) (q_fb z)) q_IM (q_mJ y pd), 34, 31630))) 5 (fun _ _ => rfl) ?_
  refine q_Ru_seg (g2 := (21, [(3, .int ((u + 0) - (u + 0) / 32 * 32)), (0, .ref 64), (1, .int u), (2, .int v)], [.int 0, .int v], (q_cM (q_mA pix smp tr (q_nb p left dn ins) (q_fb z)) q_IM (q_mJ y pd), 34, 31630))) 11 (fun _ _ => rfl) ?_
  refine q_Ru_seg (g2 := (39, [(4, .int ((v + 0) - (v + 0) / 32 * 32)), (3, .int ((u + 0) - (u + 0) / 32 * 32)), (0, .ref 64), (1, .int u), (2, .int v)], [.int 0, .int 256], (q_cM (q_mA pix smp tr (q_nb p left dn ins) (q_fb z)) q_IM (q_mJ y pd), 34, 31630))) 11 (fun _ _ => rfl) ?_
  refine q_Ru_seg (g2 := (48, [(5, .int 0), (4, .int ((v + 0) - (v + 0) / 32 * 32)), (3, .int ((u + 0) - (u + 0) / 32 * 32)), (0, .ref 64), (1, .int u), (2, .int v)], [.int 0], (q_cM (q_mA pix smp tr (q_nb p left dn ins) (q_fb z)) q_IM (q_mJ y pd), 34, 31630))) 6 (fun _ _ => rfl) ?_
  refine q_Ru_seg (g2 := (70, [(5, .int 0), (4, .int ((v + 0) - (v + 0) / 32 * 32)), (3, .int ((u + 0) - (u + 0) / 32 * 32)), (0, .ref 64), (1, .int u), (2, .int v)], [.int (((0 : Int32) + (8 * (((v + 0) - (v + 0) / 32 * 32) / 8))) + (((u + 0) - (u + 0) / 32 * 32) / 4)), .ref 65], (q_cM (q_mA pix smp tr (q_nb p left dn ins) (q_fb z)) q_IM (q_mJ y pd), 34, 31630))) 14 (fun _ _ => rfl) ?_
  refine q_Ru_call (v := (some (.int ((((0 : Int32) + (8 * (((v + 0) - (v + 0) / 32 * 32) / 8))) + (((u + 0) - (u + 0) / 32 * 32) / 4)) &&& 4095)))) (h2 := (q_cM (q_mA pix smp tr (q_nb p left dn ins) (q_fb z)) q_IM (q_mJ y pd), 34, 31630)) rfl rfl ?_ ?_
  · refine q_Ca_of (Nat.le_of_ble_eq_true rfl) ?_
    refine q_Ru_seg (g2 := (5, [(0, .int (((0 : Int32) + (8 * (((v + 0) - (v + 0) / 32 * 32) / 8))) + (((u + 0) - (u + 0) / 32 * 32) / 4)))], [.int ((((0 : Int32) + (8 * (((v + 0) - (v + 0) / 32 * 32) / 8))) + (((u + 0) - (u + 0) / 32 * 32) / 4)) &&& 4095)], (q_cM (q_mA pix smp tr (q_nb p left dn ins) (q_fb z)) q_IM (q_mJ y pd), 34, 31630))) 3 (fun _ _ => rfl) ?_
    exact q_Ru_ret rfl rfl
  show q_Ru _ _ _ (73, [(5, .int 0), (4, .int ((v + 0) - (v + 0) / 32 * 32)), (3, .int ((u + 0) - (u + 0) / 32 * 32)), (0, .ref 64), (1, .int u), (2, .int v)], [.int ((((0 : Int32) + (8 * (((v + 0) - (v + 0) / 32 * 32) / 8))) + (((u + 0) - (u + 0) / 32 * 32) / 4)) &&& 4095), .ref 65], (q_cM (q_mA pix smp tr (q_nb p left dn ins) (q_fb z)) q_IM (q_mJ y pd), 34, 31630)) _
  refine q_Ru_rsT (g2 := (74, [(5, .int 0), (4, .int ((v + 0) - (v + 0) / 32 * 32)), (3, .int ((u + 0) - (u + 0) / 32 * 32)), (0, .ref 64), (1, .int u), (2, .int v)], [.int 0], (q_cM (q_mA pix smp tr (q_nb p left dn ins) (q_fb z)) q_IM (q_mJ y pd), 34, 31630))) rfl rfl (q_in_bd (x := (((0 : Int32) + (8 * (((v + 0) - (v + 0) / 32 * 32) / 8))) + (((u + 0) - (u + 0) / 32 * 32) / 4)) &&& 4095) (n := 4096) (U := 4095) (L := 0) (q_and_lo (((0 : Int32) + (8 * (((v + 0) - (v + 0) / 32 * 32) / 8))) + (((u + 0) - (u + 0) / 32 * 32) / 4)) 4095) (q_and_hi (((0 : Int32) + (8 * (((v + 0) - (v + 0) / 32 * 32) / 8))) + (((u + 0) - (u + 0) / 32 * 32) / 4)) 4095 4095)) ?_
  refine q_Ru_seg (g2 := (90, [(6, .int 0), (5, .int 0), (4, .int ((v + 0) - (v + 0) / 32 * 32)), (3, .int ((u + 0) - (u + 0) / 32 * 32)), (0, .ref 64), (1, .int u), (2, .int v)], [.int 0, .int 256, .ref 65], (q_cM (q_mA pix smp tr (q_nb p left dn ins) (q_fb z)) q_IM (q_mJ y pd), 34, 31630))) 8 (fun _ _ => rfl) ?_
  refine q_Ru_seg (g2 := (103, [(6, .int 0), (5, .int 0), (4, .int ((v + 0) - (v + 0) / 32 * 32)), (3, .int ((u + 0) - (u + 0) / 32 * 32)), (0, .ref 64), (1, .int u), (2, .int v)], [.int ((0 : Int32) + (((v + 0) - (v + 0) / 32 * 32) - ((v + 0) - (v + 0) / 32 * 32) / 8 * 8)), .ref 65], (q_cM (q_mA pix smp tr (q_nb p left dn ins) (q_fb z)) q_IM (q_mJ y pd), 34, 31630))) 9 (fun _ _ => rfl) ?_
  refine q_Ru_call (v := (some (.int (((0 : Int32) + (((v + 0) - (v + 0) / 32 * 32) - ((v + 0) - (v + 0) / 32 * 32) / 8 * 8)) &&& 4095)))) (h2 := (q_cM (q_mA pix smp tr (q_nb p left dn ins) (q_fb z)) q_IM (q_mJ y pd), 34, 31630)) rfl rfl ?_ ?_
  · refine q_Ca_of (Nat.le_of_ble_eq_true rfl) ?_
    refine q_Ru_seg (g2 := (5, [(0, .int ((0 : Int32) + (((v + 0) - (v + 0) / 32 * 32) - ((v + 0) - (v + 0) / 32 * 32) / 8 * 8)))], [.int (((0 : Int32) + (((v + 0) - (v + 0) / 32 * 32) - ((v + 0) - (v + 0) / 32 * 32) / 8 * 8)) &&& 4095)], (q_cM (q_mA pix smp tr (q_nb p left dn ins) (q_fb z)) q_IM (q_mJ y pd), 34, 31630))) 3 (fun _ _ => rfl) ?_
    exact q_Ru_ret rfl rfl
  show q_Ru _ _ _ (106, [(6, .int 0), (5, .int 0), (4, .int ((v + 0) - (v + 0) / 32 * 32)), (3, .int ((u + 0) - (u + 0) / 32 * 32)), (0, .ref 64), (1, .int u), (2, .int v)], [.int (((0 : Int32) + (((v + 0) - (v + 0) / 32 * 32) - ((v + 0) - (v + 0) / 32 * 32) / 8 * 8)) &&& 4095), .ref 65], (q_cM (q_mA pix smp tr (q_nb p left dn ins) (q_fb z)) q_IM (q_mJ y pd), 34, 31630)) _
  refine q_Ru_rsT (g2 := (107, [(6, .int 0), (5, .int 0), (4, .int ((v + 0) - (v + 0) / 32 * 32)), (3, .int ((u + 0) - (u + 0) / 32 * 32)), (0, .ref 64), (1, .int u), (2, .int v)], [.int 0], (q_cM (q_mA pix smp tr (q_nb p left dn ins) (q_fb z)) q_IM (q_mJ y pd), 34, 31630))) rfl rfl (q_in_bd (x := ((0 : Int32) + (((v + 0) - (v + 0) / 32 * 32) - ((v + 0) - (v + 0) / 32 * 32) / 8 * 8)) &&& 4095) (n := 4096) (U := 4095) (L := 0) (q_and_lo ((0 : Int32) + (((v + 0) - (v + 0) / 32 * 32) - ((v + 0) - (v + 0) / 32 * 32) / 8 * 8)) 4095) (q_and_hi ((0 : Int32) + (((v + 0) - (v + 0) / 32 * 32) - ((v + 0) - (v + 0) / 32 * 32) / 8 * 8)) 4095 4095)) ?_
  refine q_Ru_seg (g2 := (113, [(6, .int 0), (5, .int 0), (4, .int ((v + 0) - (v + 0) / 32 * 32)), (3, .int ((u + 0) - (u + 0) / 32 * 32)), (0, .ref 64), (1, .int u), (2, .int v)], [.int ((0 : Int32) >>> (((3 : Int32) - (((u + 0) - (u + 0) / 32 * 32) - ((u + 0) - (u + 0) / 32 * 32) / 4 * 4)) &&& 31))], (q_cM (q_mA pix smp tr (q_nb p left dn ins) (q_fb z)) q_IM (q_mJ y pd), 34, 31630))) 6 (fun _ _ => rfl) ?_
  rw [q_shr0]
  refine q_Ru_seg (g2 := (115, [(6, .int 0), (5, .int 0), (4, .int ((v + 0) - (v + 0) / 32 * 32)), (3, .int ((u + 0) - (u + 0) / 32 * 32)), (0, .ref 64), (1, .int u), (2, .int v)], [.int 0], (q_cM (q_mA pix smp tr (q_nb p left dn ins) (q_fb z)) q_IM (q_mJ y pd), 34, 31630))) 2 (fun _ _ => rfl) ?_
  exact q_Ru_ret rfl rfl
set_option maxHeartbeats 4000000 in
theorem q_m_readR (pix smp tr nb fb : Nat → Int32) (y pd : Int64) (a : Int32) (hl : 0 ≤ a.toInt) (hu : a.toInt ≤ 3839) : q_Ca q_TB0 3 214 [.ref 64, .int a] (q_cM (q_mA pix smp tr nb fb) q_IM (q_mJ y pd), 34, 31630) (.inl (some (.int 0)), (q_cM (q_mA pix smp tr nb fb) q_IM (q_mJ y pd), 34, 31630)) := by
  cases h161 : decide (a < 3840) with
  | true =>
    cases h162 : decide (a < 3072) with
    | true =>
      cases h163 : decide (a < 2048) with
      | true =>
        refine q_Ca_of (Nat.le_of_ble_eq_true rfl) ?_
        refine q_Ru_seg (g2 := (7, [(0, .ref 64), (1, .int a)], [.int 3887, .int 3840, .int a], (q_cM (q_mA pix smp tr nb fb) q_IM (q_mJ y pd), 34, 31630))) 3 (fun _ _ => rfl) ?_
        refine q_Ru_call (v := (some (.int 0))) (h2 := (q_cM (q_mA pix smp tr nb fb) q_IM (q_mJ y pd), 34, 31630)) rfl rfl ?_ ?_
        · refine q_Ca_of (Nat.le_of_ble_eq_true rfl) ?_
          refine q_Ru_seg (g2 := (2, [(0, .int a), (1, .int 3840), (2, .int 3887)], [.int 3840, .int a], (q_cM (q_mA pix smp tr nb fb) q_IM (q_mJ y pd), 34, 31630))) 2 (fun _ _ => rfl) ?_
          refine q_Ru_rsT (g2 := (14, [(0, .int a), (1, .int 3840), (2, .int 3887)], [], (q_cM (q_mA pix smp tr nb fb) q_IM (q_mJ y pd), 34, 31630))) rfl rfl h161 ?_
          refine q_Ru_seg (g2 := (15, [(0, .int a), (1, .int 3840), (2, .int 3887)], [.int 0], (q_cM (q_mA pix smp tr nb fb) q_IM (q_mJ y pd), 34, 31630))) 1 (fun _ _ => rfl) ?_
          exact q_Ru_ret rfl rfl
        show q_Ru _ _ _ (10, [(0, .ref 64), (1, .int a)], [.int 0], (q_cM (q_mA pix smp tr nb fb) q_IM (q_mJ y pd), 34, 31630)) _
        refine q_Ru_seg (g2 := (30, [(0, .ref 64), (1, .int a)], [.int 3583, .int 3072, .int a], (q_cM (q_mA pix smp tr nb fb) q_IM (q_mJ y pd), 34, 31630))) 4 (fun _ _ => rfl) ?_
        refine q_Ru_call (v := (some (.int 0))) (h2 := (q_cM (q_mA pix smp tr nb fb) q_IM (q_mJ y pd), 34, 31630)) rfl rfl ?_ ?_
        · refine q_Ca_of (Nat.le_of_ble_eq_true rfl) ?_
          refine q_Ru_seg (g2 := (2, [(0, .int a), (1, .int 3072), (2, .int 3583)], [.int 3072, .int a], (q_cM (q_mA pix smp tr nb fb) q_IM (q_mJ y pd), 34, 31630))) 2 (fun _ _ => rfl) ?_
          refine q_Ru_rsT (g2 := (14, [(0, .int a), (1, .int 3072), (2, .int 3583)], [], (q_cM (q_mA pix smp tr nb fb) q_IM (q_mJ y pd), 34, 31630))) rfl rfl h162 ?_
          refine q_Ru_seg (g2 := (15, [(0, .int a), (1, .int 3072), (2, .int 3583)], [.int 0], (q_cM (q_mA pix smp tr nb fb) q_IM (q_mJ y pd), 34, 31630))) 1 (fun _ _ => rfl) ?_
          exact q_Ru_ret rfl rfl
        show q_Ru _ _ _ (33, [(0, .ref 64), (1, .int a)], [.int 0], (q_cM (q_mA pix smp tr nb fb) q_IM (q_mJ y pd), 34, 31630)) _
        refine q_Ru_seg (g2 := (67, [(0, .ref 64), (1, .int a)], [.int 2559, .int 2048, .int a], (q_cM (q_mA pix smp tr nb fb) q_IM (q_mJ y pd), 34, 31630))) 4 (fun _ _ => rfl) ?_
        refine q_Ru_call (v := (some (.int 0))) (h2 := (q_cM (q_mA pix smp tr nb fb) q_IM (q_mJ y pd), 34, 31630)) rfl rfl ?_ ?_
        · refine q_Ca_of (Nat.le_of_ble_eq_true rfl) ?_
          refine q_Ru_seg (g2 := (2, [(0, .int a), (1, .int 2048), (2, .int 2559)], [.int 2048, .int a], (q_cM (q_mA pix smp tr nb fb) q_IM (q_mJ y pd), 34, 31630))) 2 (fun _ _ => rfl) ?_
          refine q_Ru_rsT (g2 := (14, [(0, .int a), (1, .int 2048), (2, .int 2559)], [], (q_cM (q_mA pix smp tr nb fb) q_IM (q_mJ y pd), 34, 31630))) rfl rfl h163 ?_
          refine q_Ru_seg (g2 := (15, [(0, .int a), (1, .int 2048), (2, .int 2559)], [.int 0], (q_cM (q_mA pix smp tr nb fb) q_IM (q_mJ y pd), 34, 31630))) 1 (fun _ _ => rfl) ?_
          exact q_Ru_ret rfl rfl
        show q_Ru _ _ _ (70, [(0, .ref 64), (1, .int a)], [.int 0], (q_cM (q_mA pix smp tr nb fb) q_IM (q_mJ y pd), 34, 31630)) _
        refine q_Ru_seg (g2 := (115, [(0, .ref 64), (1, .int a)], [.int a, .ref 65], (q_cM (q_mA pix smp tr nb fb) q_IM (q_mJ y pd), 34, 31630))) 4 (fun _ _ => rfl) ?_
        refine q_Ru_rsT (g2 := (116, [(0, .ref 64), (1, .int a)], [.int 0], (q_cM (q_mA pix smp tr nb fb) q_IM (q_mJ y pd), 34, 31630))) rfl rfl (q_in_bd (x := a) (n := 4096) (U := 2047) (L := 0) hl (q_hi1 h163)) ?_
        exact q_Ru_ret rfl rfl
      | false =>
        cases h164 : decide (2559 < a) with
        | true =>
          refine q_Ca_of (Nat.le_of_ble_eq_true rfl) ?_
          refine q_Ru_seg (g2 := (7, [(0, .ref 64), (1, .int a)], [.int 3887, .int 3840, .int a], (q_cM (q_mA pix smp tr nb fb) q_IM (q_mJ y pd), 34, 31630))) 3 (fun _ _ => rfl) ?_
          refine q_Ru_call (v := (some (.int 0))) (h2 := (q_cM (q_mA pix smp tr nb fb) q_IM (q_mJ y pd), 34, 31630)) rfl rfl ?_ ?_
          · refine q_Ca_of (Nat.le_of_ble_eq_true rfl) ?_
            refine q_Ru_seg (g2 := (2, [(0, .int a), (1, .int 3840), (2, .int 3887)], [.int 3840, .int a], (q_cM (q_mA pix smp tr nb fb) q_IM (q_mJ y pd), 34, 31630))) 2 (fun _ _ => rfl) ?_
            refine q_Ru_rsT (g2 := (14, [(0, .int a), (1, .int 3840), (2, .int 3887)], [], (q_cM (q_mA pix smp tr nb fb) q_IM (q_mJ y pd), 34, 31630))) rfl rfl h161 ?_
            refine q_Ru_seg (g2 := (15, [(0, .int a), (1, .int 3840), (2, .int 3887)], [.int 0], (q_cM (q_mA pix smp tr nb fb) q_IM (q_mJ y pd), 34, 31630))) 1 (fun _ _ => rfl) ?_
            exact q_Ru_ret rfl rfl
          show q_Ru _ _ _ (10, [(0, .ref 64), (1, .int a)], [.int 0], (q_cM (q_mA pix smp tr nb fb) q_IM (q_mJ y pd), 34, 31630)) _
          refine q_Ru_seg (g2 := (30, [(0, .ref 64), (1, .int a)], [.int 3583, .int 3072, .int a], (q_cM (q_mA pix smp tr nb fb) q_IM (q_mJ y pd), 34, 31630))) 4 (fun _ _ => rfl) ?_
          refine q_Ru_call (v := (some (.int 0))) (h2 := (q_cM (q_mA pix smp tr nb fb) q_IM (q_mJ y pd), 34, 31630)) rfl rfl ?_ ?_
          · refine q_Ca_of (Nat.le_of_ble_eq_true rfl) ?_
            refine q_Ru_seg (g2 := (2, [(0, .int a), (1, .int 3072), (2, .int 3583)], [.int 3072, .int a], (q_cM (q_mA pix smp tr nb fb) q_IM (q_mJ y pd), 34, 31630))) 2 (fun _ _ => rfl) ?_
            refine q_Ru_rsT (g2 := (14, [(0, .int a), (1, .int 3072), (2, .int 3583)], [], (q_cM (q_mA pix smp tr nb fb) q_IM (q_mJ y pd), 34, 31630))) rfl rfl h162 ?_
            refine q_Ru_seg (g2 := (15, [(0, .int a), (1, .int 3072), (2, .int 3583)], [.int 0], (q_cM (q_mA pix smp tr nb fb) q_IM (q_mJ y pd), 34, 31630))) 1 (fun _ _ => rfl) ?_
            exact q_Ru_ret rfl rfl
          show q_Ru _ _ _ (33, [(0, .ref 64), (1, .int a)], [.int 0], (q_cM (q_mA pix smp tr nb fb) q_IM (q_mJ y pd), 34, 31630)) _
          refine q_Ru_seg (g2 := (67, [(0, .ref 64), (1, .int a)], [.int 2559, .int 2048, .int a], (q_cM (q_mA pix smp tr nb fb) q_IM (q_mJ y pd), 34, 31630))) 4 (fun _ _ => rfl) ?_
          refine q_Ru_call (v := (some (.int 0))) (h2 := (q_cM (q_mA pix smp tr nb fb) q_IM (q_mJ y pd), 34, 31630)) rfl rfl ?_ ?_
          · refine q_Ca_of (Nat.le_of_ble_eq_true rfl) ?_
            refine q_Ru_seg (g2 := (2, [(0, .int a), (1, .int 2048), (2, .int 2559)], [.int 2048, .int a], (q_cM (q_mA pix smp tr nb fb) q_IM (q_mJ y pd), 34, 31630))) 2 (fun _ _ => rfl) ?_
            refine q_Ru_rsF (g2 := (5, [(0, .int a), (1, .int 2048), (2, .int 2559)], [], (q_cM (q_mA pix smp tr nb fb) q_IM (q_mJ y pd), 34, 31630))) rfl rfl h163 ?_
            refine q_Ru_seg (g2 := (7, [(0, .int a), (1, .int 2048), (2, .int 2559)], [.int 2559, .int a], (q_cM (q_mA pix smp tr nb fb) q_IM (q_mJ y pd), 34, 31630))) 2 (fun _ _ => rfl) ?_
            refine q_Ru_rsT (g2 := (14, [(0, .int a), (1, .int 2048), (2, .int 2559)], [], (q_cM (q_mA pix smp tr nb fb) q_IM (q_mJ y pd), 34, 31630))) rfl rfl h164 ?_
            refine q_Ru_seg (g2 := (15, [(0, .int a), (1, .int 2048), (2, .int 2559)], [.int 0], (q_cM (q_mA pix smp tr nb fb) q_IM (q_mJ y pd), 34, 31630))) 1 (fun _ _ => rfl) ?_
            exact q_Ru_ret rfl rfl
          show q_Ru _ _ _ (70, [(0, .ref 64), (1, .int a)], [.int 0], (q_cM (q_mA pix smp tr nb fb) q_IM (q_mJ y pd), 34, 31630)) _
          refine q_Ru_seg (g2 := (115, [(0, .ref 64), (1, .int a)], [.int a, .ref 65], (q_cM (q_mA pix smp tr nb fb) q_IM (q_mJ y pd), 34, 31630))) 4 (fun _ _ => rfl) ?_
          refine q_Ru_rsT (g2 := (116, [(0, .ref 64), (1, .int a)], [.int 0], (q_cM (q_mA pix smp tr nb fb) q_IM (q_mJ y pd), 34, 31630))) rfl rfl (q_in_bd (x := a) (n := 4096) (U := 3071) (L := 2560) (q_lo2 h164) (q_hi1 h162)) ?_
          exact q_Ru_ret rfl rfl
        | false =>
          refine q_Ca_of (Nat.le_of_ble_eq_true rfl) ?_
          refine q_Ru_seg (g2 := (7, [(0, .ref 64), (1, .int a)], [.int 3887, .int 3840, .int a], (q_cM (q_mA pix smp tr nb fb) q_IM (q_mJ y pd), 34, 31630))) 3 (fun _ _ => rfl) ?_
          refine q_Ru_call (v := (some (.int 0))) (h2 := (q_cM (q_mA pix smp tr nb fb) q_IM (q_mJ y pd), 34, 31630)) rfl rfl ?_ ?_
          · refine q_Ca_of (Nat.le_of_ble_eq_true rfl) ?_
            refine q_Ru_seg (g2 := (2, [(0, .int a), (1, .int 3840), (2, .int 3887)], [.int 3840, .int a], (q_cM (q_mA pix smp tr nb fb) q_IM (q_mJ y pd), 34, 31630))) 2 (fun _ _ => rfl) ?_
            refine q_Ru_rsT (g2 := (14, [(0, .int a), (1, .int 3840), (2, .int 3887)], [], (q_cM (q_mA pix smp tr nb fb) q_IM (q_mJ y pd), 34, 31630))) rfl rfl h161 ?_
            refine q_Ru_seg (g2 := (15, [(0, .int a), (1, .int 3840), (2, .int 3887)], [.int 0], (q_cM (q_mA pix smp tr nb fb) q_IM (q_mJ y pd), 34, 31630))) 1 (fun _ _ => rfl) ?_
            exact q_Ru_ret rfl rfl
          show q_Ru _ _ _ (10, [(0, .ref 64), (1, .int a)], [.int 0], (q_cM (q_mA pix smp tr nb fb) q_IM (q_mJ y pd), 34, 31630)) _
          refine q_Ru_seg (g2 := (30, [(0, .ref 64), (1, .int a)], [.int 3583, .int 3072, .int a], (q_cM (q_mA pix smp tr nb fb) q_IM (q_mJ y pd), 34, 31630))) 4 (fun _ _ => rfl) ?_
          refine q_Ru_call (v := (some (.int 0))) (h2 := (q_cM (q_mA pix smp tr nb fb) q_IM (q_mJ y pd), 34, 31630)) rfl rfl ?_ ?_
          · refine q_Ca_of (Nat.le_of_ble_eq_true rfl) ?_
            refine q_Ru_seg (g2 := (2, [(0, .int a), (1, .int 3072), (2, .int 3583)], [.int 3072, .int a], (q_cM (q_mA pix smp tr nb fb) q_IM (q_mJ y pd), 34, 31630))) 2 (fun _ _ => rfl) ?_
            refine q_Ru_rsT (g2 := (14, [(0, .int a), (1, .int 3072), (2, .int 3583)], [], (q_cM (q_mA pix smp tr nb fb) q_IM (q_mJ y pd), 34, 31630))) rfl rfl h162 ?_
            refine q_Ru_seg (g2 := (15, [(0, .int a), (1, .int 3072), (2, .int 3583)], [.int 0], (q_cM (q_mA pix smp tr nb fb) q_IM (q_mJ y pd), 34, 31630))) 1 (fun _ _ => rfl) ?_
            exact q_Ru_ret rfl rfl
          show q_Ru _ _ _ (33, [(0, .ref 64), (1, .int a)], [.int 0], (q_cM (q_mA pix smp tr nb fb) q_IM (q_mJ y pd), 34, 31630)) _
          refine q_Ru_seg (g2 := (67, [(0, .ref 64), (1, .int a)], [.int 2559, .int 2048, .int a], (q_cM (q_mA pix smp tr nb fb) q_IM (q_mJ y pd), 34, 31630))) 4 (fun _ _ => rfl) ?_
          refine q_Ru_call (v := (some (.int 1))) (h2 := (q_cM (q_mA pix smp tr nb fb) q_IM (q_mJ y pd), 34, 31630)) rfl rfl ?_ ?_
          · refine q_Ca_of (Nat.le_of_ble_eq_true rfl) ?_
            refine q_Ru_seg (g2 := (2, [(0, .int a), (1, .int 2048), (2, .int 2559)], [.int 2048, .int a], (q_cM (q_mA pix smp tr nb fb) q_IM (q_mJ y pd), 34, 31630))) 2 (fun _ _ => rfl) ?_
            refine q_Ru_rsF (g2 := (5, [(0, .int a), (1, .int 2048), (2, .int 2559)], [], (q_cM (q_mA pix smp tr nb fb) q_IM (q_mJ y pd), 34, 31630))) rfl rfl h163 ?_
            refine q_Ru_seg (g2 := (7, [(0, .int a), (1, .int 2048), (2, .int 2559)], [.int 2559, .int a], (q_cM (q_mA pix smp tr nb fb) q_IM (q_mJ y pd), 34, 31630))) 2 (fun _ _ => rfl) ?_
            refine q_Ru_rsF (g2 := (10, [(0, .int a), (1, .int 2048), (2, .int 2559)], [], (q_cM (q_mA pix smp tr nb fb) q_IM (q_mJ y pd), 34, 31630))) rfl rfl h164 ?_
            refine q_Ru_seg (g2 := (15, [(0, .int a), (1, .int 2048), (2, .int 2559)], [.int 1], (q_cM (q_mA pix smp tr nb fb) q_IM (q_mJ y pd), 34, 31630))) 2 (fun _ _ => rfl) ?_
            exact q_Ru_ret rfl rfl
          show q_Ru _ _ _ (70, [(0, .ref 64), (1, .int a)], [.int 1], (q_cM (q_mA pix smp tr nb fb) q_IM (q_mJ y pd), 34, 31630)) _
          refine q_Ru_seg (g2 := (79, [(0, .ref 64), (1, .int a)], [.int 0], (q_cM (q_mA pix smp tr nb fb) q_IM (q_mJ y pd), 34, 31630))) 5 (fun _ _ => rfl) ?_
          refine q_Ru_seg (g2 := (80, [(0, .ref 64), (1, .int a)], [.int 1, .int 0], (q_cM (q_mA pix smp tr nb fb) q_IM (q_mJ y pd), 34, 31630))) 1 (fun _ _ => rfl) ?_
          refine q_Ru_call (v := (some (.int 0))) (h2 := (q_cM (q_mA pix smp tr nb fb) q_IM (q_mJ y pd), 34, 31630)) rfl rfl ?_ ?_
          · refine q_Ca_of (Nat.le_of_ble_eq_true rfl) ?_
            refine q_Ru_seg (g2 := (14, [(0, .int 0), (1, .int 1)], [.int 0], (q_cM (q_mA pix smp tr nb fb) q_IM (q_mJ y pd), 34, 31630))) 8 (fun _ _ => rfl) ?_
            exact q_Ru_ret rfl rfl
          show q_Ru _ _ _ (83, [(0, .ref 64), (1, .int a)], [.int 0], (q_cM (q_mA pix smp tr nb fb) q_IM (q_mJ y pd), 34, 31630)) _
          refine q_Ru_seg (g2 := (115, [(0, .ref 64), (1, .int a)], [.int a, .ref 65], (q_cM (q_mA pix smp tr nb fb) q_IM (q_mJ y pd), 34, 31630))) 4 (fun _ _ => rfl) ?_
          refine q_Ru_rsT (g2 := (116, [(0, .ref 64), (1, .int a)], [.int 0], (q_cM (q_mA pix smp tr nb fb) q_IM (q_mJ y pd), 34, 31630))) rfl rfl (q_in_bd (x := a) (n := 4096) (U := 2559) (L := 2048) (q_lo1 h163) (q_hi2 h164)) ?_
          exact q_Ru_ret rfl rfl
    | false =>
      cases h165 : decide (3583 < a) with
      | true =>
        cases h166 : decide (a < 2048) with
        | true =>
          exact q_no (q_lo2 h165) (q_hi1 h166) (by decide)
        | false =>
          cases h167 : decide (2559 < a) with
          | true =>
            refine q_Ca_of (Nat.le_of_ble_eq_true rfl) ?_
            refine q_Ru_seg (g2 := (7, [(0, .ref 64), (1, .int a)], [.int 3887, .int 3840, .int a], (q_cM (q_mA pix smp tr nb fb) q_IM (q_mJ y pd), 34, 31630))) 3 (fun _ _ => rfl) ?_
            refine q_Ru_call (v := (some (.int 0))) (h2 := (q_cM (q_mA pix smp tr nb fb) q_IM (q_mJ y pd), 34, 31630)) rfl rfl ?_ ?_
            · refine q_Ca_of (Nat.le_of_ble_eq_true rfl) ?_
              refine q_Ru_seg (g2 := (2, [(0, .int a), (1, .int 3840), (2, .int 3887)], [.int 3840, .int a], (q_cM (q_mA pix smp tr nb fb) q_IM (q_mJ y pd), 34, 31630))) 2 (fun _ _ => rfl) ?_
              refine q_Ru_rsT (g2 := (14, [(0, .int a), (1, .int 3840), (2, .int 3887)], [], (q_cM (q_mA pix smp tr nb fb) q_IM (q_mJ y pd), 34, 31630))) rfl rfl h161 ?_
              refine q_Ru_seg (g2 := (15, [(0, .int a), (1, .int 3840), (2, .int 3887)], [.int 0], (q_cM (q_mA pix smp tr nb fb) q_IM (q_mJ y pd), 34, 31630))) 1 (fun _ _ => rfl) ?_
              exact q_Ru_ret rfl rfl
            show q_Ru _ _ _ (10, [(0, .ref 64), (1, .int a)], [.int 0], (q_cM (q_mA pix smp tr nb fb) q_IM (q_mJ y pd), 34, 31630)) _
            refine q_Ru_seg (g2 := (30, [(0, .ref 64), (1, .int a)], [.int 3583, .int 3072, .int a], (q_cM (q_mA pix smp tr nb fb) q_IM (q_mJ y pd), 34, 31630))) 4 (fun _ _ => rfl) ?_
            refine q_Ru_call (v := (some (.int 0))) (h2 := (q_cM (q_mA pix smp tr nb fb) q_IM (q_mJ y pd), 34, 31630)) rfl rfl ?_ ?_
            · refine q_Ca_of (Nat.le_of_ble_eq_true rfl) ?_
              refine q_Ru_seg (g2 := (2, [(0, .int a), (1, .int 3072), (2, .int 3583)], [.int 3072, .int a], (q_cM (q_mA pix smp tr nb fb) q_IM (q_mJ y pd), 34, 31630))) 2 (fun _ _ => rfl) ?_
              refine q_Ru_rsF (g2 := (5, [(0, .int a), (1, .int 3072), (2, .int 3583)], [], (q_cM (q_mA pix smp tr nb fb) q_IM (q_mJ y pd), 34, 31630))) rfl rfl h162 ?_
              refine q_Ru_seg (g2 := (7, [(0, .int a), (1, .int 3072), (2, .int 3583)], [.int 3583, .int a], (q_cM (q_mA pix smp tr nb fb) q_IM (q_mJ y pd), 34, 31630))) 2 (fun _ _ => rfl) ?_
              refine q_Ru_rsT (g2 := (14, [(0, .int a), (1, .int 3072), (2, .int 3583)], [], (q_cM (q_mA pix smp tr nb fb) q_IM (q_mJ y pd), 34, 31630))) rfl rfl h165 ?_
              refine q_Ru_seg (g2 := (15, [(0, .int a), (1, .int 3072), (2, .int 3583)], [.int 0], (q_cM (q_mA pix smp tr nb fb) q_IM (q_mJ y pd), 34, 31630))) 1 (fun _ _ => rfl) ?_
              exact q_Ru_ret rfl rfl
            show q_Ru _ _ _ (33, [(0, .ref 64), (1, .int a)], [.int 0], (q_cM (q_mA pix smp tr nb fb) q_IM (q_mJ y pd), 34, 31630)) _
            refine q_Ru_seg (g2 := (67, [(0, .ref 64), (1, .int a)], [.int 2559, .int 2048, .int a], (q_cM (q_mA pix smp tr nb fb) q_IM (q_mJ y pd), 34, 31630))) 4 (fun _ _ => rfl) ?_
            refine q_Ru_call (v := (some (.int 0))) (h2 := (q_cM (q_mA pix smp tr nb fb) q_IM (q_mJ y pd), 34, 31630)) rfl rfl ?_ ?_
            · refine q_Ca_of (Nat.le_of_ble_eq_true rfl) ?_
              refine q_Ru_seg (g2 := (2, [(0, .int a), (1, .int 2048), (2, .int 2559)], [.int 2048, .int a], (q_cM (q_mA pix smp tr nb fb) q_IM (q_mJ y pd), 34, 31630))) 2 (fun _ _ => rfl) ?_
              refine q_Ru_rsF (g2 := (5, [(0, .int a), (1, .int 2048), (2, .int 2559)], [], (q_cM (q_mA pix smp tr nb fb) q_IM (q_mJ y pd), 34, 31630))) rfl rfl h166 ?_
              refine q_Ru_seg (g2 := (7, [(0, .int a), (1, .int 2048), (2, .int 2559)], [.int 2559, .int a], (q_cM (q_mA pix smp tr nb fb) q_IM (q_mJ y pd), 34, 31630))) 2 (fun _ _ => rfl) ?_
              refine q_Ru_rsT (g2 := (14, [(0, .int a), (1, .int 2048), (2, .int 2559)], [], (q_cM (q_mA pix smp tr nb fb) q_IM (q_mJ y pd), 34, 31630))) rfl rfl h167 ?_
              refine q_Ru_seg (g2 := (15, [(0, .int a), (1, .int 2048), (2, .int 2559)], [.int 0], (q_cM (q_mA pix smp tr nb fb) q_IM (q_mJ y pd), 34, 31630))) 1 (fun _ _ => rfl) ?_
              exact q_Ru_ret rfl rfl
            show q_Ru _ _ _ (70, [(0, .ref 64), (1, .int a)], [.int 0], (q_cM (q_mA pix smp tr nb fb) q_IM (q_mJ y pd), 34, 31630)) _
            refine q_Ru_seg (g2 := (115, [(0, .ref 64), (1, .int a)], [.int a, .ref 65], (q_cM (q_mA pix smp tr nb fb) q_IM (q_mJ y pd), 34, 31630))) 4 (fun _ _ => rfl) ?_
            refine q_Ru_rsT (g2 := (116, [(0, .ref 64), (1, .int a)], [.int 0], (q_cM (q_mA pix smp tr nb fb) q_IM (q_mJ y pd), 34, 31630))) rfl rfl (q_in_bd (x := a) (n := 4096) (U := 3839) (L := 3584) (q_lo2 h165) hu) ?_
            exact q_Ru_ret rfl rfl
          | false =>
            exact q_no (q_lo2 h165) (q_hi2 h167) (by decide)
      | false =>
        cases h168 : decide (a < 2048) with
        | true =>
          exact q_no (q_lo1 h162) (q_hi1 h168) (by decide)
        | false =>
          cases h169 : decide (2559 < a) with
          | true =>
            refine q_Ca_of (Nat.le_of_ble_eq_true rfl) ?_
            refine q_Ru_seg (g2 := (7, [(0, .ref 64), (1, .int a)], [.int 3887, .int 3840, .int a], (q_cM (q_mA pix smp tr nb fb) q_IM (q_mJ y pd), 34, 31630))) 3 (fun _ _ => rfl) ?_
            refine q_Ru_call (v := (some (.int 0))) (h2 := (q_cM (q_mA pix smp tr nb fb) q_IM (q_mJ y pd), 34, 31630)) rfl rfl ?_ ?_
            · refine q_Ca_of (Nat.le_of_ble_eq_true rfl) ?_
              refine q_Ru_seg (g2 := (2, [(0, .int a), (1, .int 3840), (2, .int 3887)], [.int 3840, .int a], (q_cM (q_mA pix smp tr nb fb) q_IM (q_mJ y pd), 34, 31630))) 2 (fun _ _ => rfl) ?_
              refine q_Ru_rsT (g2 := (14, [(0, .int a), (1, .int 3840), (2, .int 3887)], [], (q_cM (q_mA pix smp tr nb fb) q_IM (q_mJ y pd), 34, 31630))) rfl rfl h161 ?_
              refine q_Ru_seg (g2 := (15, [(0, .int a), (1, .int 3840), (2, .int 3887)], [.int 0], (q_cM (q_mA pix smp tr nb fb) q_IM (q_mJ y pd), 34, 31630))) 1 (fun _ _ => rfl) ?_
              exact q_Ru_ret rfl rfl
            show q_Ru _ _ _ (10, [(0, .ref 64), (1, .int a)], [.int 0], (q_cM (q_mA pix smp tr nb fb) q_IM (q_mJ y pd), 34, 31630)) _
            refine q_Ru_seg (g2 := (30, [(0, .ref 64), (1, .int a)], [.int 3583, .int 3072, .int a], (q_cM (q_mA pix smp tr nb fb) q_IM (q_mJ y pd), 34, 31630))) 4 (fun _ _ => rfl) ?_
            refine q_Ru_call (v := (some (.int 1))) (h2 := (q_cM (q_mA pix smp tr nb fb) q_IM (q_mJ y pd), 34, 31630)) rfl rfl ?_ ?_
            · refine q_Ca_of (Nat.le_of_ble_eq_true rfl) ?_
              refine q_Ru_seg (g2 := (2, [(0, .int a), (1, .int 3072), (2, .int 3583)], [.int 3072, .int a], (q_cM (q_mA pix smp tr nb fb) q_IM (q_mJ y pd), 34, 31630))) 2 (fun _ _ => rfl) ?_
              refine q_Ru_rsF (g2 := (5, [(0, .int a), (1, .int 3072), (2, .int 3583)], [], (q_cM (q_mA pix smp tr nb fb) q_IM (q_mJ y pd), 34, 31630))) rfl rfl h162 ?_
              refine q_Ru_seg (g2 := (7, [(0, .int a), (1, .int 3072), (2, .int 3583)], [.int 3583, .int a], (q_cM (q_mA pix smp tr nb fb) q_IM (q_mJ y pd), 34, 31630))) 2 (fun _ _ => rfl) ?_
              refine q_Ru_rsF (g2 := (10, [(0, .int a), (1, .int 3072), (2, .int 3583)], [], (q_cM (q_mA pix smp tr nb fb) q_IM (q_mJ y pd), 34, 31630))) rfl rfl h165 ?_
              refine q_Ru_seg (g2 := (15, [(0, .int a), (1, .int 3072), (2, .int 3583)], [.int 1], (q_cM (q_mA pix smp tr nb fb) q_IM (q_mJ y pd), 34, 31630))) 2 (fun _ _ => rfl) ?_
              exact q_Ru_ret rfl rfl
            show q_Ru _ _ _ (33, [(0, .ref 64), (1, .int a)], [.int 1], (q_cM (q_mA pix smp tr nb fb) q_IM (q_mJ y pd), 34, 31630)) _
            refine q_Ru_seg (g2 := (42, [(0, .ref 64), (1, .int a)], [.int 0], (q_cM (q_mA pix smp tr nb fb) q_IM (q_mJ y pd), 34, 31630))) 5 (fun _ _ => rfl) ?_
            refine q_Ru_seg (g2 := (43, [(0, .ref 64), (1, .int a)], [.int 0, .int 0], (q_cM (q_mA pix smp tr nb fb) q_IM (q_mJ y pd), 34, 31630))) 1 (fun _ _ => rfl) ?_
            refine q_Ru_call (v := (some (.int 0))) (h2 := (q_cM (q_mA pix smp tr nb fb) q_IM (q_mJ y pd), 34, 31630)) rfl rfl ?_ ?_
            · refine q_Ca_of (Nat.le_of_ble_eq_true rfl) ?_
              refine q_Ru_seg (g2 := (14, [(0, .int 0), (1, .int 0)], [.int 0], (q_cM (q_mA pix smp tr nb fb) q_IM (q_mJ y pd), 34, 31630))) 8 (fun _ _ => rfl) ?_
              exact q_Ru_ret rfl rfl
            show q_Ru _ _ _ (46, [(0, .ref 64), (1, .int a)], [.int 0], (q_cM (q_mA pix smp tr nb fb) q_IM (q_mJ y pd), 34, 31630)) _
            refine q_Ru_seg (g2 := (67, [(0, .ref 64), (1, .int a)], [.int 2559, .int 2048, .int a], (q_cM (q_mA pix smp tr nb fb) q_IM (q_mJ y pd), 34, 31630))) 4 (fun _ _ => rfl) ?_
            refine q_Ru_call (v := (some (.int 0))) (h2 := (q_cM (q_mA pix smp tr nb fb) q_IM (q_mJ y pd), 34, 31630)) rfl rfl ?_ ?_
            · refine q_Ca_of (Nat.le_of_ble_eq_true rfl) ?_
              refine q_Ru_seg (g2 := (2, [(0, .int a), (1, .int 2048), (2, .int 2559)], [.int 2048, .int a], (q_cM (q_mA pix smp tr nb fb) q_IM (q_mJ y pd), 34, 31630))) 2 (fun _ _ => rfl) ?_
              refine q_Ru_rsF (g2 := (5, [(0, .int a), (1, .int 2048), (2, .int 2559)], [], (q_cM (q_mA pix smp tr nb fb) q_IM (q_mJ y pd), 34, 31630))) rfl rfl h168 ?_
              refine q_Ru_seg (g2 := (7, [(0, .int a), (1, .int 2048), (2, .int 2559)], [.int 2559, .int a], (q_cM (q_mA pix smp tr nb fb) q_IM (q_mJ y pd), 34, 31630))) 2 (fun _ _ => rfl) ?_
              refine q_Ru_rsT (g2 := (14, [(0, .int a), (1, .int 2048), (2, .int 2559)], [], (q_cM (q_mA pix smp tr nb fb) q_IM (q_mJ y pd), 34, 31630))) rfl rfl h169 ?_
              refine q_Ru_seg (g2 := (15, [(0, .int a), (1, .int 2048), (2, .int 2559)], [.int 0], (q_cM (q_mA pix smp tr nb fb) q_IM (q_mJ y pd), 34, 31630))) 1 (fun _ _ => rfl) ?_
              exact q_Ru_ret rfl rfl
            show q_Ru _ _ _ (70, [(0, .ref 64), (1, .int a)], [.int 0], (q_cM (q_mA pix smp tr nb fb) q_IM (q_mJ y pd), 34, 31630)) _
            refine q_Ru_seg (g2 := (115, [(0, .ref 64), (1, .int a)], [.int a, .ref 65], (q_cM (q_mA pix smp tr nb fb) q_IM (q_mJ y pd), 34, 31630))) 4 (fun _ _ => rfl) ?_
            refine q_Ru_rsT (g2 := (116, [(0, .ref 64), (1, .int a)], [.int 0], (q_cM (q_mA pix smp tr nb fb) q_IM (q_mJ y pd), 34, 31630))) rfl rfl (q_in_bd (x := a) (n := 4096) (U := 3583) (L := 3072) (q_lo1 h162) (q_hi2 h165)) ?_
            exact q_Ru_ret rfl rfl
          | false =>
            exact q_no (q_lo1 h162) (q_hi2 h169) (by decide)
  | false =>
    exact q_no (q_lo1 h161) hu (by decide)
set_option maxHeartbeats 4000000 in
theorem q_m_draws (pix smp tr : Nat → Int32) (p left dn ins z : Int32) (y pd : Int64) (u v : Int32) (hu0 : 0 ≤ u.toInt) (hu1 : u.toInt ≤ 31) (hv0 : 0 ≤ v.toInt) (hv1 : v.toInt ≤ 31) : ∃ pix2, q_Ca q_TB0 6 228 [.ref 64, .int u, .int v] (q_cM (q_mA pix smp tr (q_nb p left dn ins) (q_fb z)) q_IM (q_mJ y pd), 34, 31630) (.inl none, (q_cM (q_mA pix2 smp tr (q_nb p left dn ins) (q_fb z)) q_IM (q_mJ y pd), 34, 31630)) := by
  refine ⟨(upd pix (((32 * v) + u).toNatClampNeg) 0), ?_⟩
  refine q_Ca_of (Nat.le_of_ble_eq_true rfl) ?_
  refine q_Ru_seg (g2 := (3, [(0, .ref 64), (1, .int u), (2, .int v)], [.int v, .int u, .ref 64], (q_cM (q_mA pix smp tr (q_nb p left dn ins) (q_fb z)) q_IM (q_mJ y pd), 34, 31630))) 3 (fun _ _ => rfl) ?_
  refine q_Ru_call (v := (some (.int 0))) (h2 := (q_cM (q_mA pix smp tr (q_nb p left dn ins) (q_fb z)) q_IM (q_mJ y pd), 34, 31630)) rfl rfl ?_ ?_
  · exact (q_m_pictureAt pix smp tr p left dn ins z y pd u v).le (Nat.le_of_ble_eq_true rfl)
  show q_Ru _ _ _ (6, [(0, .ref 64), (1, .int u), (2, .int v)], [.int 0], (q_cM (q_mA pix smp tr (q_nb p left dn ins) (q_fb z)) q_IM (q_mJ y pd), 34, 31630)) _
  refine q_Ru_seg (g2 := (13, [(3, .int 0), (0, .ref 64), (1, .int u), (2, .int v)], [.int 0], (q_cM (q_mA pix smp tr (q_nb p left dn ins) (q_fb z)) q_IM (q_mJ y pd), 34, 31630))) 5 (fun _ _ => rfl) ?_
  refine q_Ru_seg (g2 := (61, [(7, .int 3), (6, .int (-1)), (5, .int 0), (4, .int 0), (3, .int 0), (0, .ref 64), (1, .int u), (2, .int v)], [.int v, .int u, .int 3, .ref 64], (q_cM (q_mA pix smp tr (q_nb p left dn ins) (q_fb z)) q_IM (q_mJ y pd), 34, 31630))) 19 (fun _ _ => rfl) ?_
  refine q_Ru_call (v := (some (.int 0))) (h2 := (q_cM (q_mA pix smp tr (q_nb p left dn ins) (q_fb z)) q_IM (q_mJ y pd), 34, 31630)) rfl rfl ?_ ?_
  · refine q_Ca_of (Nat.le_of_ble_eq_true rfl) ?_
    refine q_Ru_seg (g2 := (2, [(0, .ref 64), (1, .int 3), (2, .int u), (3, .int v)], [.int 3, .ref 64], (q_cM (q_mA pix smp tr (q_nb p left dn ins) (q_fb z)) q_IM (q_mJ y pd), 34, 31630))) 2 (fun _ _ => rfl) ?_
    refine q_Ru_call (v := (some (.int 0))) (h2 := (q_cM (q_mA pix smp tr (q_nb p left dn ins) (q_fb z)) q_IM (q_mJ y pd), 34, 31630)) rfl rfl ?_ ?_
    · refine q_Ca_of (Nat.le_of_ble_eq_true rfl) ?_
      refine q_Ru_seg (g2 := (7, [(0, .ref 64), (1, .int 3)], [.int 0], (q_cM (q_mA pix smp tr (q_nb p left dn ins) (q_fb z)) q_IM (q_mJ y pd), 34, 31630))) 4 (fun _ _ => rfl) ?_
      refine q_Ru_seg (g2 := (8, [(0, .ref 64), (1, .int 3)], [.int 3, .int 0], (q_cM (q_mA pix smp tr (q_nb p left dn ins) (q_fb z)) q_IM (q_mJ y pd), 34, 31630))) 1 (fun _ _ => rfl) ?_
      refine q_Ru_call (v := (some (.int 0))) (h2 := (q_cM (q_mA pix smp tr (q_nb p left dn ins) (q_fb z)) q_IM (q_mJ y pd), 34, 31630)) rfl rfl ?_ ?_
      · refine q_Ca_of (Nat.le_of_ble_eq_true rfl) ?_
        refine q_Ru_seg (g2 := (14, [(0, .int 0), (1, .int 3)], [.int 0], (q_cM (q_mA pix smp tr (q_nb p left dn ins) (q_fb z)) q_IM (q_mJ y pd), 34, 31630))) 8 (fun _ _ => rfl) ?_
        exact q_Ru_ret rfl rfl
      show q_Ru _ _ _ (11, [(0, .ref 64), (1, .int 3)], [.int 0], (q_cM (q_mA pix smp tr (q_nb p left dn ins) (q_fb z)) q_IM (q_mJ y pd), 34, 31630)) _
      exact q_Ru_ret rfl rfl
    show q_Ru _ _ _ (5, [(0, .ref 64), (1, .int 3), (2, .int u), (3, .int v)], [.int 0], (q_cM (q_mA pix smp tr (q_nb p left dn ins) (q_fb z)) q_IM (q_mJ y pd), 34, 31630)) _
    refine q_Ru_seg (g2 := (9, [(0, .ref 64), (1, .int 3), (2, .int u), (3, .int v)], [.int 0], (q_cM (q_mA pix smp tr (q_nb p left dn ins) (q_fb z)) q_IM (q_mJ y pd), 34, 31630))) 2 (fun _ _ => rfl) ?_
    exact q_Ru_ret rfl rfl
  show q_Ru _ _ _ (64, [(7, .int 3), (6, .int (-1)), (5, .int 0), (4, .int 0), (3, .int 0), (0, .ref 64), (1, .int u), (2, .int v)], [.int 0], (q_cM (q_mA pix smp tr (q_nb p left dn ins) (q_fb z)) q_IM (q_mJ y pd), 34, 31630)) _
  refine q_Ru_seg (g2 := (61, [(7, .int 2), (6, .int (-1)), (5, .int 0), (4, .int 0), (3, .int 0), (0, .ref 64), (1, .int u), (2, .int v)], [.int v, .int u, .int 2, .ref 64], (q_cM (q_mA pix smp tr (q_nb p left dn ins) (q_fb z)) q_IM (q_mJ y pd), 34, 31630))) 10 (fun _ _ => rfl) ?_
  refine q_Ru_call (v := (some (.int 0))) (h2 := (q_cM (q_mA pix smp tr (q_nb p left dn ins) (q_fb z)) q_IM (q_mJ y pd), 34, 31630)) rfl rfl ?_ ?_
  · refine q_Ca_of (Nat.le_of_ble_eq_true rfl) ?_
    refine q_Ru_seg (g2 := (2, [(0, .ref 64), (1, .int 2), (2, .int u), (3, .int v)], [.int 2, .ref 64], (q_cM (q_mA pix smp tr (q_nb p left dn ins) (q_fb z)) q_IM (q_mJ y pd), 34, 31630))) 2 (fun _ _ => rfl) ?_
    refine q_Ru_call (v := (some (.int 0))) (h2 := (q_cM (q_mA pix smp tr (q_nb p left dn ins) (q_fb z)) q_IM (q_mJ y pd), 34, 31630)) rfl rfl ?_ ?_
    · refine q_Ca_of (Nat.le_of_ble_eq_true rfl) ?_
      refine q_Ru_seg (g2 := (7, [(0, .ref 64), (1, .int 2)], [.int 0], (q_cM (q_mA pix smp tr (q_nb p left dn ins) (q_fb z)) q_IM (q_mJ y pd), 34, 31630))) 4 (fun _ _ => rfl) ?_
      refine q_Ru_seg (g2 := (8, [(0, .ref 64), (1, .int 2)], [.int 2, .int 0], (q_cM (q_mA pix smp tr (q_nb p left dn ins) (q_fb z)) q_IM (q_mJ y pd), 34, 31630))) 1 (fun _ _ => rfl) ?_
      refine q_Ru_call (v := (some (.int 0))) (h2 := (q_cM (q_mA pix smp tr (q_nb p left dn ins) (q_fb z)) q_IM (q_mJ y pd), 34, 31630)) rfl rfl ?_ ?_
      · refine q_Ca_of (Nat.le_of_ble_eq_true rfl) ?_
        refine q_Ru_seg (g2 := (14, [(0, .int 0), (1, .int 2)], [.int 0], (q_cM (q_mA pix smp tr (q_nb p left dn ins) (q_fb z)) q_IM (q_mJ y pd), 34, 31630))) 8 (fun _ _ => rfl) ?_
        exact q_Ru_ret rfl rfl
      show q_Ru _ _ _ (11, [(0, .ref 64), (1, .int 2)], [.int 0], (q_cM (q_mA pix smp tr (q_nb p left dn ins) (q_fb z)) q_IM (q_mJ y pd), 34, 31630)) _
      exact q_Ru_ret rfl rfl
    show q_Ru _ _ _ (5, [(0, .ref 64), (1, .int 2), (2, .int u), (3, .int v)], [.int 0], (q_cM (q_mA pix smp tr (q_nb p left dn ins) (q_fb z)) q_IM (q_mJ y pd), 34, 31630)) _
    refine q_Ru_seg (g2 := (9, [(0, .ref 64), (1, .int 2), (2, .int u), (3, .int v)], [.int 0], (q_cM (q_mA pix smp tr (q_nb p left dn ins) (q_fb z)) q_IM (q_mJ y pd), 34, 31630))) 2 (fun _ _ => rfl) ?_
    exact q_Ru_ret rfl rfl
  show q_Ru _ _ _ (64, [(7, .int 2), (6, .int (-1)), (5, .int 0), (4, .int 0), (3, .int 0), (0, .ref 64), (1, .int u), (2, .int v)], [.int 0], (q_cM (q_mA pix smp tr (q_nb p left dn ins) (q_fb z)) q_IM (q_mJ y pd), 34, 31630)) _
  refine q_Ru_seg (g2 := (61, [(7, .int 1), (6, .int (-1)), (5, .int 0), (4, .int 0), (3, .int 0), (0, .ref 64), (1, .int u), (2, .int v)], [.int v, .int u, .int 1, .ref 64], (q_cM (q_mA pix smp tr (q_nb p left dn ins) (q_fb z)) q_IM (q_mJ y pd), 34, 31630))) 10 (fun _ _ => rfl) ?_
  refine q_Ru_call (v := (some (.int 0))) (h2 := (q_cM (q_mA pix smp tr (q_nb p left dn ins) (q_fb z)) q_IM (q_mJ y pd), 34, 31630)) rfl rfl ?_ ?_
  · refine q_Ca_of (Nat.le_of_ble_eq_true rfl) ?_
    refine q_Ru_seg (g2 := (2, [(0, .ref 64), (1, .int 1), (2, .int u), (3, .int v)], [.int 1, .ref 64], (q_cM (q_mA pix smp tr (q_nb p left dn ins) (q_fb z)) q_IM (q_mJ y pd), 34, 31630))) 2 (fun _ _ => rfl) ?_
    refine q_Ru_call (v := (some (.int 0))) (h2 := (q_cM (q_mA pix smp tr (q_nb p left dn ins) (q_fb z)) q_IM (q_mJ y pd), 34, 31630)) rfl rfl ?_ ?_
    · refine q_Ca_of (Nat.le_of_ble_eq_true rfl) ?_
      refine q_Ru_seg (g2 := (7, [(0, .ref 64), (1, .int 1)], [.int 0], (q_cM (q_mA pix smp tr (q_nb p left dn ins) (q_fb z)) q_IM (q_mJ y pd), 34, 31630))) 4 (fun _ _ => rfl) ?_
      refine q_Ru_seg (g2 := (8, [(0, .ref 64), (1, .int 1)], [.int 1, .int 0], (q_cM (q_mA pix smp tr (q_nb p left dn ins) (q_fb z)) q_IM (q_mJ y pd), 34, 31630))) 1 (fun _ _ => rfl) ?_
      refine q_Ru_call (v := (some (.int 0))) (h2 := (q_cM (q_mA pix smp tr (q_nb p left dn ins) (q_fb z)) q_IM (q_mJ y pd), 34, 31630)) rfl rfl ?_ ?_
      · refine q_Ca_of (Nat.le_of_ble_eq_true rfl) ?_
        refine q_Ru_seg (g2 := (14, [(0, .int 0), (1, .int 1)], [.int 0], (q_cM (q_mA pix smp tr (q_nb p left dn ins) (q_fb z)) q_IM (q_mJ y pd), 34, 31630))) 8 (fun _ _ => rfl) ?_
        exact q_Ru_ret rfl rfl
      show q_Ru _ _ _ (11, [(0, .ref 64), (1, .int 1)], [.int 0], (q_cM (q_mA pix smp tr (q_nb p left dn ins) (q_fb z)) q_IM (q_mJ y pd), 34, 31630)) _
      exact q_Ru_ret rfl rfl
    show q_Ru _ _ _ (5, [(0, .ref 64), (1, .int 1), (2, .int u), (3, .int v)], [.int 0], (q_cM (q_mA pix smp tr (q_nb p left dn ins) (q_fb z)) q_IM (q_mJ y pd), 34, 31630)) _
    refine q_Ru_seg (g2 := (9, [(0, .ref 64), (1, .int 1), (2, .int u), (3, .int v)], [.int 0], (q_cM (q_mA pix smp tr (q_nb p left dn ins) (q_fb z)) q_IM (q_mJ y pd), 34, 31630))) 2 (fun _ _ => rfl) ?_
    exact q_Ru_ret rfl rfl
  show q_Ru _ _ _ (64, [(7, .int 1), (6, .int (-1)), (5, .int 0), (4, .int 0), (3, .int 0), (0, .ref 64), (1, .int u), (2, .int v)], [.int 0], (q_cM (q_mA pix smp tr (q_nb p left dn ins) (q_fb z)) q_IM (q_mJ y pd), 34, 31630)) _
  refine q_Ru_seg (g2 := (61, [(7, .int 0), (6, .int (-1)), (5, .int 0), (4, .int 0), (3, .int 0), (0, .ref 64), (1, .int u), (2, .int v)], [.int v, .int u, .int 0, .ref 64], (q_cM (q_mA pix smp tr (q_nb p left dn ins) (q_fb z)) q_IM (q_mJ y pd), 34, 31630))) 10 (fun _ _ => rfl) ?_
  refine q_Ru_call (v := (some (.int 0))) (h2 := (q_cM (q_mA pix smp tr (q_nb p left dn ins) (q_fb z)) q_IM (q_mJ y pd), 34, 31630)) rfl rfl ?_ ?_
  · refine q_Ca_of (Nat.le_of_ble_eq_true rfl) ?_
    refine q_Ru_seg (g2 := (2, [(0, .ref 64), (1, .int 0), (2, .int u), (3, .int v)], [.int 0, .ref 64], (q_cM (q_mA pix smp tr (q_nb p left dn ins) (q_fb z)) q_IM (q_mJ y pd), 34, 31630))) 2 (fun _ _ => rfl) ?_
    refine q_Ru_call (v := (some (.int 0))) (h2 := (q_cM (q_mA pix smp tr (q_nb p left dn ins) (q_fb z)) q_IM (q_mJ y pd), 34, 31630)) rfl rfl ?_ ?_
    · refine q_Ca_of (Nat.le_of_ble_eq_true rfl) ?_
      refine q_Ru_seg (g2 := (7, [(0, .ref 64), (1, .int 0)], [.int 0], (q_cM (q_mA pix smp tr (q_nb p left dn ins) (q_fb z)) q_IM (q_mJ y pd), 34, 31630))) 4 (fun _ _ => rfl) ?_
      refine q_Ru_seg (g2 := (8, [(0, .ref 64), (1, .int 0)], [.int 0, .int 0], (q_cM (q_mA pix smp tr (q_nb p left dn ins) (q_fb z)) q_IM (q_mJ y pd), 34, 31630))) 1 (fun _ _ => rfl) ?_
      refine q_Ru_call (v := (some (.int 0))) (h2 := (q_cM (q_mA pix smp tr (q_nb p left dn ins) (q_fb z)) q_IM (q_mJ y pd), 34, 31630)) rfl rfl ?_ ?_
      · refine q_Ca_of (Nat.le_of_ble_eq_true rfl) ?_
        refine q_Ru_seg (g2 := (14, [(0, .int 0), (1, .int 0)], [.int 0], (q_cM (q_mA pix smp tr (q_nb p left dn ins) (q_fb z)) q_IM (q_mJ y pd), 34, 31630))) 8 (fun _ _ => rfl) ?_
        exact q_Ru_ret rfl rfl
      show q_Ru _ _ _ (11, [(0, .ref 64), (1, .int 0)], [.int 0], (q_cM (q_mA pix smp tr (q_nb p left dn ins) (q_fb z)) q_IM (q_mJ y pd), 34, 31630)) _
      exact q_Ru_ret rfl rfl
    show q_Ru _ _ _ (5, [(0, .ref 64), (1, .int 0), (2, .int u), (3, .int v)], [.int 0], (q_cM (q_mA pix smp tr (q_nb p left dn ins) (q_fb z)) q_IM (q_mJ y pd), 34, 31630)) _
    refine q_Ru_seg (g2 := (9, [(0, .ref 64), (1, .int 0), (2, .int u), (3, .int v)], [.int 0], (q_cM (q_mA pix smp tr (q_nb p left dn ins) (q_fb z)) q_IM (q_mJ y pd), 34, 31630))) 2 (fun _ _ => rfl) ?_
    exact q_Ru_ret rfl rfl
  show q_Ru _ _ _ (64, [(7, .int 0), (6, .int (-1)), (5, .int 0), (4, .int 0), (3, .int 0), (0, .ref 64), (1, .int u), (2, .int v)], [.int 0], (q_cM (q_mA pix smp tr (q_nb p left dn ins) (q_fb z)) q_IM (q_mJ y pd), 34, 31630)) _
  refine q_Ru_seg (g2 := (160, [(7, .int 0), (6, .int (-1)), (5, .int 0), (4, .int 0), (3, .int 0), (0, .ref 64), (1, .int u), (2, .int v)], [.int 0, .int ((32 * v) + u), .ref 69], (q_cM (q_mA pix smp tr (q_nb p left dn ins) (q_fb z)) q_IM (q_mJ y pd), 34, 31630))) 25 (fun _ _ => rfl) ?_
  have iy22 := (q_in_lin (k := 32) (v := v) (a := u) (n := 1024) (V := 31) (M := 31) hv0 hv1 hu0 hu1)
  generalize ((32 * v) + u) = y22 at iy22 ⊢
  refine q_Ru_rsT (g2 := (161, [(7, .int 0), (6, .int (-1)), (5, .int 0), (4, .int 0), (3, .int 0), (0, .ref 64), (1, .int u), (2, .int v)], [], (q_cM (q_uA (q_mA pix smp tr (q_nb p left dn ins) (q_fb z)) 5 (upd pix (y22.toNatClampNeg) 0)) q_IM (q_mJ y pd), 34, 31630))) rfl q_astM_5 iy22 ?_
  generalize (upd pix (y22.toNatClampNeg) 0) = w23
  show q_Ru _ _ _ (161, [(7, .int 0), (6, .int (-1)), (5, .int 0), (4, .int 0), (3, .int 0), (0, .ref 64), (1, .int u), (2, .int v)], [], (q_cM (q_mA w23 smp tr (q_nb p left dn ins) (q_fb z)) q_IM (q_mJ y pd), 34, 31630)) _
  refine q_Ru_seg (g2 := (200, [(7, .int 0), (6, .int (-1)), (5, .int 0), (4, .int 0), (3, .int 0), (0, .ref 64), (1, .int u), (2, .int v)], [], (q_cM (q_mA w23 smp tr (q_nb p left dn ins) (q_fb z)) q_IM (q_mJ y pd), 34, 31630))) 8 (fun _ _ => rfl) ?_
  exact q_Ru_ret rfl rfl
set_option maxHeartbeats 4000000 in
theorem q_m_times (pix smp tr : Nat → Int32) (p left dn ins z : Int32) (y pd : Int64) (col lin p1 p2 : Int32) (hC : (y - y / 24 * 24).toInt32 = col) (hM : (y / 24 - y / 24 / 40 * 40).toInt32 = lin) (c0 : 0 ≤ col.toInt) (c1 : col.toInt ≤ 23) (l0 : 0 ≤ lin.toInt) (l1 : lin.toInt ≤ 39) (a0 : 0 ≤ p.toInt) (a1 : p.toInt ≤ 3839) (b0 : 0 ≤ p1.toInt) (b1 : p1.toInt ≤ 3839) (hp0 : p &&& 4095 = p) (hp1 : (p + 1) &&& 4095 = p1) (hp2 : (p + 2) &&& 4095 = p2) (i0 : 0 ≤ ins.toInt) (i1 : ins.toInt ≤ 1000) : q_Ca q_TB0 5 230 [.ref 64] (q_cM (q_mA pix smp tr (q_nb p left dn ins) (q_fb z)) q_IM (q_mJ y pd), 34, 31630) (.inl none, (q_cM (q_mA pix smp tr (q_nb p left dn ins) (q_fb z)) q_IM (q_mJ y pd), 34, 31630)) := by
  refine q_Ca_of (Nat.le_of_ble_eq_true rfl) ?_
  refine q_Ru_seg (g2 := (8, [(0, .ref 64)], [.int 0, .ref 64], (q_cM (q_mA pix smp tr (q_nb p left dn ins) (q_fb z)) q_IM (q_mJ y pd), 34, 31630))) 5 (fun _ _ => rfl) ?_
  refine q_Ru_seg (g2 := (9, [(0, .ref 64)], [.int 0, .int 0, .ref 64], (q_cM (q_mA pix smp tr (q_nb p left dn ins) (q_fb z)) q_IM (q_mJ y pd), 34, 31630))) 1 (fun _ _ => rfl) ?_
  refine q_Ru_call (v := (some (.int 0))) (h2 := (q_cM (q_mA pix smp tr (q_nb p left dn ins) (q_fb z)) q_IM (q_mJ y pd), 34, 31630)) rfl rfl ?_ ?_
  · refine q_Ca_of (Nat.le_of_ble_eq_true rfl) ?_
    refine q_Ru_seg (g2 := (14, [(0, .int 0), (1, .int 0)], [.int 0], (q_cM (q_mA pix smp tr (q_nb p left dn ins) (q_fb z)) q_IM (q_mJ y pd), 34, 31630))) 8 (fun _ _ => rfl) ?_
    exact q_Ru_ret rfl rfl
  show q_Ru _ _ _ (12, [(0, .ref 64)], [.int 0, .ref 64], (q_cM (q_mA pix smp tr (q_nb p left dn ins) (q_fb z)) q_IM (q_mJ y pd), 34, 31630)) _
  refine q_Ru_seg (g2 := (38, [(0, .ref 64)], [.int 0], (q_cM (q_mA pix smp tr (q_nb p left dn ins) (q_fb z)) (q_uI q_IM 0 38 0) (q_mJ y pd), 34, 31630))) 7 (fun _ _ => rfl) ?_
  refine q_Ru_seg (g2 := (39, [(0, .ref 64)], [.int 1, .int 0], (q_cM (q_mA pix smp tr (q_nb p left dn ins) (q_fb z)) (q_uI q_IM 0 38 0) (q_mJ y pd), 34, 31630))) 1 (fun _ _ => rfl) ?_
  refine q_Ru_call (v := (some (.int 0))) (h2 := (q_cM (q_mA pix smp tr (q_nb p left dn ins) (q_fb z)) (q_uI q_IM 0 38 0) (q_mJ y pd), 34, 31630)) rfl rfl ?_ ?_
  · refine q_Ca_of (Nat.le_of_ble_eq_true rfl) ?_
    refine q_Ru_seg (g2 := (14, [(0, .int 0), (1, .int 1)], [.int 0], (q_cM (q_mA pix smp tr (q_nb p left dn ins) (q_fb z)) (q_uI q_IM 0 38 0) (q_mJ y pd), 34, 31630))) 8 (fun _ _ => rfl) ?_
    exact q_Ru_ret rfl rfl
  show q_Ru _ _ _ (42, [(0, .ref 64)], [.int 0], (q_cM (q_mA pix smp tr (q_nb p left dn ins) (q_fb z)) (q_uI q_IM 0 38 0) (q_mJ y pd), 34, 31630)) _
  refine q_Ru_seg (g2 := (72, [(0, .ref 64)], [], (q_cM (q_mA pix smp tr (q_nb p left dn ins) (q_fb z)) (q_uI q_IM 0 38 0) (q_mJ y pd), 34, 31630))) 1 (fun _ _ => rfl) ?_
  exact q_Ru_ret rfl rfl
set_option maxHeartbeats 4000000 in
theorem q_m_winds (pix smp tr : Nat → Int32) (p left dn ins z : Int32) (y pd : Int64) (col lin p1 p2 : Int32) (hC : (y - y / 24 * 24).toInt32 = col) (hM : (y / 24 - y / 24 / 40 * 40).toInt32 = lin) (c0 : 0 ≤ col.toInt) (c1 : col.toInt ≤ 23) (l0 : 0 ≤ lin.toInt) (l1 : lin.toInt ≤ 39) (a0 : 0 ≤ p.toInt) (a1 : p.toInt ≤ 3839) (b0 : 0 ≤ p1.toInt) (b1 : p1.toInt ≤ 3839) (hp0 : p &&& 4095 = p) (hp1 : (p + 1) &&& 4095 = p1) (hp2 : (p + 2) &&& 4095 = p2) (i0 : 0 ≤ ins.toInt) (i1 : ins.toInt ≤ 1000) : q_Ca q_TB0 5 231 [.ref 64] (q_cM (q_mA pix smp tr (q_nb p left dn ins) (q_fb z)) q_IM (q_mJ y pd), 34, 31630) (.inl none, (q_cM (q_mA pix smp tr (q_nb p left dn ins) (q_fb z)) q_IM (q_mJ y pd), 34, 31630)) := by
  refine q_Ca_of (Nat.le_of_ble_eq_true rfl) ?_
  refine q_Ru_seg (g2 := (7, [(0, .ref 64)], [.int 0], (q_cM (q_mA pix smp tr (q_nb p left dn ins) (q_fb z)) q_IM (q_mJ y pd), 34, 31630))) 4 (fun _ _ => rfl) ?_
  refine q_Ru_seg (g2 := (17, [(0, .ref 64)], [], (q_cM (q_mA pix smp tr (q_nb p left dn ins) (q_fb z)) q_IM (q_mJ y pd), 34, 31630))) 1 (fun _ _ => rfl) ?_
  exact q_Ru_ret rfl rfl
set_option maxHeartbeats 4000000 in
theorem q_m_sample (pix smp tr : Nat → Int32) (p left dn ins z : Int32) (y pd : Int64) (col lin p1 p2 : Int32) (hC : (y - y / 24 * 24).toInt32 = col) (hM : (y / 24 - y / 24 / 40 * 40).toInt32 = lin) (c0 : 0 ≤ col.toInt) (c1 : col.toInt ≤ 23) (l0 : 0 ≤ lin.toInt) (l1 : lin.toInt ≤ 39) (a0 : 0 ≤ p.toInt) (a1 : p.toInt ≤ 3839) (b0 : 0 ≤ p1.toInt) (b1 : p1.toInt ≤ 3839) (hp0 : p &&& 4095 = p) (hp1 : (p + 1) &&& 4095 = p1) (hp2 : (p + 2) &&& 4095 = p2) (i0 : 0 ≤ ins.toInt) (i1 : ins.toInt ≤ 1000) : ∃ smp2, q_Ca q_TB0 5 234 [.ref 64] (q_cM (q_mA pix smp tr (q_nb p left dn ins) (q_fb z)) q_IM (q_mJ y pd), 34, 31630) (.inl none, (q_cM (q_mA pix smp2 tr (q_nb p left dn ins) (q_fb z)) q_IM (q_mJ y pd), 34, 31630)) := by
  refine ⟨(upd smp (lin.toNatClampNeg) 0), ?_⟩
  have hA : ∀ i, i < 34 → (q_uA (q_uA (q_uA (q_uA (q_mA pix smp tr (q_nb p left dn ins) (q_fb z)) 10 (upd (upd (upd (fun _ => 0) 0 0) 1 0) 2 0)) 12 (upd (upd (upd (upd (upd (upd (fun _ => 0) 0 1) 0 0) 1 1) 1 0) 2 1) 2 0)) 11 (upd (upd (upd (fun _ => 0) 0 0) 1 0) 2 0)) 6 (upd smp (lin.toNatClampNeg) 0)) i = (q_mA pix (upd smp (lin.toNatClampNeg) 0) tr (q_nb p left dn ins) (q_fb z)) i := by
    intro i hi
    match i, hi with
    | 0, _ => rfl
    | 1, _ => rfl
    | 2, _ => rfl
    | 3, _ => rfl
    | 4, _ => rfl
    | 5, _ => rfl
    | 6, _ => rfl
    | 7, _ => rfl
    | 8, _ => rfl
    | 9, _ => rfl
    | 10, _ => exact (show (upd (upd (upd (fun _ => 0) 0 0) 1 0) 2 0) = (fun _ => 0) by simp only [q_upd_upd, q_upd_z, q_nb_4, q_nb_17, q_nb_19, q_nb_20, q_nb_0, q_nb_9, q_nb_18, q_fb_4, q_fb_0])
    | 11, _ => exact (show (upd (upd (upd (fun _ => 0) 0 0) 1 0) 2 0) = (fun _ => 0) by simp only [q_upd_upd, q_upd_z, q_nb_4, q_nb_17, q_nb_19, q_nb_20, q_nb_0, q_nb_9, q_nb_18, q_fb_4, q_fb_0])
    | 12, _ => exact (show (upd (upd (upd (upd (upd (upd (fun _ => 0) 0 1) 0 0) 1 1) 1 0) 2 1) 2 0) = (fun _ => 0) by simp only [q_upd_upd, q_upd_z, q_nb_4, q_nb_17, q_nb_19, q_nb_20, q_nb_0, q_nb_9, q_nb_18, q_fb_4, q_fb_0])
    | 13, _ => rfl
    | 14, _ => rfl
    | 15, _ => rfl
    | 16, _ => rfl
    | 17, _ => rfl
    | 18, _ => rfl
    | 19, _ => rfl
    | 20, _ => rfl
    | 21, _ => rfl
    | 22, _ => rfl
    | 23, _ => rfl
    | 24, _ => rfl
    | 25, _ => rfl
    | 26, _ => rfl
    | 27, _ => rfl
    | 28, _ => rfl
    | 29, _ => rfl
    | 30, _ => rfl
    | 31, _ => rfl
    | 32, _ => rfl
    | 33, _ => rfl
    | i + 34, hi => exact absurd hi (by omega)
  refine q_Ca_hX (q_cM_A (I := q_IM) (J := (q_mJ y pd)) hA) ?_
  refine q_Ca_of (Nat.le_of_ble_eq_true rfl) ?_
  refine q_Ru_seg (g2 := (9, [(1, .int 0), (0, .ref 64)], [.int 0, .ref 64], (q_cM (q_mA pix smp tr (q_nb p left dn ins) (q_fb z)) q_IM (q_mJ y pd), 34, 31630))) 7 (fun _ _ => rfl) ?_
  refine q_Ru_call (v := none) (h2 := (q_cM (q_uA (q_uA (q_uA (q_mA pix smp tr (q_nb p left dn ins) (q_fb z)) 10 (upd (fun _ => 0) 0 0)) 12 (upd (upd (fun _ => 0) 0 1) 0 0)) 11 (upd (fun _ => 0) 0 0)) q_IM (q_mJ y pd), 34, 31630)) rfl rfl ?_ ?_
  · refine q_Ca_of (Nat.le_of_ble_eq_true rfl) ?_
    refine q_Ru_seg (g2 := (13, [(2, .int 32), (0, .ref 64), (1, .int 0)], [.int 0], (q_cM (q_mA pix smp tr (q_nb p left dn ins) (q_fb z)) q_IM (q_mJ y pd), 34, 31630))) 10 (fun _ _ => rfl) ?_
    refine q_Ru_seg (g2 := (19, [(2, .int 32), (0, .ref 64), (1, .int 0)], [.int 0, .int 0], (q_cM (q_mA pix smp tr (q_nb p left dn ins) (q_fb z)) q_IM (q_mJ y pd), 34, 31630))) 4 (fun _ _ => rfl) ?_
    refine q_Ru_seg (g2 := (31, [(2, .int 32), (0, .ref 64), (1, .int 0)], [.int 0, .int 256, .int 0], (q_cM (q_mA pix smp tr (q_nb p left dn ins) (q_fb z)) q_IM (q_mJ y pd), 34, 31630))) 8 (fun _ _ => rfl) ?_
    refine q_Ru_seg (g2 := (101, [(3, .int 0), (2, .int 32), (0, .ref 64), (1, .int 0)], [.int 0], (q_cM (q_uA (q_mA pix smp tr (q_nb p left dn ins) (q_fb z)) 10 (upd (fun _ => 0) 0 0)) q_IM (q_mJ y pd), 34, 31630))) 19 (fun _ _ => rfl) ?_
    refine q_Ru_seg (g2 := (102, [(3, .int 0), (2, .int 32), (0, .ref 64), (1, .int 0)], [.int 0, .int 0], (q_cM (q_uA (q_mA pix smp tr (q_nb p left dn ins) (q_fb z)) 10 (upd (fun _ => 0) 0 0)) q_IM (q_mJ y pd), 34, 31630))) 1 (fun _ _ => rfl) ?_
    refine q_Ru_call (v := (some (.int 0))) (h2 := (q_cM (q_uA (q_mA pix smp tr (q_nb p left dn ins) (q_fb z)) 10 (upd (fun _ => 0) 0 0)) q_IM (q_mJ y pd), 34, 31630)) rfl rfl ?_ ?_
    · refine q_Ca_of (Nat.le_of_ble_eq_true rfl) ?_
      refine q_Ru_seg (g2 := (14, [(0, .int 0), (1, .int 0)], [.int 0], (q_cM (q_uA (q_mA pix smp tr (q_nb p left dn ins) (q_fb z)) 10 (upd (fun _ => 0) 0 0)) q_IM (q_mJ y pd), 34, 31630))) 8 (fun _ _ => rfl) ?_
      exact q_Ru_ret rfl rfl
    show q_Ru _ _ _ (105, [(3, .int 0), (2, .int 32), (0, .ref 64), (1, .int 0)], [.int 0], (q_cM (q_uA (q_mA pix smp tr (q_nb p left dn ins) (q_fb z)) 10 (upd (fun _ => 0) 0 0)) q_IM (q_mJ y pd), 34, 31630)) _
    refine q_Ru_seg (g2 := (114, [(4, .int 0), (3, .int 0), (2, .int 32), (0, .ref 64), (1, .int 0)], [.int 0, .int 0, .ref 76], (q_cM (q_uA (q_mA pix smp tr (q_nb p left dn ins) (q_fb z)) 10 (upd (fun _ => 0) 0 0)) q_IM (q_mJ y pd), 34, 31630))) 6 (fun _ _ => rfl) ?_
    refine q_Ru_seg (g2 := (123, [(4, .int 0), (3, .int 0), (2, .int 32), (0, .ref 64), (1, .int 0)], [.int 1], (q_cM (q_uA (q_uA (q_mA pix smp tr (q_nb p left dn ins) (q_fb z)) 10 (upd (fun _ => 0) 0 0)) 12 (upd (fun _ => 0) 0 1)) q_IM (q_mJ y pd), 34, 31630))) 7 (fun _ _ => rfl) ?_
    refine q_Ru_seg (g2 := (150, [(4, .int 0), (3, .int 0), (2, .int 32), (0, .ref 64), (1, .int 0)], [.int 0, .int 1], (q_cM (q_uA (q_uA (q_mA pix smp tr (q_nb p left dn ins) (q_fb z)) 10 (upd (fun _ => 0) 0 0)) 12 (upd (fun _ => 0) 0 1)) q_IM (q_mJ y pd), 34, 31630))) 8 (fun _ _ => rfl) ?_
    refine q_Ru_seg (g2 := (197, [(4, .int 0), (3, .int 0), (2, .int 32), (0, .ref 64), (1, .int 0)], [.int 0, .int 0, .int 0, .ref 75], (q_cM (q_uA (q_uA (q_mA pix smp tr (q_nb p left dn ins) (q_fb z)) 10 (upd (fun _ => 0) 0 0)) 12 (upd (upd (fun _ => 0) 0 1) 0 0)) q_IM (q_mJ y pd), 34, 31630))) 18 (fun _ _ => rfl) ?_
    refine q_Ru_seg (g2 := (203, [(4, .int 0), (3, .int 0), (2, .int 32), (0, .ref 64), (1, .int 0)], [], (q_cM (q_uA (q_uA (q_uA (q_mA pix smp tr (q_nb p left dn ins) (q_fb z)) 10 (upd (fun _ => 0) 0 0)) 12 (upd (upd (fun _ => 0) 0 1) 0 0)) 11 (upd (fun _ => 0) 0 0)) q_IM (q_mJ y pd), 34, 31630))) 4 (fun _ _ => rfl) ?_
    exact q_Ru_ret rfl rfl
  show q_Ru _ _ _ (12, [(1, .int 0), (0, .ref 64)], [], (q_cM (q_uA (q_uA (q_uA (q_mA pix smp tr (q_nb p left dn ins) (q_fb z)) 10 (upd (fun _ => 0) 0 0)) 12 (upd (upd (fun _ => 0) 0 1) 0 0)) 11 (upd (fun _ => 0) 0 0)) q_IM (q_mJ y pd), 34, 31630)) _
  refine q_Ru_seg (g2 := (9, [(1, .int 1), (0, .ref 64)], [.int 1, .ref 64], (q_cM (q_uA (q_uA (q_uA (q_mA pix smp tr (q_nb p left dn ins) (q_fb z)) 10 (upd (fun _ => 0) 0 0)) 12 (upd (upd (fun _ => 0) 0 1) 0 0)) 11 (upd (fun _ => 0) 0 0)) q_IM (q_mJ y pd), 34, 31630))) 7 (fun _ _ => rfl) ?_
  refine q_Ru_call (v := none) (h2 := (q_cM (q_uA (q_uA (q_uA (q_mA pix smp tr (q_nb p left dn ins) (q_fb z)) 10 (upd (upd (fun _ => 0) 0 0) 1 0)) 12 (upd (upd (upd (upd (fun _ => 0) 0 1) 0 0) 1 1) 1 0)) 11 (upd (upd (fun _ => 0) 0 0) 1 0)) q_IM (q_mJ y pd), 34, 31630)) rfl rfl ?_ ?_
  · refine q_Ca_of (Nat.le_of_ble_eq_true rfl) ?_
    refine q_Ru_seg (g2 := (13, [(2, .int 36), (0, .ref 64), (1, .int 1)], [.int 0], (q_cM (q_uA (q_uA (q_uA (q_mA pix smp tr (q_nb p left dn ins) (q_fb z)) 10 (upd (fun _ => 0) 0 0)) 12 (upd (upd (fun _ => 0) 0 1) 0 0)) 11 (upd (fun _ => 0) 0 0)) q_IM (q_mJ y pd), 34, 31630))) 10 (fun _ _ => rfl) ?_
    refine q_Ru_seg (g2 := (19, [(2, .int 36), (0, .ref 64), (1, .int 1)], [.int 0, .int 0], (q_cM (q_uA (q_uA (q_uA (q_mA pix smp tr (q_nb p left dn ins) (q_fb z)) 10 (upd (fun _ => 0) 0 0)) 12 (upd (upd (fun _ => 0) 0 1) 0 0)) 11 (upd (fun _ => 0) 0 0)) q_IM (q_mJ y pd), 34, 31630))) 4 (fun _ _ => rfl) ?_
    refine q_Ru_seg (g2 := (31, [(2, .int 36), (0, .ref 64), (1, .int 1)], [.int 0, .int 256, .int 0], (q_cM (q_uA (q_uA (q_uA (q_mA pix smp tr (q_nb p left dn ins) (q_fb z)) 10 (upd (fun _ => 0) 0 0)) 12 (upd (upd (fun _ => 0) 0 1) 0 0)) 11 (upd (fun _ => 0) 0 0)) q_IM (q_mJ y pd), 34, 31630))) 8 (fun _ _ => rfl) ?_
    refine q_Ru_seg (g2 := (101, [(3, .int 0), (2, .int 36), (0, .ref 64), (1, .int 1)], [.int 0], (q_cM (q_uA (q_uA (q_uA (q_mA pix smp tr (q_nb p left dn ins) (q_fb z)) 10 (upd (upd (fun _ => 0) 0 0) 1 0)) 12 (upd (upd (fun _ => 0) 0 1) 0 0)) 11 (upd (fun _ => 0) 0 0)) q_IM (q_mJ y pd), 34, 31630))) 19 (fun _ _ => rfl) ?_
    refine q_Ru_seg (g2 := (102, [(3, .int 0), (2, .int 36), (0, .ref 64), (1, .int 1)], [.int 0, .int 0], (q_cM (q_uA (q_uA (q_uA (q_mA pix smp tr (q_nb p left dn ins) (q_fb z)) 10 (upd (upd (fun _ => 0) 0 0) 1 0)) 12 (upd (upd (fun _ => 0) 0 1) 0 0)) 11 (upd (fun _ => 0) 0 0)) q_IM (q_mJ y pd), 34, 31630))) 1 (fun _ _ => rfl) ?_
    refine q_Ru_call (v := (some (.int 0))) (h2 := (q_cM (q_uA (q_uA (q_uA (q_mA pix smp tr (q_nb p left dn ins) (q_fb z)) 10 (upd (upd (fun _ => 0) 0 0) 1 0)) 12 (upd (upd (fun _ => 0) 0 1) 0 0)) 11 (upd (fun _ => 0) 0 0)) q_IM (q_mJ y pd), 34, 31630)) rfl rfl ?_ ?_
    · refine q_Ca_of (Nat.le_of_ble_eq_true rfl) ?_
      refine q_Ru_seg (g2 := (14, [(0, .int 0), (1, .int 0)], [.int 0], (q_cM (q_uA (q_uA (q_uA (q_mA pix smp tr (q_nb p left dn ins) (q_fb z)) 10 (upd (upd (fun _ => 0) 0 0) 1 0)) 12 (upd (upd (fun _ => 0) 0 1) 0 0)) 11 (upd (fun _ => 0) 0 0)) q_IM (q_mJ y pd), 34, 31630))) 8 (fun _ _ => rfl) ?_
      exact q_Ru_ret rfl rfl
    show q_Ru _ _ _ (105, [(3, .int 0), (2, .int 36), (0, .ref 64), (1, .int 1)], [.int 0], (q_cM (q_uA (q_uA (q_uA (q_mA pix smp tr (q_nb p left dn ins) (q_fb z)) 10 (upd (upd (fun _ => 0) 0 0) 1 0)) 12 (upd (upd (fun _ => 0) 0 1) 0 0)) 11 (upd (fun _ => 0) 0 0)) q_IM (q_mJ y pd), 34, 31630)) _
    refine q_Ru_seg (g2 := (114, [(4, .int 0), (3, .int 0), (2, .int 36), (0, .ref 64), (1, .int 1)], [.int 0, .int 1, .ref 76], (q_cM (q_uA (q_uA (q_uA (q_mA pix smp tr (q_nb p left dn ins) (q_fb z)) 10 (upd (upd (fun _ => 0) 0 0) 1 0)) 12 (upd (upd (fun _ => 0) 0 1) 0 0)) 11 (upd (fun _ => 0) 0 0)) q_IM (q_mJ y pd), 34, 31630))) 6 (fun _ _ => rfl) ?_
    refine q_Ru_seg (g2 := (123, [(4, .int 0), (3, .int 0), (2, .int 36), (0, .ref 64), (1, .int 1)], [.int 1], (q_cM (q_uA (q_uA (q_uA (q_mA pix smp tr (q_nb p left dn ins) (q_fb z)) 10 (upd (upd (fun _ => 0) 0 0) 1 0)) 12 (upd (upd (upd (fun _ => 0) 0 1) 0 0) 1 1)) 11 (upd (fun _ => 0) 0 0)) q_IM (q_mJ y pd), 34, 31630))) 7 (fun _ _ => rfl) ?_
    refine q_Ru_seg (g2 := (150, [(4, .int 0), (3, .int 0), (2, .int 36), (0, .ref 64), (1, .int 1)], [.int 0, .int 1], (q_cM (q_uA (q_uA (q_uA (q_mA pix smp tr (q_nb p left dn ins) (q_fb z)) 10 (upd (upd (fun _ => 0) 0 0) 1 0)) 12 (upd (upd (upd (fun _ => 0) 0 1) 0 0) 1 1)) 11 (upd (fun _ => 0) 0 0)) q_IM (q_mJ y pd), 34, 31630))) 8 (fun _ _ => rfl) ?_
    refine q_Ru_seg (g2 := (197, [(4, .int 0), (3, .int 0), (2, .int 36), (0, .ref 64), (1, .int 1)], [.int 0, .int 0, .int 1, .ref 75], (q_cM (q_uA (q_uA (q_uA (q_mA pix smp tr (q_nb p left dn ins) (q_fb z)) 10 (upd (upd (fun _ => 0) 0 0) 1 0)) 12 (upd (upd (upd (upd (fun _ => 0) 0 1) 0 0) 1 1) 1 0)) 11 (upd (fun _ => 0) 0 0)) q_IM (q_mJ y pd), 34, 31630))) 18 (fun _ _ => rfl) ?_
    refine q_Ru_seg (g2 := (203, [(4, .int 0), (3, .int 0), (2, .int 36), (0, .ref 64), (1, .int 1)], [], (q_cM (q_uA (q_uA (q_uA (q_mA pix smp tr (q_nb p left dn ins) (q_fb z)) 10 (upd (upd (fun _ => 0) 0 0) 1 0)) 12 (upd (upd (upd (upd (fun _ => 0) 0 1) 0 0) 1 1) 1 0)) 11 (upd (upd (fun _ => 0) 0 0) 1 0)) q_IM (q_mJ y pd), 34, 31630))) 4 (fun _ _ => rfl) ?_
    exact q_Ru_ret rfl rfl
  show q_Ru _ _ _ (12, [(1, .int 1), (0, .ref 64)], [], (q_cM (q_uA (q_uA (q_uA (q_mA pix smp tr (q_nb p left dn ins) (q_fb z)) 10 (upd (upd (fun _ => 0) 0 0) 1 0)) 12 (upd (upd (upd (upd (fun _ => 0) 0 1) 0 0) 1 1) 1 0)) 11 (upd (upd (fun _ => 0) 0 0) 1 0)) q_IM (q_mJ y pd), 34, 31630)) _
  refine q_Ru_seg (g2 := (9, [(1, .int 2), (0, .ref 64)], [.int 2, .ref 64], (q_cM (q_uA (q_uA (q_uA (q_mA pix smp tr (q_nb p left dn ins) (q_fb z)) 10 (upd (upd (fun _ => 0) 0 0) 1 0)) 12 (upd (upd (upd (upd (fun _ => 0) 0 1) 0 0) 1 1) 1 0)) 11 (upd (upd (fun _ => 0) 0 0) 1 0)) q_IM (q_mJ y pd), 34, 31630))) 7 (fun _ _ => rfl) ?_
  refine q_Ru_call (v := none) (h2 := (q_cM (q_uA (q_uA (q_uA (q_mA pix smp tr (q_nb p left dn ins) (q_fb z)) 10 (upd (upd (upd (fun _ => 0) 0 0) 1 0) 2 0)) 12 (upd (upd (upd (upd (upd (upd (fun _ => 0) 0 1) 0 0) 1 1) 1 0) 2 1) 2 0)) 11 (upd (upd (upd (fun _ => 0) 0 0) 1 0) 2 0)) q_IM (q_mJ y pd), 34, 31630)) rfl rfl ?_ ?_
  · refine q_Ca_of (Nat.le_of_ble_eq_true rfl) ?_
    refine q_Ru_seg (g2 := (13, [(2, .int 40), (0, .ref 64), (1, .int 2)], [.int 0], (q_cM (q_uA (q_uA (q_uA (q_mA pix smp tr (q_nb p left dn ins) (q_fb z)) 10 (upd (upd (fun _ => 0) 0 0) 1 0)) 12 (upd (upd (upd (upd (fun _ => 0) 0 1) 0 0) 1 1) 1 0)) 11 (upd (upd (fun _ => 0) 0 0) 1 0)) q_IM (q_mJ y pd), 34, 31630))) 10 (fun _ _ => rfl) ?_
    refine q_Ru_seg (g2 := (19, [(2, .int 40), (0, .ref 64), (1, .int 2)], [.int 0, .int 0], (q_cM (q_uA (q_uA (q_uA (q_mA pix smp tr (q_nb p left dn ins) (q_fb z)) 10 (upd (upd (fun _ => 0) 0 0) 1 0)) 12 (upd (upd (upd (upd (fun _ => 0) 0 1) 0 0) 1 1) 1 0)) 11 (upd (upd (fun _ => 0) 0 0) 1 0)) q_IM (q_mJ y pd), 34, 31630))) 4 (fun _ _ => rfl) ?_
    refine q_Ru_seg (g2 := (31, [(2, .int 40), (0, .ref 64), (1, .int 2)], [.int 0, .int 256, .int 0], (q_cM (q_uA (q_uA (q_uA (q_mA pix smp tr (q_nb p left dn ins) (q_fb z)) 10 (upd (upd (fun _ => 0) 0 0) 1 0)) 12 (upd (upd (upd (upd (fun _ => 0) 0 1) 0 0) 1 1) 1 0)) 11 (upd (upd (fun _ => 0) 0 0) 1 0)) q_IM (q_mJ y pd), 34, 31630))) 8 (fun _ _ => rfl) ?_
    refine q_Ru_seg (g2 := (101, [(3, .int 0), (2, .int 40), (0, .ref 64), (1, .int 2)], [.int 0], (q_cM (q_uA (q_uA (q_uA (q_mA pix smp tr (q_nb p left dn ins) (q_fb z)) 10 (upd (upd (upd (fun _ => 0) 0 0) 1 0) 2 0)) 12 (upd (upd (upd (upd (fun _ => 0) 0 1) 0 0) 1 1) 1 0)) 11 (upd (upd (fun _ => 0) 0 0) 1 0)) q_IM (q_mJ y pd), 34, 31630))) 19 (fun _ _ => rfl) ?_
    refine q_Ru_seg (g2 := (102, [(3, .int 0), (2, .int 40), (0, .ref 64), (1, .int 2)], [.int 0, .int 0], (q_cM (q_uA (q_uA (q_uA (q_mA pix smp tr (q_nb p left dn ins) (q_fb z)) 10 (upd (upd (upd (fun _ => 0) 0 0) 1 0) 2 0)) 12 (upd (upd (upd (upd (fun _ => 0) 0 1) 0 0) 1 1) 1 0)) 11 (upd (upd (fun _ => 0) 0 0) 1 0)) q_IM (q_mJ y pd), 34, 31630))) 1 (fun _ _ => rfl) ?_
    refine q_Ru_call (v := (some (.int 0))) (h2 := (q_cM (q_uA (q_uA (q_uA (q_mA pix smp tr (q_nb p left dn ins) (q_fb z)) 10 (upd (upd (upd (fun _ => 0) 0 0) 1 0) 2 0)) 12 (upd (upd (upd (upd (fun _ => 0) 0 1) 0 0) 1 1) 1 0)) 11 (upd (upd (fun _ => 0) 0 0) 1 0)) q_IM (q_mJ y pd), 34, 31630)) rfl rfl ?_ ?_
    · refine q_Ca_of (Nat.le_of_ble_eq_true rfl) ?_
      refine q_Ru_seg (g2 := (14, [(0, .int 0), (1, .int 0)], [.int 0], (q_cM (q_uA (q_uA (q_uA (q_mA pix smp tr (q_nb p left dn ins) (q_fb z)) 10 (upd (upd (upd (fun _ => 0) 0 0) 1 0) 2 0)) 12 (upd (upd (upd (upd (fun _ => 0) 0 1) 0 0) 1 1) 1 0)) 11 (upd (upd (fun _ => 0) 0 0) 1 0)) q_IM (q_mJ y pd), 34, 31630))) 8 (fun _ _ => rfl) ?_
      exact q_Ru_ret rfl rfl
    show q_Ru _ _ _ (105, [(3, .int 0), (2, .int 40), (0, .ref 64), (1, .int 2)], [.int 0], (q_cM (q_uA (q_uA (q_uA (q_mA pix smp tr (q_nb p left dn ins) (q_fb z)) 10 (upd (upd (upd (fun _ => 0) 0 0) 1 0) 2 0)) 12 (upd (upd (upd (upd (fun _ => 0) 0 1) 0 0) 1 1) 1 0)) 11 (upd (upd (fun _ => 0) 0 0) 1 0)) q_IM (q_mJ y pd), 34, 31630)) _
    refine q_Ru_seg (g2 := (114, [(4, .int 0), (3, .int 0), (2, .int 40), (0, .ref 64), (1, .int 2)], [.int 0, .int 2, .ref 76], (q_cM (q_uA (q_uA (q_uA (q_mA pix smp tr (q_nb p left dn ins) (q_fb z)) 10 (upd (upd (upd (fun _ => 0) 0 0) 1 0) 2 0)) 12 (upd (upd (upd (upd (fun _ => 0) 0 1) 0 0) 1 1) 1 0)) 11 (upd (upd (fun _ => 0) 0 0) 1 0)) q_IM (q_mJ y pd), 34, 31630))) 6 (fun _ _ => rfl) ?_
    refine q_Ru_seg (g2 := (123, [(4, .int 0), (3, .int 0), (2, .int 40), (0, .ref 64), (1, .int 2)], [.int 1], (q_cM (q_uA (q_uA (q_uA (q_mA pix smp tr (q_nb p left dn ins) (q_fb z)) 10 (upd (upd (upd (fun _ => 0) 0 0) 1 0) 2 0)) 12 (upd (upd (upd (upd (upd (fun _ => 0) 0 1) 0 0) 1 1) 1 0) 2 1)) 11 (upd (upd (fun _ => 0) 0 0) 1 0)) q_IM (q_mJ y pd), 34, 31630))) 7 (fun _ _ => rfl) ?_
    refine q_Ru_seg (g2 := (150, [(4, .int 0), (3, .int 0), (2, .int 40), (0, .ref 64), (1, .int 2)], [.int 0, .int 1], (q_cM (q_uA (q_uA (q_uA (q_mA pix smp tr (q_nb p left dn ins) (q_fb z)) 10 (upd (upd (upd (fun _ => 0) 0 0) 1 0) 2 0)) 12 (upd (upd (upd (upd (upd (fun _ => 0) 0 1) 0 0) 1 1) 1 0) 2 1)) 11 (upd (upd (fun _ => 0) 0 0) 1 0)) q_IM (q_mJ y pd), 34, 31630))) 8 (fun _ _ => rfl) ?_
    refine q_Ru_seg (g2 := (197, [(4, .int 0), (3, .int 0), (2, .int 40), (0, .ref 64), (1, .int 2)], [.int 0, .int 0, .int 2, .ref 75], (q_cM (q_uA (q_uA (q_uA (q_mA pix smp tr (q_nb p left dn ins) (q_fb z)) 10 (upd (upd (upd (fun _ => 0) 0 0) 1 0) 2 0)) 12 (upd (upd (upd (upd (upd (upd (fun _ => 0) 0 1) 0 0) 1 1) 1 0) 2 1) 2 0)) 11 (upd (upd (fun _ => 0) 0 0) 1 0)) q_IM (q_mJ y pd), 34, 31630))) 18 (fun _ _ => rfl) ?_
    refine q_Ru_seg (g2 := (203, [(4, .int 0), (3, .int 0), (2, .int 40), (0, .ref 64), (1, .int 2)], [], (q_cM (q_uA (q_uA (q_uA (q_mA pix smp tr (q_nb p left dn ins) (q_fb z)) 10 (upd (upd (upd (fun _ => 0) 0 0) 1 0) 2 0)) 12 (upd (upd (upd (upd (upd (upd (fun _ => 0) 0 1) 0 0) 1 1) 1 0) 2 1) 2 0)) 11 (upd (upd (upd (fun _ => 0) 0 0) 1 0) 2 0)) q_IM (q_mJ y pd), 34, 31630))) 4 (fun _ _ => rfl) ?_
    exact q_Ru_ret rfl rfl
  show q_Ru _ _ _ (12, [(1, .int 2), (0, .ref 64)], [], (q_cM (q_uA (q_uA (q_uA (q_mA pix smp tr (q_nb p left dn ins) (q_fb z)) 10 (upd (upd (upd (fun _ => 0) 0 0) 1 0) 2 0)) 12 (upd (upd (upd (upd (upd (upd (fun _ => 0) 0 1) 0 0) 1 1) 1 0) 2 1) 2 0)) 11 (upd (upd (upd (fun _ => 0) 0 0) 1 0) 2 0)) q_IM (q_mJ y pd), 34, 31630)) _
  refine q_Ru_seg (g2 := (30, [(2, .int 0), (1, .int 0), (0, .ref 64)], [.int 0, .ref 64, .int 0], (q_cM (q_uA (q_uA (q_uA (q_mA pix smp tr (q_nb p left dn ins) (q_fb z)) 10 (upd (upd (upd (fun _ => 0) 0 0) 1 0) 2 0)) 12 (upd (upd (upd (upd (upd (upd (fun _ => 0) 0 1) 0 0) 1 1) 1 0) 2 1) 2 0)) 11 (upd (upd (upd (fun _ => 0) 0 0) 1 0) 2 0)) q_IM (q_mJ y pd), 34, 31630))) 15 (fun _ _ => rfl) ?_
  refine q_Ru_call (v := (some (.int 0))) (h2 := (q_cM (q_uA (q_uA (q_uA (q_mA pix smp tr (q_nb p left dn ins) (q_fb z)) 10 (upd (upd (upd (fun _ => 0) 0 0) 1 0) 2 0)) 12 (upd (upd (upd (upd (upd (upd (fun _ => 0) 0 1) 0 0) 1 1) 1 0) 2 1) 2 0)) 11 (upd (upd (upd (fun _ => 0) 0 0) 1 0) 2 0)) q_IM (q_mJ y pd), 34, 31630)) rfl rfl ?_ ?_
  · refine q_Ca_of (Nat.le_of_ble_eq_true rfl) ?_
    refine q_Ru_seg (g2 := (11, [(0, .ref 64), (1, .int 0)], [.int 0], (q_cM (q_uA (q_uA (q_uA (q_mA pix smp tr (q_nb p left dn ins) (q_fb z)) 10 (upd (upd (upd (fun _ => 0) 0 0) 1 0) 2 0)) 12 (upd (upd (upd (upd (upd (upd (fun _ => 0) 0 1) 0 0) 1 1) 1 0) 2 1) 2 0)) 11 (upd (upd (upd (fun _ => 0) 0 0) 1 0) 2 0)) q_IM (q_mJ y pd), 34, 31630))) 8 (fun _ _ => rfl) ?_
    refine q_Ru_seg (g2 := (26, [(2, .int 0), (0, .ref 64), (1, .int 0)], [.int 0], (q_cM (q_uA (q_uA (q_uA (q_mA pix smp tr (q_nb p left dn ins) (q_fb z)) 10 (upd (upd (upd (fun _ => 0) 0 0) 1 0) 2 0)) 12 (upd (upd (upd (upd (upd (upd (fun _ => 0) 0 1) 0 0) 1 1) 1 0) 2 1) 2 0)) 11 (upd (upd (upd (fun _ => 0) 0 0) 1 0) 2 0)) q_IM (q_mJ y pd), 34, 31630))) 11 (fun _ _ => rfl) ?_
    refine q_Ru_seg (g2 := (88, [(3, .int 0), (2, .int 0), (0, .ref 64), (1, .int 0)], [.int 0], (q_cM (q_uA (q_uA (q_uA (q_mA pix smp tr (q_nb p left dn ins) (q_fb z)) 10 (upd (upd (upd (fun _ => 0) 0 0) 1 0) 2 0)) 12 (upd (upd (upd (upd (upd (upd (fun _ => 0) 0 1) 0 0) 1 1) 1 0) 2 1) 2 0)) 11 (upd (upd (upd (fun _ => 0) 0 0) 1 0) 2 0)) q_IM (q_mJ y pd), 34, 31630))) 12 (fun _ _ => rfl) ?_
    refine q_Ru_seg (g2 := (89, [(3, .int 0), (2, .int 0), (0, .ref 64), (1, .int 0)], [.int 3, .int 0], (q_cM (q_uA (q_uA (q_uA (q_mA pix smp tr (q_nb p left dn ins) (q_fb z)) 10 (upd (upd (upd (fun _ => 0) 0 0) 1 0) 2 0)) 12 (upd (upd (upd (upd (upd (upd (fun _ => 0) 0 1) 0 0) 1 1) 1 0) 2 1) 2 0)) 11 (upd (upd (upd (fun _ => 0) 0 0) 1 0) 2 0)) q_IM (q_mJ y pd), 34, 31630))) 1 (fun _ _ => rfl) ?_
    refine q_Ru_call (v := (some (.int 0))) (h2 := (q_cM (q_uA (q_uA (q_uA (q_mA pix smp tr (q_nb p left dn ins) (q_fb z)) 10 (upd (upd (upd (fun _ => 0) 0 0) 1 0) 2 0)) 12 (upd (upd (upd (upd (upd (upd (fun _ => 0) 0 1) 0 0) 1 1) 1 0) 2 1) 2 0)) 11 (upd (upd (upd (fun _ => 0) 0 0) 1 0) 2 0)) q_IM (q_mJ y pd), 34, 31630)) rfl rfl ?_ ?_
    · refine q_Ca_of (Nat.le_of_ble_eq_true rfl) ?_
      refine q_Ru_seg (g2 := (14, [(0, .int 0), (1, .int 3)], [.int 0], (q_cM (q_uA (q_uA (q_uA (q_mA pix smp tr (q_nb p left dn ins) (q_fb z)) 10 (upd (upd (upd (fun _ => 0) 0 0) 1 0) 2 0)) 12 (upd (upd (upd (upd (upd (upd (fun _ => 0) 0 1) 0 0) 1 1) 1 0) 2 1) 2 0)) 11 (upd (upd (upd (fun _ => 0) 0 0) 1 0) 2 0)) q_IM (q_mJ y pd), 34, 31630))) 8 (fun _ _ => rfl) ?_
      exact q_Ru_ret rfl rfl
    show q_Ru _ _ _ (92, [(3, .int 0), (2, .int 0), (0, .ref 64), (1, .int 0)], [.int 0], (q_cM (q_uA (q_uA (q_uA (q_mA pix smp tr (q_nb p left dn ins) (q_fb z)) 10 (upd (upd (upd (fun _ => 0) 0 0) 1 0) 2 0)) 12 (upd (upd (upd (upd (upd (upd (fun _ => 0) 0 1) 0 0) 1 1) 1 0) 2 1) 2 0)) 11 (upd (upd (upd (fun _ => 0) 0 0) 1 0) 2 0)) q_IM (q_mJ y pd), 34, 31630)) _
    refine q_Ru_seg (g2 := (118, [(3, .int 0), (2, .int 0), (0, .ref 64), (1, .int 0)], [.int 0], (q_cM (q_uA (q_uA (q_uA (q_mA pix smp tr (q_nb p left dn ins) (q_fb z)) 10 (upd (upd (upd (fun _ => 0) 0 0) 1 0) 2 0)) 12 (upd (upd (upd (upd (upd (upd (fun _ => 0) 0 1) 0 0) 1 1) 1 0) 2 1) 2 0)) 11 (upd (upd (upd (fun _ => 0) 0 0) 1 0) 2 0)) q_IM (q_mJ y pd), 34, 31630))) 2 (fun _ _ => rfl) ?_
    exact q_Ru_ret rfl rfl
  show q_Ru _ _ _ (33, [(2, .int 0), (1, .int 0), (0, .ref 64)], [.int 0, .int 0], (q_cM (q_uA (q_uA (q_uA (q_mA pix smp tr (q_nb p left dn ins) (q_fb z)) 10 (upd (upd (upd (fun _ => 0) 0 0) 1 0) 2 0)) 12 (upd (upd (upd (upd (upd (upd (fun _ => 0) 0 1) 0 0) 1 1) 1 0) 2 1) 2 0)) 11 (upd (upd (upd (fun _ => 0) 0 0) 1 0) 2 0)) q_IM (q_mJ y pd), 34, 31630)) _
  refine q_Ru_seg (g2 := (39, [(2, .int 0), (1, .int 0), (0, .ref 64)], [.int 0, .int 0, .int 0], (q_cM (q_uA (q_uA (q_uA (q_mA pix smp tr (q_nb p left dn ins) (q_fb z)) 10 (upd (upd (upd (fun _ => 0) 0 0) 1 0) 2 0)) 12 (upd (upd (upd (upd (upd (upd (fun _ => 0) 0 1) 0 0) 1 1) 1 0) 2 1) 2 0)) 11 (upd (upd (upd (fun _ => 0) 0 0) 1 0) 2 0)) q_IM (q_mJ y pd), 34, 31630))) 4 (fun _ _ => rfl) ?_
  refine q_Ru_seg (g2 := (30, [(2, .int 1), (1, .int 0), (0, .ref 64)], [.int 1, .ref 64, .int 0], (q_cM (q_uA (q_uA (q_uA (q_mA pix smp tr (q_nb p left dn ins) (q_fb z)) 10 (upd (upd (upd (fun _ => 0) 0 0) 1 0) 2 0)) 12 (upd (upd (upd (upd (upd (upd (fun _ => 0) 0 1) 0 0) 1 1) 1 0) 2 1) 2 0)) 11 (upd (upd (upd (fun _ => 0) 0 0) 1 0) 2 0)) q_IM (q_mJ y pd), 34, 31630))) 11 (fun _ _ => rfl) ?_
  refine q_Ru_call (v := (some (.int 0))) (h2 := (q_cM (q_uA (q_uA (q_uA (q_mA pix smp tr (q_nb p left dn ins) (q_fb z)) 10 (upd (upd (upd (fun _ => 0) 0 0) 1 0) 2 0)) 12 (upd (upd (upd (upd (upd (upd (fun _ => 0) 0 1) 0 0) 1 1) 1 0) 2 1) 2 0)) 11 (upd (upd (upd (fun _ => 0) 0 0) 1 0) 2 0)) q_IM (q_mJ y pd), 34, 31630)) rfl rfl ?_ ?_
  · refine q_Ca_of (Nat.le_of_ble_eq_true rfl) ?_
    refine q_Ru_seg (g2 := (11, [(0, .ref 64), (1, .int 1)], [.int 0], (q_cM (q_uA (q_uA (q_uA (q_mA pix smp tr (q_nb p left dn ins) (q_fb z)) 10 (upd (upd (upd (fun _ => 0) 0 0) 1 0) 2 0)) 12 (upd (upd (upd (upd (upd (upd (fun _ => 0) 0 1) 0 0) 1 1) 1 0) 2 1) 2 0)) 11 (upd (upd (upd (fun _ => 0) 0 0) 1 0) 2 0)) q_IM (q_mJ y pd), 34, 31630))) 8 (fun _ _ => rfl) ?_
    refine q_Ru_seg (g2 := (26, [(2, .int 0), (0, .ref 64), (1, .int 1)], [.int 0], (q_cM (q_uA (q_uA (q_uA (q_mA pix smp tr (q_nb p left dn ins) (q_fb z)) 10 (upd (upd (upd (fun _ => 0) 0 0) 1 0) 2 0)) 12 (upd (upd (upd (upd (upd (upd (fun _ => 0) 0 1) 0 0) 1 1) 1 0) 2 1) 2 0)) 11 (upd (upd (upd (fun _ => 0) 0 0) 1 0) 2 0)) q_IM (q_mJ y pd), 34, 31630))) 11 (fun _ _ => rfl) ?_
    refine q_Ru_seg (g2 := (88, [(3, .int 0), (2, .int 0), (0, .ref 64), (1, .int 1)], [.int 0], (q_cM (q_uA (q_uA (q_uA (q_mA pix smp tr (q_nb p left dn ins) (q_fb z)) 10 (upd (upd (upd (fun _ => 0) 0 0) 1 0) 2 0)) 12 (upd (upd (upd (upd (upd (upd (fun _ => 0) 0 1) 0 0) 1 1) 1 0) 2 1) 2 0)) 11 (upd (upd (upd (fun _ => 0) 0 0) 1 0) 2 0)) q_IM (q_mJ y pd), 34, 31630))) 12 (fun _ _ => rfl) ?_
    refine q_Ru_seg (g2 := (89, [(3, .int 0), (2, .int 0), (0, .ref 64), (1, .int 1)], [.int 3, .int 0], (q_cM (q_uA (q_uA (q_uA (q_mA pix smp tr (q_nb p left dn ins) (q_fb z)) 10 (upd (upd (upd (fun _ => 0) 0 0) 1 0) 2 0)) 12 (upd (upd (upd (upd (upd (upd (fun _ => 0) 0 1) 0 0) 1 1) 1 0) 2 1) 2 0)) 11 (upd (upd (upd (fun _ => 0) 0 0) 1 0) 2 0)) q_IM (q_mJ y pd), 34, 31630))) 1 (fun _ _ => rfl) ?_
    refine q_Ru_call (v := (some (.int 0))) (h2 := (q_cM (q_uA (q_uA (q_uA (q_mA pix smp tr (q_nb p left dn ins) (q_fb z)) 10 (upd (upd (upd (fun _ => 0) 0 0) 1 0) 2 0)) 12 (upd (upd (upd (upd (upd (upd (fun _ => 0) 0 1) 0 0) 1 1) 1 0) 2 1) 2 0)) 11 (upd (upd (upd (fun _ => 0) 0 0) 1 0) 2 0)) q_IM (q_mJ y pd), 34, 31630)) rfl rfl ?_ ?_
    · refine q_Ca_of (Nat.le_of_ble_eq_true rfl) ?_
      refine q_Ru_seg (g2 := (14, [(0, .int 0), (1, .int 3)], [.int 0], (q_cM (q_uA (q_uA (q_uA (q_mA pix smp tr (q_nb p left dn ins) (q_fb z)) 10 (upd (upd (upd (fun _ => 0) 0 0) 1 0) 2 0)) 12 (upd (upd (upd (upd (upd (upd (fun _ => 0) 0 1) 0 0) 1 1) 1 0) 2 1) 2 0)) 11 (upd (upd (upd (fun _ => 0) 0 0) 1 0) 2 0)) q_IM (q_mJ y pd), 34, 31630))) 8 (fun _ _ => rfl) ?_
      exact q_Ru_ret rfl rfl
    show q_Ru _ _ _ (92, [(3, .int 0), (2, .int 0), (0, .ref 64), (1, .int 1)], [.int 0], (q_cM (q_uA (q_uA (q_uA (q_mA pix smp tr (q_nb p left dn ins) (q_fb z)) 10 (upd (upd (upd (fun _ => 0) 0 0) 1 0) 2 0)) 12 (upd (upd (upd (upd (upd (upd (fun _ => 0) 0 1) 0 0) 1 1) 1 0) 2 1) 2 0)) 11 (upd (upd (upd (fun _ => 0) 0 0) 1 0) 2 0)) q_IM (q_mJ y pd), 34, 31630)) _
    refine q_Ru_seg (g2 := (118, [(3, .int 0), (2, .int 0), (0, .ref 64), (1, .int 1)], [.int 0], (q_cM (q_uA (q_uA (q_uA (q_mA pix smp tr (q_nb p left dn ins) (q_fb z)) 10 (upd (upd (upd (fun _ => 0) 0 0) 1 0) 2 0)) 12 (upd (upd (upd (upd (upd (upd (fun _ => 0) 0 1) 0 0) 1 1) 1 0) 2 1) 2 0)) 11 (upd (upd (upd (fun _ => 0) 0 0) 1 0) 2 0)) q_IM (q_mJ y pd), 34, 31630))) 2 (fun _ _ => rfl) ?_
    exact q_Ru_ret rfl rfl
  show q_Ru _ _ _ (33, [(2, .int 1), (1, .int 0), (0, .ref 64)], [.int 0, .int 0], (q_cM (q_uA (q_uA (q_uA (q_mA pix smp tr (q_nb p left dn ins) (q_fb z)) 10 (upd (upd (upd (fun _ => 0) 0 0) 1 0) 2 0)) 12 (upd (upd (upd (upd (upd (upd (fun _ => 0) 0 1) 0 0) 1 1) 1 0) 2 1) 2 0)) 11 (upd (upd (upd (fun _ => 0) 0 0) 1 0) 2 0)) q_IM (q_mJ y pd), 34, 31630)) _
  refine q_Ru_seg (g2 := (39, [(2, .int 1), (1, .int 0), (0, .ref 64)], [.int 0, .int 0, .int 0], (q_cM (q_uA (q_uA (q_uA (q_mA pix smp tr (q_nb p left dn ins) (q_fb z)) 10 (upd (upd (upd (fun _ => 0) 0 0) 1 0) 2 0)) 12 (upd (upd (upd (upd (upd (upd (fun _ => 0) 0 1) 0 0) 1 1) 1 0) 2 1) 2 0)) 11 (upd (upd (upd (fun _ => 0) 0 0) 1 0) 2 0)) q_IM (q_mJ y pd), 34, 31630))) 4 (fun _ _ => rfl) ?_
  refine q_Ru_seg (g2 := (30, [(2, .int 2), (1, .int 0), (0, .ref 64)], [.int 2, .ref 64, .int 0], (q_cM (q_uA (q_uA (q_uA (q_mA pix smp tr (q_nb p left dn ins) (q_fb z)) 10 (upd (upd (upd (fun _ => 0) 0 0) 1 0) 2 0)) 12 (upd (upd (upd (upd (upd (upd (fun _ => 0) 0 1) 0 0) 1 1) 1 0) 2 1) 2 0)) 11 (upd (upd (upd (fun _ => 0) 0 0) 1 0) 2 0)) q_IM (q_mJ y pd), 34, 31630))) 11 (fun _ _ => rfl) ?_
  refine q_Ru_call (v := (some (.int 0))) (h2 := (q_cM (q_uA (q_uA (q_uA (q_mA pix smp tr (q_nb p left dn ins) (q_fb z)) 10 (upd (upd (upd (fun _ => 0) 0 0) 1 0) 2 0)) 12 (upd (upd (upd (upd (upd (upd (fun _ => 0) 0 1) 0 0) 1 1) 1 0) 2 1) 2 0)) 11 (upd (upd (upd (fun _ => 0) 0 0) 1 0) 2 0)) q_IM (q_mJ y pd), 34, 31630)) rfl rfl ?_ ?_
  · refine q_Ca_of (Nat.le_of_ble_eq_true rfl) ?_
    refine q_Ru_seg (g2 := (11, [(0, .ref 64), (1, .int 2)], [.int 0], (q_cM (q_uA (q_uA (q_uA (q_mA pix smp tr (q_nb p left dn ins) (q_fb z)) 10 (upd (upd (upd (fun _ => 0) 0 0) 1 0) 2 0)) 12 (upd (upd (upd (upd (upd (upd (fun _ => 0) 0 1) 0 0) 1 1) 1 0) 2 1) 2 0)) 11 (upd (upd (upd (fun _ => 0) 0 0) 1 0) 2 0)) q_IM (q_mJ y pd), 34, 31630))) 8 (fun _ _ => rfl) ?_
    refine q_Ru_seg (g2 := (26, [(2, .int 0), (0, .ref 64), (1, .int 2)], [.int 0], (q_cM (q_uA (q_uA (q_uA (q_mA pix smp tr (q_nb p left dn ins) (q_fb z)) 10 (upd (upd (upd (fun _ => 0) 0 0) 1 0) 2 0)) 12 (upd (upd (upd (upd (upd (upd (fun _ => 0) 0 1) 0 0) 1 1) 1 0) 2 1) 2 0)) 11 (upd (upd (upd (fun _ => 0) 0 0) 1 0) 2 0)) q_IM (q_mJ y pd), 34, 31630))) 11 (fun _ _ => rfl) ?_
    refine q_Ru_seg (g2 := (88, [(3, .int 0), (2, .int 0), (0, .ref 64), (1, .int 2)], [.int 0], (q_cM (q_uA (q_uA (q_uA (q_mA pix smp tr (q_nb p left dn ins) (q_fb z)) 10 (upd (upd (upd (fun _ => 0) 0 0) 1 0) 2 0)) 12 (upd (upd (upd (upd (upd (upd (fun _ => 0) 0 1) 0 0) 1 1) 1 0) 2 1) 2 0)) 11 (upd (upd (upd (fun _ => 0) 0 0) 1 0) 2 0)) q_IM (q_mJ y pd), 34, 31630))) 12 (fun _ _ => rfl) ?_
    refine q_Ru_seg (g2 := (89, [(3, .int 0), (2, .int 0), (0, .ref 64), (1, .int 2)], [.int 3, .int 0], (q_cM (q_uA (q_uA (q_uA (q_mA pix smp tr (q_nb p left dn ins) (q_fb z)) 10 (upd (upd (upd (fun _ => 0) 0 0) 1 0) 2 0)) 12 (upd (upd (upd (upd (upd (upd (fun _ => 0) 0 1) 0 0) 1 1) 1 0) 2 1) 2 0)) 11 (upd (upd (upd (fun _ => 0) 0 0) 1 0) 2 0)) q_IM (q_mJ y pd), 34, 31630))) 1 (fun _ _ => rfl) ?_
    refine q_Ru_call (v := (some (.int 0))) (h2 := (q_cM (q_uA (q_uA (q_uA (q_mA pix smp tr (q_nb p left dn ins) (q_fb z)) 10 (upd (upd (upd (fun _ => 0) 0 0) 1 0) 2 0)) 12 (upd (upd (upd (upd (upd (upd (fun _ => 0) 0 1) 0 0) 1 1) 1 0) 2 1) 2 0)) 11 (upd (upd (upd (fun _ => 0) 0 0) 1 0) 2 0)) q_IM (q_mJ y pd), 34, 31630)) rfl rfl ?_ ?_
    · refine q_Ca_of (Nat.le_of_ble_eq_true rfl) ?_
      refine q_Ru_seg (g2 := (14, [(0, .int 0), (1, .int 3)], [.int 0], (q_cM (q_uA (q_uA (q_uA (q_mA pix smp tr (q_nb p left dn ins) (q_fb z)) 10 (upd (upd (upd (fun _ => 0) 0 0) 1 0) 2 0)) 12 (upd (upd (upd (upd (upd (upd (fun _ => 0) 0 1) 0 0) 1 1) 1 0) 2 1) 2 0)) 11 (upd (upd (upd (fun _ => 0) 0 0) 1 0) 2 0)) q_IM (q_mJ y pd), 34, 31630))) 8 (fun _ _ => rfl) ?_
      exact q_Ru_ret rfl rfl
    show q_Ru _ _ _ (92, [(3, .int 0), (2, .int 0), (0, .ref 64), (1, .int 2)], [.int 0], (q_cM (q_uA (q_uA (q_uA (q_mA pix smp tr (q_nb p left dn ins) (q_fb z)) 10 (upd (upd (upd (fun _ => 0) 0 0) 1 0) 2 0)) 12 (upd (upd (upd (upd (upd (upd (fun _ => 0) 0 1) 0 0) 1 1) 1 0) 2 1) 2 0)) 11 (upd (upd (upd (fun _ => 0) 0 0) 1 0) 2 0)) q_IM (q_mJ y pd), 34, 31630)) _
    refine q_Ru_seg (g2 := (118, [(3, .int 0), (2, .int 0), (0, .ref 64), (1, .int 2)], [.int 0], (q_cM (q_uA (q_uA (q_uA (q_mA pix smp tr (q_nb p left dn ins) (q_fb z)) 10 (upd (upd (upd (fun _ => 0) 0 0) 1 0) 2 0)) 12 (upd (upd (upd (upd (upd (upd (fun _ => 0) 0 1) 0 0) 1 1) 1 0) 2 1) 2 0)) 11 (upd (upd (upd (fun _ => 0) 0 0) 1 0) 2 0)) q_IM (q_mJ y pd), 34, 31630))) 2 (fun _ _ => rfl) ?_
    exact q_Ru_ret rfl rfl
  show q_Ru _ _ _ (33, [(2, .int 2), (1, .int 0), (0, .ref 64)], [.int 0, .int 0], (q_cM (q_uA (q_uA (q_uA (q_mA pix smp tr (q_nb p left dn ins) (q_fb z)) 10 (upd (upd (upd (fun _ => 0) 0 0) 1 0) 2 0)) 12 (upd (upd (upd (upd (upd (upd (fun _ => 0) 0 1) 0 0) 1 1) 1 0) 2 1) 2 0)) 11 (upd (upd (upd (fun _ => 0) 0 0) 1 0) 2 0)) q_IM (q_mJ y pd), 34, 31630)) _
  refine q_Ru_seg (g2 := (39, [(2, .int 2), (1, .int 0), (0, .ref 64)], [.int 0, .int 0, .int 0], (q_cM (q_uA (q_uA (q_uA (q_mA pix smp tr (q_nb p left dn ins) (q_fb z)) 10 (upd (upd (upd (fun _ => 0) 0 0) 1 0) 2 0)) 12 (upd (upd (upd (upd (upd (upd (fun _ => 0) 0 1) 0 0) 1 1) 1 0) 2 1) 2 0)) 11 (upd (upd (upd (fun _ => 0) 0 0) 1 0) 2 0)) q_IM (q_mJ y pd), 34, 31630))) 4 (fun _ _ => rfl) ?_
  refine q_Ru_seg (g2 := (53, [(2, .int 3), (1, .int 0), (0, .ref 64)], [.ref 64, .ref 70], (q_cM (q_uA (q_uA (q_uA (q_mA pix smp tr (q_nb p left dn ins) (q_fb z)) 10 (upd (upd (upd (fun _ => 0) 0 0) 1 0) 2 0)) 12 (upd (upd (upd (upd (upd (upd (fun _ => 0) 0 1) 0 0) 1 1) 1 0) 2 1) 2 0)) 11 (upd (upd (upd (fun _ => 0) 0 0) 1 0) 2 0)) q_IM (q_mJ y pd), 34, 31630))) 11 (fun _ _ => rfl) ?_
  refine q_Ru_call (v := (some (.int lin))) (h2 := (q_cM (q_uA (q_uA (q_uA (q_mA pix smp tr (q_nb p left dn ins) (q_fb z)) 10 (upd (upd (upd (fun _ => 0) 0 0) 1 0) 2 0)) 12 (upd (upd (upd (upd (upd (upd (fun _ => 0) 0 1) 0 0) 1 1) 1 0) 2 1) 2 0)) 11 (upd (upd (upd (fun _ => 0) 0 0) 1 0) 2 0)) q_IM (q_mJ y pd), 34, 31630)) rfl rfl ?_ ?_
  · refine q_Ca_of (Nat.le_of_ble_eq_true rfl) ?_
    refine q_Ru_seg (g2 := (4, [(0, .ref 64)], [.long y], (q_cM (q_uA (q_uA (q_uA (q_mA pix smp tr (q_nb p left dn ins) (q_fb z)) 10 (upd (upd (upd (fun _ => 0) 0 0) 1 0) 2 0)) 12 (upd (upd (upd (upd (upd (upd (fun _ => 0) 0 1) 0 0) 1 1) 1 0) 2 1) 2 0)) 11 (upd (upd (upd (fun _ => 0) 0 0) 1 0) 2 0)) q_IM (q_mJ y pd), 34, 31630))) 2 (fun _ _ => rfl) ?_
    refine q_Ru_seg (g2 := (13, [(0, .ref 64)], [.int (((y / 24) - (y / 24) / 40 * 40).toInt32)], (q_cM (q_uA (q_uA (q_uA (q_mA pix smp tr (q_nb p left dn ins) (q_fb z)) 10 (upd (upd (upd (fun _ => 0) 0 0) 1 0) 2 0)) 12 (upd (upd (upd (upd (upd (upd (fun _ => 0) 0 1) 0 0) 1 1) 1 0) 2 1) 2 0)) 11 (upd (upd (upd (fun _ => 0) 0 0) 1 0) 2 0)) q_IM (q_mJ y pd), 34, 31630))) 5 (fun _ _ => rfl) ?_
    rw [hM]
    exact q_Ru_ret rfl rfl
  show q_Ru _ _ _ (56, [(2, .int 3), (1, .int 0), (0, .ref 64)], [.int lin, .ref 70], (q_cM (q_uA (q_uA (q_uA (q_mA pix smp tr (q_nb p left dn ins) (q_fb z)) 10 (upd (upd (upd (fun _ => 0) 0 0) 1 0) 2 0)) 12 (upd (upd (upd (upd (upd (upd (fun _ => 0) 0 1) 0 0) 1 1) 1 0) 2 1) 2 0)) 11 (upd (upd (upd (fun _ => 0) 0 0) 1 0) 2 0)) q_IM (q_mJ y pd), 34, 31630)) _
  refine q_Ru_seg (g2 := (60, [(2, .int 3), (1, .int 0), (0, .ref 64)], [.int 0, .int lin, .ref 70], (q_cM (q_uA (q_uA (q_uA (q_mA pix smp tr (q_nb p left dn ins) (q_fb z)) 10 (upd (upd (upd (fun _ => 0) 0 0) 1 0) 2 0)) 12 (upd (upd (upd (upd (upd (upd (fun _ => 0) 0 1) 0 0) 1 1) 1 0) 2 1) 2 0)) 11 (upd (upd (upd (fun _ => 0) 0 0) 1 0) 2 0)) q_IM (q_mJ y pd), 34, 31630))) 3 (fun _ _ => rfl) ?_
  refine q_Ru_rsT (g2 := (61, [(2, .int 3), (1, .int 0), (0, .ref 64)], [], (q_cM (q_uA (q_uA (q_uA (q_uA (q_mA pix smp tr (q_nb p left dn ins) (q_fb z)) 10 (upd (upd (upd (fun _ => 0) 0 0) 1 0) 2 0)) 12 (upd (upd (upd (upd (upd (upd (fun _ => 0) 0 1) 0 0) 1 1) 1 0) 2 1) 2 0)) 11 (upd (upd (upd (fun _ => 0) 0 0) 1 0) 2 0)) 6 (upd smp (lin.toNatClampNeg) 0)) q_IM (q_mJ y pd), 34, 31630))) rfl q_astM_6 (q_in_bd (x := lin) (n := 40) (U := 39) (L := 0) l0 l1) ?_
  generalize (upd smp (lin.toNatClampNeg) 0) = w24
  exact q_Ru_ret rfl rfl
set_option maxHeartbeats 4000000 in
theorem q_m_go0 (pix smp tr : Nat → Int32) (p dn ins z : Int32) (y pd : Int64) (col lin p1 p2 : Int32) (hC : (y - y / 24 * 24).toInt32 = col) (hM : (y / 24 - y / 24 / 40 * 40).toInt32 = lin) (c0 : 0 ≤ col.toInt) (c1 : col.toInt ≤ 23) (l0 : 0 ≤ lin.toInt) (l1 : lin.toInt ≤ 39) (a0 : 0 ≤ p.toInt) (a1 : p.toInt ≤ 3839) (b0 : 0 ≤ p1.toInt) (b1 : p1.toInt ≤ 3839) (hp0 : p &&& 4095 = p) (hp1 : (p + 1) &&& 4095 = p1) (hp2 : (p + 2) &&& 4095 = p2) (i0 : 0 ≤ ins.toInt) (i1 : ins.toInt ≤ 1000) : q_Ca q_TB0 8 278 [.ref 64] (q_cM (q_mA pix smp tr (q_nb p 0 dn ins) (q_fb z)) q_IM (q_mJ y pd), 34, 31630) (.inl none, (q_cM (q_mA pix smp tr (q_nb p 1 dn ins) (q_fb z)) q_IM (q_mJ y pd), 34, 31630)) := by
  have hA : ∀ i, i < 34 → (q_uA (q_mA pix smp tr (q_nb p 0 dn ins) (q_fb z)) 14 (upd (upd (q_nb p 0 dn ins) 17 2) 17 1)) i = (q_mA pix smp tr (q_nb p 1 dn ins) (q_fb z)) i := by
    intro i hi
    match i, hi with
    | 0, _ => rfl
    | 1, _ => rfl
    | 2, _ => rfl
    | 3, _ => rfl
    | 4, _ => rfl
    | 5, _ => rfl
    | 6, _ => rfl
    | 7, _ => rfl
    | 8, _ => rfl
    | 9, _ => rfl
    | 10, _ => rfl
    | 11, _ => rfl
    | 12, _ => rfl
    | 13, _ => rfl
    | 14, _ => exact (show (upd (upd (q_nb p 0 dn ins) 17 2) 17 1) = (q_nb p 1 dn ins) by simp only [q_upd_upd, q_upd_z, q_nb_4, q_nb_17, q_nb_19, q_nb_20, q_nb_0, q_nb_9, q_nb_18, q_fb_4, q_fb_0])
    | 15, _ => rfl
    | 16, _ => rfl
    | 17, _ => rfl
    | 18, _ => rfl
    | 19, _ => rfl
    | 20, _ => rfl
    | 21, _ => rfl
    | 22, _ => rfl
    | 23, _ => rfl
    | 24, _ => rfl
    | 25, _ => rfl
    | 26, _ => rfl
    | 27, _ => rfl
    | 28, _ => rfl
    | 29, _ => rfl
    | 30, _ => rfl
    | 31, _ => rfl
    | 32, _ => rfl
    | 33, _ => rfl
    | i + 34, hi => exact absurd hi (by omega)
  refine q_Ca_hX (q_cM_A (I := q_IM) (J := (q_mJ y pd)) hA) ?_
  refine q_Ca_of (Nat.le_of_ble_eq_true rfl) ?_
  refine q_Ru_seg (g2 := (7, [(0, .ref 64)], [.int 0], (q_cM (q_mA pix smp tr (q_nb p 0 dn ins) (q_fb z)) q_IM (q_mJ y pd), 34, 31630))) 4 (fun _ _ => rfl) ?_
  refine q_Ru_seg (g2 := (18, [(0, .ref 64)], [.int 0], (q_cM (q_mA pix smp tr (q_nb p 0 dn ins) (q_fb z)) q_IM (q_mJ y pd), 34, 31630))) 5 (fun _ _ => rfl) ?_
  refine q_Ru_seg (g2 := (22, [(0, .ref 64)], [.ref 64], (q_cM (q_mA pix smp tr (q_nb p 0 dn ins) (q_fb z)) q_IM (q_mJ y pd), 34, 31630))) 2 (fun _ _ => rfl) ?_
  refine q_Ru_call (v := none) (h2 := (q_cM (q_uA (q_mA pix smp tr (q_nb p 0 dn ins) (q_fb z)) 14 (upd (q_nb p 0 dn ins) 17 2)) q_IM (q_mJ y pd), 34, 31630)) rfl rfl ?_ ?_
  · refine q_Ca_of (Nat.le_of_ble_eq_true rfl) ?_
    refine q_Ru_seg (g2 := (13, [(0, .ref 64)], [.int 0, .int 18, .ref 78], (q_cM (q_mA pix smp tr (q_nb p 0 dn ins) (q_fb z)) q_IM (q_mJ y pd), 34, 31630))) 7 (fun _ _ => rfl) ?_
    refine q_Ru_seg (g2 := (29, [(0, .ref 64)], [.int 1, .int 18, .ref 78], (q_cM (q_mA pix smp tr (q_nb p 0 dn ins) (q_fb z)) q_IM (q_mJ y pd), 34, 31630))) 5 (fun _ _ => rfl) ?_
    refine q_Ru_seg (g2 := (36, [(0, .ref 64)], [.int 0, .int 1, .int 18, .ref 78], (q_cM (q_mA pix smp tr (q_nb p 0 dn ins) (q_fb z)) q_IM (q_mJ y pd), 34, 31630))) 4 (fun _ _ => rfl) ?_
    refine q_Ru_seg (g2 := (64, [(0, .ref 64)], [.int 0], (q_cM (q_uA (q_mA pix smp tr (q_nb p 0 dn ins) (q_fb z)) 14 (upd (q_nb p 0 dn ins) 18 0)) q_IM (q_mJ y pd), 34, 31630))) 8 (fun _ _ => rfl) ?_
    refine q_Ru_seg (g2 := (88, [(0, .ref 64)], [.int 0, .int 17, .ref 78], (q_cM (q_uA (q_mA pix smp tr (q_nb p 0 dn ins) (q_fb z)) 14 (upd (q_nb p 0 dn ins) 18 0)) q_IM (q_mJ y pd), 34, 31630))) 8 (fun _ _ => rfl) ?_
    refine q_Ru_seg (g2 := (103, [(0, .ref 64)], [.int p, .ref 64, .int 17, .ref 78], (q_cM (q_uA (q_mA pix smp tr (q_nb p 0 dn ins) (q_fb z)) 14 (upd (q_nb p 0 dn ins) 18 0)) q_IM (q_mJ y pd), 34, 31630))) 6 (fun _ _ => rfl) ?_
    refine q_Ru_call (v := (some (.int 2))) (h2 := (q_cM (q_mA pix smp tr (q_nb p 0 dn ins) (q_fb z)) q_IM (q_mJ y pd), 34, 31630)) rfl rfl ?_ ?_
    · refine q_Ca_of (Nat.le_of_ble_eq_true rfl) ?_
      refine q_Ru_seg (g2 := (2, [(0, .ref 64), (1, .int p)], [.int p, .ref 64], (q_cM (q_uA (q_mA pix smp tr (q_nb p 0 dn ins) (q_fb z)) 14 (upd (q_nb p 0 dn ins) 18 0)) q_IM (q_mJ y pd), 34, 31630))) 2 (fun _ _ => rfl) ?_
      refine q_Ru_call (v := (some (.int 0))) (h2 := (q_cM (q_mA pix smp tr (q_nb p 0 dn ins) (q_fb z)) q_IM (q_mJ y pd), 34, 31630)) rfl rfl ?_ ?_
      · refine q_Ca_of (Nat.le_of_ble_eq_true rfl) ?_
        refine q_Ru_seg (g2 := (2, [(0, .ref 64), (1, .int p)], [.int p, .ref 64], (q_cM (q_uA (q_mA pix smp tr (q_nb p 0 dn ins) (q_fb z)) 14 (upd (q_nb p 0 dn ins) 18 0)) q_IM (q_mJ y pd), 34, 31630))) 2 (fun _ _ => rfl) ?_
        refine q_Ru_call (v := (some (.int p))) (h2 := (q_cM (q_uA (q_mA pix smp tr (q_nb p 0 dn ins) (q_fb z)) 14 (upd (q_nb p 0 dn ins) 18 0)) q_IM (q_mJ y pd), 34, 31630)) rfl rfl ?_ ?_
        · refine q_Ca_of (Nat.le_of_ble_eq_true rfl) ?_
          refine q_Ru_seg (g2 := (5, [(0, .int p)], [.int (p &&& 4095)], (q_cM (q_uA (q_mA pix smp tr (q_nb p 0 dn ins) (q_fb z)) 14 (upd (q_nb p 0 dn ins) 18 0)) q_IM (q_mJ y pd), 34, 31630))) 3 (fun _ _ => rfl) ?_
          rw [hp0]
          exact q_Ru_ret rfl rfl
        show q_Ru _ _ _ (5, [(0, .ref 64), (1, .int p)], [.int p, .ref 64], (q_cM (q_uA (q_mA pix smp tr (q_nb p 0 dn ins) (q_fb z)) 14 (upd (q_nb p 0 dn ins) 18 0)) q_IM (q_mJ y pd), 34, 31630)) _
        have hA : ∀ i, i < 34 → (q_uA (q_mA pix smp tr (q_nb p 0 dn ins) (q_fb z)) 14 (upd (q_nb p 0 dn ins) 18 0)) i = (q_mA pix smp tr (q_nb p 0 dn ins) (q_fb z)) i := by
          intro i hi
          match i, hi with
          | 0, _ => rfl
          | 1, _ => rfl
          | 2, _ => rfl
          | 3, _ => rfl
          | 4, _ => rfl
          | 5, _ => rfl
          | 6, _ => rfl
          | 7, _ => rfl
          | 8, _ => rfl
          | 9, _ => rfl
          | 10, _ => rfl
          | 11, _ => rfl
          | 12, _ => rfl
          | 13, _ => rfl
          | 14, _ => exact (show (upd (q_nb p 0 dn ins) 18 0) = (q_nb p 0 dn ins) by simp only [q_upd_upd, q_upd_z, q_nb_4, q_nb_17, q_nb_19, q_nb_20, q_nb_0, q_nb_9, q_nb_18, q_fb_4, q_fb_0])
          | 15, _ => rfl
          | 16, _ => rfl
          | 17, _ => rfl
          | 18, _ => rfl
          | 19, _ => rfl
          | 20, _ => rfl
          | 21, _ => rfl
          | 22, _ => rfl
          | 23, _ => rfl
          | 24, _ => rfl
          | 25, _ => rfl
          | 26, _ => rfl
          | 27, _ => rfl
          | 28, _ => rfl
          | 29, _ => rfl
          | 30, _ => rfl
          | 31, _ => rfl
          | 32, _ => rfl
          | 33, _ => rfl
          | i + 34, hi => exact absurd hi (by omega)
        refine q_Ru_hX (q_cM_A (I := q_IM) (J := (q_mJ y pd)) hA) ?_
        refine q_Ru_call (v := (some (.int 0))) (h2 := (q_cM (q_mA pix smp tr (q_nb p 0 dn ins) (q_fb z)) q_IM (q_mJ y pd), 34, 31630)) rfl rfl ?_ ?_
        · exact (q_m_readR pix smp tr (q_nb p 0 dn ins) (q_fb z) y pd p a0 a1).le (Nat.le_of_ble_eq_true rfl)
        show q_Ru _ _ _ (8, [(0, .ref 64), (1, .int p)], [.int 0], (q_cM (q_mA pix smp tr (q_nb p 0 dn ins) (q_fb z)) q_IM (q_mJ y pd), 34, 31630)) _
        exact q_Ru_ret rfl rfl
      show q_Ru _ _ _ (5, [(0, .ref 64), (1, .int p)], [.int 0], (q_cM (q_mA pix smp tr (q_nb p 0 dn ins) (q_fb z)) q_IM (q_mJ y pd), 34, 31630)) _
      refine q_Ru_seg (g2 := (7, [(2, .int 0), (0, .ref 64), (1, .int p)], [.int 0], (q_cM (q_mA pix smp tr (q_nb p 0 dn ins) (q_fb z)) q_IM (q_mJ y pd), 34, 31630))) 2 (fun _ _ => rfl) ?_
      refine q_Ru_call (v := (some (.int 0))) (h2 := (q_cM (q_mA pix smp tr (q_nb p 0 dn ins) (q_fb z)) q_IM (q_mJ y pd), 34, 31630)) rfl rfl ?_ ?_
      · refine q_Ca_of (Nat.le_of_ble_eq_true rfl) ?_
        refine q_Ru_seg (g2 := (42, [(0, .int 0)], [.int 0], (q_cM (q_mA pix smp tr (q_nb p 0 dn ins) (q_fb z)) q_IM (q_mJ y pd), 34, 31630))) 7 (fun _ _ => rfl) ?_
        exact q_Ru_ret rfl rfl
      show q_Ru _ _ _ (10, [(2, .int 0), (0, .ref 64), (1, .int p)], [.int 0], (q_cM (q_mA pix smp tr (q_nb p 0 dn ins) (q_fb z)) q_IM (q_mJ y pd), 34, 31630)) _
      refine q_Ru_seg (g2 := (22, [(3, .int 0), (2, .int 0), (0, .ref 64), (1, .int p)], [.int p, .int 0, .int 0, .ref 64], (q_cM (q_mA pix smp tr (q_nb p 0 dn ins) (q_fb z)) q_IM (q_mJ y pd), 34, 31630))) 9 (fun _ _ => rfl) ?_
      refine q_Ru_call (v := (some (.int 2))) (h2 := (q_cM (q_mA pix smp tr (q_nb p 0 dn ins) (q_fb z)) q_IM (q_mJ y pd), 34, 31630)) rfl rfl ?_ ?_
      · refine q_Ca_of (Nat.le_of_ble_eq_true rfl) ?_
        refine q_Ru_seg (g2 := (5, [(0, .ref 64), (1, .int 0), (2, .int 0), (3, .int p)], [.int 2], (q_cM (q_mA pix smp tr (q_nb p 0 dn ins) (q_fb z)) q_IM (q_mJ y pd), 34, 31630))) 3 (fun _ _ => rfl) ?_
        exact q_Ru_ret rfl rfl
      show q_Ru _ _ _ (25, [(3, .int 0), (2, .int 0), (0, .ref 64), (1, .int p)], [.int 2], (q_cM (q_mA pix smp tr (q_nb p 0 dn ins) (q_fb z)) q_IM (q_mJ y pd), 34, 31630)) _
      exact q_Ru_ret rfl rfl
    show q_Ru _ _ _ (106, [(0, .ref 64)], [.int 2, .int 17, .ref 78], (q_cM (q_mA pix smp tr (q_nb p 0 dn ins) (q_fb z)) q_IM (q_mJ y pd), 34, 31630)) _
    refine q_Ru_seg (g2 := (107, [(0, .ref 64)], [], (q_cM (q_uA (q_mA pix smp tr (q_nb p 0 dn ins) (q_fb z)) 14 (upd (q_nb p 0 dn ins) 17 2)) q_IM (q_mJ y pd), 34, 31630))) 1 (fun _ _ => rfl) ?_
    exact q_Ru_ret rfl rfl
  show q_Ru _ _ _ (25, [(0, .ref 64)], [], (q_cM (q_uA (q_mA pix smp tr (q_nb p 0 dn ins) (q_fb z)) 14 (upd (q_nb p 0 dn ins) 17 2)) q_IM (q_mJ y pd), 34, 31630)) _
  refine q_Ru_seg (g2 := (33, [(0, .ref 64)], [.int 2, .int 17, .ref 78], (q_cM (q_uA (q_mA pix smp tr (q_nb p 0 dn ins) (q_fb z)) 14 (upd (q_nb p 0 dn ins) 17 2)) q_IM (q_mJ y pd), 34, 31630))) 5 (fun _ _ => rfl) ?_
  refine q_Ru_seg (g2 := (43, [(0, .ref 64)], [.int 1], (q_cM (q_uA (q_mA pix smp tr (q_nb p 0 dn ins) (q_fb z)) 14 (upd (upd (q_nb p 0 dn ins) 17 2) 17 1)) q_IM (q_mJ y pd), 34, 31630))) 7 (fun _ _ => rfl) ?_
  refine q_Ru_seg (g2 := (46, [(0, .ref 64)], [], (q_cM (q_uA (q_mA pix smp tr (q_nb p 0 dn ins) (q_fb z)) 14 (upd (upd (q_nb p 0 dn ins) 17 2) 17 1)) q_IM (q_mJ y pd), 34, 31630))) 1 (fun _ _ => rfl) ?_
  exact q_Ru_ret rfl rfl
set_option maxHeartbeats 4000000 in
theorem q_m_go1 (pix smp tr : Nat → Int32) (p dn ins z : Int32) (y pd : Int64) (col lin p1 p2 : Int32) (hC : (y - y / 24 * 24).toInt32 = col) (hM : (y / 24 - y / 24 / 40 * 40).toInt32 = lin) (c0 : 0 ≤ col.toInt) (c1 : col.toInt ≤ 23) (l0 : 0 ≤ lin.toInt) (l1 : lin.toInt ≤ 39) (a0 : 0 ≤ p.toInt) (a1 : p.toInt ≤ 3839) (b0 : 0 ≤ p1.toInt) (b1 : p1.toInt ≤ 3839) (hp0 : p &&& 4095 = p) (hp1 : (p + 1) &&& 4095 = p1) (hp2 : (p + 2) &&& 4095 = p2) (i0 : 0 ≤ ins.toInt) (i1 : ins.toInt ≤ 1000) : ∃ tr2 z2, q_Ca q_TB0 8 278 [.ref 64] (q_cM (q_mA pix smp tr (q_nb p 1 dn ins) (q_fb z)) q_IM (q_mJ y pd), 34, 31630) (.inl none, (q_cM (q_mA pix smp tr2 (q_nb p2 0 (dn + 1) (ins + 1)) (q_fb z2)) q_IM (q_mJ y pd), 34, 31630)) := by
  refine ⟨(upd tr ((ins - ins / 16 * 16).toNatClampNeg) p), 1, ?_⟩
  have hA : ∀ i, i < 34 → (q_uA (q_uA (q_uA (q_mA pix smp tr (q_nb p 0 (dn + 1) ins) (q_fb z)) 15 (upd (upd (q_fb z) 4 1) 0 0)) 14 (upd (upd (upd (q_nb p 0 (dn + 1) ins) 0 0) 4 p2) 20 (ins + 1))) 9 (upd tr ((ins - ins / 16 * 16).toNatClampNeg) p)) i = (q_mA pix smp (upd tr ((ins - ins / 16 * 16).toNatClampNeg) p) (q_nb p2 0 (dn + 1) (ins + 1)) (q_fb 1)) i := by
    intro i hi
    match i, hi with
    | 0, _ => rfl
    | 1, _ => rfl
    | 2, _ => rfl
    | 3, _ => rfl
    | 4, _ => rfl
    | 5, _ => rfl
    | 6, _ => rfl
    | 7, _ => rfl
    | 8, _ => rfl
    | 9, _ => rfl
    | 10, _ => rfl
    | 11, _ => rfl
    | 12, _ => rfl
    | 13, _ => rfl
    | 14, _ => exact (show (upd (upd (upd (q_nb p 0 (dn + 1) ins) 0 0) 4 p2) 20 (ins + 1)) = (q_nb p2 0 (dn + 1) (ins + 1)) by simp only [q_upd_upd, q_upd_z, q_nb_4, q_nb_17, q_nb_19, q_nb_20, q_nb_0, q_nb_9, q_nb_18, q_fb_4, q_fb_0])
    | 15, _ => exact (show (upd (upd (q_fb z) 4 1) 0 0) = (q_fb 1) by simp only [q_upd_upd, q_upd_z, q_nb_4, q_nb_17, q_nb_19, q_nb_20, q_nb_0, q_nb_9, q_nb_18, q_fb_4, q_fb_0])
    | 16, _ => rfl
    | 17, _ => rfl
    | 18, _ => rfl
    | 19, _ => rfl
    | 20, _ => rfl
    | 21, _ => rfl
    | 22, _ => rfl
    | 23, _ => rfl
    | 24, _ => rfl
    | 25, _ => rfl
    | 26, _ => rfl
    | 27, _ => rfl
    | 28, _ => rfl
    | 29, _ => rfl
    | 30, _ => rfl
    | 31, _ => rfl
    | 32, _ => rfl
    | 33, _ => rfl
    | i + 34, hi => exact absurd hi (by omega)
  refine q_Ca_hX (q_cM_A (I := q_IM) (J := (q_mJ y pd)) hA) ?_
  refine q_Ca_of (Nat.le_of_ble_eq_true rfl) ?_
  refine q_Ru_seg (g2 := (7, [(0, .ref 64)], [.int 0], (q_cM (q_mA pix smp tr (q_nb p 1 dn ins) (q_fb z)) q_IM (q_mJ y pd), 34, 31630))) 4 (fun _ _ => rfl) ?_
  refine q_Ru_seg (g2 := (18, [(0, .ref 64)], [.int 1], (q_cM (q_mA pix smp tr (q_nb p 1 dn ins) (q_fb z)) q_IM (q_mJ y pd), 34, 31630))) 5 (fun _ _ => rfl) ?_
  refine q_Ru_seg (g2 := (33, [(0, .ref 64)], [.int 1, .int 17, .ref 78], (q_cM (q_mA pix smp tr (q_nb p 1 dn ins) (q_fb z)) q_IM (q_mJ y pd), 34, 31630))) 6 (fun _ _ => rfl) ?_
  refine q_Ru_seg (g2 := (43, [(0, .ref 64)], [.int 0], (q_cM (q_uA (q_mA pix smp tr (q_nb p 1 dn ins) (q_fb z)) 14 (upd (q_nb p 1 dn ins) 17 0)) q_IM (q_mJ y pd), 34, 31630))) 7 (fun _ _ => rfl) ?_
  refine q_Ru_seg (g2 := (55, [(0, .ref 64)], [.int dn, .int 19, .ref 78], (q_cM (q_uA (q_mA pix smp tr (q_nb p 1 dn ins) (q_fb z)) 14 (upd (q_nb p 1 dn ins) 17 0)) q_IM (q_mJ y pd), 34, 31630))) 6 (fun _ _ => rfl) ?_
  refine q_Ru_seg (g2 := (65, [(0, .ref 64)], [.int 0], (q_cM (q_uA (q_mA pix smp tr (q_nb p 1 dn ins) (q_fb z)) 14 (upd (upd (q_nb p 1 dn ins) 17 0) 19 (dn + 1))) q_IM (q_mJ y pd), 34, 31630))) 7 (fun _ _ => rfl) ?_
  refine q_Ru_seg (g2 := (96, [(0, .ref 64)], [.int p, .ref 64], (q_cM (q_uA (q_mA pix smp tr (q_nb p 1 dn ins) (q_fb z)) 14 (upd (upd (q_nb p 1 dn ins) 17 0) 19 (dn + 1))) q_IM (q_mJ y pd), 34, 31630))) 6 (fun _ _ => rfl) ?_
  refine q_Ru_call (v := none) (h2 := (q_cM (q_uA (q_uA (q_uA (q_mA pix smp tr (q_nb p 0 (dn + 1) ins) (q_fb z)) 15 (upd (upd (q_fb z) 4 1) 0 0)) 14 (upd (upd (upd (q_nb p 0 (dn + 1) ins) 0 0) 4 p2) 20 (ins + 1))) 9 (upd tr ((ins - ins / 16 * 16).toNatClampNeg) p)) q_IM (q_mJ y pd), 34, 31630)) rfl rfl ?_ ?_
  · refine q_Ca_of (Nat.le_of_ble_eq_true rfl) ?_
    refine q_Ru_seg (g2 := (2, [(0, .ref 64), (1, .int p)], [.int p, .ref 64], (q_cM (q_uA (q_mA pix smp tr (q_nb p 1 dn ins) (q_fb z)) 14 (upd (upd (q_nb p 1 dn ins) 17 0) 19 (dn + 1))) q_IM (q_mJ y pd), 34, 31630))) 2 (fun _ _ => rfl) ?_
    refine q_Ru_call (v := (some (.int 0))) (h2 := (q_cM (q_mA pix smp tr (q_nb p 0 (dn + 1) ins) (q_fb z)) q_IM (q_mJ y pd), 34, 31630)) rfl rfl ?_ ?_
    · refine q_Ca_of (Nat.le_of_ble_eq_true rfl) ?_
      refine q_Ru_seg (g2 := (2, [(0, .ref 64), (1, .int p)], [.int p, .ref 64], (q_cM (q_uA (q_mA pix smp tr (q_nb p 1 dn ins) (q_fb z)) 14 (upd (upd (q_nb p 1 dn ins) 17 0) 19 (dn + 1))) q_IM (q_mJ y pd), 34, 31630))) 2 (fun _ _ => rfl) ?_
      refine q_Ru_call (v := (some (.int p))) (h2 := (q_cM (q_uA (q_mA pix smp tr (q_nb p 1 dn ins) (q_fb z)) 14 (upd (upd (q_nb p 1 dn ins) 17 0) 19 (dn + 1))) q_IM (q_mJ y pd), 34, 31630)) rfl rfl ?_ ?_
      · refine q_Ca_of (Nat.le_of_ble_eq_true rfl) ?_
        refine q_Ru_seg (g2 := (5, [(0, .int p)], [.int (p &&& 4095)], (q_cM (q_uA (q_mA pix smp tr (q_nb p 1 dn ins) (q_fb z)) 14 (upd (upd (q_nb p 1 dn ins) 17 0) 19 (dn + 1))) q_IM (q_mJ y pd), 34, 31630))) 3 (fun _ _ => rfl) ?_
        rw [hp0]
        exact q_Ru_ret rfl rfl
      show q_Ru _ _ _ (5, [(0, .ref 64), (1, .int p)], [.int p, .ref 64], (q_cM (q_uA (q_mA pix smp tr (q_nb p 1 dn ins) (q_fb z)) 14 (upd (upd (q_nb p 1 dn ins) 17 0) 19 (dn + 1))) q_IM (q_mJ y pd), 34, 31630)) _
      have hA : ∀ i, i < 34 → (q_uA (q_mA pix smp tr (q_nb p 1 dn ins) (q_fb z)) 14 (upd (upd (q_nb p 1 dn ins) 17 0) 19 (dn + 1))) i = (q_mA pix smp tr (q_nb p 0 (dn + 1) ins) (q_fb z)) i := by
        intro i hi
        match i, hi with
        | 0, _ => rfl
        | 1, _ => rfl
        | 2, _ => rfl
        | 3, _ => rfl
        | 4, _ => rfl
        | 5, _ => rfl
        | 6, _ => rfl
        | 7, _ => rfl
        | 8, _ => rfl
        | 9, _ => rfl
        | 10, _ => rfl
        | 11, _ => rfl
        | 12, _ => rfl
        | 13, _ => rfl
        | 14, _ => exact (show (upd (upd (q_nb p 1 dn ins) 17 0) 19 (dn + 1)) = (q_nb p 0 (dn + 1) ins) by simp only [q_upd_upd, q_upd_z, q_nb_4, q_nb_17, q_nb_19, q_nb_20, q_nb_0, q_nb_9, q_nb_18, q_fb_4, q_fb_0])
        | 15, _ => rfl
        | 16, _ => rfl
        | 17, _ => rfl
        | 18, _ => rfl
        | 19, _ => rfl
        | 20, _ => rfl
        | 21, _ => rfl
        | 22, _ => rfl
        | 23, _ => rfl
        | 24, _ => rfl
        | 25, _ => rfl
        | 26, _ => rfl
        | 27, _ => rfl
        | 28, _ => rfl
        | 29, _ => rfl
        | 30, _ => rfl
        | 31, _ => rfl
        | 32, _ => rfl
        | 33, _ => rfl
        | i + 34, hi => exact absurd hi (by omega)
      refine q_Ru_hX (q_cM_A (I := q_IM) (J := (q_mJ y pd)) hA) ?_
      refine q_Ru_call (v := (some (.int 0))) (h2 := (q_cM (q_mA pix smp tr (q_nb p 0 (dn + 1) ins) (q_fb z)) q_IM (q_mJ y pd), 34, 31630)) rfl rfl ?_ ?_
      · exact (q_m_readR pix smp tr (q_nb p 0 (dn + 1) ins) (q_fb z) y pd p a0 a1).le (Nat.le_of_ble_eq_true rfl)
      show q_Ru _ _ _ (8, [(0, .ref 64), (1, .int p)], [.int 0], (q_cM (q_mA pix smp tr (q_nb p 0 (dn + 1) ins) (q_fb z)) q_IM (q_mJ y pd), 34, 31630)) _
      exact q_Ru_ret rfl rfl
    show q_Ru _ _ _ (5, [(0, .ref 64), (1, .int p)], [.int 0], (q_cM (q_mA pix smp tr (q_nb p 0 (dn + 1) ins) (q_fb z)) q_IM (q_mJ y pd), 34, 31630)) _
    refine q_Ru_seg (g2 := (7, [(2, .int 0), (0, .ref 64), (1, .int p)], [.int 0], (q_cM (q_mA pix smp tr (q_nb p 0 (dn + 1) ins) (q_fb z)) q_IM (q_mJ y pd), 34, 31630))) 2 (fun _ _ => rfl) ?_
    refine q_Ru_call (v := (some (.int 0))) (h2 := (q_cM (q_mA pix smp tr (q_nb p 0 (dn + 1) ins) (q_fb z)) q_IM (q_mJ y pd), 34, 31630)) rfl rfl ?_ ?_
    · refine q_Ca_of (Nat.le_of_ble_eq_true rfl) ?_
      refine q_Ru_seg (g2 := (42, [(0, .int 0)], [.int 0], (q_cM (q_mA pix smp tr (q_nb p 0 (dn + 1) ins) (q_fb z)) q_IM (q_mJ y pd), 34, 31630))) 7 (fun _ _ => rfl) ?_
      exact q_Ru_ret rfl rfl
    show q_Ru _ _ _ (10, [(2, .int 0), (0, .ref 64), (1, .int p)], [.int 0], (q_cM (q_mA pix smp tr (q_nb p 0 (dn + 1) ins) (q_fb z)) q_IM (q_mJ y pd), 34, 31630)) _
    refine q_Ru_seg (g2 := (16, [(3, .int 0), (2, .int 0), (0, .ref 64), (1, .int p)], [.int 0], (q_cM (q_mA pix smp tr (q_nb p 0 (dn + 1) ins) (q_fb z)) q_IM (q_mJ y pd), 34, 31630))) 4 (fun _ _ => rfl) ?_
    refine q_Ru_call (v := (some (.int 2))) (h2 := (q_cM (q_mA pix smp tr (q_nb p 0 (dn + 1) ins) (q_fb z)) q_IM (q_mJ y pd), 34, 31630)) rfl rfl ?_ ?_
    · refine q_Ca_of (Nat.le_of_ble_eq_true rfl) ?_
      refine q_Ru_seg (g2 := (1, [(0, .int 0)], [.int 0], (q_cM (q_mA pix smp tr (q_nb p 0 (dn + 1) ins) (q_fb z)) q_IM (q_mJ y pd), 34, 31630))) 1 (fun _ _ => rfl) ?_
      refine q_Ru_call (v := (some (.int 0))) (h2 := (q_cM (q_mA pix smp tr (q_nb p 0 (dn + 1) ins) (q_fb z)) q_IM (q_mJ y pd), 34, 31630)) rfl rfl ?_ ?_
      · refine q_Ca_of (Nat.le_of_ble_eq_true rfl) ?_
        refine q_Ru_seg (g2 := (42, [(0, .int 0)], [.int 0], (q_cM (q_mA pix smp tr (q_nb p 0 (dn + 1) ins) (q_fb z)) q_IM (q_mJ y pd), 34, 31630))) 7 (fun _ _ => rfl) ?_
        exact q_Ru_ret rfl rfl
      show q_Ru _ _ _ (4, [(0, .int 0)], [.int 0], (q_cM (q_mA pix smp tr (q_nb p 0 (dn + 1) ins) (q_fb z)) q_IM (q_mJ y pd), 34, 31630)) _
      refine q_Ru_seg (g2 := (15, [(1, .int 0), (0, .int 0)], [.int 5, .int 3, .int 0], (q_cM (q_mA pix smp tr (q_nb p 0 (dn + 1) ins) (q_fb z)) q_IM (q_mJ y pd), 34, 31630))) 8 (fun _ _ => rfl) ?_
      refine q_Ru_call (v := (some (.int 0))) (h2 := (q_cM (q_mA pix smp tr (q_nb p 0 (dn + 1) ins) (q_fb z)) q_IM (q_mJ y pd), 34, 31630)) rfl rfl ?_ ?_
      · refine q_Ca_of (Nat.le_of_ble_eq_true rfl) ?_
        refine q_Ru_seg (g2 := (15, [(0, .int 0), (1, .int 3), (2, .int 5)], [.int 0], (q_cM (q_mA pix smp tr (q_nb p 0 (dn + 1) ins) (q_fb z)) q_IM (q_mJ y pd), 34, 31630))) 4 (fun _ _ => rfl) ?_
        exact q_Ru_ret rfl rfl
      show q_Ru _ _ _ (18, [(1, .int 0), (0, .int 0)], [.int 0], (q_cM (q_mA pix smp tr (q_nb p 0 (dn + 1) ins) (q_fb z)) q_IM (q_mJ y pd), 34, 31630)) _
      refine q_Ru_seg (g2 := (26, [(1, .int 0), (0, .int 0)], [.int 2], (q_cM (q_mA pix smp tr (q_nb p 0 (dn + 1) ins) (q_fb z)) q_IM (q_mJ y pd), 34, 31630))) 2 (fun _ _ => rfl) ?_
      exact q_Ru_ret rfl rfl
    show q_Ru _ _ _ (19, [(3, .int 0), (2, .int 0), (0, .ref 64), (1, .int p)], [.int 2], (q_cM (q_mA pix smp tr (q_nb p 0 (dn + 1) ins) (q_fb z)) q_IM (q_mJ y pd), 34, 31630)) _
    refine q_Ru_seg (g2 := (28, [(4, .int 2), (3, .int 0), (2, .int 0), (0, .ref 64), (1, .int p)], [.int p, .int 0, .int 0, .ref 64], (q_cM (q_mA pix smp tr (q_nb p 0 (dn + 1) ins) (q_fb z)) q_IM (q_mJ y pd), 34, 31630))) 7 (fun _ _ => rfl) ?_
    refine q_Ru_call (v := none) (h2 := (q_cM (q_uA (q_uA (q_mA pix smp tr (q_nb p 0 (dn + 1) ins) (q_fb z)) 15 (upd (upd (q_fb z) 4 1) 0 0)) 14 (upd (q_nb p 0 (dn + 1) ins) 0 0)) q_IM (q_mJ y pd), 34, 31630)) rfl rfl ?_ ?_
    · refine q_Ca_of (Nat.le_of_ble_eq_true rfl) ?_
      refine q_Ru_seg (g2 := (1, [(0, .ref 64), (1, .int 0), (2, .int 0), (3, .int p)], [.int 0], (q_cM (q_mA pix smp tr (q_nb p 0 (dn + 1) ins) (q_fb z)) q_IM (q_mJ y pd), 34, 31630))) 1 (fun _ _ => rfl) ?_
      refine q_Ru_call (v := (some (.int 0))) (h2 := (q_cM (q_mA pix smp tr (q_nb p 0 (dn + 1) ins) (q_fb z)) q_IM (q_mJ y pd), 34, 31630)) rfl rfl ?_ ?_
      · refine q_Ca_of (Nat.le_of_ble_eq_true rfl) ?_
        refine q_Ru_seg (g2 := (3, [(0, .int 0)], [.int 5, .int 3, .int 0], (q_cM (q_mA pix smp tr (q_nb p 0 (dn + 1) ins) (q_fb z)) q_IM (q_mJ y pd), 34, 31630))) 3 (fun _ _ => rfl) ?_
        refine q_Ru_call (v := (some (.int 0))) (h2 := (q_cM (q_mA pix smp tr (q_nb p 0 (dn + 1) ins) (q_fb z)) q_IM (q_mJ y pd), 34, 31630)) rfl rfl ?_ ?_
        · refine q_Ca_of (Nat.le_of_ble_eq_true rfl) ?_
          refine q_Ru_seg (g2 := (15, [(0, .int 0), (1, .int 3), (2, .int 5)], [.int 0], (q_cM (q_mA pix smp tr (q_nb p 0 (dn + 1) ins) (q_fb z)) q_IM (q_mJ y pd), 34, 31630))) 4 (fun _ _ => rfl) ?_
          exact q_Ru_ret rfl rfl
        show q_Ru _ _ _ (6, [(0, .int 0)], [.int 0], (q_cM (q_mA pix smp tr (q_nb p 0 (dn + 1) ins) (q_fb z)) q_IM (q_mJ y pd), 34, 31630)) _
        refine q_Ru_seg (g2 := (14, [(0, .int 0)], [.int 15, .int 14, .int 0], (q_cM (q_mA pix smp tr (q_nb p 0 (dn + 1) ins) (q_fb z)) q_IM (q_mJ y pd), 34, 31630))) 4 (fun _ _ => rfl) ?_
        refine q_Ru_call (v := (some (.int 0))) (h2 := (q_cM (q_mA pix smp tr (q_nb p 0 (dn + 1) ins) (q_fb z)) q_IM (q_mJ y pd), 34, 31630)) rfl rfl ?_ ?_
        · refine q_Ca_of (Nat.le_of_ble_eq_true rfl) ?_
          refine q_Ru_seg (g2 := (15, [(0, .int 0), (1, .int 14), (2, .int 15)], [.int 0], (q_cM (q_mA pix smp tr (q_nb p 0 (dn + 1) ins) (q_fb z)) q_IM (q_mJ y pd), 34, 31630))) 4 (fun _ _ => rfl) ?_
          exact q_Ru_ret rfl rfl
        show q_Ru _ _ _ (17, [(0, .int 0)], [.int 0], (q_cM (q_mA pix smp tr (q_nb p 0 (dn + 1) ins) (q_fb z)) q_IM (q_mJ y pd), 34, 31630)) _
        refine q_Ru_seg (g2 := (25, [(0, .int 0)], [.int 19, .int 17, .int 0], (q_cM (q_mA pix smp tr (q_nb p 0 (dn + 1) ins) (q_fb z)) q_IM (q_mJ y pd), 34, 31630))) 4 (fun _ _ => rfl) ?_
        refine q_Ru_call (v := (some (.int 0))) (h2 := (q_cM (q_mA pix smp tr (q_nb p 0 (dn + 1) ins) (q_fb z)) q_IM (q_mJ y pd), 34, 31630)) rfl rfl ?_ ?_
        · refine q_Ca_of (Nat.le_of_ble_eq_true rfl) ?_
          refine q_Ru_seg (g2 := (15, [(0, .int 0), (1, .int 17), (2, .int 19)], [.int 0], (q_cM (q_mA pix smp tr (q_nb p 0 (dn + 1) ins) (q_fb z)) q_IM (q_mJ y pd), 34, 31630))) 4 (fun _ _ => rfl) ?_
          exact q_Ru_ret rfl rfl
        show q_Ru _ _ _ (28, [(0, .int 0)], [.int 0], (q_cM (q_mA pix smp tr (q_nb p 0 (dn + 1) ins) (q_fb z)) q_IM (q_mJ y pd), 34, 31630)) _
        refine q_Ru_seg (g2 := (36, [(0, .int 0)], [.int 0], (q_cM (q_mA pix smp tr (q_nb p 0 (dn + 1) ins) (q_fb z)) q_IM (q_mJ y pd), 34, 31630))) 2 (fun _ _ => rfl) ?_
        exact q_Ru_ret rfl rfl
      show q_Ru _ _ _ (4, [(0, .ref 64), (1, .int 0), (2, .int 0), (3, .int p)], [.int 0], (q_cM (q_mA pix smp tr (q_nb p 0 (dn + 1) ins) (q_fb z)) q_IM (q_mJ y pd), 34, 31630)) _
      refine q_Ru_seg (g2 := (35, [(0, .ref 64), (1, .int 0), (2, .int 0), (3, .int p)], [.int (p + 1), .ref 64, .int 0, .ref 64], (q_cM (q_mA pix smp tr (q_nb p 0 (dn + 1) ins) (q_fb z)) q_IM (q_mJ y pd), 34, 31630))) 9 (fun _ _ => rfl) ?_
      refine q_Ru_call (v := (some (.int 0))) (h2 := (q_cM (q_mA pix smp tr (q_nb p 0 (dn + 1) ins) (q_fb z)) q_IM (q_mJ y pd), 34, 31630)) rfl rfl ?_ ?_
      · refine q_Ca_of (Nat.le_of_ble_eq_true rfl) ?_
        refine q_Ru_seg (g2 := (2, [(0, .ref 64), (1, .int (p + 1))], [.int (p + 1), .ref 64], (q_cM (q_mA pix smp tr (q_nb p 0 (dn + 1) ins) (q_fb z)) q_IM (q_mJ y pd), 34, 31630))) 2 (fun _ _ => rfl) ?_
        refine q_Ru_call (v := (some (.int p1))) (h2 := (q_cM (q_mA pix smp tr (q_nb p 0 (dn + 1) ins) (q_fb z)) q_IM (q_mJ y pd), 34, 31630)) rfl rfl ?_ ?_
        · refine q_Ca_of (Nat.le_of_ble_eq_true rfl) ?_
          refine q_Ru_seg (g2 := (5, [(0, .int (p + 1))], [.int ((p + 1) &&& 4095)], (q_cM (q_mA pix smp tr (q_nb p 0 (dn + 1) ins) (q_fb z)) q_IM (q_mJ y pd), 34, 31630))) 3 (fun _ _ => rfl) ?_
          rw [hp1]
          exact q_Ru_ret rfl rfl
        show q_Ru _ _ _ (5, [(0, .ref 64), (1, .int (p + 1))], [.int p1, .ref 64], (q_cM (q_mA pix smp tr (q_nb p 0 (dn + 1) ins) (q_fb z)) q_IM (q_mJ y pd), 34, 31630)) _
        refine q_Ru_call (v := (some (.int 0))) (h2 := (q_cM (q_mA pix smp tr (q_nb p 0 (dn + 1) ins) (q_fb z)) q_IM (q_mJ y pd), 34, 31630)) rfl rfl ?_ ?_
        · exact (q_m_readR pix smp tr (q_nb p 0 (dn + 1) ins) (q_fb z) y pd p1 b0 b1).le (Nat.le_of_ble_eq_true rfl)
        show q_Ru _ _ _ (8, [(0, .ref 64), (1, .int (p + 1))], [.int 0], (q_cM (q_mA pix smp tr (q_nb p 0 (dn + 1) ins) (q_fb z)) q_IM (q_mJ y pd), 34, 31630)) _
        exact q_Ru_ret rfl rfl
      show q_Ru _ _ _ (38, [(0, .ref 64), (1, .int 0), (2, .int 0), (3, .int p)], [.int 0, .int 0, .ref 64], (q_cM (q_mA pix smp tr (q_nb p 0 (dn + 1) ins) (q_fb z)) q_IM (q_mJ y pd), 34, 31630)) _
      refine q_Ru_seg (g2 := (51, [(0, .ref 64), (1, .int 0), (2, .int 0), (3, .int p)], [.int 0, .int 0, .ref 64], (q_cM (q_mA pix smp tr (q_nb p 0 (dn + 1) ins) (q_fb z)) q_IM (q_mJ y pd), 34, 31630))) 1 (fun _ _ => rfl) ?_
      refine q_Ru_call (v := none) (h2 := (q_cM (q_uA (q_uA (q_mA pix smp tr (q_nb p 0 (dn + 1) ins) (q_fb z)) 15 (upd (upd (q_fb z) 4 1) 0 0)) 14 (upd (q_nb p 0 (dn + 1) ins) 0 0)) q_IM (q_mJ y pd), 34, 31630)) rfl rfl ?_ ?_
      · refine q_Ca_of (Nat.le_of_ble_eq_true rfl) ?_
        refine q_Ru_seg (g2 := (87, [(0, .ref 64), (1, .int 0), (2, .int 0)], [.int 0, .int 0, .ref 64], (q_cM (q_mA pix smp tr (q_nb p 0 (dn + 1) ins) (q_fb z)) q_IM (q_mJ y pd), 34, 31630))) 5 (fun _ _ => rfl) ?_
        refine q_Ru_call (v := none) (h2 := (q_cM (q_uA (q_uA (q_mA pix smp tr (q_nb p 0 (dn + 1) ins) (q_fb z)) 15 (upd (upd (q_fb z) 4 1) 0 0)) 14 (upd (q_nb p 0 (dn + 1) ins) 0 0)) q_IM (q_mJ y pd), 34, 31630)) rfl rfl ?_ ?_
        · refine q_Ca_of (Nat.le_of_ble_eq_true rfl) ?_
          refine q_Ru_seg (g2 := (7, [(0, .ref 64), (1, .int 0), (2, .int 0)], [.int 0, .ref 64, .int 0, .ref 78], (q_cM (q_mA pix smp tr (q_nb p 0 (dn + 1) ins) (q_fb z)) q_IM (q_mJ y pd), 34, 31630))) 5 (fun _ _ => rfl) ?_
          refine q_Ru_call (v := (some (.int 0))) (h2 := (q_cM (q_uA (q_mA pix smp tr (q_nb p 0 (dn + 1) ins) (q_fb z)) 15 (upd (upd (q_fb z) 4 1) 0 0)) q_IM (q_mJ y pd), 34, 31630)) rfl rfl ?_ ?_
          · refine q_Ca_of (Nat.le_of_ble_eq_true rfl) ?_
            refine q_Ru_seg (g2 := (33, [(0, .ref 64), (1, .int 0)], [.int 0], (q_cM (q_uA (q_mA pix smp tr (q_nb p 0 (dn + 1) ins) (q_fb z)) 15 (upd (upd (q_fb z) 4 1) 0 0)) q_IM (q_mJ y pd), 34, 31630))) 17 (fun _ _ => rfl) ?_
            exact q_Ru_ret rfl rfl
          show q_Ru _ _ _ (10, [(0, .ref 64), (1, .int 0), (2, .int 0)], [.int 0, .int 0, .ref 78], (q_cM (q_uA (q_mA pix smp tr (q_nb p 0 (dn + 1) ins) (q_fb z)) 15 (upd (upd (q_fb z) 4 1) 0 0)) q_IM (q_mJ y pd), 34, 31630)) _
          refine q_Ru_seg (g2 := (11, [(0, .ref 64), (1, .int 0), (2, .int 0)], [], (q_cM (q_uA (q_uA (q_mA pix smp tr (q_nb p 0 (dn + 1) ins) (q_fb z)) 15 (upd (upd (q_fb z) 4 1) 0 0)) 14 (upd (q_nb p 0 (dn + 1) ins) 0 0)) q_IM (q_mJ y pd), 34, 31630))) 1 (fun _ _ => rfl) ?_
          exact q_Ru_ret rfl rfl
        show q_Ru _ _ _ (90, [(0, .ref 64), (1, .int 0), (2, .int 0)], [], (q_cM (q_uA (q_uA (q_mA pix smp tr (q_nb p 0 (dn + 1) ins) (q_fb z)) 15 (upd (upd (q_fb z) 4 1) 0 0)) 14 (upd (q_nb p 0 (dn + 1) ins) 0 0)) q_IM (q_mJ y pd), 34, 31630)) _
        refine q_Ru_seg (g2 := (266, [(0, .ref 64), (1, .int 0), (2, .int 0)], [], (q_cM (q_uA (q_uA (q_mA pix smp tr (q_nb p 0 (dn + 1) ins) (q_fb z)) 15 (upd (upd (q_fb z) 4 1) 0 0)) 14 (upd (q_nb p 0 (dn + 1) ins) 0 0)) q_IM (q_mJ y pd), 34, 31630))) 1 (fun _ _ => rfl) ?_
        exact q_Ru_ret rfl rfl
      show q_Ru _ _ _ (54, [(0, .ref 64), (1, .int 0), (2, .int 0), (3, .int p)], [], (q_cM (q_uA (q_uA (q_mA pix smp tr (q_nb p 0 (dn + 1) ins) (q_fb z)) 15 (upd (upd (q_fb z) 4 1) 0 0)) 14 (upd (q_nb p 0 (dn + 1) ins) 0 0)) q_IM (q_mJ y pd), 34, 31630)) _
      exact q_Ru_ret rfl rfl
    show q_Ru _ _ _ (31, [(4, .int 2), (3, .int 0), (2, .int 0), (0, .ref 64), (1, .int p)], [], (q_cM (q_uA (q_uA (q_mA pix smp tr (q_nb p 0 (dn + 1) ins) (q_fb z)) 15 (upd (upd (q_fb z) 4 1) 0 0)) 14 (upd (q_nb p 0 (dn + 1) ins) 0 0)) q_IM (q_mJ y pd), 34, 31630)) _
    refine q_Ru_seg (g2 := (40, [(4, .int 2), (3, .int 0), (2, .int 0), (0, .ref 64), (1, .int p)], [.int (p + 2), .int 4, .ref 78], (q_cM (q_uA (q_uA (q_mA pix smp tr (q_nb p 0 (dn + 1) ins) (q_fb z)) 15 (upd (upd (q_fb z) 4 1) 0 0)) 14 (upd (q_nb p 0 (dn + 1) ins) 0 0)) q_IM (q_mJ y pd), 34, 31630))) 6 (fun _ _ => rfl) ?_
    refine q_Ru_call (v := (some (.int p2))) (h2 := (q_cM (q_uA (q_uA (q_mA pix smp tr (q_nb p 0 (dn + 1) ins) (q_fb z)) 15 (upd (upd (q_fb z) 4 1) 0 0)) 14 (upd (q_nb p 0 (dn + 1) ins) 0 0)) q_IM (q_mJ y pd), 34, 31630)) rfl rfl ?_ ?_
    · refine q_Ca_of (Nat.le_of_ble_eq_true rfl) ?_
      refine q_Ru_seg (g2 := (5, [(0, .int (p + 2))], [.int ((p + 2) &&& 4095)], (q_cM (q_uA (q_uA (q_mA pix smp tr (q_nb p 0 (dn + 1) ins) (q_fb z)) 15 (upd (upd (q_fb z) 4 1) 0 0)) 14 (upd (q_nb p 0 (dn + 1) ins) 0 0)) q_IM (q_mJ y pd), 34, 31630))) 3 (fun _ _ => rfl) ?_
      rw [hp2]
      exact q_Ru_ret rfl rfl
    show q_Ru _ _ _ (43, [(4, .int 2), (3, .int 0), (2, .int 0), (0, .ref 64), (1, .int p)], [.int p2, .int 4, .ref 78], (q_cM (q_uA (q_uA (q_mA pix smp tr (q_nb p 0 (dn + 1) ins) (q_fb z)) 15 (upd (upd (q_fb z) 4 1) 0 0)) 14 (upd (q_nb p 0 (dn + 1) ins) 0 0)) q_IM (q_mJ y pd), 34, 31630)) _
    refine q_Ru_seg (g2 := (205, [(4, .int 2), (3, .int 0), (2, .int 0), (0, .ref 64), (1, .int p)], [.int ins, .ref 73], (q_cM (q_uA (q_uA (q_mA pix smp tr (q_nb p 0 (dn + 1) ins) (q_fb z)) 15 (upd (upd (q_fb z) 4 1) 0 0)) 14 (upd (upd (q_nb p 0 (dn + 1) ins) 0 0) 4 p2)) q_IM (q_mJ y pd), 34, 31630))) 8 (fun _ _ => rfl) ?_
    refine q_Ru_seg (g2 := (209, [(4, .int 2), (3, .int 0), (2, .int 0), (0, .ref 64), (1, .int p)], [.int p, .int (ins - ins / 16 * 16), .ref 73], (q_cM (q_uA (q_uA (q_mA pix smp tr (q_nb p 0 (dn + 1) ins) (q_fb z)) 15 (upd (upd (q_fb z) 4 1) 0 0)) 14 (upd (upd (q_nb p 0 (dn + 1) ins) 0 0) 4 p2)) q_IM (q_mJ y pd), 34, 31630))) 3 (fun _ _ => rfl) ?_
    have iy25 := (q_tbl1 (fun ins => q_in (ins - ins / 16 * 16) 16) (l := 0) (n := 1000) (by decide +kernel) i0 i1)
    generalize (ins - ins / 16 * 16) = y25 at iy25 ⊢
    refine q_Ru_rsT (g2 := (210, [(4, .int 2), (3, .int 0), (2, .int 0), (0, .ref 64), (1, .int p)], [], (q_cM (q_uA (q_uA (q_uA (q_mA pix smp tr (q_nb p 0 (dn + 1) ins) (q_fb z)) 15 (upd (upd (q_fb z) 4 1) 0 0)) 14 (upd (upd (q_nb p 0 (dn + 1) ins) 0 0) 4 p2)) 9 (upd tr (y25.toNatClampNeg) p)) q_IM (q_mJ y pd), 34, 31630))) rfl q_astM_9 iy25 ?_
    generalize (upd tr (y25.toNatClampNeg) p) = w26
    refine q_Ru_seg (g2 := (218, [(4, .int 2), (3, .int 0), (2, .int 0), (0, .ref 64), (1, .int p)], [.int ins, .int 20, .ref 78], (q_cM (q_uA (q_uA (q_uA (q_mA pix smp tr (q_nb p 0 (dn + 1) ins) (q_fb z)) 15 (upd (upd (q_fb z) 4 1) 0 0)) 14 (upd (upd (q_nb p 0 (dn + 1) ins) 0 0) 4 p2)) 9 w26) q_IM (q_mJ y pd), 34, 31630))) 5 (fun _ _ => rfl) ?_
    refine q_Ru_seg (g2 := (221, [(4, .int 2), (3, .int 0), (2, .int 0), (0, .ref 64), (1, .int p)], [], (q_cM (q_uA (q_uA (q_uA (q_mA pix smp tr (q_nb p 0 (dn + 1) ins) (q_fb z)) 15 (upd (upd (q_fb z) 4 1) 0 0)) 14 (upd (upd (upd (q_nb p 0 (dn + 1) ins) 0 0) 4 p2) 20 (ins + 1))) 9 w26) q_IM (q_mJ y pd), 34, 31630))) 3 (fun _ _ => rfl) ?_
    exact q_Ru_ret rfl rfl
  show q_Ru _ _ _ (99, [(0, .ref 64)], [], (q_cM (q_uA (q_uA (q_uA (q_mA pix smp tr (q_nb p 0 (dn + 1) ins) (q_fb z)) 15 (upd (upd (q_fb z) 4 1) 0 0)) 14 (upd (upd (upd (q_nb p 0 (dn + 1) ins) 0 0) 4 p2) 20 (ins + 1))) 9 (upd tr ((ins - ins / 16 * 16).toNatClampNeg) p)) q_IM (q_mJ y pd), 34, 31630)) _
  exact q_Ru_ret rfl rfl
