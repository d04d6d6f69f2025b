set_option maxHeartbeats 4000000 in
theorem q_p_meet (pix smp tr a16 a17 a21 a22 : Nat → Int32) (t14 t19 p F left dn ins : Int32) (y : Int64) (pos col lin pq : Int32) (hC : (y - y / 24 * 24).toInt32 = col) (hP : (y - y / 960 * 960).toInt32 = pos) (hL : pos / 24 = lin) (hQ : lg_cmp (y / 960 - y / 960 / 2 * 2) 0 = pq) (c0 : 0 ≤ col.toInt) (c1 : col.toInt ≤ 23) (l0 : 0 ≤ lin.toInt) (l1 : lin.toInt ≤ 39) : q_Ca q_TB0 4 101 [.ref 66] (q_cX (q_rA pix smp tr a16 a17 a21 a22) (q_rI t14 t19 p F left dn ins) (q_rJ y), 40, 26520) (.inl none, (q_cX (q_rA pix smp tr a16 a17 a21 a22) (q_rI t14 t19 p F left dn ins) (q_rJ y), 40, 26520)) := by
  cases h149 : decide (col = 0) with
  | true =>
    cases h150 : decide (lin = 0) with
    | true =>
      have hA : ∀ i, i < 40 → (q_uA (q_rA pix smp tr a16 a17 a21 a22) 5 (upd (upd (fun _ => 0) 10 1) 10 1)) i = (q_rA pix smp tr a16 a17 a21 a22) i := by
        intro i hi
        match i, hi with
        | 0, _ => rfl
        | 1, _ => rfl
        | 2, _ => rfl
        | 3, _ => rfl
        | 4, _ => rfl
        | 5, _ => exact (show (upd (upd (fun _ => 0) 10 1) 10 1) = (upd (fun _ => 0) 10 1) by simp only [q_upd_upd, q_upd_z])
        | 6, _ => rfl
        | 7, _ => rfl
        | 8, _ => rfl
        | 9, _ => rfl
        | 10, _ => rfl
        | 11, _ => rfl
        | 12, _ => rfl
        | 13, _ => rfl
        | 14, _ => rfl
        | 15, _ => rfl
        | 16, _ => rfl
        | 17, _ => rfl
        | 18, _ => rfl
        | 19, _ => rfl
        | 20, _ => rfl
        | 21, _ => rfl
        | 22, _ => rfl
        | 23, _ => rfl
        | 24, _ => rfl
        | 25, _ => rfl
        | 26, _ => rfl
        | 27, _ => rfl
        | 28, _ => rfl
        | 29, _ => rfl
        | 30, _ => rfl
        | 31, _ => rfl
        | 32, _ => rfl
        | 33, _ => rfl
        | 34, _ => rfl
        | 35, _ => rfl
        | 36, _ => rfl
        | 37, _ => rfl
        | 38, _ => rfl
        | 39, _ => rfl
        | i + 40, hi => exact absurd hi (by omega)
      refine q_Ca_hX (q_cX_A (I := (q_rI t14 t19 p F left dn ins)) (J := (q_rJ y)) hA) ?_
      refine q_Ca_of (Nat.le_of_ble_eq_true rfl) ?_
      refine q_Ru_seg (g2 := (1, [(0, .ref 66)], [.ref 66], (q_cX (q_rA pix smp tr a16 a17 a21 a22) (q_rI t14 t19 p F left dn ins) (q_rJ y), 40, 26520))) 1 (fun _ _ => rfl) ?_
      refine q_Ru_call (v := (some (.int col))) (h2 := (q_cX (q_rA pix smp tr a16 a17 a21 a22) (q_rI t14 t19 p F left dn ins) (q_rJ y), 40, 26520)) rfl rfl ?_ ?_
      · refine q_Ca_of (Nat.le_of_ble_eq_true rfl) ?_
        refine q_Ru_seg (g2 := (4, [(0, .ref 66)], [.long y], (q_cX (q_rA pix smp tr a16 a17 a21 a22) (q_rI t14 t19 p F left dn ins) (q_rJ y), 40, 26520))) 2 (fun _ _ => rfl) ?_
        refine q_Ru_seg (g2 := (9, [(0, .ref 66)], [.int ((y - y / 24 * 24).toInt32)], (q_cX (q_rA pix smp tr a16 a17 a21 a22) (q_rI t14 t19 p F left dn ins) (q_rJ y), 40, 26520))) 3 (fun _ _ => rfl) ?_
        rw [hC]
        exact q_Ru_ret rfl rfl
      show q_Ru _ _ _ (4, [(0, .ref 66)], [.int col], (q_cX (q_rA pix smp tr a16 a17 a21 a22) (q_rI t14 t19 p F left dn ins) (q_rJ y), 40, 26520)) _
      refine q_Ru_rsF (g2 := (7, [(0, .ref 66)], [], (q_cX (q_rA pix smp tr a16 a17 a21 a22) (q_rI t14 t19 p F left dn ins) (q_rJ y), 40, 26520))) rfl rfl (q_d_neT h149) ?_
      refine q_Ru_seg (g2 := (8, [(0, .ref 66)], [.ref 66], (q_cX (q_rA pix smp tr a16 a17 a21 a22) (q_rI t14 t19 p F left dn ins) (q_rJ y), 40, 26520))) 1 (fun _ _ => rfl) ?_
      refine q_Ru_call (v := (some (.int pos))) (h2 := (q_cX (q_rA pix smp tr a16 a17 a21 a22) (q_rI t14 t19 p F left dn ins) (q_rJ y), 40, 26520)) rfl rfl ?_ ?_
      · refine q_Ca_of (Nat.le_of_ble_eq_true rfl) ?_
        refine q_Ru_seg (g2 := (4, [(0, .ref 66)], [.long y], (q_cX (q_rA pix smp tr a16 a17 a21 a22) (q_rI t14 t19 p F left dn ins) (q_rJ y), 40, 26520))) 2 (fun _ _ => rfl) ?_
        refine q_Ru_seg (g2 := (9, [(0, .ref 66)], [.int ((y - y / 960 * 960).toInt32)], (q_cX (q_rA pix smp tr a16 a17 a21 a22) (q_rI t14 t19 p F left dn ins) (q_rJ y), 40, 26520))) 3 (fun _ _ => rfl) ?_
        rw [hP]
        exact q_Ru_ret rfl rfl
      show q_Ru _ _ _ (11, [(0, .ref 66)], [.int pos], (q_cX (q_rA pix smp tr a16 a17 a21 a22) (q_rI t14 t19 p F left dn ins) (q_rJ y), 40, 26520)) _
      refine q_Ru_seg (g2 := (14, [(0, .ref 66)], [.int (pos / 24)], (q_cX (q_rA pix smp tr a16 a17 a21 a22) (q_rI t14 t19 p F left dn ins) (q_rJ y), 40, 26520))) 2 (fun _ _ => rfl) ?_
      rw [hL]
      refine q_Ru_seg (g2 := (24, [(0, .ref 66)], [.int 0, .int lin], (q_cX (q_rA pix smp tr a16 a17 a21 a22) (q_rI t14 t19 p F left dn ins) (q_rJ y), 40, 26520))) 5 (fun _ _ => rfl) ?_
      refine q_Ru_rsF (g2 := (27, [(0, .ref 66)], [], (q_cX (q_rA pix smp tr a16 a17 a21 a22) (q_rI t14 t19 p F left dn ins) (q_rJ y), 40, 26520))) rfl rfl (q_d_neT h150) ?_
      refine q_Ru_seg (g2 := (38, [(0, .ref 66)], [.int 1, .int 10, .ref 69], (q_cX (q_rA pix smp tr a16 a17 a21 a22) (q_rI t14 t19 p F left dn ins) (q_rJ y), 40, 26520))) 6 (fun _ _ => rfl) ?_
      refine q_Ru_seg (g2 := (41, [(0, .ref 66)], [], (q_cX (q_uA (q_rA pix smp tr a16 a17 a21 a22) 5 (upd (upd (fun _ => 0) 10 1) 10 1)) (q_rI t14 t19 p F left dn ins) (q_rJ y), 40, 26520))) 3 (fun _ _ => rfl) ?_
      exact q_Ru_ret rfl rfl
    | false =>
      refine q_Ca_of (Nat.le_of_ble_eq_true rfl) ?_
      refine q_Ru_seg (g2 := (1, [(0, .ref 66)], [.ref 66], (q_cX (q_rA pix smp tr a16 a17 a21 a22) (q_rI t14 t19 p F left dn ins) (q_rJ y), 40, 26520))) 1 (fun _ _ => rfl) ?_
      refine q_Ru_call (v := (some (.int col))) (h2 := (q_cX (q_rA pix smp tr a16 a17 a21 a22) (q_rI t14 t19 p F left dn ins) (q_rJ y), 40, 26520)) rfl rfl ?_ ?_
      · refine q_Ca_of (Nat.le_of_ble_eq_true rfl) ?_
        refine q_Ru_seg (g2 := (4, [(0, .ref 66)], [.long y], (q_cX (q_rA pix smp tr a16 a17 a21 a22) (q_rI t14 t19 p F left dn ins) (q_rJ y), 40, 26520))) 2 (fun _ _ => rfl) ?_
        refine q_Ru_seg (g2 := (9, [(0, .ref 66)], [.int ((y - y / 24 * 24).toInt32)], (q_cX (q_rA pix smp tr a16 a17 a21 a22) (q_rI t14 t19 p F left dn ins) (q_rJ y), 40, 26520))) 3 (fun _ _ => rfl) ?_
        rw [hC]
        exact q_Ru_ret rfl rfl
      show q_Ru _ _ _ (4, [(0, .ref 66)], [.int col], (q_cX (q_rA pix smp tr a16 a17 a21 a22) (q_rI t14 t19 p F left dn ins) (q_rJ y), 40, 26520)) _
      refine q_Ru_rsF (g2 := (7, [(0, .ref 66)], [], (q_cX (q_rA pix smp tr a16 a17 a21 a22) (q_rI t14 t19 p F left dn ins) (q_rJ y), 40, 26520))) rfl rfl (q_d_neT h149) ?_
      refine q_Ru_seg (g2 := (8, [(0, .ref 66)], [.ref 66], (q_cX (q_rA pix smp tr a16 a17 a21 a22) (q_rI t14 t19 p F left dn ins) (q_rJ y), 40, 26520))) 1 (fun _ _ => rfl) ?_
      refine q_Ru_call (v := (some (.int pos))) (h2 := (q_cX (q_rA pix smp tr a16 a17 a21 a22) (q_rI t14 t19 p F left dn ins) (q_rJ y), 40, 26520)) rfl rfl ?_ ?_
      · refine q_Ca_of (Nat.le_of_ble_eq_true rfl) ?_
        refine q_Ru_seg (g2 := (4, [(0, .ref 66)], [.long y], (q_cX (q_rA pix smp tr a16 a17 a21 a22) (q_rI t14 t19 p F left dn ins) (q_rJ y), 40, 26520))) 2 (fun _ _ => rfl) ?_
        refine q_Ru_seg (g2 := (9, [(0, .ref 66)], [.int ((y - y / 960 * 960).toInt32)], (q_cX (q_rA pix smp tr a16 a17 a21 a22) (q_rI t14 t19 p F left dn ins) (q_rJ y), 40, 26520))) 3 (fun _ _ => rfl) ?_
        rw [hP]
        exact q_Ru_ret rfl rfl
      show q_Ru _ _ _ (11, [(0, .ref 66)], [.int pos], (q_cX (q_rA pix smp tr a16 a17 a21 a22) (q_rI t14 t19 p F left dn ins) (q_rJ y), 40, 26520)) _
      refine q_Ru_seg (g2 := (14, [(0, .ref 66)], [.int (pos / 24)], (q_cX (q_rA pix smp tr a16 a17 a21 a22) (q_rI t14 t19 p F left dn ins) (q_rJ y), 40, 26520))) 2 (fun _ _ => rfl) ?_
      rw [hL]
      refine q_Ru_seg (g2 := (24, [(0, .ref 66)], [.int 0, .int lin], (q_cX (q_rA pix smp tr a16 a17 a21 a22) (q_rI t14 t19 p F left dn ins) (q_rJ y), 40, 26520))) 5 (fun _ _ => rfl) ?_
      refine q_Ru_rsT (g2 := (41, [(0, .ref 66)], [], (q_cX (q_rA pix smp tr a16 a17 a21 a22) (q_rI t14 t19 p F left dn ins) (q_rJ y), 40, 26520))) rfl rfl (q_d_neF h150) ?_
      exact q_Ru_ret rfl rfl
  | false =>
    refine q_Ca_of (Nat.le_of_ble_eq_true rfl) ?_
    refine q_Ru_seg (g2 := (1, [(0, .ref 66)], [.ref 66], (q_cX (q_rA pix smp tr a16 a17 a21 a22) (q_rI t14 t19 p F left dn ins) (q_rJ y), 40, 26520))) 1 (fun _ _ => rfl) ?_
    refine q_Ru_call (v := (some (.int col))) (h2 := (q_cX (q_rA pix smp tr a16 a17 a21 a22) (q_rI t14 t19 p F left dn ins) (q_rJ y), 40, 26520)) rfl rfl ?_ ?_
    · refine q_Ca_of (Nat.le_of_ble_eq_true rfl) ?_
      refine q_Ru_seg (g2 := (4, [(0, .ref 66)], [.long y], (q_cX (q_rA pix smp tr a16 a17 a21 a22) (q_rI t14 t19 p F left dn ins) (q_rJ y), 40, 26520))) 2 (fun _ _ => rfl) ?_
      refine q_Ru_seg (g2 := (9, [(0, .ref 66)], [.int ((y - y / 24 * 24).toInt32)], (q_cX (q_rA pix smp tr a16 a17 a21 a22) (q_rI t14 t19 p F left dn ins) (q_rJ y), 40, 26520))) 3 (fun _ _ => rfl) ?_
      rw [hC]
      exact q_Ru_ret rfl rfl
    show q_Ru _ _ _ (4, [(0, .ref 66)], [.int col], (q_cX (q_rA pix smp tr a16 a17 a21 a22) (q_rI t14 t19 p F left dn ins) (q_rJ y), 40, 26520)) _
    refine q_Ru_rsT (g2 := (41, [(0, .ref 66)], [], (q_cX (q_rA pix smp tr a16 a17 a21 a22) (q_rI t14 t19 p F left dn ins) (q_rJ y), 40, 26520))) rfl rfl (q_d_neF h149) ?_
    exact q_Ru_ret rfl rfl
set_option maxHeartbeats 4000000 in
theorem q_p_count (pix smp tr a16 a17 a21 a22 : Nat → Int32) (t14 t19 p F left dn ins : Int32) (y : Int64) (pos col lin pq : Int32) (hC : (y - y / 24 * 24).toInt32 = col) (hP : (y - y / 960 * 960).toInt32 = pos) (hL : pos / 24 = lin) (hQ : lg_cmp (y / 960 - y / 960 / 2 * 2) 0 = pq) (c0 : 0 ≤ col.toInt) (c1 : col.toInt ≤ 23) (l0 : 0 ≤ lin.toInt) (l1 : lin.toInt ≤ 39) : q_Ca q_TB0 4 104 [.ref 66] (q_cX (q_rA pix smp tr a16 a17 a21 a22) (q_rI t14 t19 p F left dn ins) (q_rJ y), 40, 26520) (.inl none, (q_cX (q_rA pix smp tr a16 a17 a21 a22) (q_rI t14 t19 p F left dn ins) (q_rJ y), 40, 26520)) := by
  refine q_Ca_of (Nat.le_of_ble_eq_true rfl) ?_
  refine q_Ru_seg (g2 := (10, [(0, .ref 66)], [.int 0], (q_cX (q_rA pix smp tr a16 a17 a21 a22) (q_rI t14 t19 p F left dn ins) (q_rJ y), 40, 26520))) 5 (fun _ _ => rfl) ?_
  refine q_Ru_seg (g2 := (49, [(2, .int 0), (1, .int 0), (0, .ref 66)], [], (q_cX (q_rA pix smp tr a16 a17 a21 a22) (q_rI t14 t19 p F left dn ins) (q_rJ y), 40, 26520))) 13 (fun _ _ => rfl) ?_
  exact q_Ru_ret rfl rfl
set_option maxHeartbeats 4000000 in
theorem q_p_tape (pix smp tr a16 a17 a21 a22 : Nat → Int32) (t14 t19 p F left dn ins : Int32) (y : Int64) (pos col lin pq : Int32) (hC : (y - y / 24 * 24).toInt32 = col) (hP : (y - y / 960 * 960).toInt32 = pos) (hL : pos / 24 = lin) (hQ : lg_cmp (y / 960 - y / 960 / 2 * 2) 0 = pq) (c0 : 0 ≤ col.toInt) (c1 : col.toInt ≤ 23) (l0 : 0 ≤ lin.toInt) (l1 : lin.toInt ≤ 39) : q_Ca q_TB0 4 106 [.ref 66] (q_cX (q_rA pix smp tr a16 a17 a21 a22) (q_rI t14 t19 p F left dn ins) (q_rJ y), 40, 26520) (.inl none, (q_cX (q_rA pix smp tr a16 a17 a21 a22) (q_rI t14 t19 p F left dn ins) (q_rJ y), 40, 26520)) := by
  refine q_Ca_of (Nat.le_of_ble_eq_true rfl) ?_
  refine q_Ru_seg (g2 := (10, [(0, .ref 66)], [.int 0], (q_cX (q_rA pix smp tr a16 a17 a21 a22) (q_rI t14 t19 p F left dn ins) (q_rJ y), 40, 26520))) 5 (fun _ _ => rfl) ?_
  refine q_Ru_seg (g2 := (39, [(0, .ref 66)], [], (q_cX (q_rA pix smp tr a16 a17 a21 a22) (q_rI t14 t19 p F left dn ins) (q_rJ y), 40, 26520))) 2 (fun _ _ => rfl) ?_
  exact q_Ru_ret rfl rfl
theorem q_pic01 (lin col : Int32) : q_picX lin col = 0 ∨ q_picX lin col = 1 := by
  unfold q_picX
  cases (decide (col < 8) && (decide (3 < lin) && (decide (lin < 36) && decide ((lin - 4) - (lin - 4) / 8 * 8 = 0)))) with
  | true => exact Or.inr rfl
  | false => exact Or.inl rfl
set_option maxHeartbeats 4000000 in
theorem q_p_pass0 (pix smp tr a16 a17 a21 a22 : Nat → Int32) (t14 t19 p F left dn ins : Int32) (y : Int64) (pos col lin pq : Int32) (hC : (y - y / 24 * 24).toInt32 = col) (hP : (y - y / 960 * 960).toInt32 = pos) (hL : pos / 24 = lin) (hQ : lg_cmp (y / 960 - y / 960 / 2 * 2) 0 = pq) (c0 : 0 ≤ col.toInt) (c1 : col.toInt ≤ 23) (l0 : 0 ≤ lin.toInt) (l1 : lin.toInt ≤ 39) (hpic : q_picX lin col = 0) : ∃ pix2 smp2 t142 t192, q_Ca q_TB0 6 83 [.ref 65] (q_cX (q_rA pix smp tr a16 a17 a21 a22) (q_rI t14 t19 p F left dn ins) (q_rJ y), 40, 26520) (.inl (some (.int 0)), (q_cX (q_rA pix2 smp2 tr a16 a17 a21 a22) (q_rI t142 t192 p F left dn ins) (q_rJ y), 40, 26520)) := by
  cases h151 : decide (col = 23) with
  | true =>
    obtain ⟨x13, u13, w13, p13⟩ := q_p_draw pix smp tr a16 a17 a21 a22 t14 t19 p F left dn ins y pos col lin pq hC hP hL hQ c0 c1 l0 l1
    obtain ⟨x16, p16⟩ := q_p_sound x13 smp tr a16 a17 a21 a22 u13 w13 p F left dn ins y pos col lin pq hC hP hL hQ c0 c1 l0 l1
    refine ⟨x13, x16, u13, w13, ?_⟩
    refine q_Ca_of (Nat.le_of_ble_eq_true rfl) ?_
    refine q_Ru_seg (g2 := (4, [(0, .ref 65)], [.ref 66], (q_cX (q_rA pix smp tr a16 a17 a21 a22) (q_rI t14 t19 p F left dn ins) (q_rJ y), 40, 26520))) 2 (fun _ _ => rfl) ?_
    refine q_Ru_call (v := none) (h2 := (q_cX (q_rA pix smp tr a16 a17 a21 a22) (q_rI t14 t19 p F left dn ins) (q_rJ y), 40, 26520)) rfl rfl ?_ ?_
    · exact (q_p_meet pix smp tr a16 a17 a21 a22 t14 t19 p F left dn ins y pos col lin pq hC hP hL hQ c0 c1 l0 l1 ).le (Nat.le_of_ble_eq_true rfl)
    show q_Ru _ _ _ (7, [(0, .ref 65)], [], (q_cX (q_rA pix smp tr a16 a17 a21 a22) (q_rI t14 t19 p F left dn ins) (q_rJ y), 40, 26520)) _
    refine q_Ru_seg (g2 := (11, [(0, .ref 65)], [.ref 66], (q_cX (q_rA pix smp tr a16 a17 a21 a22) (q_rI t14 t19 p F left dn ins) (q_rJ y), 40, 26520))) 2 (fun _ _ => rfl) ?_
    refine q_Ru_call (v := (some (.int 0))) (h2 := (q_cX (q_rA pix smp tr a16 a17 a21 a22) (q_rI t14 t19 p F left dn ins) (q_rJ y), 40, 26520)) rfl rfl ?_ ?_
    · exact (by have e := q_p_picX pix smp tr a16 a17 a21 a22 t14 t19 p F left dn ins y pos col lin pq hC hP hL hQ c0 c1 l0 l1; rw [hpic] at e; exact e.le (Nat.le_of_ble_eq_true rfl))
    show q_Ru _ _ _ (14, [(0, .ref 65)], [.int 0], (q_cX (q_rA pix smp tr a16 a17 a21 a22) (q_rI t14 t19 p F left dn ins) (q_rJ y), 40, 26520)) _
    refine q_Ru_seg (g2 := (23, [(1, .int 0), (0, .ref 65)], [.ref 96, .ref 66], (q_cX (q_rA pix smp tr a16 a17 a21 a22) (q_rI t14 t19 p F left dn ins) (q_rJ y), 40, 26520))) 5 (fun _ _ => rfl) ?_
    refine q_Ru_call (v := none) (h2 := (q_cX (q_rA x13 smp tr a16 a17 a21 a22) (q_rI u13 w13 p F left dn ins) (q_rJ y), 40, 26520)) rfl rfl ?_ ?_
    · exact p13.le (Nat.le_of_ble_eq_true rfl)
    show q_Ru _ _ _ (26, [(1, .int 0), (0, .ref 65)], [], (q_cX (q_rA x13 smp tr a16 a17 a21 a22) (q_rI u13 w13 p F left dn ins) (q_rJ y), 40, 26520)) _
    refine q_Ru_seg (g2 := (30, [(1, .int 0), (0, .ref 65)], [.ref 66], (q_cX (q_rA x13 smp tr a16 a17 a21 a22) (q_rI u13 w13 p F left dn ins) (q_rJ y), 40, 26520))) 2 (fun _ _ => rfl) ?_
    refine q_Ru_call (v := none) (h2 := (q_cX (q_rA x13 smp tr a16 a17 a21 a22) (q_rI u13 w13 p F left dn ins) (q_rJ y), 40, 26520)) rfl rfl ?_ ?_
    · exact (q_p_count x13 smp tr a16 a17 a21 a22 u13 w13 p F left dn ins y pos col lin pq hC hP hL hQ c0 c1 l0 l1 ).le (Nat.le_of_ble_eq_true rfl)
    show q_Ru _ _ _ (33, [(1, .int 0), (0, .ref 65)], [], (q_cX (q_rA x13 smp tr a16 a17 a21 a22) (q_rI u13 w13 p F left dn ins) (q_rJ y), 40, 26520)) _
    refine q_Ru_seg (g2 := (37, [(1, .int 0), (0, .ref 65)], [.ref 66], (q_cX (q_rA x13 smp tr a16 a17 a21 a22) (q_rI u13 w13 p F left dn ins) (q_rJ y), 40, 26520))) 2 (fun _ _ => rfl) ?_
    refine q_Ru_call (v := none) (h2 := (q_cX (q_rA x13 smp tr a16 a17 a21 a22) (q_rI u13 w13 p F left dn ins) (q_rJ y), 40, 26520)) rfl rfl ?_ ?_
    · exact (q_p_tape x13 smp tr a16 a17 a21 a22 u13 w13 p F left dn ins y pos col lin pq hC hP hL hQ c0 c1 l0 l1 ).le (Nat.le_of_ble_eq_true rfl)
    show q_Ru _ _ _ (40, [(1, .int 0), (0, .ref 65)], [], (q_cX (q_rA x13 smp tr a16 a17 a21 a22) (q_rI u13 w13 p F left dn ins) (q_rJ y), 40, 26520)) _
    refine q_Ru_seg (g2 := (44, [(1, .int 0), (0, .ref 65)], [.ref 66], (q_cX (q_rA x13 smp tr a16 a17 a21 a22) (q_rI u13 w13 p F left dn ins) (q_rJ y), 40, 26520))) 2 (fun _ _ => rfl) ?_
    refine q_Ru_call (v := (some (.int col))) (h2 := (q_cX (q_rA x13 smp tr a16 a17 a21 a22) (q_rI u13 w13 p F left dn ins) (q_rJ y), 40, 26520)) rfl rfl ?_ ?_
    · refine q_Ca_of (Nat.le_of_ble_eq_true rfl) ?_
      refine q_Ru_seg (g2 := (4, [(0, .ref 66)], [.long y], (q_cX (q_rA x13 smp tr a16 a17 a21 a22) (q_rI u13 w13 p F left dn ins) (q_rJ y), 40, 26520))) 2 (fun _ _ => rfl) ?_
      refine q_Ru_seg (g2 := (9, [(0, .ref 66)], [.int ((y - y / 24 * 24).toInt32)], (q_cX (q_rA x13 smp tr a16 a17 a21 a22) (q_rI u13 w13 p F left dn ins) (q_rJ y), 40, 26520))) 3 (fun _ _ => rfl) ?_
      rw [hC]
      exact q_Ru_ret rfl rfl
    show q_Ru _ _ _ (47, [(1, .int 0), (0, .ref 65)], [.int col], (q_cX (q_rA x13 smp tr a16 a17 a21 a22) (q_rI u13 w13 p F left dn ins) (q_rJ y), 40, 26520)) _
    refine q_Ru_seg (g2 := (49, [(1, .int 0), (0, .ref 65)], [.int 23, .int col], (q_cX (q_rA x13 smp tr a16 a17 a21 a22) (q_rI u13 w13 p F left dn ins) (q_rJ y), 40, 26520))) 1 (fun _ _ => rfl) ?_
    refine q_Ru_rsF (g2 := (52, [(1, .int 0), (0, .ref 65)], [], (q_cX (q_rA x13 smp tr a16 a17 a21 a22) (q_rI u13 w13 p F left dn ins) (q_rJ y), 40, 26520))) rfl rfl (q_d_neT h151) ?_
    refine q_Ru_seg (g2 := (70, [(1, .int 0), (0, .ref 65)], [.ref 66, .ref 69, .ref 90], (q_cX (q_rA x13 smp tr a16 a17 a21 a22) (q_rI u13 w13 p F left dn ins) (q_rJ y), 40, 26520))) 8 (fun _ _ => rfl) ?_
    refine q_Ru_call (v := (some (.int pos))) (h2 := (q_cX (q_rA x13 smp tr a16 a17 a21 a22) (q_rI u13 w13 p F left dn ins) (q_rJ y), 40, 26520)) rfl rfl ?_ ?_
    · refine q_Ca_of (Nat.le_of_ble_eq_true rfl) ?_
      refine q_Ru_seg (g2 := (4, [(0, .ref 66)], [.long y], (q_cX (q_rA x13 smp tr a16 a17 a21 a22) (q_rI u13 w13 p F left dn ins) (q_rJ y), 40, 26520))) 2 (fun _ _ => rfl) ?_
      refine q_Ru_seg (g2 := (9, [(0, .ref 66)], [.int ((y - y / 960 * 960).toInt32)], (q_cX (q_rA x13 smp tr a16 a17 a21 a22) (q_rI u13 w13 p F left dn ins) (q_rJ y), 40, 26520))) 3 (fun _ _ => rfl) ?_
      rw [hP]
      exact q_Ru_ret rfl rfl
    show q_Ru _ _ _ (73, [(1, .int 0), (0, .ref 65)], [.int pos, .ref 69, .ref 90], (q_cX (q_rA x13 smp tr a16 a17 a21 a22) (q_rI u13 w13 p F left dn ins) (q_rJ y), 40, 26520)) _
    refine q_Ru_seg (g2 := (76, [(1, .int 0), (0, .ref 65)], [.int (pos / 24), .ref 69, .ref 90], (q_cX (q_rA x13 smp tr a16 a17 a21 a22) (q_rI u13 w13 p F left dn ins) (q_rJ y), 40, 26520))) 2 (fun _ _ => rfl) ?_
    rw [hL]
    refine q_Ru_call (v := none) (h2 := (q_cX (q_rA x13 x16 tr a16 a17 a21 a22) (q_rI u13 w13 p F left dn ins) (q_rJ y), 40, 26520)) rfl rfl ?_ ?_
    · exact p16.le (Nat.le_of_ble_eq_true rfl)
    show q_Ru _ _ _ (79, [(1, .int 0), (0, .ref 65)], [], (q_cX (q_rA x13 x16 tr a16 a17 a21 a22) (q_rI u13 w13 p F left dn ins) (q_rJ y), 40, 26520)) _
    refine q_Ru_seg (g2 := (80, [(1, .int 0), (0, .ref 65)], [.int 0], (q_cX (q_rA x13 x16 tr a16 a17 a21 a22) (q_rI u13 w13 p F left dn ins) (q_rJ y), 40, 26520))) 1 (fun _ _ => rfl) ?_
    exact q_Ru_ret rfl rfl
  | false =>
    obtain ⟨x18, u18, w18, p18⟩ := q_p_draw pix smp tr a16 a17 a21 a22 t14 t19 p F left dn ins y pos col lin pq hC hP hL hQ c0 c1 l0 l1
    refine ⟨x18, smp, u18, w18, ?_⟩
    refine q_Ca_of (Nat.le_of_ble_eq_true rfl) ?_
    refine q_Ru_seg (g2 := (4, [(0, .ref 65)], [.ref 66], (q_cX (q_rA pix smp tr a16 a17 a21 a22) (q_rI t14 t19 p F left dn ins) (q_rJ y), 40, 26520))) 2 (fun _ _ => rfl) ?_
    refine q_Ru_call (v := none) (h2 := (q_cX (q_rA pix smp tr a16 a17 a21 a22) (q_rI t14 t19 p F left dn ins) (q_rJ y), 40, 26520)) rfl rfl ?_ ?_
    · exact (q_p_meet pix smp tr a16 a17 a21 a22 t14 t19 p F left dn ins y pos col lin pq hC hP hL hQ c0 c1 l0 l1 ).le (Nat.le_of_ble_eq_true rfl)
    show q_Ru _ _ _ (7, [(0, .ref 65)], [], (q_cX (q_rA pix smp tr a16 a17 a21 a22) (q_rI t14 t19 p F left dn ins) (q_rJ y), 40, 26520)) _
    refine q_Ru_seg (g2 := (11, [(0, .ref 65)], [.ref 66], (q_cX (q_rA pix smp tr a16 a17 a21 a22) (q_rI t14 t19 p F left dn ins) (q_rJ y), 40, 26520))) 2 (fun _ _ => rfl) ?_
    refine q_Ru_call (v := (some (.int 0))) (h2 := (q_cX (q_rA pix smp tr a16 a17 a21 a22) (q_rI t14 t19 p F left dn ins) (q_rJ y), 40, 26520)) rfl rfl ?_ ?_
    · exact (by have e := q_p_picX pix smp tr a16 a17 a21 a22 t14 t19 p F left dn ins y pos col lin pq hC hP hL hQ c0 c1 l0 l1; rw [hpic] at e; exact e.le (Nat.le_of_ble_eq_true rfl))
    show q_Ru _ _ _ (14, [(0, .ref 65)], [.int 0], (q_cX (q_rA pix smp tr a16 a17 a21 a22) (q_rI t14 t19 p F left dn ins) (q_rJ y), 40, 26520)) _
    refine q_Ru_seg (g2 := (23, [(1, .int 0), (0, .ref 65)], [.ref 96, .ref 66], (q_cX (q_rA pix smp tr a16 a17 a21 a22) (q_rI t14 t19 p F left dn ins) (q_rJ y), 40, 26520))) 5 (fun _ _ => rfl) ?_
    refine q_Ru_call (v := none) (h2 := (q_cX (q_rA x18 smp tr a16 a17 a21 a22) (q_rI u18 w18 p F left dn ins) (q_rJ y), 40, 26520)) rfl rfl ?_ ?_
    · exact p18.le (Nat.le_of_ble_eq_true rfl)
    show q_Ru _ _ _ (26, [(1, .int 0), (0, .ref 65)], [], (q_cX (q_rA x18 smp tr a16 a17 a21 a22) (q_rI u18 w18 p F left dn ins) (q_rJ y), 40, 26520)) _
    refine q_Ru_seg (g2 := (30, [(1, .int 0), (0, .ref 65)], [.ref 66], (q_cX (q_rA x18 smp tr a16 a17 a21 a22) (q_rI u18 w18 p F left dn ins) (q_rJ y), 40, 26520))) 2 (fun _ _ => rfl) ?_
    refine q_Ru_call (v := none) (h2 := (q_cX (q_rA x18 smp tr a16 a17 a21 a22) (q_rI u18 w18 p F left dn ins) (q_rJ y), 40, 26520)) rfl rfl ?_ ?_
    · exact (q_p_count x18 smp tr a16 a17 a21 a22 u18 w18 p F left dn ins y pos col lin pq hC hP hL hQ c0 c1 l0 l1 ).le (Nat.le_of_ble_eq_true rfl)
    show q_Ru _ _ _ (33, [(1, .int 0), (0, .ref 65)], [], (q_cX (q_rA x18 smp tr a16 a17 a21 a22) (q_rI u18 w18 p F left dn ins) (q_rJ y), 40, 26520)) _
    refine q_Ru_seg (g2 := (37, [(1, .int 0), (0, .ref 65)], [.ref 66], (q_cX (q_rA x18 smp tr a16 a17 a21 a22) (q_rI u18 w18 p F left dn ins) (q_rJ y), 40, 26520))) 2 (fun _ _ => rfl) ?_
    refine q_Ru_call (v := none) (h2 := (q_cX (q_rA x18 smp tr a16 a17 a21 a22) (q_rI u18 w18 p F left dn ins) (q_rJ y), 40, 26520)) rfl rfl ?_ ?_
    · exact (q_p_tape x18 smp tr a16 a17 a21 a22 u18 w18 p F left dn ins y pos col lin pq hC hP hL hQ c0 c1 l0 l1 ).le (Nat.le_of_ble_eq_true rfl)
    show q_Ru _ _ _ (40, [(1, .int 0), (0, .ref 65)], [], (q_cX (q_rA x18 smp tr a16 a17 a21 a22) (q_rI u18 w18 p F left dn ins) (q_rJ y), 40, 26520)) _
    refine q_Ru_seg (g2 := (44, [(1, .int 0), (0, .ref 65)], [.ref 66], (q_cX (q_rA x18 smp tr a16 a17 a21 a22) (q_rI u18 w18 p F left dn ins) (q_rJ y), 40, 26520))) 2 (fun _ _ => rfl) ?_
    refine q_Ru_call (v := (some (.int col))) (h2 := (q_cX (q_rA x18 smp tr a16 a17 a21 a22) (q_rI u18 w18 p F left dn ins) (q_rJ y), 40, 26520)) rfl rfl ?_ ?_
    · refine q_Ca_of (Nat.le_of_ble_eq_true rfl) ?_
      refine q_Ru_seg (g2 := (4, [(0, .ref 66)], [.long y], (q_cX (q_rA x18 smp tr a16 a17 a21 a22) (q_rI u18 w18 p F left dn ins) (q_rJ y), 40, 26520))) 2 (fun _ _ => rfl) ?_
      refine q_Ru_seg (g2 := (9, [(0, .ref 66)], [.int ((y - y / 24 * 24).toInt32)], (q_cX (q_rA x18 smp tr a16 a17 a21 a22) (q_rI u18 w18 p F left dn ins) (q_rJ y), 40, 26520))) 3 (fun _ _ => rfl) ?_
      rw [hC]
      exact q_Ru_ret rfl rfl
    show q_Ru _ _ _ (47, [(1, .int 0), (0, .ref 65)], [.int col], (q_cX (q_rA x18 smp tr a16 a17 a21 a22) (q_rI u18 w18 p F left dn ins) (q_rJ y), 40, 26520)) _
    refine q_Ru_seg (g2 := (49, [(1, .int 0), (0, .ref 65)], [.int 23, .int col], (q_cX (q_rA x18 smp tr a16 a17 a21 a22) (q_rI u18 w18 p F left dn ins) (q_rJ y), 40, 26520))) 1 (fun _ _ => rfl) ?_
    refine q_Ru_rsT (g2 := (79, [(1, .int 0), (0, .ref 65)], [], (q_cX (q_rA x18 smp tr a16 a17 a21 a22) (q_rI u18 w18 p F left dn ins) (q_rJ y), 40, 26520))) rfl rfl (q_d_neF h151) ?_
    refine q_Ru_seg (g2 := (80, [(1, .int 0), (0, .ref 65)], [.int 0], (q_cX (q_rA x18 smp tr a16 a17 a21 a22) (q_rI u18 w18 p F left dn ins) (q_rJ y), 40, 26520))) 1 (fun _ _ => rfl) ?_
    exact q_Ru_ret rfl rfl
set_option maxHeartbeats 4000000 in
theorem q_p_pass1 (pix smp tr a16 a17 a21 a22 : Nat → Int32) (t14 t19 p F left dn ins : Int32) (y : Int64) (pos col lin pq : Int32) (hC : (y - y / 24 * 24).toInt32 = col) (hP : (y - y / 960 * 960).toInt32 = pos) (hL : pos / 24 = lin) (hQ : lg_cmp (y / 960 - y / 960 / 2 * 2) 0 = pq) (c0 : 0 ≤ col.toInt) (c1 : col.toInt ≤ 23) (l0 : 0 ≤ lin.toInt) (l1 : lin.toInt ≤ 39) (hpic : q_picX lin col = 1) : ∃ pix2 smp2 t142 t192, q_Ca q_TB0 6 83 [.ref 65] (q_cX (q_rA pix smp tr a16 a17 a21 a22) (q_rI t14 t19 p F left dn ins) (q_rJ y), 40, 26520) (.inl (some (.int 1)), (q_cX (q_rA pix2 smp2 tr a16 a17 a21 a22) (q_rI t142 t192 p F left dn ins) (q_rJ y), 40, 26520)) := by
  cases h152 : decide (col = 23) with
  | true =>
    obtain ⟨x26, u26, w26, p26⟩ := q_p_draw pix smp tr a16 a17 a21 a22 t14 t19 p F left dn ins y pos col lin pq hC hP hL hQ c0 c1 l0 l1
    obtain ⟨x29, p29⟩ := q_p_sound x26 smp tr a16 a17 a21 a22 u26 w26 p F left dn ins y pos col lin pq hC hP hL hQ c0 c1 l0 l1
    refine ⟨x26, x29, u26, w26, ?_⟩
    refine q_Ca_of (Nat.le_of_ble_eq_true rfl) ?_
    refine q_Ru_seg (g2 := (4, [(0, .ref 65)], [.ref 66], (q_cX (q_rA pix smp tr a16 a17 a21 a22) (q_rI t14 t19 p F left dn ins) (q_rJ y), 40, 26520))) 2 (fun _ _ => rfl) ?_
    refine q_Ru_call (v := none) (h2 := (q_cX (q_rA pix smp tr a16 a17 a21 a22) (q_rI t14 t19 p F left dn ins) (q_rJ y), 40, 26520)) rfl rfl ?_ ?_
    · exact (q_p_meet pix smp tr a16 a17 a21 a22 t14 t19 p F left dn ins y pos col lin pq hC hP hL hQ c0 c1 l0 l1 ).le (Nat.le_of_ble_eq_true rfl)
    show q_Ru _ _ _ (7, [(0, .ref 65)], [], (q_cX (q_rA pix smp tr a16 a17 a21 a22) (q_rI t14 t19 p F left dn ins) (q_rJ y), 40, 26520)) _
    refine q_Ru_seg (g2 := (11, [(0, .ref 65)], [.ref 66], (q_cX (q_rA pix smp tr a16 a17 a21 a22) (q_rI t14 t19 p F left dn ins) (q_rJ y), 40, 26520))) 2 (fun _ _ => rfl) ?_
    refine q_Ru_call (v := (some (.int 1))) (h2 := (q_cX (q_rA pix smp tr a16 a17 a21 a22) (q_rI t14 t19 p F left dn ins) (q_rJ y), 40, 26520)) rfl rfl ?_ ?_
    · exact (by have e := q_p_picX pix smp tr a16 a17 a21 a22 t14 t19 p F left dn ins y pos col lin pq hC hP hL hQ c0 c1 l0 l1; rw [hpic] at e; exact e.le (Nat.le_of_ble_eq_true rfl))
    show q_Ru _ _ _ (14, [(0, .ref 65)], [.int 1], (q_cX (q_rA pix smp tr a16 a17 a21 a22) (q_rI t14 t19 p F left dn ins) (q_rJ y), 40, 26520)) _
    refine q_Ru_seg (g2 := (23, [(1, .int 1), (0, .ref 65)], [.ref 96, .ref 66], (q_cX (q_rA pix smp tr a16 a17 a21 a22) (q_rI t14 t19 p F left dn ins) (q_rJ y), 40, 26520))) 5 (fun _ _ => rfl) ?_
    refine q_Ru_call (v := none) (h2 := (q_cX (q_rA x26 smp tr a16 a17 a21 a22) (q_rI u26 w26 p F left dn ins) (q_rJ y), 40, 26520)) rfl rfl ?_ ?_
    · exact p26.le (Nat.le_of_ble_eq_true rfl)
    show q_Ru _ _ _ (26, [(1, .int 1), (0, .ref 65)], [], (q_cX (q_rA x26 smp tr a16 a17 a21 a22) (q_rI u26 w26 p F left dn ins) (q_rJ y), 40, 26520)) _
    refine q_Ru_seg (g2 := (30, [(1, .int 1), (0, .ref 65)], [.ref 66], (q_cX (q_rA x26 smp tr a16 a17 a21 a22) (q_rI u26 w26 p F left dn ins) (q_rJ y), 40, 26520))) 2 (fun _ _ => rfl) ?_
    refine q_Ru_call (v := none) (h2 := (q_cX (q_rA x26 smp tr a16 a17 a21 a22) (q_rI u26 w26 p F left dn ins) (q_rJ y), 40, 26520)) rfl rfl ?_ ?_
    · exact (q_p_count x26 smp tr a16 a17 a21 a22 u26 w26 p F left dn ins y pos col lin pq hC hP hL hQ c0 c1 l0 l1 ).le (Nat.le_of_ble_eq_true rfl)
    show q_Ru _ _ _ (33, [(1, .int 1), (0, .ref 65)], [], (q_cX (q_rA x26 smp tr a16 a17 a21 a22) (q_rI u26 w26 p F left dn ins) (q_rJ y), 40, 26520)) _
    refine q_Ru_seg (g2 := (37, [(1, .int 1), (0, .ref 65)], [.ref 66], (q_cX (q_rA x26 smp tr a16 a17 a21 a22) (q_rI u26 w26 p F left dn ins) (q_rJ y), 40, 26520))) 2 (fun _ _ => rfl) ?_
    refine q_Ru_call (v := none) (h2 := (q_cX (q_rA x26 smp tr a16 a17 a21 a22) (q_rI u26 w26 p F left dn ins) (q_rJ y), 40, 26520)) rfl rfl ?_ ?_
    · exact (q_p_tape x26 smp tr a16 a17 a21 a22 u26 w26 p F left dn ins y pos col lin pq hC hP hL hQ c0 c1 l0 l1 ).le (Nat.le_of_ble_eq_true rfl)
    show q_Ru _ _ _ (40, [(1, .int 1), (0, .ref 65)], [], (q_cX (q_rA x26 smp tr a16 a17 a21 a22) (q_rI u26 w26 p F left dn ins) (q_rJ y), 40, 26520)) _
    refine q_Ru_seg (g2 := (44, [(1, .int 1), (0, .ref 65)], [.ref 66], (q_cX (q_rA x26 smp tr a16 a17 a21 a22) (q_rI u26 w26 p F left dn ins) (q_rJ y), 40, 26520))) 2 (fun _ _ => rfl) ?_
    refine q_Ru_call (v := (some (.int col))) (h2 := (q_cX (q_rA x26 smp tr a16 a17 a21 a22) (q_rI u26 w26 p F left dn ins) (q_rJ y), 40, 26520)) rfl rfl ?_ ?_
    · refine q_Ca_of (Nat.le_of_ble_eq_true rfl) ?_
      refine q_Ru_seg (g2 := (4, [(0, .ref 66)], [.long y], (q_cX (q_rA x26 smp tr a16 a17 a21 a22) (q_rI u26 w26 p F left dn ins) (q_rJ y), 40, 26520))) 2 (fun _ _ => rfl) ?_
      refine q_Ru_seg (g2 := (9, [(0, .ref 66)], [.int ((y - y / 24 * 24).toInt32)], (q_cX (q_rA x26 smp tr a16 a17 a21 a22) (q_rI u26 w26 p F left dn ins) (q_rJ y), 40, 26520))) 3 (fun _ _ => rfl) ?_
      rw [hC]
      exact q_Ru_ret rfl rfl
    show q_Ru _ _ _ (47, [(1, .int 1), (0, .ref 65)], [.int col], (q_cX (q_rA x26 smp tr a16 a17 a21 a22) (q_rI u26 w26 p F left dn ins) (q_rJ y), 40, 26520)) _
    refine q_Ru_seg (g2 := (49, [(1, .int 1), (0, .ref 65)], [.int 23, .int col], (q_cX (q_rA x26 smp tr a16 a17 a21 a22) (q_rI u26 w26 p F left dn ins) (q_rJ y), 40, 26520))) 1 (fun _ _ => rfl) ?_
    refine q_Ru_rsF (g2 := (52, [(1, .int 1), (0, .ref 65)], [], (q_cX (q_rA x26 smp tr a16 a17 a21 a22) (q_rI u26 w26 p F left dn ins) (q_rJ y), 40, 26520))) rfl rfl (q_d_neT h152) ?_
    refine q_Ru_seg (g2 := (70, [(1, .int 1), (0, .ref 65)], [.ref 66, .ref 69, .ref 90], (q_cX (q_rA x26 smp tr a16 a17 a21 a22) (q_rI u26 w26 p F left dn ins) (q_rJ y), 40, 26520))) 8 (fun _ _ => rfl) ?_
    refine q_Ru_call (v := (some (.int pos))) (h2 := (q_cX (q_rA x26 smp tr a16 a17 a21 a22) (q_rI u26 w26 p F left dn ins) (q_rJ y), 40, 26520)) rfl rfl ?_ ?_
    · refine q_Ca_of (Nat.le_of_ble_eq_true rfl) ?_
      refine q_Ru_seg (g2 := (4, [(0, .ref 66)], [.long y], (q_cX (q_rA x26 smp tr a16 a17 a21 a22) (q_rI u26 w26 p F left dn ins) (q_rJ y), 40, 26520))) 2 (fun _ _ => rfl) ?_
      refine q_Ru_seg (g2 := (9, [(0, .ref 66)], [.int ((y - y / 960 * 960).toInt32)], (q_cX (q_rA x26 smp tr a16 a17 a21 a22) (q_rI u26 w26 p F left dn ins) (q_rJ y), 40, 26520))) 3 (fun _ _ => rfl) ?_
      rw [hP]
      exact q_Ru_ret rfl rfl
    show q_Ru _ _ _ (73, [(1, .int 1), (0, .ref 65)], [.int pos, .ref 69, .ref 90], (q_cX (q_rA x26 smp tr a16 a17 a21 a22) (q_rI u26 w26 p F left dn ins) (q_rJ y), 40, 26520)) _
    refine q_Ru_seg (g2 := (76, [(1, .int 1), (0, .ref 65)], [.int (pos / 24), .ref 69, .ref 90], (q_cX (q_rA x26 smp tr a16 a17 a21 a22) (q_rI u26 w26 p F left dn ins) (q_rJ y), 40, 26520))) 2 (fun _ _ => rfl) ?_
    rw [hL]
    refine q_Ru_call (v := none) (h2 := (q_cX (q_rA x26 x29 tr a16 a17 a21 a22) (q_rI u26 w26 p F left dn ins) (q_rJ y), 40, 26520)) rfl rfl ?_ ?_
    · exact p29.le (Nat.le_of_ble_eq_true rfl)
    show q_Ru _ _ _ (79, [(1, .int 1), (0, .ref 65)], [], (q_cX (q_rA x26 x29 tr a16 a17 a21 a22) (q_rI u26 w26 p F left dn ins) (q_rJ y), 40, 26520)) _
    refine q_Ru_seg (g2 := (80, [(1, .int 1), (0, .ref 65)], [.int 1], (q_cX (q_rA x26 x29 tr a16 a17 a21 a22) (q_rI u26 w26 p F left dn ins) (q_rJ y), 40, 26520))) 1 (fun _ _ => rfl) ?_
    exact q_Ru_ret rfl rfl
  | false =>
    obtain ⟨x31, u31, w31, p31⟩ := q_p_draw pix smp tr a16 a17 a21 a22 t14 t19 p F left dn ins y pos col lin pq hC hP hL hQ c0 c1 l0 l1
    refine ⟨x31, smp, u31, w31, ?_⟩
    refine q_Ca_of (Nat.le_of_ble_eq_true rfl) ?_
    refine q_Ru_seg (g2 := (4, [(0, .ref 65)], [.ref 66], (q_cX (q_rA pix smp tr a16 a17 a21 a22) (q_rI t14 t19 p F left dn ins) (q_rJ y), 40, 26520))) 2 (fun _ _ => rfl) ?_
    refine q_Ru_call (v := none) (h2 := (q_cX (q_rA pix smp tr a16 a17 a21 a22) (q_rI t14 t19 p F left dn ins) (q_rJ y), 40, 26520)) rfl rfl ?_ ?_
    · exact (q_p_meet pix smp tr a16 a17 a21 a22 t14 t19 p F left dn ins y pos col lin pq hC hP hL hQ c0 c1 l0 l1 ).le (Nat.le_of_ble_eq_true rfl)
    show q_Ru _ _ _ (7, [(0, .ref 65)], [], (q_cX (q_rA pix smp tr a16 a17 a21 a22) (q_rI t14 t19 p F left dn ins) (q_rJ y), 40, 26520)) _
    refine q_Ru_seg (g2 := (11, [(0, .ref 65)], [.ref 66], (q_cX (q_rA pix smp tr a16 a17 a21 a22) (q_rI t14 t19 p F left dn ins) (q_rJ y), 40, 26520))) 2 (fun _ _ => rfl) ?_
    refine q_Ru_call (v := (some (.int 1))) (h2 := (q_cX (q_rA pix smp tr a16 a17 a21 a22) (q_rI t14 t19 p F left dn ins) (q_rJ y), 40, 26520)) rfl rfl ?_ ?_
    · exact (by have e := q_p_picX pix smp tr a16 a17 a21 a22 t14 t19 p F left dn ins y pos col lin pq hC hP hL hQ c0 c1 l0 l1; rw [hpic] at e; exact e.le (Nat.le_of_ble_eq_true rfl))
    show q_Ru _ _ _ (14, [(0, .ref 65)], [.int 1], (q_cX (q_rA pix smp tr a16 a17 a21 a22) (q_rI t14 t19 p F left dn ins) (q_rJ y), 40, 26520)) _
    refine q_Ru_seg (g2 := (23, [(1, .int 1), (0, .ref 65)], [.ref 96, .ref 66], (q_cX (q_rA pix smp tr a16 a17 a21 a22) (q_rI t14 t19 p F left dn ins) (q_rJ y), 40, 26520))) 5 (fun _ _ => rfl) ?_
    refine q_Ru_call (v := none) (h2 := (q_cX (q_rA x31 smp tr a16 a17 a21 a22) (q_rI u31 w31 p F left dn ins) (q_rJ y), 40, 26520)) rfl rfl ?_ ?_
    · exact p31.le (Nat.le_of_ble_eq_true rfl)
    show q_Ru _ _ _ (26, [(1, .int 1), (0, .ref 65)], [], (q_cX (q_rA x31 smp tr a16 a17 a21 a22) (q_rI u31 w31 p F left dn ins) (q_rJ y), 40, 26520)) _
    refine q_Ru_seg (g2 := (30, [(1, .int 1), (0, .ref 65)], [.ref 66], (q_cX (q_rA x31 smp tr a16 a17 a21 a22) (q_rI u31 w31 p F left dn ins) (q_rJ y), 40, 26520))) 2 (fun _ _ => rfl) ?_
    refine q_Ru_call (v := none) (h2 := (q_cX (q_rA x31 smp tr a16 a17 a21 a22) (q_rI u31 w31 p F left dn ins) (q_rJ y), 40, 26520)) rfl rfl ?_ ?_
    · exact (q_p_count x31 smp tr a16 a17 a21 a22 u31 w31 p F left dn ins y pos col lin pq hC hP hL hQ c0 c1 l0 l1 ).le (Nat.le_of_ble_eq_true rfl)
    show q_Ru _ _ _ (33, [(1, .int 1), (0, .ref 65)], [], (q_cX (q_rA x31 smp tr a16 a17 a21 a22) (q_rI u31 w31 p F left dn ins) (q_rJ y), 40, 26520)) _
    refine q_Ru_seg (g2 := (37, [(1, .int 1), (0, .ref 65)], [.ref 66], (q_cX (q_rA x31 smp tr a16 a17 a21 a22) (q_rI u31 w31 p F left dn ins) (q_rJ y), 40, 26520))) 2 (fun _ _ => rfl) ?_
    refine q_Ru_call (v := none) (h2 := (q_cX (q_rA x31 smp tr a16 a17 a21 a22) (q_rI u31 w31 p F left dn ins) (q_rJ y), 40, 26520)) rfl rfl ?_ ?_
    · exact (q_p_tape x31 smp tr a16 a17 a21 a22 u31 w31 p F left dn ins y pos col lin pq hC hP hL hQ c0 c1 l0 l1 ).le (Nat.le_of_ble_eq_true rfl)
    show q_Ru _ _ _ (40, [(1, .int 1), (0, .ref 65)], [], (q_cX (q_rA x31 smp tr a16 a17 a21 a22) (q_rI u31 w31 p F left dn ins) (q_rJ y), 40, 26520)) _
    refine q_Ru_seg (g2 := (44, [(1, .int 1), (0, .ref 65)], [.ref 66], (q_cX (q_rA x31 smp tr a16 a17 a21 a22) (q_rI u31 w31 p F left dn ins) (q_rJ y), 40, 26520))) 2 (fun _ _ => rfl) ?_
    refine q_Ru_call (v := (some (.int col))) (h2 := (q_cX (q_rA x31 smp tr a16 a17 a21 a22) (q_rI u31 w31 p F left dn ins) (q_rJ y), 40, 26520)) rfl rfl ?_ ?_
    · refine q_Ca_of (Nat.le_of_ble_eq_true rfl) ?_
      refine q_Ru_seg (g2 := (4, [(0, .ref 66)], [.long y], (q_cX (q_rA x31 smp tr a16 a17 a21 a22) (q_rI u31 w31 p F left dn ins) (q_rJ y), 40, 26520))) 2 (fun _ _ => rfl) ?_
      refine q_Ru_seg (g2 := (9, [(0, .ref 66)], [.int ((y - y / 24 * 24).toInt32)], (q_cX (q_rA x31 smp tr a16 a17 a21 a22) (q_rI u31 w31 p F left dn ins) (q_rJ y), 40, 26520))) 3 (fun _ _ => rfl) ?_
      rw [hC]
      exact q_Ru_ret rfl rfl
    show q_Ru _ _ _ (47, [(1, .int 1), (0, .ref 65)], [.int col], (q_cX (q_rA x31 smp tr a16 a17 a21 a22) (q_rI u31 w31 p F left dn ins) (q_rJ y), 40, 26520)) _
    refine q_Ru_seg (g2 := (49, [(1, .int 1), (0, .ref 65)], [.int 23, .int col], (q_cX (q_rA x31 smp tr a16 a17 a21 a22) (q_rI u31 w31 p F left dn ins) (q_rJ y), 40, 26520))) 1 (fun _ _ => rfl) ?_
    refine q_Ru_rsT (g2 := (79, [(1, .int 1), (0, .ref 65)], [], (q_cX (q_rA x31 smp tr a16 a17 a21 a22) (q_rI u31 w31 p F left dn ins) (q_rJ y), 40, 26520))) rfl rfl (q_d_neF h152) ?_
    refine q_Ru_seg (g2 := (80, [(1, .int 1), (0, .ref 65)], [.int 1], (q_cX (q_rA x31 smp tr a16 a17 a21 a22) (q_rI u31 w31 p F left dn ins) (q_rJ y), 40, 26520))) 1 (fun _ _ => rfl) ?_
    exact q_Ru_ret rfl rfl
set_option maxHeartbeats 4000000 in
theorem q_p_readR (pix smp tr a16 a17 a21 a22 : Nat → Int32) (t14 t19 p F left dn ins : Int32) (y : Int64) (a : Int32) (hl : 0 ≤ a.toInt) (hu : a.toInt ≤ 3839) : q_Ca q_TB0 3 90 [.ref 66, .int a] (q_cX (q_rA pix smp tr a16 a17 a21 a22) (q_rI t14 t19 p F left dn ins) (q_rJ y), 40, 26520) (.inl (some (.int 0)), (q_cX (q_rA pix smp tr a16 a17 a21 a22) (q_rI t14 t19 p F left dn ins) (q_rJ y), 40, 26520)) := by
  cases h153 : decide (a - 3840 < 0) with
  | true =>
    refine q_Ca_of (Nat.le_of_ble_eq_true rfl) ?_
    refine q_Ru_seg (g2 := (7, [(2, .int (a - 3840)), (0, .ref 66), (1, .int a)], [.int (a - 3840)], (q_cX (q_rA pix smp tr a16 a17 a21 a22) (q_rI t14 t19 p F left dn ins) (q_rJ y), 40, 26520))) 5 (fun _ _ => rfl) ?_
    refine q_Ru_rsT (g2 := (31, [(2, .int (a - 3840)), (0, .ref 66), (1, .int a)], [], (q_cX (q_rA pix smp tr a16 a17 a21 a22) (q_rI t14 t19 p F left dn ins) (q_rJ y), 40, 26520))) rfl rfl h153 ?_
    refine q_Ru_seg (g2 := (40, [(2, .int (a - 3840)), (0, .ref 66), (1, .int a)], [.int 0], (q_cX (q_rA pix smp tr a16 a17 a21 a22) (q_rI t14 t19 p F left dn ins) (q_rJ y), 40, 26520))) 5 (fun _ _ => rfl) ?_
    refine q_Ru_seg (g2 := (127, [(3, .int 0), (2, .int (a - 3840)), (0, .ref 66), (1, .int a)], [.int (a &&& 4095), .ref 68], (q_cX (q_rA pix smp tr a16 a17 a21 a22) (q_rI t14 t19 p F left dn ins) (q_rJ y), 40, 26520))) 17 (fun _ _ => rfl) ?_
    refine q_Ru_rsT (g2 := (128, [(3, .int 0), (2, .int (a - 3840)), (0, .ref 66), (1, .int a)], [.int 0], (q_cX (q_rA pix smp tr a16 a17 a21 a22) (q_rI t14 t19 p F left dn ins) (q_rJ y), 40, 26520))) rfl rfl (q_in_bd (x := a &&& 4095) (n := 4096) (U := 4095) (L := 0) (q_and_lo a 4095) (q_and_hi a 4095 4095)) ?_
    exact q_Ru_ret rfl rfl
  | false =>
    exact q_no (q_sub_lo 3840 (q_lo1 h153) hl hu) hu (by decide)
set_option maxHeartbeats 4000000 in
theorem q_p_begin (pix smp tr a16 a17 a21 a22 : Nat → Int32) (t14 t19 p F dn ins : Int32) (y : Int64) (p1 p2 : Int32) (a0 : 0 ≤ p.toInt) (a1 : p.toInt ≤ 3839) (b0 : 0 ≤ p1.toInt) (b1 : p1.toInt ≤ 3839) (hp1 : (p + 1) &&& 4095 = p1) (hp2 : (p + 2) &&& 4095 = p2) : q_Ca q_TB0 6 136 [.ref 88, .ref 66] (q_cX (q_rA pix smp tr a16 a17 a21 a22) (q_rI t14 t19 p F 0 dn ins) (q_rJ y), 40, 26520) (.inl none, (q_cX (q_rA pix smp tr a16 a17 a21 a22) (q_rI t14 t19 p F 2 dn ins) (q_rJ y), 40, 26520)) := by
  refine q_Ca_of (Nat.le_of_ble_eq_true rfl) ?_
  refine q_Ru_seg (g2 := (10, [(0, .ref 88), (1, .ref 66)], [.int 1], (q_cX (q_rA pix smp tr a16 a17 a21 a22) (q_rI t14 t19 p F 0 dn ins) (q_rJ y), 40, 26520))) 5 (fun _ _ => rfl) ?_
  refine q_Ru_seg (g2 := (20, [(0, .ref 88), (1, .ref 66)], [.int 0, .int 1], (q_cX (q_rA pix smp tr a16 a17 a21 a22) (q_rI t14 t19 p F 0 dn ins) (q_rJ y), 40, 26520))) 5 (fun _ _ => rfl) ?_
  refine q_Ru_seg (g2 := (34, [(2, .int 0), (0, .ref 88), (1, .ref 66)], [.int 0], (q_cX (q_rA pix smp tr a16 a17 a21 a22) (q_rI t14 t19 p F 0 dn ins) (q_rJ y), 40, 26520))) 6 (fun _ _ => rfl) ?_
  refine q_Ru_seg (g2 := (42, [(2, .int 0), (0, .ref 88), (1, .ref 66)], [.int 0], (q_cX (q_rA pix smp tr a16 a17 a21 a22) (q_rI t14 t19 p F 0 dn ins) (q_rJ y), 40, 26520))) 3 (fun _ _ => rfl) ?_
  refine q_Ru_seg (g2 := (103, [(2, .int 0), (0, .ref 88), (1, .ref 66)], [.ref 66, .ref 88, .ref 88], (q_cX (q_rA pix smp tr a16 a17 a21 a22) (q_uI (q_rI t14 t19 p F 0 dn ins) 24 8 0) (q_rJ y), 40, 26520))) 9 (fun _ _ => rfl) ?_
  refine q_Ru_call (v := (some (.int 2))) (h2 := (q_cX (q_rA pix smp tr a16 a17 a21 a22) (q_uI (q_rI t14 t19 p F 0 dn ins) 24 8 0) (q_rJ y), 40, 26520)) rfl rfl ?_ ?_
  · refine q_Ca_of (Nat.le_of_ble_eq_true rfl) ?_
    refine q_Ru_seg (g2 := (5, [(0, .ref 88), (1, .ref 66)], [.int p, .ref 66], (q_cX (q_rA pix smp tr a16 a17 a21 a22) (q_uI (q_rI t14 t19 p F 0 dn ins) 24 8 0) (q_rJ y), 40, 26520))) 3 (fun _ _ => rfl) ?_
    refine q_Ru_call (v := (some (.int 0))) (h2 := (q_cX (q_rA pix smp tr a16 a17 a21 a22) (q_uI (q_rI t14 t19 p F 0 dn ins) 24 8 0) (q_rJ y), 40, 26520)) rfl rfl ?_ ?_
    · exact (q_p_readR pix smp tr a16 a17 a21 a22 t14 t19 p F 0 dn ins y p a0 a1).le (Nat.le_of_ble_eq_true rfl)
    show q_Ru _ _ _ (8, [(0, .ref 88), (1, .ref 66)], [.int 0], (q_cX (q_rA pix smp tr a16 a17 a21 a22) (q_uI (q_rI t14 t19 p F 0 dn ins) 24 8 0) (q_rJ y), 40, 26520)) _
    refine q_Ru_seg (g2 := (10, [(2, .int 0), (0, .ref 88), (1, .ref 66)], [.int 0], (q_cX (q_rA pix smp tr a16 a17 a21 a22) (q_uI (q_rI t14 t19 p F 0 dn ins) 24 8 0) (q_rJ y), 40, 26520))) 2 (fun _ _ => rfl) ?_
    refine q_Ru_call (v := (some (.int 0))) (h2 := (q_cX (q_rA pix smp tr a16 a17 a21 a22) (q_uI (q_rI t14 t19 p F 0 dn ins) 24 8 0) (q_rJ y), 40, 26520)) rfl rfl ?_ ?_
    · refine q_Ca_of (Nat.le_of_ble_eq_true rfl) ?_
      refine q_Ru_seg (g2 := (11, [(0, .int 0)], [.int 0], (q_cX (q_rA pix smp tr a16 a17 a21 a22) (q_uI (q_rI t14 t19 p F 0 dn ins) 24 8 0) (q_rJ y), 40, 26520))) 6 (fun _ _ => rfl) ?_
      exact q_Ru_ret rfl rfl
    show q_Ru _ _ _ (13, [(2, .int 0), (0, .ref 88), (1, .ref 66)], [.int 0], (q_cX (q_rA pix smp tr a16 a17 a21 a22) (q_uI (q_rI t14 t19 p F 0 dn ins) 24 8 0) (q_rJ y), 40, 26520)) _
    refine q_Ru_seg (g2 := (21, [(4, .int 0), (3, .int 0), (2, .int 0), (0, .ref 88), (1, .ref 66)], [.int 0], (q_cX (q_rA pix smp tr a16 a17 a21 a22) (q_uI (q_rI t14 t19 p F 0 dn ins) 24 8 0) (q_rJ y), 40, 26520))) 6 (fun _ _ => rfl) ?_
    refine q_Ru_call (v := (some (.int 0))) (h2 := (q_cX (q_rA pix smp tr a16 a17 a21 a22) (q_uI (q_rI t14 t19 p F 0 dn ins) 24 8 0) (q_rJ y), 40, 26520)) rfl rfl ?_ ?_
    · refine q_Ca_of (Nat.le_of_ble_eq_true rfl) ?_
      refine q_Ru_seg (g2 := (19, [(0, .int 0)], [.int 0], (q_cX (q_rA pix smp tr a16 a17 a21 a22) (q_uI (q_rI t14 t19 p F 0 dn ins) 24 8 0) (q_rJ y), 40, 26520))) 4 (fun _ _ => rfl) ?_
      exact q_Ru_ret rfl rfl
    show q_Ru _ _ _ (24, [(4, .int 0), (3, .int 0), (2, .int 0), (0, .ref 88), (1, .ref 66)], [.int 0], (q_cX (q_rA pix smp tr a16 a17 a21 a22) (q_uI (q_rI t14 t19 p F 0 dn ins) 24 8 0) (q_rJ y), 40, 26520)) _
    refine q_Ru_seg (g2 := (57, [(4, .int 0), (3, .int 0), (2, .int 0), (0, .ref 88), (1, .ref 66)], [.int 2], (q_cX (q_rA pix smp tr a16 a17 a21 a22) (q_uI (q_rI t14 t19 p F 0 dn ins) 24 8 0) (q_rJ y), 40, 26520))) 6 (fun _ _ => rfl) ?_
    exact q_Ru_ret rfl rfl
  show q_Ru _ _ _ (106, [(2, .int 0), (0, .ref 88), (1, .ref 66)], [.int 2, .ref 88], (q_cX (q_rA pix smp tr a16 a17 a21 a22) (q_uI (q_rI t14 t19 p F 0 dn ins) 24 8 0) (q_rJ y), 40, 26520)) _
  refine q_Ru_seg (g2 := (109, [(2, .int 0), (0, .ref 88), (1, .ref 66)], [], (q_cX (q_rA pix smp tr a16 a17 a21 a22) (q_uI (q_uI (q_rI t14 t19 p F 0 dn ins) 24 8 0) 24 9 2) (q_rJ y), 40, 26520))) 1 (fun _ _ => rfl) ?_
  exact q_Ru_ret rfl rfl
set_option maxHeartbeats 4000000 in
theorem q_p_finish (pix smp tr a16 a17 a21 a22 : Nat → Int32) (t14 t19 p F dn ins : Int32) (y : Int64) (p1 p2 : Int32) (a0 : 0 ≤ p.toInt) (a1 : p.toInt ≤ 3839) (b0 : 0 ≤ p1.toInt) (b1 : p1.toInt ≤ 3839) (hp1 : (p + 1) &&& 4095 = p1) (hp2 : (p + 2) &&& 4095 = p2) : ∃ tr2 F2, q_Ca q_TB0 6 142 [.ref 88, .ref 66] (q_cX (q_rA pix smp tr a16 a17 a21 a22) (q_rI t14 t19 p F 0 dn ins) (q_rJ y), 40, 26520) (.inl none, (q_cX (q_rA pix smp tr2 a16 a17 a21 a22) (q_rI t14 t19 p2 F2 0 (dn + 1) (ins + 1)) (q_rJ y), 40, 26520)) := by
  refine ⟨(upd tr ((ins &&& 15).toNatClampNeg) p), ((F &&& (-131)) ||| 2) ||| 0, ?_⟩
  refine q_Ca_of (Nat.le_of_ble_eq_true rfl) ?_
  refine q_Ru_seg (g2 := (5, [(0, .ref 88), (1, .ref 66)], [.int dn, .ref 88], (q_cX (q_rA pix smp tr a16 a17 a21 a22) (q_rI t14 t19 p F 0 dn ins) (q_rJ y), 40, 26520))) 3 (fun _ _ => rfl) ?_
  refine q_Ru_seg (g2 := (14, [(0, .ref 88), (1, .ref 66)], [.int 0], (q_cX (q_rA pix smp tr a16 a17 a21 a22) (q_uI (q_rI t14 t19 p F 0 dn ins) 24 10 (dn + 1)) (q_rJ y), 40, 26520))) 5 (fun _ _ => rfl) ?_
  refine q_Ru_seg (g2 := (46, [(0, .ref 88), (1, .ref 66)], [.int ins, .ref 89], (q_cX (q_rA pix smp tr a16 a17 a21 a22) (q_uI (q_rI t14 t19 p F 0 dn ins) 24 10 (dn + 1)) (q_rJ y), 40, 26520))) 5 (fun _ _ => rfl) ?_
  refine q_Ru_seg (g2 := (53, [(0, .ref 88), (1, .ref 66)], [.int p, .int (ins &&& 15), .ref 89], (q_cX (q_rA pix smp tr a16 a17 a21 a22) (q_uI (q_rI t14 t19 p F 0 dn ins) 24 10 (dn + 1)) (q_rJ y), 40, 26520))) 4 (fun _ _ => rfl) ?_
  have iy20 := (q_in_bd (x := ins &&& 15) (n := 16) (U := 15) (L := 0) (q_and_lo ins 15) (q_and_hi ins 15 15))
  generalize (ins &&& 15) = y20 at iy20 ⊢
  refine q_Ru_rsT (g2 := (54, [(0, .ref 88), (1, .ref 66)], [], (q_cX (q_uA (q_rA pix smp tr a16 a17 a21 a22) 25 (upd tr (y20.toNatClampNeg) p)) (q_uI (q_rI t14 t19 p F 0 dn ins) 24 10 (dn + 1)) (q_rJ y), 40, 26520))) rfl q_astX_25 iy20 ?_
  generalize (upd tr (y20.toNatClampNeg) p) = w21
  refine q_Ru_seg (g2 := (59, [(0, .ref 88), (1, .ref 66)], [.int ins, .ref 88], (q_cX (q_uA (q_rA pix smp tr a16 a17 a21 a22) 25 w21) (q_uI (q_rI t14 t19 p F 0 dn ins) 24 10 (dn + 1)) (q_rJ y), 40, 26520))) 3 (fun _ _ => rfl) ?_
  refine q_Ru_seg (g2 := (69, [(0, .ref 88), (1, .ref 66)], [.int p, .ref 66], (q_cX (q_uA (q_rA pix smp tr a16 a17 a21 a22) 25 w21) (q_uI (q_uI (q_rI t14 t19 p F 0 dn ins) 24 10 (dn + 1)) 24 11 (ins + 1)) (q_rJ y), 40, 26520))) 6 (fun _ _ => rfl) ?_
  refine q_Ru_call (v := (some (.int 0))) (h2 := (q_cX (q_uA (q_rA pix smp tr a16 a17 a21 a22) 25 w21) (q_uI (q_uI (q_rI t14 t19 p F 0 dn ins) 24 10 (dn + 1)) 24 11 (ins + 1)) (q_rJ y), 40, 26520)) rfl rfl ?_ ?_
  · exact (q_p_readR pix smp w21 a16 a17 a21 a22 t14 t19 p F 0 (dn + 1) (ins + 1) y p a0 a1).le (Nat.le_of_ble_eq_true rfl)
  show q_Ru _ _ _ (72, [(0, .ref 88), (1, .ref 66)], [.int 0], (q_cX (q_uA (q_rA pix smp tr a16 a17 a21 a22) 25 w21) (q_uI (q_uI (q_rI t14 t19 p F 0 dn ins) 24 10 (dn + 1)) 24 11 (ins + 1)) (q_rJ y), 40, 26520)) _
  refine q_Ru_seg (g2 := (74, [(2, .int 0), (0, .ref 88), (1, .ref 66)], [.int 0], (q_cX (q_uA (q_rA pix smp tr a16 a17 a21 a22) 25 w21) (q_uI (q_uI (q_rI t14 t19 p F 0 dn ins) 24 10 (dn + 1)) 24 11 (ins + 1)) (q_rJ y), 40, 26520))) 2 (fun _ _ => rfl) ?_
  refine q_Ru_call (v := (some (.int 0))) (h2 := (q_cX (q_uA (q_rA pix smp tr a16 a17 a21 a22) 25 w21) (q_uI (q_uI (q_rI t14 t19 p F 0 dn ins) 24 10 (dn + 1)) 24 11 (ins + 1)) (q_rJ y), 40, 26520)) rfl rfl ?_ ?_
  · refine q_Ca_of (Nat.le_of_ble_eq_true rfl) ?_
    refine q_Ru_seg (g2 := (11, [(0, .int 0)], [.int 0], (q_cX (q_uA (q_rA pix smp tr a16 a17 a21 a22) 25 w21) (q_uI (q_uI (q_rI t14 t19 p F 0 dn ins) 24 10 (dn + 1)) 24 11 (ins + 1)) (q_rJ y), 40, 26520))) 6 (fun _ _ => rfl) ?_
    exact q_Ru_ret rfl rfl
  show q_Ru _ _ _ (77, [(2, .int 0), (0, .ref 88), (1, .ref 66)], [.int 0], (q_cX (q_uA (q_rA pix smp tr a16 a17 a21 a22) 25 w21) (q_uI (q_uI (q_rI t14 t19 p F 0 dn ins) 24 10 (dn + 1)) 24 11 (ins + 1)) (q_rJ y), 40, 26520)) _
  refine q_Ru_seg (g2 := (86, [(4, .int 0), (3, .int 0), (2, .int 0), (0, .ref 88), (1, .ref 66)], [.int 0, .ref 88], (q_cX (q_uA (q_rA pix smp tr a16 a17 a21 a22) 25 w21) (q_uI (q_uI (q_rI t14 t19 p F 0 dn ins) 24 10 (dn + 1)) 24 11 (ins + 1)) (q_rJ y), 40, 26520))) 7 (fun _ _ => rfl) ?_
  refine q_Ru_call (v := (some (.int 2))) (h2 := (q_cX (q_uA (q_rA pix smp tr a16 a17 a21 a22) 25 w21) (q_uI (q_uI (q_rI t14 t19 p F 0 dn ins) 24 10 (dn + 1)) 24 11 (ins + 1)) (q_rJ y), 40, 26520)) rfl rfl ?_ ?_
  · refine q_Ca_of (Nat.le_of_ble_eq_true rfl) ?_
    refine q_Ru_seg (g2 := (1, [(0, .int 0)], [.int 0], (q_cX (q_uA (q_rA pix smp tr a16 a17 a21 a22) 25 w21) (q_uI (q_uI (q_rI t14 t19 p F 0 dn ins) 24 10 (dn + 1)) 24 11 (ins + 1)) (q_rJ y), 40, 26520))) 1 (fun _ _ => rfl) ?_
    refine q_Ru_call (v := (some (.int 0))) (h2 := (q_cX (q_uA (q_rA pix smp tr a16 a17 a21 a22) 25 w21) (q_uI (q_uI (q_rI t14 t19 p F 0 dn ins) 24 10 (dn + 1)) 24 11 (ins + 1)) (q_rJ y), 40, 26520)) rfl rfl ?_ ?_
    · refine q_Ca_of (Nat.le_of_ble_eq_true rfl) ?_
      refine q_Ru_seg (g2 := (11, [(0, .int 0)], [.int 0], (q_cX (q_uA (q_rA pix smp tr a16 a17 a21 a22) 25 w21) (q_uI (q_uI (q_rI t14 t19 p F 0 dn ins) 24 10 (dn + 1)) 24 11 (ins + 1)) (q_rJ y), 40, 26520))) 6 (fun _ _ => rfl) ?_
      exact q_Ru_ret rfl rfl
    show q_Ru _ _ _ (4, [(0, .int 0)], [.int 0], (q_cX (q_uA (q_rA pix smp tr a16 a17 a21 a22) 25 w21) (q_uI (q_uI (q_rI t14 t19 p F 0 dn ins) 24 10 (dn + 1)) 24 11 (ins + 1)) (q_rJ y), 40, 26520)) _
    refine q_Ru_seg (g2 := (27, [(1, .int 0), (0, .int 0)], [.int 2], (q_cX (q_uA (q_rA pix smp tr a16 a17 a21 a22) 25 w21) (q_uI (q_uI (q_rI t14 t19 p F 0 dn ins) 24 10 (dn + 1)) 24 11 (ins + 1)) (q_rJ y), 40, 26520))) 9 (fun _ _ => rfl) ?_
    exact q_Ru_ret rfl rfl
  show q_Ru _ _ _ (89, [(4, .int 0), (3, .int 0), (2, .int 0), (0, .ref 88), (1, .ref 66)], [.int 2, .ref 88], (q_cX (q_uA (q_rA pix smp tr a16 a17 a21 a22) 25 w21) (q_uI (q_uI (q_rI t14 t19 p F 0 dn ins) 24 10 (dn + 1)) 24 11 (ins + 1)) (q_rJ y), 40, 26520)) _
  refine q_Ru_call (v := (some (.int p2))) (h2 := (q_cX (q_uA (q_rA pix smp tr a16 a17 a21 a22) 25 w21) (q_uI (q_uI (q_rI t14 t19 p F 0 dn ins) 24 10 (dn + 1)) 24 11 (ins + 1)) (q_rJ y), 40, 26520)) rfl rfl ?_ ?_
  · refine q_Ca_of (Nat.le_of_ble_eq_true rfl) ?_
    refine q_Ru_seg (g2 := (4, [(0, .ref 88), (1, .int 2)], [.int p], (q_cX (q_uA (q_rA pix smp tr a16 a17 a21 a22) 25 w21) (q_uI (q_uI (q_rI t14 t19 p F 0 dn ins) 24 10 (dn + 1)) 24 11 (ins + 1)) (q_rJ y), 40, 26520))) 2 (fun _ _ => rfl) ?_
    refine q_Ru_seg (g2 := (10, [(0, .ref 88), (1, .int 2)], [.int ((p + 2) &&& 4095)], (q_cX (q_uA (q_rA pix smp tr a16 a17 a21 a22) 25 w21) (q_uI (q_uI (q_rI t14 t19 p F 0 dn ins) 24 10 (dn + 1)) 24 11 (ins + 1)) (q_rJ y), 40, 26520))) 4 (fun _ _ => rfl) ?_
    rw [hp2]
    exact q_Ru_ret rfl rfl
  show q_Ru _ _ _ (92, [(4, .int 0), (3, .int 0), (2, .int 0), (0, .ref 88), (1, .ref 66)], [.int p2], (q_cX (q_uA (q_rA pix smp tr a16 a17 a21 a22) 25 w21) (q_uI (q_uI (q_rI t14 t19 p F 0 dn ins) 24 10 (dn + 1)) 24 11 (ins + 1)) (q_rJ y), 40, 26520)) _
  refine q_Ru_seg (g2 := (169, [(5, .int p2), (4, .int 0), (3, .int 0), (2, .int 0), (0, .ref 88), (1, .ref 66)], [.int 1, .ref 88, .ref 66, .int 0, .ref 88], (q_cX (q_uA (q_rA pix smp tr a16 a17 a21 a22) 25 w21) (q_uI (q_uI (q_rI t14 t19 p F 0 dn ins) 24 10 (dn + 1)) 24 11 (ins + 1)) (q_rJ y), 40, 26520))) 15 (fun _ _ => rfl) ?_
  refine q_Ru_call (v := (some (.int p1))) (h2 := (q_cX (q_uA (q_rA pix smp tr a16 a17 a21 a22) 25 w21) (q_uI (q_uI (q_rI t14 t19 p F 0 dn ins) 24 10 (dn + 1)) 24 11 (ins + 1)) (q_rJ y), 40, 26520)) rfl rfl ?_ ?_
  · refine q_Ca_of (Nat.le_of_ble_eq_true rfl) ?_
    refine q_Ru_seg (g2 := (4, [(0, .ref 88), (1, .int 1)], [.int p], (q_cX (q_uA (q_rA pix smp tr a16 a17 a21 a22) 25 w21) (q_uI (q_uI (q_rI t14 t19 p F 0 dn ins) 24 10 (dn + 1)) 24 11 (ins + 1)) (q_rJ y), 40, 26520))) 2 (fun _ _ => rfl) ?_
    refine q_Ru_seg (g2 := (10, [(0, .ref 88), (1, .int 1)], [.int ((p + 1) &&& 4095)], (q_cX (q_uA (q_rA pix smp tr a16 a17 a21 a22) 25 w21) (q_uI (q_uI (q_rI t14 t19 p F 0 dn ins) 24 10 (dn + 1)) 24 11 (ins + 1)) (q_rJ y), 40, 26520))) 4 (fun _ _ => rfl) ?_
    rw [hp1]
    exact q_Ru_ret rfl rfl
  show q_Ru _ _ _ (172, [(5, .int p2), (4, .int 0), (3, .int 0), (2, .int 0), (0, .ref 88), (1, .ref 66)], [.int p1, .ref 66, .int 0, .ref 88], (q_cX (q_uA (q_rA pix smp tr a16 a17 a21 a22) 25 w21) (q_uI (q_uI (q_rI t14 t19 p F 0 dn ins) 24 10 (dn + 1)) 24 11 (ins + 1)) (q_rJ y), 40, 26520)) _
  refine q_Ru_call (v := (some (.int 0))) (h2 := (q_cX (q_uA (q_rA pix smp tr a16 a17 a21 a22) 25 w21) (q_uI (q_uI (q_rI t14 t19 p F 0 dn ins) 24 10 (dn + 1)) 24 11 (ins + 1)) (q_rJ y), 40, 26520)) rfl rfl ?_ ?_
  · exact (q_p_readR pix smp w21 a16 a17 a21 a22 t14 t19 p F 0 (dn + 1) (ins + 1) y p1 b0 b1).le (Nat.le_of_ble_eq_true rfl)
  show q_Ru _ _ _ (175, [(5, .int p2), (4, .int 0), (3, .int 0), (2, .int 0), (0, .ref 88), (1, .ref 66)], [.int 0, .int 0, .ref 88], (q_cX (q_uA (q_rA pix smp tr a16 a17 a21 a22) 25 w21) (q_uI (q_uI (q_rI t14 t19 p F 0 dn ins) 24 10 (dn + 1)) 24 11 (ins + 1)) (q_rJ y), 40, 26520)) _
  refine q_Ru_call (v := none) (h2 := (q_cX (q_uA (q_rA pix smp tr a16 a17 a21 a22) 25 w21) (q_uI (q_uI (q_uI (q_uI (q_rI t14 t19 p F 0 dn ins) 24 10 (dn + 1)) 24 11 (ins + 1)) 24 5 (((F &&& (-131)) ||| 2) ||| 0)) 24 0 0) (q_rJ y), 40, 26520)) rfl rfl ?_ ?_
  · refine q_Ca_of (Nat.le_of_ble_eq_true rfl) ?_
    refine q_Ru_seg (g2 := (103, [(0, .ref 88), (1, .int 0), (2, .int 0)], [.int 0, .ref 88, .ref 88], (q_cX (q_uA (q_rA pix smp tr a16 a17 a21 a22) 25 w21) (q_uI (q_uI (q_rI t14 t19 p F 0 dn ins) 24 10 (dn + 1)) 24 11 (ins + 1)) (q_rJ y), 40, 26520))) 5 (fun _ _ => rfl) ?_
    refine q_Ru_call (v := (some (.int 0))) (h2 := (q_cX (q_uA (q_rA pix smp tr a16 a17 a21 a22) 25 w21) (q_uI (q_uI (q_uI (q_rI t14 t19 p F 0 dn ins) 24 10 (dn + 1)) 24 11 (ins + 1)) 24 5 (((F &&& (-131)) ||| 2) ||| 0)) (q_rJ y), 40, 26520)) rfl rfl ?_ ?_
    · refine q_Ca_of (Nat.le_of_ble_eq_true rfl) ?_
      refine q_Ru_seg (g2 := (5, [(0, .ref 88), (1, .int 0)], [.int F, .ref 88], (q_cX (q_uA (q_rA pix smp tr a16 a17 a21 a22) 25 w21) (q_uI (q_uI (q_rI t14 t19 p F 0 dn ins) 24 10 (dn + 1)) 24 11 (ins + 1)) (q_rJ y), 40, 26520))) 3 (fun _ _ => rfl) ?_
      refine q_Ru_seg (g2 := (37, [(0, .ref 88), (1, .int 0)], [.int 0], (q_cX (q_uA (q_rA pix smp tr a16 a17 a21 a22) 25 w21) (q_uI (q_uI (q_uI (q_rI t14 t19 p F 0 dn ins) 24 10 (dn + 1)) 24 11 (ins + 1)) 24 5 (((F &&& (-131)) ||| 2) ||| 0)) (q_rJ y), 40, 26520))) 14 (fun _ _ => rfl) ?_
      exact q_Ru_ret rfl rfl
    show q_Ru _ _ _ (106, [(0, .ref 88), (1, .int 0), (2, .int 0)], [.int 0, .ref 88], (q_cX (q_uA (q_rA pix smp tr a16 a17 a21 a22) 25 w21) (q_uI (q_uI (q_uI (q_rI t14 t19 p F 0 dn ins) 24 10 (dn + 1)) 24 11 (ins + 1)) 24 5 (((F &&& (-131)) ||| 2) ||| 0)) (q_rJ y), 40, 26520)) _
    refine q_Ru_seg (g2 := (316, [(0, .ref 88), (1, .int 0), (2, .int 0)], [], (q_cX (q_uA (q_rA pix smp tr a16 a17 a21 a22) 25 w21) (q_uI (q_uI (q_uI (q_uI (q_rI t14 t19 p F 0 dn ins) 24 10 (dn + 1)) 24 11 (ins + 1)) 24 5 (((F &&& (-131)) ||| 2) ||| 0)) 24 0 0) (q_rJ y), 40, 26520))) 2 (fun _ _ => rfl) ?_
    exact q_Ru_ret rfl rfl
  show q_Ru _ _ _ (178, [(5, .int p2), (4, .int 0), (3, .int 0), (2, .int 0), (0, .ref 88), (1, .ref 66)], [], (q_cX (q_uA (q_rA pix smp tr a16 a17 a21 a22) 25 w21) (q_uI (q_uI (q_uI (q_uI (q_rI t14 t19 p F 0 dn ins) 24 10 (dn + 1)) 24 11 (ins + 1)) 24 5 (((F &&& (-131)) ||| 2) ||| 0)) 24 0 0) (q_rJ y), 40, 26520)) _
  refine q_Ru_seg (g2 := (226, [(5, .int p2), (4, .int 0), (3, .int 0), (2, .int 0), (0, .ref 88), (1, .ref 66)], [], (q_cX (q_uA (q_rA pix smp tr a16 a17 a21 a22) 25 w21) (q_uI (q_uI (q_uI (q_uI (q_uI (q_rI t14 t19 p F 0 dn ins) 24 10 (dn + 1)) 24 11 (ins + 1)) 24 5 (((F &&& (-131)) ||| 2) ||| 0)) 24 0 0) 24 4 p2) (q_rJ y), 40, 26520))) 4 (fun _ _ => rfl) ?_
  exact q_Ru_ret rfl rfl
set_option maxHeartbeats 4000000 in
theorem q_p_endC (pix smp tr a16 a17 a21 a22 : Nat → Int32) (t14 t19 p F left dn ins : Int32) (y : Int64) : ∃ a162 a172 a212 a222 t142 t192, q_Ca q_TB0 5 107 [.ref 66] (q_cX (q_rA pix smp tr a16 a17 a21 a22) (q_rI t14 t19 p F left dn ins) (q_rJ y), 40, 26520) (.inl none, (q_cX (q_rA pix smp tr a162 a172 a212 a222) (q_rI t142 t192 p F left dn ins) (q_rJ (y + 1)), 40, 26520)) := by
  cases h154 : decide (lg_cmp ((y + 1) - (y + 1) / 960 * 960) 0 = 0) with
  | true =>
    cases h155 : decide (lg_cmp (((y + 1) / 960) - ((y + 1) / 960) / 2 * 2) 0 = 0) with
    | true =>
      refine ⟨(va_cpy (fun _ => 0) a16 0 0 4096), (va_cpy (upd (fun _ => 0) 10 1) a17 0 0 48), a21, a22, 0, t19, ?_⟩
      refine q_Ca_of (Nat.le_of_ble_eq_true rfl) ?_
      refine q_Ru_seg (g2 := (5, [(0, .ref 66)], [.long y, .ref 66], (q_cX (q_rA pix smp tr a16 a17 a21 a22) (q_rI t14 t19 p F left dn ins) (q_rJ y), 40, 26520))) 3 (fun _ _ => rfl) ?_
      refine q_Ru_seg (g2 := (14, [(0, .ref 66)], [.long (y + 1)], (q_cX (q_rA pix smp tr a16 a17 a21 a22) (q_rI t14 t19 p F left dn ins) (q_uI (q_rJ y) 2 8 (y + 1)), 40, 26520))) 5 (fun _ _ => rfl) ?_
      refine q_Ru_seg (g2 := (20, [(0, .ref 66)], [.int (lg_cmp ((y + 1) - (y + 1) / 960 * 960) 0)], (q_cX (q_rA pix smp tr a16 a17 a21 a22) (q_rI t14 t19 p F left dn ins) (q_uI (q_rJ y) 2 8 (y + 1)), 40, 26520))) 4 (fun _ _ => rfl) ?_
      refine q_Ru_rsF (g2 := (23, [(0, .ref 66)], [], (q_cX (q_rA pix smp tr a16 a17 a21 a22) (q_rI t14 t19 p F left dn ins) (q_uI (q_rJ y) 2 8 (y + 1)), 40, 26520))) rfl rfl (q_d_neT h154) ?_
      refine q_Ru_seg (g2 := (24, [(0, .ref 66)], [.ref 66], (q_cX (q_rA pix smp tr a16 a17 a21 a22) (q_rI t14 t19 p F left dn ins) (q_uI (q_rJ y) 2 8 (y + 1)), 40, 26520))) 1 (fun _ _ => rfl) ?_
      refine q_Ru_call (v := (some (.ref 78))) (h2 := (q_cX (q_rA pix smp tr a16 a17 a21 a22) (q_rI t14 t19 p F left dn ins) (q_uI (q_rJ y) 2 8 (y + 1)), 40, 26520)) rfl rfl ?_ ?_
      · refine q_Ca_of (Nat.le_of_ble_eq_true rfl) ?_
        refine q_Ru_seg (g2 := (4, [(0, .ref 66)], [.long (y + 1)], (q_cX (q_rA pix smp tr a16 a17 a21 a22) (q_rI t14 t19 p F left dn ins) (q_uI (q_rJ y) 2 8 (y + 1)), 40, 26520))) 2 (fun _ _ => rfl) ?_
        refine q_Ru_seg (g2 := (14, [(0, .ref 66)], [.int (lg_cmp (((y + 1) / 960) - ((y + 1) / 960) / 2 * 2) 0)], (q_cX (q_rA pix smp tr a16 a17 a21 a22) (q_rI t14 t19 p F left dn ins) (q_uI (q_rJ y) 2 8 (y + 1)), 40, 26520))) 6 (fun _ _ => rfl) ?_
        refine q_Ru_rsF (g2 := (17, [(0, .ref 66)], [], (q_cX (q_rA pix smp tr a16 a17 a21 a22) (q_rI t14 t19 p F left dn ins) (q_uI (q_rJ y) 2 8 (y + 1)), 40, 26520))) rfl rfl (q_d_neT h155) ?_
        refine q_Ru_seg (g2 := (28, [(0, .ref 66)], [.ref 78], (q_cX (q_rA pix smp tr a16 a17 a21 a22) (q_rI t14 t19 p F left dn ins) (q_uI (q_rJ y) 2 8 (y + 1)), 40, 26520))) 3 (fun _ _ => rfl) ?_
        exact q_Ru_ret rfl rfl
      show q_Ru _ _ _ (27, [(0, .ref 66)], [.ref 78], (q_cX (q_rA pix smp tr a16 a17 a21 a22) (q_rI t14 t19 p F left dn ins) (q_uI (q_rJ y) 2 8 (y + 1)), 40, 26520)) _
      refine q_Ru_seg (g2 := (31, [(0, .ref 66)], [.ref 67, .ref 78], (q_cX (q_rA pix smp tr a16 a17 a21 a22) (q_rI t14 t19 p F left dn ins) (q_uI (q_rJ y) 2 8 (y + 1)), 40, 26520))) 2 (fun _ _ => rfl) ?_
      refine q_Ru_call (v := none) (h2 := (q_cX (q_uA (q_uA (q_rA pix smp tr a16 a17 a21 a22) 16 (va_cpy (fun _ => 0) a16 0 0 4096)) 17 (va_cpy (upd (fun _ => 0) 10 1) a17 0 0 48)) (q_uI (q_uI (q_rI t14 t19 p F left dn ins) 14 2 0) 14 3 0) (q_uI (q_rJ y) 2 8 (y + 1)), 40, 26520)) rfl rfl ?_ ?_
      · refine q_Ca_of (Nat.le_of_ble_eq_true rfl) ?_
        refine q_Ru_seg (g2 := (5, [(0, .ref 78), (1, .ref 67)], [.ref 67, .ref 79], (q_cX (q_rA pix smp tr a16 a17 a21 a22) (q_rI t14 t19 p F left dn ins) (q_uI (q_rJ y) 2 8 (y + 1)), 40, 26520))) 3 (fun _ _ => rfl) ?_
        refine q_Ru_call (v := none) (h2 := (q_cX (q_uA (q_uA (q_rA pix smp tr a16 a17 a21 a22) 16 (va_cpy (fun _ => 0) a16 0 0 4096)) 17 (va_cpy (upd (fun _ => 0) 10 1) a17 0 0 48)) (q_rI t14 t19 p F left dn ins) (q_uI (q_rJ y) 2 8 (y + 1)), 40, 26520)) rfl rfl ?_ ?_
        · refine q_Ca_of (Nat.le_of_ble_eq_true rfl) ?_
          refine q_Ru_seg (g2 := (13, [(0, .ref 79), (1, .ref 67)], [.int 4096, .int 0, .ref 80, .int 0, .ref 68], (q_cX (q_rA pix smp tr a16 a17 a21 a22) (q_rI t14 t19 p F left dn ins) (q_uI (q_rJ y) 2 8 (y + 1)), 40, 26520))) 7 (fun _ _ => rfl) ?_
          refine q_Ru_rsT (g2 := (16, [(0, .ref 79), (1, .ref 67)], [], (q_cX (q_uA (q_rA pix smp tr a16 a17 a21 a22) 16 (va_cpy (fun _ => 0) a16 0 0 4096)) (q_rI t14 t19 p F left dn ins) (q_uI (q_rJ y) 2 8 (y + 1)), 40, 26520))) rfl rfl (q_acb rfl) ?_
          refine q_Ru_seg (g2 := (28, [(0, .ref 79), (1, .ref 67)], [.int 48, .int 0, .ref 81, .int 0, .ref 69], (q_cX (q_uA (q_rA pix smp tr a16 a17 a21 a22) 16 (va_cpy (fun _ => 0) a16 0 0 4096)) (q_rI t14 t19 p F left dn ins) (q_uI (q_rJ y) 2 8 (y + 1)), 40, 26520))) 7 (fun _ _ => rfl) ?_
          refine q_Ru_rsT (g2 := (31, [(0, .ref 79), (1, .ref 67)], [], (q_cX (q_uA (q_uA (q_rA pix smp tr a16 a17 a21 a22) 16 (va_cpy (fun _ => 0) a16 0 0 4096)) 17 (va_cpy (upd (fun _ => 0) 10 1) a17 0 0 48)) (q_rI t14 t19 p F left dn ins) (q_uI (q_rJ y) 2 8 (y + 1)), 40, 26520))) rfl rfl (q_acb rfl) ?_
          exact q_Ru_ret rfl rfl
        show q_Ru _ _ _ (8, [(0, .ref 78), (1, .ref 67)], [], (q_cX (q_uA (q_uA (q_rA pix smp tr a16 a17 a21 a22) 16 (va_cpy (fun _ => 0) a16 0 0 4096)) 17 (va_cpy (upd (fun _ => 0) 10 1) a17 0 0 48)) (q_rI t14 t19 p F left dn ins) (q_uI (q_rJ y) 2 8 (y + 1)), 40, 26520)) _
        refine q_Ru_seg (g2 := (18, [(0, .ref 78), (1, .ref 67)], [], (q_cX (q_uA (q_uA (q_rA pix smp tr a16 a17 a21 a22) 16 (va_cpy (fun _ => 0) a16 0 0 4096)) 17 (va_cpy (upd (fun _ => 0) 10 1) a17 0 0 48)) (q_uI (q_uI (q_rI t14 t19 p F left dn ins) 14 2 0) 14 3 0) (q_uI (q_rJ y) 2 8 (y + 1)), 40, 26520))) 6 (fun _ _ => rfl) ?_
        exact q_Ru_ret rfl rfl
      show q_Ru _ _ _ (34, [(0, .ref 66)], [], (q_cX (q_uA (q_uA (q_rA pix smp tr a16 a17 a21 a22) 16 (va_cpy (fun _ => 0) a16 0 0 4096)) 17 (va_cpy (upd (fun _ => 0) 10 1) a17 0 0 48)) (q_uI (q_uI (q_rI t14 t19 p F left dn ins) 14 2 0) 14 3 0) (q_uI (q_rJ y) 2 8 (y + 1)), 40, 26520)) _
      exact q_Ru_ret rfl rfl
    | false =>
      refine ⟨a16, a17, (va_cpy (fun _ => 0) a21 0 0 4096), (va_cpy (upd (fun _ => 0) 10 1) a22 0 0 48), t14, 0, ?_⟩
      refine q_Ca_of (Nat.le_of_ble_eq_true rfl) ?_
      refine q_Ru_seg (g2 := (5, [(0, .ref 66)], [.long y, .ref 66], (q_cX (q_rA pix smp tr a16 a17 a21 a22) (q_rI t14 t19 p F left dn ins) (q_rJ y), 40, 26520))) 3 (fun _ _ => rfl) ?_
      refine q_Ru_seg (g2 := (14, [(0, .ref 66)], [.long (y + 1)], (q_cX (q_rA pix smp tr a16 a17 a21 a22) (q_rI t14 t19 p F left dn ins) (q_uI (q_rJ y) 2 8 (y + 1)), 40, 26520))) 5 (fun _ _ => rfl) ?_
      refine q_Ru_seg (g2 := (20, [(0, .ref 66)], [.int (lg_cmp ((y + 1) - (y + 1) / 960 * 960) 0)], (q_cX (q_rA pix smp tr a16 a17 a21 a22) (q_rI t14 t19 p F left dn ins) (q_uI (q_rJ y) 2 8 (y + 1)), 40, 26520))) 4 (fun _ _ => rfl) ?_
      refine q_Ru_rsF (g2 := (23, [(0, .ref 66)], [], (q_cX (q_rA pix smp tr a16 a17 a21 a22) (q_rI t14 t19 p F left dn ins) (q_uI (q_rJ y) 2 8 (y + 1)), 40, 26520))) rfl rfl (q_d_neT h154) ?_
      refine q_Ru_seg (g2 := (24, [(0, .ref 66)], [.ref 66], (q_cX (q_rA pix smp tr a16 a17 a21 a22) (q_rI t14 t19 p F left dn ins) (q_uI (q_rJ y) 2 8 (y + 1)), 40, 26520))) 1 (fun _ _ => rfl) ?_
      refine q_Ru_call (v := (some (.ref 83))) (h2 := (q_cX (q_rA pix smp tr a16 a17 a21 a22) (q_rI t14 t19 p F left dn ins) (q_uI (q_rJ y) 2 8 (y + 1)), 40, 26520)) rfl rfl ?_ ?_
      · refine q_Ca_of (Nat.le_of_ble_eq_true rfl) ?_
        refine q_Ru_seg (g2 := (4, [(0, .ref 66)], [.long (y + 1)], (q_cX (q_rA pix smp tr a16 a17 a21 a22) (q_rI t14 t19 p F left dn ins) (q_uI (q_rJ y) 2 8 (y + 1)), 40, 26520))) 2 (fun _ _ => rfl) ?_
        refine q_Ru_seg (g2 := (14, [(0, .ref 66)], [.int (lg_cmp (((y + 1) / 960) - ((y + 1) / 960) / 2 * 2) 0)], (q_cX (q_rA pix smp tr a16 a17 a21 a22) (q_rI t14 t19 p F left dn ins) (q_uI (q_rJ y) 2 8 (y + 1)), 40, 26520))) 6 (fun _ _ => rfl) ?_
        refine q_Ru_rsT (g2 := (24, [(0, .ref 66)], [], (q_cX (q_rA pix smp tr a16 a17 a21 a22) (q_rI t14 t19 p F left dn ins) (q_uI (q_rJ y) 2 8 (y + 1)), 40, 26520))) rfl rfl (q_d_neF h155) ?_
        refine q_Ru_seg (g2 := (28, [(0, .ref 66)], [.ref 83], (q_cX (q_rA pix smp tr a16 a17 a21 a22) (q_rI t14 t19 p F left dn ins) (q_uI (q_rJ y) 2 8 (y + 1)), 40, 26520))) 2 (fun _ _ => rfl) ?_
        exact q_Ru_ret rfl rfl
      show q_Ru _ _ _ (27, [(0, .ref 66)], [.ref 83], (q_cX (q_rA pix smp tr a16 a17 a21 a22) (q_rI t14 t19 p F left dn ins) (q_uI (q_rJ y) 2 8 (y + 1)), 40, 26520)) _
      refine q_Ru_seg (g2 := (31, [(0, .ref 66)], [.ref 67, .ref 83], (q_cX (q_rA pix smp tr a16 a17 a21 a22) (q_rI t14 t19 p F left dn ins) (q_uI (q_rJ y) 2 8 (y + 1)), 40, 26520))) 2 (fun _ _ => rfl) ?_
      refine q_Ru_call (v := none) (h2 := (q_cX (q_uA (q_uA (q_rA pix smp tr a16 a17 a21 a22) 21 (va_cpy (fun _ => 0) a21 0 0 4096)) 22 (va_cpy (upd (fun _ => 0) 10 1) a22 0 0 48)) (q_uI (q_uI (q_rI t14 t19 p F left dn ins) 19 2 0) 19 3 0) (q_uI (q_rJ y) 2 8 (y + 1)), 40, 26520)) rfl rfl ?_ ?_
      · refine q_Ca_of (Nat.le_of_ble_eq_true rfl) ?_
        refine q_Ru_seg (g2 := (5, [(0, .ref 83), (1, .ref 67)], [.ref 67, .ref 84], (q_cX (q_rA pix smp tr a16 a17 a21 a22) (q_rI t14 t19 p F left dn ins) (q_uI (q_rJ y) 2 8 (y + 1)), 40, 26520))) 3 (fun _ _ => rfl) ?_
        refine q_Ru_call (v := none) (h2 := (q_cX (q_uA (q_uA (q_rA pix smp tr a16 a17 a21 a22) 21 (va_cpy (fun _ => 0) a21 0 0 4096)) 22 (va_cpy (upd (fun _ => 0) 10 1) a22 0 0 48)) (q_rI t14 t19 p F left dn ins) (q_uI (q_rJ y) 2 8 (y + 1)), 40, 26520)) rfl rfl ?_ ?_
        · refine q_Ca_of (Nat.le_of_ble_eq_true rfl) ?_
          refine q_Ru_seg (g2 := (13, [(0, .ref 84), (1, .ref 67)], [.int 4096, .int 0, .ref 85, .int 0, .ref 68], (q_cX (q_rA pix smp tr a16 a17 a21 a22) (q_rI t14 t19 p F left dn ins) (q_uI (q_rJ y) 2 8 (y + 1)), 40, 26520))) 7 (fun _ _ => rfl) ?_
          refine q_Ru_rsT (g2 := (16, [(0, .ref 84), (1, .ref 67)], [], (q_cX (q_uA (q_rA pix smp tr a16 a17 a21 a22) 21 (va_cpy (fun _ => 0) a21 0 0 4096)) (q_rI t14 t19 p F left dn ins) (q_uI (q_rJ y) 2 8 (y + 1)), 40, 26520))) rfl rfl (q_acb rfl) ?_
          refine q_Ru_seg (g2 := (28, [(0, .ref 84), (1, .ref 67)], [.int 48, .int 0, .ref 86, .int 0, .ref 69], (q_cX (q_uA (q_rA pix smp tr a16 a17 a21 a22) 21 (va_cpy (fun _ => 0) a21 0 0 4096)) (q_rI t14 t19 p F left dn ins) (q_uI (q_rJ y) 2 8 (y + 1)), 40, 26520))) 7 (fun _ _ => rfl) ?_
          refine q_Ru_rsT (g2 := (31, [(0, .ref 84), (1, .ref 67)], [], (q_cX (q_uA (q_uA (q_rA pix smp tr a16 a17 a21 a22) 21 (va_cpy (fun _ => 0) a21 0 0 4096)) 22 (va_cpy (upd (fun _ => 0) 10 1) a22 0 0 48)) (q_rI t14 t19 p F left dn ins) (q_uI (q_rJ y) 2 8 (y + 1)), 40, 26520))) rfl rfl (q_acb rfl) ?_
          exact q_Ru_ret rfl rfl
        show q_Ru _ _ _ (8, [(0, .ref 83), (1, .ref 67)], [], (q_cX (q_uA (q_uA (q_rA pix smp tr a16 a17 a21 a22) 21 (va_cpy (fun _ => 0) a21 0 0 4096)) 22 (va_cpy (upd (fun _ => 0) 10 1) a22 0 0 48)) (q_rI t14 t19 p F left dn ins) (q_uI (q_rJ y) 2 8 (y + 1)), 40, 26520)) _
        refine q_Ru_seg (g2 := (18, [(0, .ref 83), (1, .ref 67)], [], (q_cX (q_uA (q_uA (q_rA pix smp tr a16 a17 a21 a22) 21 (va_cpy (fun _ => 0) a21 0 0 4096)) 22 (va_cpy (upd (fun _ => 0) 10 1) a22 0 0 48)) (q_uI (q_uI (q_rI t14 t19 p F left dn ins) 19 2 0) 19 3 0) (q_uI (q_rJ y) 2 8 (y + 1)), 40, 26520))) 6 (fun _ _ => rfl) ?_
        exact q_Ru_ret rfl rfl
      show q_Ru _ _ _ (34, [(0, .ref 66)], [], (q_cX (q_uA (q_uA (q_rA pix smp tr a16 a17 a21 a22) 21 (va_cpy (fun _ => 0) a21 0 0 4096)) 22 (va_cpy (upd (fun _ => 0) 10 1) a22 0 0 48)) (q_uI (q_uI (q_rI t14 t19 p F left dn ins) 19 2 0) 19 3 0) (q_uI (q_rJ y) 2 8 (y + 1)), 40, 26520)) _
      exact q_Ru_ret rfl rfl
  | false =>
    refine ⟨a16, a17, a21, a22, t14, t19, ?_⟩
    refine q_Ca_of (Nat.le_of_ble_eq_true rfl) ?_
    refine q_Ru_seg (g2 := (5, [(0, .ref 66)], [.long y, .ref 66], (q_cX (q_rA pix smp tr a16 a17 a21 a22) (q_rI t14 t19 p F left dn ins) (q_rJ y), 40, 26520))) 3 (fun _ _ => rfl) ?_
    refine q_Ru_seg (g2 := (14, [(0, .ref 66)], [.long (y + 1)], (q_cX (q_rA pix smp tr a16 a17 a21 a22) (q_rI t14 t19 p F left dn ins) (q_uI (q_rJ y) 2 8 (y + 1)), 40, 26520))) 5 (fun _ _ => rfl) ?_
    refine q_Ru_seg (g2 := (20, [(0, .ref 66)], [.int (lg_cmp ((y + 1) - (y + 1) / 960 * 960) 0)], (q_cX (q_rA pix smp tr a16 a17 a21 a22) (q_rI t14 t19 p F left dn ins) (q_uI (q_rJ y) 2 8 (y + 1)), 40, 26520))) 4 (fun _ _ => rfl) ?_
    refine q_Ru_rsT (g2 := (34, [(0, .ref 66)], [], (q_cX (q_rA pix smp tr a16 a17 a21 a22) (q_rI t14 t19 p F left dn ins) (q_uI (q_rJ y) 2 8 (y + 1)), 40, 26520))) rfl rfl (q_d_neF h154) ?_
    exact q_Ru_ret rfl rfl
