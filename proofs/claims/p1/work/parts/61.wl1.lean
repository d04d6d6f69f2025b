set_option maxHeartbeats 20000000 in
theorem q_xc16 (L : Nat) (xs : Nat → Int32) (a : Int32) (hl_a : 0 ≤ a.toInt) (hu_a : a.toInt ≤ 9) (w23 : Nat → Int32) : q_Ru (q_TBs 98 L xs) 4 194 (81, [(5, .int 1), (4, .int 0), (3, .ref 12), (2, .int 0), (0, .ref 98), (1, .int 0)], [.ref 98], (q_cX (q_uA q_AX 35 (upd (upd (upd w23 1 32) 2 108) 3 100)) (q_uI q_IX 34 3 4) q_J0, 40, 26520)) (.inl none, (q_cX (q_uA q_AX 35 (upd (upd (upd (upd w23 1 32) 2 108) 3 100) 4 97)) (q_uI q_IX 34 3 5) q_J0, 40, 26520)) := by
  refine q_Ru_seg (g2 := (75, [(5, .int 2), (4, .int 0), (3, .ref 12), (2, .int 0), (0, .ref 98), (1, .int 0)], [.int 2, .ref 12, .ref 98], (q_cX (q_uA q_AX 35 (upd (upd (upd w23 1 32) 2 108) 3 100)) (q_uI q_IX 34 3 4) q_J0, 40, 26520))) 11 (fun _ _ => rfl) ?_
  refine q_Ru_call (v := (some (.int 97))) (h2 := (q_cX (q_uA q_AX 35 (upd (upd (upd w23 1 32) 2 108) 3 100)) (q_uI q_IX 34 3 4) q_J0, 40, 26520)) rfl rfl ?_ ?_
  · refine q_Ca_of (Nat.le_of_ble_eq_true rfl) ?_
    refine q_Ru_seg (g2 := (1, [(0, .ref 12), (1, .int 2)], [.ref 12], (q_cX (q_uA q_AX 35 (upd (upd (upd w23 1 32) 2 108) 3 100)) (q_uI q_IX 34 3 4) q_J0, 40, 26520))) 1 (fun _ _ => rfl) ?_
    refine q_Ru_call (v := (some (.int 1))) (h2 := (q_cX (q_uA q_AX 35 (upd (upd (upd w23 1 32) 2 108) 3 100)) (q_uI q_IX 34 3 4) q_J0, 40, 26520)) rfl rfl ?_ ?_
    · refine q_Ca_of (Nat.le_of_ble_eq_true rfl) ?_
      refine q_Ru_seg (g2 := (18, [(0, .ref 12)], [.int 1], (q_cX (q_uA q_AX 35 (upd (upd (upd w23 1 32) 2 108) 3 100)) (q_uI q_IX 34 3 4) q_J0, 40, 26520))) 7 (fun _ _ => rfl) ?_
      exact q_Ru_ret rfl rfl
    show q_Ru _ _ _ (4, [(0, .ref 12), (1, .int 2)], [.int 1], (q_cX (q_uA q_AX 35 (upd (upd (upd w23 1 32) 2 108) 3 100)) (q_uI q_IX 34 3 4) q_J0, 40, 26520)) _
    refine q_Ru_seg (g2 := (12, [(0, .ref 12), (1, .int 2)], [.int 2, .ref 40], (q_cX (q_uA q_AX 35 (upd (upd (upd w23 1 32) 2 108) 3 100)) (q_uI q_IX 34 3 4) q_J0, 40, 26520))) 4 (fun _ _ => rfl) ?_
    refine q_Ru_call (v := (some (.int 97))) (h2 := (q_cX (q_uA q_AX 35 (upd (upd (upd w23 1 32) 2 108) 3 100)) (q_uI q_IX 34 3 4) q_J0, 40, 26520)) rfl rfl ?_ ?_
    · refine q_Ca_of (Nat.le_of_ble_eq_true rfl) ?_
      refine q_Ru_seg (g2 := (3, [(0, .ref 40), (1, .int 2)], [.int 63, .int 2], (q_cX (q_uA q_AX 35 (upd (upd (upd w23 1 32) 2 108) 3 100)) (q_uI q_IX 34 3 4) q_J0, 40, 26520))) 3 (fun _ _ => rfl) ?_
      refine q_Ru_call (v := none) (h2 := (q_cX (q_uA q_AX 35 (upd (upd (upd w23 1 32) 2 108) 3 100)) (q_uI q_IX 34 3 4) q_J0, 40, 26520)) rfl rfl ?_ ?_
      · refine q_Ca_of (Nat.le_of_ble_eq_true rfl) ?_
        refine q_Ru_seg (g2 := (5, [(0, .int 2), (1, .int 63)], [.null, .int 63, .int 2], (q_cX (q_uA q_AX 35 (upd (upd (upd w23 1 32) 2 108) 3 100)) (q_uI q_IX 34 3 4) q_J0, 40, 26520))) 3 (fun _ _ => rfl) ?_
        refine q_Ru_call (v := (some (.int 2))) (h2 := (q_cX (q_uA q_AX 35 (upd (upd (upd w23 1 32) 2 108) 3 100)) (q_uI q_IX 34 3 4) q_J0, 40, 26520)) rfl rfl ?_ ?_
        · refine q_Ca_of (Nat.le_of_ble_eq_true rfl) ?_
          refine q_Ru_seg (g2 := (17, [(0, .int 2), (1, .int 63), (2, .null)], [.int 2], (q_cX (q_uA q_AX 35 (upd (upd (upd w23 1 32) 2 108) 3 100)) (q_uI q_IX 34 3 4) q_J0, 40, 26520))) 6 (fun _ _ => rfl) ?_
          exact q_Ru_ret rfl rfl
        show q_Ru _ _ _ (8, [(0, .int 2), (1, .int 63)], [.int 2], (q_cX (q_uA q_AX 35 (upd (upd (upd w23 1 32) 2 108) 3 100)) (q_uI q_IX 34 3 4) q_J0, 40, 26520)) _
        refine q_Ru_seg (g2 := (9, [(0, .int 2), (1, .int 63)], [], (q_cX (q_uA q_AX 35 (upd (upd (upd w23 1 32) 2 108) 3 100)) (q_uI q_IX 34 3 4) q_J0, 40, 26520))) 1 (fun _ _ => rfl) ?_
        exact q_Ru_ret rfl rfl
      show q_Ru _ _ _ (6, [(0, .ref 40), (1, .int 2)], [], (q_cX (q_uA q_AX 35 (upd (upd (upd w23 1 32) 2 108) 3 100)) (q_uI q_IX 34 3 4) q_J0, 40, 26520)) _
      refine q_Ru_seg (g2 := (9, [(0, .ref 40), (1, .int 2)], [.int 97], (q_cX (q_uA q_AX 35 (upd (upd (upd w23 1 32) 2 108) 3 100)) (q_uI q_IX 34 3 4) q_J0, 40, 26520))) 3 (fun _ _ => rfl) ?_
      refine q_Ru_seg (g2 := (14, [(0, .ref 40), (1, .int 2)], [.int 97], (q_cX (q_uA q_AX 35 (upd (upd (upd w23 1 32) 2 108) 3 100)) (q_uI q_IX 34 3 4) q_J0, 40, 26520))) 3 (fun _ _ => rfl) ?_
      exact q_Ru_ret rfl rfl
    show q_Ru _ _ _ (15, [(0, .ref 12), (1, .int 2)], [.int 97], (q_cX (q_uA q_AX 35 (upd (upd (upd w23 1 32) 2 108) 3 100)) (q_uI q_IX 34 3 4) q_J0, 40, 26520)) _
    exact q_Ru_ret rfl rfl
  show q_Ru _ _ _ (78, [(5, .int 2), (4, .int 0), (3, .ref 12), (2, .int 0), (0, .ref 98), (1, .int 0)], [.int 97, .ref 98], (q_cX (q_uA q_AX 35 (upd (upd (upd w23 1 32) 2 108) 3 100)) (q_uI q_IX 34 3 4) q_J0, 40, 26520)) _
  refine q_Ru_call (v := (some (.ref 98))) (h2 := (q_cX (q_uA q_AX 35 (upd (upd (upd (upd w23 1 32) 2 108) 3 100) 4 97)) (q_uI q_IX 34 3 5) q_J0, 40, 26520)) rfl rfl ?_ ?_
  · refine q_Ca_of (Nat.le_of_ble_eq_true rfl) ?_
    refine q_Ru_seg (g2 := (2, [(0, .ref 98), (1, .int 97)], [.int 97, .ref 98], (q_cX (q_uA q_AX 35 (upd (upd (upd w23 1 32) 2 108) 3 100)) (q_uI q_IX 34 3 4) q_J0, 40, 26520))) 2 (fun _ _ => rfl) ?_
    refine q_Ru_call (v := (some (.ref 98))) (h2 := (q_cX (q_uA q_AX 35 (upd (upd (upd (upd w23 1 32) 2 108) 3 100) 4 97)) (q_uI q_IX 34 3 5) q_J0, 40, 26520)) rfl rfl ?_ ?_
    · refine q_Ca_of (Nat.le_of_ble_eq_true rfl) ?_
      refine q_Ru_seg (g2 := (5, [(0, .ref 98), (1, .int 97)], [.int 4, .ref 98], (q_cX (q_uA q_AX 35 (upd (upd (upd w23 1 32) 2 108) 3 100)) (q_uI q_IX 34 3 4) q_J0, 40, 26520))) 3 (fun _ _ => rfl) ?_
      refine q_Ru_seg (g2 := (7, [(0, .ref 98), (1, .int 97)], [.int 5, .ref 98], (q_cX (q_uA q_AX 35 (upd (upd (upd w23 1 32) 2 108) 3 100)) (q_uI q_IX 34 3 4) q_J0, 40, 26520))) 2 (fun _ _ => rfl) ?_
      refine q_Ru_call (v := none) (h2 := (q_cX (q_uA q_AX 35 (upd (upd (upd w23 1 32) 2 108) 3 100)) (q_uI q_IX 34 3 4) q_J0, 40, 26520)) rfl rfl ?_ ?_
      · refine q_Ca_of (Nat.le_of_ble_eq_true rfl) ?_
        refine q_Ru_seg (g2 := (9, [(0, .ref 98), (1, .int 5)], [.int 0, .int 16], (q_cX (q_uA q_AX 35 (upd (upd (upd w23 1 32) 2 108) 3 100)) (q_uI q_IX 34 3 4) q_J0, 40, 26520))) 5 (fun _ _ => rfl) ?_
        refine q_Ru_seg (g2 := (38, [(2, .int 16), (0, .ref 98), (1, .int 5)], [], (q_cX (q_uA q_AX 35 (upd (upd (upd w23 1 32) 2 108) 3 100)) (q_uI q_IX 34 3 4) q_J0, 40, 26520))) 6 (fun _ _ => rfl) ?_
        exact q_Ru_ret rfl rfl
      show q_Ru _ _ _ (10, [(0, .ref 98), (1, .int 97)], [], (q_cX (q_uA q_AX 35 (upd (upd (upd w23 1 32) 2 108) 3 100)) (q_uI q_IX 34 3 4) q_J0, 40, 26520)) _
      refine q_Ru_seg (g2 := (11, [(0, .ref 98), (1, .int 97)], [.ref 98], (q_cX (q_uA q_AX 35 (upd (upd (upd w23 1 32) 2 108) 3 100)) (q_uI q_IX 34 3 4) q_J0, 40, 26520))) 1 (fun _ _ => rfl) ?_
      refine q_Ru_call (v := (some (.int 1))) (h2 := (q_cX (q_uA q_AX 35 (upd (upd (upd w23 1 32) 2 108) 3 100)) (q_uI q_IX 34 3 4) q_J0, 40, 26520)) rfl rfl ?_ ?_
      · refine q_Ca_of (Nat.le_of_ble_eq_true rfl) ?_
        refine q_Ru_seg (g2 := (10, [(0, .ref 98)], [.int 0], (q_cX (q_uA q_AX 35 (upd (upd (upd w23 1 32) 2 108) 3 100)) (q_uI q_IX 34 3 4) q_J0, 40, 26520))) 4 (fun _ _ => rfl) ?_
        refine q_Ru_seg (g2 := (18, [(0, .ref 98)], [.int 1], (q_cX (q_uA q_AX 35 (upd (upd (upd w23 1 32) 2 108) 3 100)) (q_uI q_IX 34 3 4) q_J0, 40, 26520))) 3 (fun _ _ => rfl) ?_
        exact q_Ru_ret rfl rfl
      show q_Ru _ _ _ (14, [(0, .ref 98), (1, .int 97)], [.int 1], (q_cX (q_uA q_AX 35 (upd (upd (upd w23 1 32) 2 108) 3 100)) (q_uI q_IX 34 3 4) q_J0, 40, 26520)) _
      refine q_Ru_seg (g2 := (18, [(0, .ref 98), (1, .int 97)], [.int 97], (q_cX (q_uA q_AX 35 (upd (upd (upd w23 1 32) 2 108) 3 100)) (q_uI q_IX 34 3 4) q_J0, 40, 26520))) 2 (fun _ _ => rfl) ?_
      refine q_Ru_call (v := (some (.int 1))) (h2 := (q_cX (q_uA q_AX 35 (upd (upd (upd w23 1 32) 2 108) 3 100)) (q_uI q_IX 34 3 4) q_J0, 40, 26520)) rfl rfl ?_ ?_
      · refine q_Ca_of (Nat.le_of_ble_eq_true rfl) ?_
        refine q_Ru_seg (g2 := (12, [(0, .int 97)], [.int 1], (q_cX (q_uA q_AX 35 (upd (upd (upd w23 1 32) 2 108) 3 100)) (q_uI q_IX 34 3 4) q_J0, 40, 26520))) 5 (fun _ _ => rfl) ?_
        exact q_Ru_ret rfl rfl
      show q_Ru _ _ _ (21, [(0, .ref 98), (1, .int 97)], [.int 1], (q_cX (q_uA q_AX 35 (upd (upd (upd w23 1 32) 2 108) 3 100)) (q_uI q_IX 34 3 4) q_J0, 40, 26520)) _
      refine q_Ru_seg (g2 := (33, [(0, .ref 98), (1, .int 97)], [.int 4, .ref 98, .ref 99], (q_cX (q_uA q_AX 35 (upd (upd (upd w23 1 32) 2 108) 3 100)) (q_uI q_IX 34 3 4) q_J0, 40, 26520))) 6 (fun _ _ => rfl) ?_
      refine q_Ru_seg (g2 := (76, [(0, .ref 98), (1, .int 97)], [.ref 98], (q_cX (q_uA q_AX 35 (upd (upd (upd (upd w23 1 32) 2 108) 3 100) 4 97)) (q_uI q_IX 34 3 5) q_J0, 40, 26520))) 9 (fun _ _ => rfl) ?_
      exact q_Ru_ret rfl rfl
    show q_Ru _ _ _ (5, [(0, .ref 98), (1, .int 97)], [.ref 98], (q_cX (q_uA q_AX 35 (upd (upd (upd (upd w23 1 32) 2 108) 3 100) 4 97)) (q_uI q_IX 34 3 5) q_J0, 40, 26520)) _
    refine q_Ru_seg (g2 := (7, [(0, .ref 98), (1, .int 97)], [.ref 98], (q_cX (q_uA q_AX 35 (upd (upd (upd (upd w23 1 32) 2 108) 3 100) 4 97)) (q_uI q_IX 34 3 5) q_J0, 40, 26520))) 2 (fun _ _ => rfl) ?_
    exact q_Ru_ret rfl rfl
  show q_Ru _ _ _ (81, [(5, .int 2), (4, .int 0), (3, .ref 12), (2, .int 0), (0, .ref 98), (1, .int 0)], [.ref 98], (q_cX (q_uA q_AX 35 (upd (upd (upd (upd w23 1 32) 2 108) 3 100) 4 97)) (q_uI q_IX 34 3 5) q_J0, 40, 26520)) _
  refine q_Ru_seg (g2 := (88, [(5, .int 3), (4, .int 0), (3, .ref 12), (2, .int 0), (0, .ref 98), (1, .int 0)], [], (q_cX (q_uA q_AX 35 (upd (upd (upd (upd w23 1 32) 2 108) 3 100) 4 97)) (q_uI q_IX 34 3 5) q_J0, 40, 26520))) 8 (fun _ _ => rfl) ?_
  exact q_Ru_ret rfl rfl
set_option maxHeartbeats 20000000 in
theorem q_xc17 (L : Nat) (xs : Nat → Int32) (a : Int32) (hl_a : 0 ≤ a.toInt) (hu_a : a.toInt ≤ 9) (w23 : Nat → Int32) : q_Ru (q_TBs 98 L xs) 4 194 (81, [(5, .int 0), (4, .int 0), (3, .ref 12), (2, .int 0), (0, .ref 98), (1, .int 0)], [.ref 98], (q_cX (q_uA q_AX 35 (upd (upd w23 1 32) 2 108)) (q_uI q_IX 34 3 3) q_J0, 40, 26520)) (.inl none, (q_cX (q_uA q_AX 35 (upd (upd (upd (upd w23 1 32) 2 108) 3 100) 4 97)) (q_uI q_IX 34 3 5) q_J0, 40, 26520)) := by
  refine q_Ru_seg (g2 := (75, [(5, .int 1), (4, .int 0), (3, .ref 12), (2, .int 0), (0, .ref 98), (1, .int 0)], [.int 1, .ref 12, .ref 98], (q_cX (q_uA q_AX 35 (upd (upd w23 1 32) 2 108)) (q_uI q_IX 34 3 3) q_J0, 40, 26520))) 11 (fun _ _ => rfl) ?_
  refine q_Ru_call (v := (some (.int 100))) (h2 := (q_cX (q_uA q_AX 35 (upd (upd w23 1 32) 2 108)) (q_uI q_IX 34 3 3) q_J0, 40, 26520)) rfl rfl ?_ ?_
  · refine q_Ca_of (Nat.le_of_ble_eq_true rfl) ?_
    refine q_Ru_seg (g2 := (1, [(0, .ref 12), (1, .int 1)], [.ref 12], (q_cX (q_uA q_AX 35 (upd (upd w23 1 32) 2 108)) (q_uI q_IX 34 3 3) q_J0, 40, 26520))) 1 (fun _ _ => rfl) ?_
    refine q_Ru_call (v := (some (.int 1))) (h2 := (q_cX (q_uA q_AX 35 (upd (upd w23 1 32) 2 108)) (q_uI q_IX 34 3 3) q_J0, 40, 26520)) rfl rfl ?_ ?_
    · refine q_Ca_of (Nat.le_of_ble_eq_true rfl) ?_
      refine q_Ru_seg (g2 := (18, [(0, .ref 12)], [.int 1], (q_cX (q_uA q_AX 35 (upd (upd w23 1 32) 2 108)) (q_uI q_IX 34 3 3) q_J0, 40, 26520))) 7 (fun _ _ => rfl) ?_
      exact q_Ru_ret rfl rfl
    show q_Ru _ _ _ (4, [(0, .ref 12), (1, .int 1)], [.int 1], (q_cX (q_uA q_AX 35 (upd (upd w23 1 32) 2 108)) (q_uI q_IX 34 3 3) q_J0, 40, 26520)) _
    refine q_Ru_seg (g2 := (12, [(0, .ref 12), (1, .int 1)], [.int 1, .ref 40], (q_cX (q_uA q_AX 35 (upd (upd w23 1 32) 2 108)) (q_uI q_IX 34 3 3) q_J0, 40, 26520))) 4 (fun _ _ => rfl) ?_
    refine q_Ru_call (v := (some (.int 100))) (h2 := (q_cX (q_uA q_AX 35 (upd (upd w23 1 32) 2 108)) (q_uI q_IX 34 3 3) q_J0, 40, 26520)) rfl rfl ?_ ?_
    · refine q_Ca_of (Nat.le_of_ble_eq_true rfl) ?_
      refine q_Ru_seg (g2 := (3, [(0, .ref 40), (1, .int 1)], [.int 63, .int 1], (q_cX (q_uA q_AX 35 (upd (upd w23 1 32) 2 108)) (q_uI q_IX 34 3 3) q_J0, 40, 26520))) 3 (fun _ _ => rfl) ?_
      refine q_Ru_call (v := none) (h2 := (q_cX (q_uA q_AX 35 (upd (upd w23 1 32) 2 108)) (q_uI q_IX 34 3 3) q_J0, 40, 26520)) rfl rfl ?_ ?_
      · refine q_Ca_of (Nat.le_of_ble_eq_true rfl) ?_
        refine q_Ru_seg (g2 := (5, [(0, .int 1), (1, .int 63)], [.null, .int 63, .int 1], (q_cX (q_uA q_AX 35 (upd (upd w23 1 32) 2 108)) (q_uI q_IX 34 3 3) q_J0, 40, 26520))) 3 (fun _ _ => rfl) ?_
        refine q_Ru_call (v := (some (.int 1))) (h2 := (q_cX (q_uA q_AX 35 (upd (upd w23 1 32) 2 108)) (q_uI q_IX 34 3 3) q_J0, 40, 26520)) rfl rfl ?_ ?_
        · refine q_Ca_of (Nat.le_of_ble_eq_true rfl) ?_
          refine q_Ru_seg (g2 := (17, [(0, .int 1), (1, .int 63), (2, .null)], [.int 1], (q_cX (q_uA q_AX 35 (upd (upd w23 1 32) 2 108)) (q_uI q_IX 34 3 3) q_J0, 40, 26520))) 6 (fun _ _ => rfl) ?_
          exact q_Ru_ret rfl rfl
        show q_Ru _ _ _ (8, [(0, .int 1), (1, .int 63)], [.int 1], (q_cX (q_uA q_AX 35 (upd (upd w23 1 32) 2 108)) (q_uI q_IX 34 3 3) q_J0, 40, 26520)) _
        refine q_Ru_seg (g2 := (9, [(0, .int 1), (1, .int 63)], [], (q_cX (q_uA q_AX 35 (upd (upd w23 1 32) 2 108)) (q_uI q_IX 34 3 3) q_J0, 40, 26520))) 1 (fun _ _ => rfl) ?_
        exact q_Ru_ret rfl rfl
      show q_Ru _ _ _ (6, [(0, .ref 40), (1, .int 1)], [], (q_cX (q_uA q_AX 35 (upd (upd w23 1 32) 2 108)) (q_uI q_IX 34 3 3) q_J0, 40, 26520)) _
      refine q_Ru_seg (g2 := (9, [(0, .ref 40), (1, .int 1)], [.int 100], (q_cX (q_uA q_AX 35 (upd (upd w23 1 32) 2 108)) (q_uI q_IX 34 3 3) q_J0, 40, 26520))) 3 (fun _ _ => rfl) ?_
      refine q_Ru_seg (g2 := (14, [(0, .ref 40), (1, .int 1)], [.int 100], (q_cX (q_uA q_AX 35 (upd (upd w23 1 32) 2 108)) (q_uI q_IX 34 3 3) q_J0, 40, 26520))) 3 (fun _ _ => rfl) ?_
      exact q_Ru_ret rfl rfl
    show q_Ru _ _ _ (15, [(0, .ref 12), (1, .int 1)], [.int 100], (q_cX (q_uA q_AX 35 (upd (upd w23 1 32) 2 108)) (q_uI q_IX 34 3 3) q_J0, 40, 26520)) _
    exact q_Ru_ret rfl rfl
  show q_Ru _ _ _ (78, [(5, .int 1), (4, .int 0), (3, .ref 12), (2, .int 0), (0, .ref 98), (1, .int 0)], [.int 100, .ref 98], (q_cX (q_uA q_AX 35 (upd (upd w23 1 32) 2 108)) (q_uI q_IX 34 3 3) q_J0, 40, 26520)) _
  refine q_Ru_call (v := (some (.ref 98))) (h2 := (q_cX (q_uA q_AX 35 (upd (upd (upd w23 1 32) 2 108) 3 100)) (q_uI q_IX 34 3 4) q_J0, 40, 26520)) rfl rfl ?_ ?_
  · refine q_Ca_of (Nat.le_of_ble_eq_true rfl) ?_
    refine q_Ru_seg (g2 := (2, [(0, .ref 98), (1, .int 100)], [.int 100, .ref 98], (q_cX (q_uA q_AX 35 (upd (upd w23 1 32) 2 108)) (q_uI q_IX 34 3 3) q_J0, 40, 26520))) 2 (fun _ _ => rfl) ?_
    refine q_Ru_call (v := (some (.ref 98))) (h2 := (q_cX (q_uA q_AX 35 (upd (upd (upd w23 1 32) 2 108) 3 100)) (q_uI q_IX 34 3 4) q_J0, 40, 26520)) rfl rfl ?_ ?_
    · refine q_Ca_of (Nat.le_of_ble_eq_true rfl) ?_
      refine q_Ru_seg (g2 := (5, [(0, .ref 98), (1, .int 100)], [.int 3, .ref 98], (q_cX (q_uA q_AX 35 (upd (upd w23 1 32) 2 108)) (q_uI q_IX 34 3 3) q_J0, 40, 26520))) 3 (fun _ _ => rfl) ?_
      refine q_Ru_seg (g2 := (7, [(0, .ref 98), (1, .int 100)], [.int 4, .ref 98], (q_cX (q_uA q_AX 35 (upd (upd w23 1 32) 2 108)) (q_uI q_IX 34 3 3) q_J0, 40, 26520))) 2 (fun _ _ => rfl) ?_
      refine q_Ru_call (v := none) (h2 := (q_cX (q_uA q_AX 35 (upd (upd w23 1 32) 2 108)) (q_uI q_IX 34 3 3) q_J0, 40, 26520)) rfl rfl ?_ ?_
      · refine q_Ca_of (Nat.le_of_ble_eq_true rfl) ?_
        refine q_Ru_seg (g2 := (9, [(0, .ref 98), (1, .int 4)], [.int 0, .int 16], (q_cX (q_uA q_AX 35 (upd (upd w23 1 32) 2 108)) (q_uI q_IX 34 3 3) q_J0, 40, 26520))) 5 (fun _ _ => rfl) ?_
        refine q_Ru_seg (g2 := (38, [(2, .int 16), (0, .ref 98), (1, .int 4)], [], (q_cX (q_uA q_AX 35 (upd (upd w23 1 32) 2 108)) (q_uI q_IX 34 3 3) q_J0, 40, 26520))) 6 (fun _ _ => rfl) ?_
        exact q_Ru_ret rfl rfl
      show q_Ru _ _ _ (10, [(0, .ref 98), (1, .int 100)], [], (q_cX (q_uA q_AX 35 (upd (upd w23 1 32) 2 108)) (q_uI q_IX 34 3 3) q_J0, 40, 26520)) _
      refine q_Ru_seg (g2 := (11, [(0, .ref 98), (1, .int 100)], [.ref 98], (q_cX (q_uA q_AX 35 (upd (upd w23 1 32) 2 108)) (q_uI q_IX 34 3 3) q_J0, 40, 26520))) 1 (fun _ _ => rfl) ?_
      refine q_Ru_call (v := (some (.int 1))) (h2 := (q_cX (q_uA q_AX 35 (upd (upd w23 1 32) 2 108)) (q_uI q_IX 34 3 3) q_J0, 40, 26520)) rfl rfl ?_ ?_
      · refine q_Ca_of (Nat.le_of_ble_eq_true rfl) ?_
        refine q_Ru_seg (g2 := (10, [(0, .ref 98)], [.int 0], (q_cX (q_uA q_AX 35 (upd (upd w23 1 32) 2 108)) (q_uI q_IX 34 3 3) q_J0, 40, 26520))) 4 (fun _ _ => rfl) ?_
        refine q_Ru_seg (g2 := (18, [(0, .ref 98)], [.int 1], (q_cX (q_uA q_AX 35 (upd (upd w23 1 32) 2 108)) (q_uI q_IX 34 3 3) q_J0, 40, 26520))) 3 (fun _ _ => rfl) ?_
        exact q_Ru_ret rfl rfl
      show q_Ru _ _ _ (14, [(0, .ref 98), (1, .int 100)], [.int 1], (q_cX (q_uA q_AX 35 (upd (upd w23 1 32) 2 108)) (q_uI q_IX 34 3 3) q_J0, 40, 26520)) _
      refine q_Ru_seg (g2 := (18, [(0, .ref 98), (1, .int 100)], [.int 100], (q_cX (q_uA q_AX 35 (upd (upd w23 1 32) 2 108)) (q_uI q_IX 34 3 3) q_J0, 40, 26520))) 2 (fun _ _ => rfl) ?_
      refine q_Ru_call (v := (some (.int 1))) (h2 := (q_cX (q_uA q_AX 35 (upd (upd w23 1 32) 2 108)) (q_uI q_IX 34 3 3) q_J0, 40, 26520)) rfl rfl ?_ ?_
      · refine q_Ca_of (Nat.le_of_ble_eq_true rfl) ?_
        refine q_Ru_seg (g2 := (12, [(0, .int 100)], [.int 1], (q_cX (q_uA q_AX 35 (upd (upd w23 1 32) 2 108)) (q_uI q_IX 34 3 3) q_J0, 40, 26520))) 5 (fun _ _ => rfl) ?_
        exact q_Ru_ret rfl rfl
      show q_Ru _ _ _ (21, [(0, .ref 98), (1, .int 100)], [.int 1], (q_cX (q_uA q_AX 35 (upd (upd w23 1 32) 2 108)) (q_uI q_IX 34 3 3) q_J0, 40, 26520)) _
      refine q_Ru_seg (g2 := (33, [(0, .ref 98), (1, .int 100)], [.int 3, .ref 98, .ref 99], (q_cX (q_uA q_AX 35 (upd (upd w23 1 32) 2 108)) (q_uI q_IX 34 3 3) q_J0, 40, 26520))) 6 (fun _ _ => rfl) ?_
      refine q_Ru_seg (g2 := (76, [(0, .ref 98), (1, .int 100)], [.ref 98], (q_cX (q_uA q_AX 35 (upd (upd (upd w23 1 32) 2 108) 3 100)) (q_uI q_IX 34 3 4) q_J0, 40, 26520))) 9 (fun _ _ => rfl) ?_
      exact q_Ru_ret rfl rfl
    show q_Ru _ _ _ (5, [(0, .ref 98), (1, .int 100)], [.ref 98], (q_cX (q_uA q_AX 35 (upd (upd (upd w23 1 32) 2 108) 3 100)) (q_uI q_IX 34 3 4) q_J0, 40, 26520)) _
    refine q_Ru_seg (g2 := (7, [(0, .ref 98), (1, .int 100)], [.ref 98], (q_cX (q_uA q_AX 35 (upd (upd (upd w23 1 32) 2 108) 3 100)) (q_uI q_IX 34 3 4) q_J0, 40, 26520))) 2 (fun _ _ => rfl) ?_
    exact q_Ru_ret rfl rfl
  show q_Ru _ _ _ (81, [(5, .int 1), (4, .int 0), (3, .ref 12), (2, .int 0), (0, .ref 98), (1, .int 0)], [.ref 98], (q_cX (q_uA q_AX 35 (upd (upd (upd w23 1 32) 2 108) 3 100)) (q_uI q_IX 34 3 4) q_J0, 40, 26520)) _
  exact q_Ru_le (Nat.le_of_ble_eq_true rfl) (q_xc16 L xs a hl_a hu_a w23)
set_option maxHeartbeats 20000000 in
theorem q_xc18 (L : Nat) (xs : Nat → Int32) (a : Int32) (hl_a : 0 ≤ a.toInt) (hu_a : a.toInt ≤ 9) (w23 : Nat → Int32) : q_Ru (q_TBs 98 L xs) 4 194 (47, [(4, .int 0), (3, .ref 12), (2, .int 0), (0, .ref 98), (1, .int 0)], [.int 63, .int 2], (q_cX (q_uA q_AX 35 (upd w23 1 32)) (q_uI q_IX 34 3 2) q_J0, 40, 26520)) (.inl none, (q_cX (q_uA q_AX 35 (upd (upd (upd (upd w23 1 32) 2 108) 3 100) 4 97)) (q_uI q_IX 34 3 5) q_J0, 40, 26520)) := by
  refine q_Ru_seg (g2 := (75, [(5, .int 0), (4, .int 0), (3, .ref 12), (2, .int 0), (0, .ref 98), (1, .int 0)], [.int 0, .ref 12, .ref 98], (q_cX (q_uA q_AX 35 (upd w23 1 32)) (q_uI q_IX 34 3 2) q_J0, 40, 26520))) 11 (fun _ _ => rfl) ?_
  refine q_Ru_call (v := (some (.int 108))) (h2 := (q_cX (q_uA q_AX 35 (upd w23 1 32)) (q_uI q_IX 34 3 2) q_J0, 40, 26520)) rfl rfl ?_ ?_
  · refine q_Ca_of (Nat.le_of_ble_eq_true rfl) ?_
    refine q_Ru_seg (g2 := (1, [(0, .ref 12), (1, .int 0)], [.ref 12], (q_cX (q_uA q_AX 35 (upd w23 1 32)) (q_uI q_IX 34 3 2) q_J0, 40, 26520))) 1 (fun _ _ => rfl) ?_
    refine q_Ru_call (v := (some (.int 1))) (h2 := (q_cX (q_uA q_AX 35 (upd w23 1 32)) (q_uI q_IX 34 3 2) q_J0, 40, 26520)) rfl rfl ?_ ?_
    · refine q_Ca_of (Nat.le_of_ble_eq_true rfl) ?_
      refine q_Ru_seg (g2 := (18, [(0, .ref 12)], [.int 1], (q_cX (q_uA q_AX 35 (upd w23 1 32)) (q_uI q_IX 34 3 2) q_J0, 40, 26520))) 7 (fun _ _ => rfl) ?_
      exact q_Ru_ret rfl rfl
    show q_Ru _ _ _ (4, [(0, .ref 12), (1, .int 0)], [.int 1], (q_cX (q_uA q_AX 35 (upd w23 1 32)) (q_uI q_IX 34 3 2) q_J0, 40, 26520)) _
    refine q_Ru_seg (g2 := (12, [(0, .ref 12), (1, .int 0)], [.int 0, .ref 40], (q_cX (q_uA q_AX 35 (upd w23 1 32)) (q_uI q_IX 34 3 2) q_J0, 40, 26520))) 4 (fun _ _ => rfl) ?_
    refine q_Ru_call (v := (some (.int 108))) (h2 := (q_cX (q_uA q_AX 35 (upd w23 1 32)) (q_uI q_IX 34 3 2) q_J0, 40, 26520)) rfl rfl ?_ ?_
    · refine q_Ca_of (Nat.le_of_ble_eq_true rfl) ?_
      refine q_Ru_seg (g2 := (3, [(0, .ref 40), (1, .int 0)], [.int 63, .int 0], (q_cX (q_uA q_AX 35 (upd w23 1 32)) (q_uI q_IX 34 3 2) q_J0, 40, 26520))) 3 (fun _ _ => rfl) ?_
      refine q_Ru_call (v := none) (h2 := (q_cX (q_uA q_AX 35 (upd w23 1 32)) (q_uI q_IX 34 3 2) q_J0, 40, 26520)) rfl rfl ?_ ?_
      · refine q_Ca_of (Nat.le_of_ble_eq_true rfl) ?_
        refine q_Ru_seg (g2 := (5, [(0, .int 0), (1, .int 63)], [.null, .int 63, .int 0], (q_cX (q_uA q_AX 35 (upd w23 1 32)) (q_uI q_IX 34 3 2) q_J0, 40, 26520))) 3 (fun _ _ => rfl) ?_
        refine q_Ru_call (v := (some (.int 0))) (h2 := (q_cX (q_uA q_AX 35 (upd w23 1 32)) (q_uI q_IX 34 3 2) q_J0, 40, 26520)) rfl rfl ?_ ?_
        · refine q_Ca_of (Nat.le_of_ble_eq_true rfl) ?_
          refine q_Ru_seg (g2 := (17, [(0, .int 0), (1, .int 63), (2, .null)], [.int 0], (q_cX (q_uA q_AX 35 (upd w23 1 32)) (q_uI q_IX 34 3 2) q_J0, 40, 26520))) 6 (fun _ _ => rfl) ?_
          exact q_Ru_ret rfl rfl
        show q_Ru _ _ _ (8, [(0, .int 0), (1, .int 63)], [.int 0], (q_cX (q_uA q_AX 35 (upd w23 1 32)) (q_uI q_IX 34 3 2) q_J0, 40, 26520)) _
        refine q_Ru_seg (g2 := (9, [(0, .int 0), (1, .int 63)], [], (q_cX (q_uA q_AX 35 (upd w23 1 32)) (q_uI q_IX 34 3 2) q_J0, 40, 26520))) 1 (fun _ _ => rfl) ?_
        exact q_Ru_ret rfl rfl
      show q_Ru _ _ _ (6, [(0, .ref 40), (1, .int 0)], [], (q_cX (q_uA q_AX 35 (upd w23 1 32)) (q_uI q_IX 34 3 2) q_J0, 40, 26520)) _
      refine q_Ru_seg (g2 := (9, [(0, .ref 40), (1, .int 0)], [.int 108], (q_cX (q_uA q_AX 35 (upd w23 1 32)) (q_uI q_IX 34 3 2) q_J0, 40, 26520))) 3 (fun _ _ => rfl) ?_
      refine q_Ru_seg (g2 := (14, [(0, .ref 40), (1, .int 0)], [.int 108], (q_cX (q_uA q_AX 35 (upd w23 1 32)) (q_uI q_IX 34 3 2) q_J0, 40, 26520))) 3 (fun _ _ => rfl) ?_
      exact q_Ru_ret rfl rfl
    show q_Ru _ _ _ (15, [(0, .ref 12), (1, .int 0)], [.int 108], (q_cX (q_uA q_AX 35 (upd w23 1 32)) (q_uI q_IX 34 3 2) q_J0, 40, 26520)) _
    exact q_Ru_ret rfl rfl
  show q_Ru _ _ _ (78, [(5, .int 0), (4, .int 0), (3, .ref 12), (2, .int 0), (0, .ref 98), (1, .int 0)], [.int 108, .ref 98], (q_cX (q_uA q_AX 35 (upd w23 1 32)) (q_uI q_IX 34 3 2) q_J0, 40, 26520)) _
  refine q_Ru_call (v := (some (.ref 98))) (h2 := (q_cX (q_uA q_AX 35 (upd (upd w23 1 32) 2 108)) (q_uI q_IX 34 3 3) q_J0, 40, 26520)) rfl rfl ?_ ?_
  · refine q_Ca_of (Nat.le_of_ble_eq_true rfl) ?_
    refine q_Ru_seg (g2 := (2, [(0, .ref 98), (1, .int 108)], [.int 108, .ref 98], (q_cX (q_uA q_AX 35 (upd w23 1 32)) (q_uI q_IX 34 3 2) q_J0, 40, 26520))) 2 (fun _ _ => rfl) ?_
    refine q_Ru_call (v := (some (.ref 98))) (h2 := (q_cX (q_uA q_AX 35 (upd (upd w23 1 32) 2 108)) (q_uI q_IX 34 3 3) q_J0, 40, 26520)) rfl rfl ?_ ?_
    · refine q_Ca_of (Nat.le_of_ble_eq_true rfl) ?_
      refine q_Ru_seg (g2 := (5, [(0, .ref 98), (1, .int 108)], [.int 2, .ref 98], (q_cX (q_uA q_AX 35 (upd w23 1 32)) (q_uI q_IX 34 3 2) q_J0, 40, 26520))) 3 (fun _ _ => rfl) ?_
      refine q_Ru_seg (g2 := (7, [(0, .ref 98), (1, .int 108)], [.int 3, .ref 98], (q_cX (q_uA q_AX 35 (upd w23 1 32)) (q_uI q_IX 34 3 2) q_J0, 40, 26520))) 2 (fun _ _ => rfl) ?_
      refine q_Ru_call (v := none) (h2 := (q_cX (q_uA q_AX 35 (upd w23 1 32)) (q_uI q_IX 34 3 2) q_J0, 40, 26520)) rfl rfl ?_ ?_
      · refine q_Ca_of (Nat.le_of_ble_eq_true rfl) ?_
        refine q_Ru_seg (g2 := (9, [(0, .ref 98), (1, .int 3)], [.int 0, .int 16], (q_cX (q_uA q_AX 35 (upd w23 1 32)) (q_uI q_IX 34 3 2) q_J0, 40, 26520))) 5 (fun _ _ => rfl) ?_
        refine q_Ru_seg (g2 := (38, [(2, .int 16), (0, .ref 98), (1, .int 3)], [], (q_cX (q_uA q_AX 35 (upd w23 1 32)) (q_uI q_IX 34 3 2) q_J0, 40, 26520))) 6 (fun _ _ => rfl) ?_
        exact q_Ru_ret rfl rfl
      show q_Ru _ _ _ (10, [(0, .ref 98), (1, .int 108)], [], (q_cX (q_uA q_AX 35 (upd w23 1 32)) (q_uI q_IX 34 3 2) q_J0, 40, 26520)) _
      refine q_Ru_seg (g2 := (11, [(0, .ref 98), (1, .int 108)], [.ref 98], (q_cX (q_uA q_AX 35 (upd w23 1 32)) (q_uI q_IX 34 3 2) q_J0, 40, 26520))) 1 (fun _ _ => rfl) ?_
      refine q_Ru_call (v := (some (.int 1))) (h2 := (q_cX (q_uA q_AX 35 (upd w23 1 32)) (q_uI q_IX 34 3 2) q_J0, 40, 26520)) rfl rfl ?_ ?_
      · refine q_Ca_of (Nat.le_of_ble_eq_true rfl) ?_
        refine q_Ru_seg (g2 := (10, [(0, .ref 98)], [.int 0], (q_cX (q_uA q_AX 35 (upd w23 1 32)) (q_uI q_IX 34 3 2) q_J0, 40, 26520))) 4 (fun _ _ => rfl) ?_
        refine q_Ru_seg (g2 := (18, [(0, .ref 98)], [.int 1], (q_cX (q_uA q_AX 35 (upd w23 1 32)) (q_uI q_IX 34 3 2) q_J0, 40, 26520))) 3 (fun _ _ => rfl) ?_
        exact q_Ru_ret rfl rfl
      show q_Ru _ _ _ (14, [(0, .ref 98), (1, .int 108)], [.int 1], (q_cX (q_uA q_AX 35 (upd w23 1 32)) (q_uI q_IX 34 3 2) q_J0, 40, 26520)) _
      refine q_Ru_seg (g2 := (18, [(0, .ref 98), (1, .int 108)], [.int 108], (q_cX (q_uA q_AX 35 (upd w23 1 32)) (q_uI q_IX 34 3 2) q_J0, 40, 26520))) 2 (fun _ _ => rfl) ?_
      refine q_Ru_call (v := (some (.int 1))) (h2 := (q_cX (q_uA q_AX 35 (upd w23 1 32)) (q_uI q_IX 34 3 2) q_J0, 40, 26520)) rfl rfl ?_ ?_
      · refine q_Ca_of (Nat.le_of_ble_eq_true rfl) ?_
        refine q_Ru_seg (g2 := (12, [(0, .int 108)], [.int 1], (q_cX (q_uA q_AX 35 (upd w23 1 32)) (q_uI q_IX 34 3 2) q_J0, 40, 26520))) 5 (fun _ _ => rfl) ?_
        exact q_Ru_ret rfl rfl
      show q_Ru _ _ _ (21, [(0, .ref 98), (1, .int 108)], [.int 1], (q_cX (q_uA q_AX 35 (upd w23 1 32)) (q_uI q_IX 34 3 2) q_J0, 40, 26520)) _
      refine q_Ru_seg (g2 := (33, [(0, .ref 98), (1, .int 108)], [.int 2, .ref 98, .ref 99], (q_cX (q_uA q_AX 35 (upd w23 1 32)) (q_uI q_IX 34 3 2) q_J0, 40, 26520))) 6 (fun _ _ => rfl) ?_
      refine q_Ru_seg (g2 := (76, [(0, .ref 98), (1, .int 108)], [.ref 98], (q_cX (q_uA q_AX 35 (upd (upd w23 1 32) 2 108)) (q_uI q_IX 34 3 3) q_J0, 40, 26520))) 9 (fun _ _ => rfl) ?_
      exact q_Ru_ret rfl rfl
    show q_Ru _ _ _ (5, [(0, .ref 98), (1, .int 108)], [.ref 98], (q_cX (q_uA q_AX 35 (upd (upd w23 1 32) 2 108)) (q_uI q_IX 34 3 3) q_J0, 40, 26520)) _
    refine q_Ru_seg (g2 := (7, [(0, .ref 98), (1, .int 108)], [.ref 98], (q_cX (q_uA q_AX 35 (upd (upd w23 1 32) 2 108)) (q_uI q_IX 34 3 3) q_J0, 40, 26520))) 2 (fun _ _ => rfl) ?_
    exact q_Ru_ret rfl rfl
  show q_Ru _ _ _ (81, [(5, .int 0), (4, .int 0), (3, .ref 12), (2, .int 0), (0, .ref 98), (1, .int 0)], [.ref 98], (q_cX (q_uA q_AX 35 (upd (upd w23 1 32) 2 108)) (q_uI q_IX 34 3 3) q_J0, 40, 26520)) _
  exact q_Ru_le (Nat.le_of_ble_eq_true rfl) (q_xc17 L xs a hl_a hu_a w23)
set_option maxHeartbeats 20000000 in
theorem q_xc19 (L : Nat) (xs : Nat → Int32) (a : Int32) (hl_a : 0 ≤ a.toInt) (hu_a : a.toInt ≤ 9) (w25 : Nat → Int32) : q_Ru (q_TBs 98 L xs) 3 197 (17, [(0, .ref 98), (1, .int 0), (2, .int 0)], [.ref 98], (q_cX (q_uA q_AX 35 w25) (q_uI q_IX 34 3 7) q_J0, 40, 26520)) (.inl none, (q_cX (q_uA q_AX 35 (upd w25 7 48)) (q_uI q_IX 34 3 8) q_J0, 40, 26520)) := by
  refine q_Ru_seg (g2 := (36, [(0, .ref 98), (1, .int 0), (2, .int 0)], [.int 0, .ref 98], (q_cX (q_uA q_AX 35 w25) (q_uI q_IX 34 3 7) q_J0, 40, 26520))) 4 (fun _ _ => rfl) ?_
  refine q_Ru_call (v := (some (.ref 98))) (h2 := (q_cX (q_uA q_AX 35 (upd w25 7 48)) (q_uI q_IX 34 3 8) q_J0, 40, 26520)) rfl rfl ?_ ?_
  · refine q_Ca_of (Nat.le_of_ble_eq_true rfl) ?_
    refine q_Ru_seg (g2 := (2, [(0, .ref 98), (1, .int 0)], [.int 0, .ref 98], (q_cX (q_uA q_AX 35 w25) (q_uI q_IX 34 3 7) q_J0, 40, 26520))) 2 (fun _ _ => rfl) ?_
    refine q_Ru_call (v := (some (.ref 98))) (h2 := (q_cX (q_uA q_AX 35 (upd w25 7 48)) (q_uI q_IX 34 3 8) q_J0, 40, 26520)) rfl rfl ?_ ?_
    · refine q_Ca_of (Nat.le_of_ble_eq_true rfl) ?_
      refine q_Ru_seg (g2 := (4, [(0, .ref 98), (1, .int 0)], [.int 7], (q_cX (q_uA q_AX 35 w25) (q_uI q_IX 34 3 7) q_J0, 40, 26520))) 2 (fun _ _ => rfl) ?_
      refine q_Ru_seg (g2 := (7, [(2, .int 7), (0, .ref 98), (1, .int 0)], [.int 0, .int 7], (q_cX (q_uA q_AX 35 w25) (q_uI q_IX 34 3 7) q_J0, 40, 26520))) 3 (fun _ _ => rfl) ?_
      refine q_Ru_call (v := (some (.int 1))) (h2 := (q_cX (q_uA q_AX 35 w25) (q_uI q_IX 34 3 7) q_J0, 40, 26520)) rfl rfl ?_ ?_
      · refine q_Ca_of (Nat.le_of_ble_eq_true rfl) ?_
        refine q_Ru_seg (g2 := (30, [(3, .int 1), (2, .int (-10)), (0, .int 0), (1, .int 0)], [.int 1], (q_cX (q_uA q_AX 35 w25) (q_uI q_IX 34 3 7) q_J0, 40, 26520))) 22 (fun _ _ => rfl) ?_
        exact q_Ru_ret rfl rfl
      show q_Ru _ _ _ (10, [(2, .int 7), (0, .ref 98), (1, .int 0)], [.int 1, .int 7], (q_cX (q_uA q_AX 35 w25) (q_uI q_IX 34 3 7) q_J0, 40, 26520)) _
      refine q_Ru_seg (g2 := (14, [(3, .int 8), (2, .int 7), (0, .ref 98), (1, .int 0)], [.int 8, .ref 98], (q_cX (q_uA q_AX 35 w25) (q_uI q_IX 34 3 7) q_J0, 40, 26520))) 4 (fun _ _ => rfl) ?_
      refine q_Ru_call (v := none) (h2 := (q_cX (q_uA q_AX 35 w25) (q_uI q_IX 34 3 7) q_J0, 40, 26520)) rfl rfl ?_ ?_
      · refine q_Ca_of (Nat.le_of_ble_eq_true rfl) ?_
        refine q_Ru_seg (g2 := (9, [(0, .ref 98), (1, .int 8)], [.int 0, .int 16], (q_cX (q_uA q_AX 35 w25) (q_uI q_IX 34 3 7) q_J0, 40, 26520))) 5 (fun _ _ => rfl) ?_
        refine q_Ru_seg (g2 := (38, [(2, .int 16), (0, .ref 98), (1, .int 8)], [], (q_cX (q_uA q_AX 35 w25) (q_uI q_IX 34 3 7) q_J0, 40, 26520))) 6 (fun _ _ => rfl) ?_
        exact q_Ru_ret rfl rfl
      show q_Ru _ _ _ (17, [(3, .int 8), (2, .int 7), (0, .ref 98), (1, .int 0)], [], (q_cX (q_uA q_AX 35 w25) (q_uI q_IX 34 3 7) q_J0, 40, 26520)) _
      refine q_Ru_seg (g2 := (18, [(3, .int 8), (2, .int 7), (0, .ref 98), (1, .int 0)], [.ref 98], (q_cX (q_uA q_AX 35 w25) (q_uI q_IX 34 3 7) q_J0, 40, 26520))) 1 (fun _ _ => rfl) ?_
      refine q_Ru_call (v := (some (.int 1))) (h2 := (q_cX (q_uA q_AX 35 w25) (q_uI q_IX 34 3 7) q_J0, 40, 26520)) rfl rfl ?_ ?_
      · refine q_Ca_of (Nat.le_of_ble_eq_true rfl) ?_
        refine q_Ru_seg (g2 := (10, [(0, .ref 98)], [.int 0], (q_cX (q_uA q_AX 35 w25) (q_uI q_IX 34 3 7) q_J0, 40, 26520))) 4 (fun _ _ => rfl) ?_
        refine q_Ru_seg (g2 := (18, [(0, .ref 98)], [.int 1], (q_cX (q_uA q_AX 35 w25) (q_uI q_IX 34 3 7) q_J0, 40, 26520))) 3 (fun _ _ => rfl) ?_
        exact q_Ru_ret rfl rfl
      show q_Ru _ _ _ (21, [(3, .int 8), (2, .int 7), (0, .ref 98), (1, .int 0)], [.int 1], (q_cX (q_uA q_AX 35 w25) (q_uI q_IX 34 3 7) q_J0, 40, 26520)) _
      refine q_Ru_seg (g2 := (30, [(3, .int 8), (2, .int 7), (0, .ref 98), (1, .int 0)], [.ref 99, .int 8, .int 0], (q_cX (q_uA q_AX 35 w25) (q_uI q_IX 34 3 7) q_J0, 40, 26520))) 5 (fun _ _ => rfl) ?_
      refine q_Ru_call (v := (some (.int 7))) (h2 := (q_cX (q_uA q_AX 35 (upd w25 7 48)) (q_uI q_IX 34 3 7) q_J0, 40, 26520)) rfl rfl ?_ ?_
      · refine q_Ca_of (Nat.le_of_ble_eq_true rfl) ?_
        refine q_Ru_seg (g2 := (84, [(5, .int 7), (0, .int 0), (6, .int 0), (1, .int 8), (2, .ref 99)], [.int 48, .int 7, .ref 99], (q_cX (q_uA q_AX 35 w25) (q_uI q_IX 34 3 7) q_J0, 40, 26520))) 21 (fun _ _ => rfl) ?_
        refine q_Ru_seg (g2 := (120, [(5, .int 7), (0, .int 0), (6, .int 0), (1, .int 8), (2, .ref 99)], [.int 7], (q_cX (q_uA q_AX 35 (upd w25 7 48)) (q_uI q_IX 34 3 7) q_J0, 40, 26520))) 7 (fun _ _ => rfl) ?_
        exact q_Ru_ret rfl rfl
      show q_Ru _ _ _ (33, [(3, .int 8), (2, .int 7), (0, .ref 98), (1, .int 0)], [.int 7], (q_cX (q_uA q_AX 35 (upd w25 7 48)) (q_uI q_IX 34 3 7) q_J0, 40, 26520)) _
      refine q_Ru_seg (g2 := (54, [(3, .int 8), (2, .int 7), (0, .ref 98), (1, .int 0)], [.ref 98], (q_cX (q_uA q_AX 35 (upd w25 7 48)) (q_uI q_IX 34 3 8) q_J0, 40, 26520))) 6 (fun _ _ => rfl) ?_
      exact q_Ru_ret rfl rfl
    show q_Ru _ _ _ (5, [(0, .ref 98), (1, .int 0)], [.ref 98], (q_cX (q_uA q_AX 35 (upd w25 7 48)) (q_uI q_IX 34 3 8) q_J0, 40, 26520)) _
    refine q_Ru_seg (g2 := (7, [(0, .ref 98), (1, .int 0)], [.ref 98], (q_cX (q_uA q_AX 35 (upd w25 7 48)) (q_uI q_IX 34 3 8) q_J0, 40, 26520))) 2 (fun _ _ => rfl) ?_
    exact q_Ru_ret rfl rfl
  show q_Ru _ _ _ (39, [(0, .ref 98), (1, .int 0), (2, .int 0)], [.ref 98], (q_cX (q_uA q_AX 35 (upd w25 7 48)) (q_uI q_IX 34 3 8) q_J0, 40, 26520)) _
  refine q_Ru_seg (g2 := (134, [(0, .ref 98), (1, .int 0), (2, .int 0)], [], (q_cX (q_uA q_AX 35 (upd w25 7 48)) (q_uI q_IX 34 3 8) q_J0, 40, 26520))) 3 (fun _ _ => rfl) ?_
  exact q_Ru_ret rfl rfl
set_option maxHeartbeats 20000000 in
theorem q_xc20 (L : Nat) (xs : Nat → Int32) (a : Int32) (hl_a : 0 ≤ a.toInt) (hu_a : a.toInt ≤ 9) (w23 : Nat → Int32) : q_Ru (q_TBs 98 L xs) 5 195 (106, [(6, .int 0), (5, .int 0), (4, .int 2), (3, .int 0), (0, .ref 98), (1, .ref 66), (2, .int a)], [.int 0, .ref 98], (q_cX (q_uA q_AX 35 (upd (upd (upd (upd w23 1 32) 2 108) 3 100) 4 97)) (q_uI q_IX 34 3 5) q_J0, 40, 26520)) (.inl none, (q_cX (q_uA q_AX 35 (upd (upd (upd (upd (upd (upd (upd w23 1 32) 2 108) 3 100) 4 97) 5 32) 6 35) 7 48)) (q_uI q_IX 34 3 8) q_J0, 40, 26520)) := by
  refine q_Ru_seg (g2 := (108, [(6, .int 0), (5, .int 0), (4, .int 2), (3, .int 0), (0, .ref 98), (1, .ref 66), (2, .int a)], [.int 0, .int 0, .ref 98], (q_cX (q_uA q_AX 35 (upd (upd (upd (upd w23 1 32) 2 108) 3 100) 4 97)) (q_uI q_IX 34 3 5) q_J0, 40, 26520))) 1 (fun _ _ => rfl) ?_
  refine q_Ru_call (v := none) (h2 := (q_cX (q_uA q_AX 35 (upd (upd (upd (upd (upd (upd (upd w23 1 32) 2 108) 3 100) 4 97) 5 32) 6 35) 7 48)) (q_uI q_IX 34 3 8) q_J0, 40, 26520)) rfl rfl ?_ ?_
  · refine q_Ca_of (Nat.le_of_ble_eq_true rfl) ?_
    refine q_Ru_seg (g2 := (3, [(0, .ref 98), (1, .int 0), (2, .int 0)], [.int 32, .ref 98], (q_cX (q_uA q_AX 35 (upd (upd (upd (upd w23 1 32) 2 108) 3 100) 4 97)) (q_uI q_IX 34 3 5) q_J0, 40, 26520))) 2 (fun _ _ => rfl) ?_
    refine q_Ru_call (v := (some (.ref 98))) (h2 := (q_cX (q_uA q_AX 35 (upd (upd (upd (upd (upd w23 1 32) 2 108) 3 100) 4 97) 5 32)) (q_uI q_IX 34 3 6) q_J0, 40, 26520)) rfl rfl ?_ ?_
    · refine q_Ca_of (Nat.le_of_ble_eq_true rfl) ?_
      refine q_Ru_seg (g2 := (2, [(0, .ref 98), (1, .int 32)], [.int 32, .ref 98], (q_cX (q_uA q_AX 35 (upd (upd (upd (upd w23 1 32) 2 108) 3 100) 4 97)) (q_uI q_IX 34 3 5) q_J0, 40, 26520))) 2 (fun _ _ => rfl) ?_
      refine q_Ru_call (v := (some (.ref 98))) (h2 := (q_cX (q_uA q_AX 35 (upd (upd (upd (upd (upd w23 1 32) 2 108) 3 100) 4 97) 5 32)) (q_uI q_IX 34 3 6) q_J0, 40, 26520)) rfl rfl ?_ ?_
      · refine q_Ca_of (Nat.le_of_ble_eq_true rfl) ?_
        refine q_Ru_seg (g2 := (5, [(0, .ref 98), (1, .int 32)], [.int 5, .ref 98], (q_cX (q_uA q_AX 35 (upd (upd (upd (upd w23 1 32) 2 108) 3 100) 4 97)) (q_uI q_IX 34 3 5) q_J0, 40, 26520))) 3 (fun _ _ => rfl) ?_
        refine q_Ru_seg (g2 := (7, [(0, .ref 98), (1, .int 32)], [.int 6, .ref 98], (q_cX (q_uA q_AX 35 (upd (upd (upd (upd w23 1 32) 2 108) 3 100) 4 97)) (q_uI q_IX 34 3 5) q_J0, 40, 26520))) 2 (fun _ _ => rfl) ?_
        refine q_Ru_call (v := none) (h2 := (q_cX (q_uA q_AX 35 (upd (upd (upd (upd w23 1 32) 2 108) 3 100) 4 97)) (q_uI q_IX 34 3 5) q_J0, 40, 26520)) rfl rfl ?_ ?_
        · refine q_Ca_of (Nat.le_of_ble_eq_true rfl) ?_
          refine q_Ru_seg (g2 := (9, [(0, .ref 98), (1, .int 6)], [.int 0, .int 16], (q_cX (q_uA q_AX 35 (upd (upd (upd (upd w23 1 32) 2 108) 3 100) 4 97)) (q_uI q_IX 34 3 5) q_J0, 40, 26520))) 5 (fun _ _ => rfl) ?_
          refine q_Ru_seg (g2 := (38, [(2, .int 16), (0, .ref 98), (1, .int 6)], [], (q_cX (q_uA q_AX 35 (upd (upd (upd (upd w23 1 32) 2 108) 3 100) 4 97)) (q_uI q_IX 34 3 5) q_J0, 40, 26520))) 6 (fun _ _ => rfl) ?_
          exact q_Ru_ret rfl rfl
        show q_Ru _ _ _ (10, [(0, .ref 98), (1, .int 32)], [], (q_cX (q_uA q_AX 35 (upd (upd (upd (upd w23 1 32) 2 108) 3 100) 4 97)) (q_uI q_IX 34 3 5) q_J0, 40, 26520)) _
        refine q_Ru_seg (g2 := (11, [(0, .ref 98), (1, .int 32)], [.ref 98], (q_cX (q_uA q_AX 35 (upd (upd (upd (upd w23 1 32) 2 108) 3 100) 4 97)) (q_uI q_IX 34 3 5) q_J0, 40, 26520))) 1 (fun _ _ => rfl) ?_
        refine q_Ru_call (v := (some (.int 1))) (h2 := (q_cX (q_uA q_AX 35 (upd (upd (upd (upd w23 1 32) 2 108) 3 100) 4 97)) (q_uI q_IX 34 3 5) q_J0, 40, 26520)) rfl rfl ?_ ?_
        · refine q_Ca_of (Nat.le_of_ble_eq_true rfl) ?_
          refine q_Ru_seg (g2 := (10, [(0, .ref 98)], [.int 0], (q_cX (q_uA q_AX 35 (upd (upd (upd (upd w23 1 32) 2 108) 3 100) 4 97)) (q_uI q_IX 34 3 5) q_J0, 40, 26520))) 4 (fun _ _ => rfl) ?_
          refine q_Ru_seg (g2 := (18, [(0, .ref 98)], [.int 1], (q_cX (q_uA q_AX 35 (upd (upd (upd (upd w23 1 32) 2 108) 3 100) 4 97)) (q_uI q_IX 34 3 5) q_J0, 40, 26520))) 3 (fun _ _ => rfl) ?_
          exact q_Ru_ret rfl rfl
        show q_Ru _ _ _ (14, [(0, .ref 98), (1, .int 32)], [.int 1], (q_cX (q_uA q_AX 35 (upd (upd (upd (upd w23 1 32) 2 108) 3 100) 4 97)) (q_uI q_IX 34 3 5) q_J0, 40, 26520)) _
        refine q_Ru_seg (g2 := (18, [(0, .ref 98), (1, .int 32)], [.int 32], (q_cX (q_uA q_AX 35 (upd (upd (upd (upd w23 1 32) 2 108) 3 100) 4 97)) (q_uI q_IX 34 3 5) q_J0, 40, 26520))) 2 (fun _ _ => rfl) ?_
        refine q_Ru_call (v := (some (.int 1))) (h2 := (q_cX (q_uA q_AX 35 (upd (upd (upd (upd w23 1 32) 2 108) 3 100) 4 97)) (q_uI q_IX 34 3 5) q_J0, 40, 26520)) rfl rfl ?_ ?_
        · refine q_Ca_of (Nat.le_of_ble_eq_true rfl) ?_
          refine q_Ru_seg (g2 := (12, [(0, .int 32)], [.int 1], (q_cX (q_uA q_AX 35 (upd (upd (upd (upd w23 1 32) 2 108) 3 100) 4 97)) (q_uI q_IX 34 3 5) q_J0, 40, 26520))) 5 (fun _ _ => rfl) ?_
          exact q_Ru_ret rfl rfl
        show q_Ru _ _ _ (21, [(0, .ref 98), (1, .int 32)], [.int 1], (q_cX (q_uA q_AX 35 (upd (upd (upd (upd w23 1 32) 2 108) 3 100) 4 97)) (q_uI q_IX 34 3 5) q_J0, 40, 26520)) _
        refine q_Ru_seg (g2 := (33, [(0, .ref 98), (1, .int 32)], [.int 5, .ref 98, .ref 99], (q_cX (q_uA q_AX 35 (upd (upd (upd (upd w23 1 32) 2 108) 3 100) 4 97)) (q_uI q_IX 34 3 5) q_J0, 40, 26520))) 6 (fun _ _ => rfl) ?_
        refine q_Ru_seg (g2 := (76, [(0, .ref 98), (1, .int 32)], [.ref 98], (q_cX (q_uA q_AX 35 (upd (upd (upd (upd (upd w23 1 32) 2 108) 3 100) 4 97) 5 32)) (q_uI q_IX 34 3 6) q_J0, 40, 26520))) 9 (fun _ _ => rfl) ?_
        exact q_Ru_ret rfl rfl
      show q_Ru _ _ _ (5, [(0, .ref 98), (1, .int 32)], [.ref 98], (q_cX (q_uA q_AX 35 (upd (upd (upd (upd (upd w23 1 32) 2 108) 3 100) 4 97) 5 32)) (q_uI q_IX 34 3 6) q_J0, 40, 26520)) _
      refine q_Ru_seg (g2 := (7, [(0, .ref 98), (1, .int 32)], [.ref 98], (q_cX (q_uA q_AX 35 (upd (upd (upd (upd (upd w23 1 32) 2 108) 3 100) 4 97) 5 32)) (q_uI q_IX 34 3 6) q_J0, 40, 26520))) 2 (fun _ _ => rfl) ?_
      exact q_Ru_ret rfl rfl
    show q_Ru _ _ _ (6, [(0, .ref 98), (1, .int 0), (2, .int 0)], [.ref 98], (q_cX (q_uA q_AX 35 (upd (upd (upd (upd (upd w23 1 32) 2 108) 3 100) 4 97) 5 32)) (q_uI q_IX 34 3 6) q_J0, 40, 26520)) _
    refine q_Ru_seg (g2 := (14, [(0, .ref 98), (1, .int 0), (2, .int 0)], [.int 35, .ref 98], (q_cX (q_uA q_AX 35 (upd (upd (upd (upd (upd w23 1 32) 2 108) 3 100) 4 97) 5 32)) (q_uI q_IX 34 3 6) q_J0, 40, 26520))) 5 (fun _ _ => rfl) ?_
    refine q_Ru_call (v := (some (.ref 98))) (h2 := (q_cX (q_uA q_AX 35 (upd (upd (upd (upd (upd (upd w23 1 32) 2 108) 3 100) 4 97) 5 32) 6 35)) (q_uI q_IX 34 3 7) q_J0, 40, 26520)) rfl rfl ?_ ?_
    · refine q_Ca_of (Nat.le_of_ble_eq_true rfl) ?_
      refine q_Ru_seg (g2 := (2, [(0, .ref 98), (1, .int 35)], [.int 35, .ref 98], (q_cX (q_uA q_AX 35 (upd (upd (upd (upd (upd w23 1 32) 2 108) 3 100) 4 97) 5 32)) (q_uI q_IX 34 3 6) q_J0, 40, 26520))) 2 (fun _ _ => rfl) ?_
      refine q_Ru_call (v := (some (.ref 98))) (h2 := (q_cX (q_uA q_AX 35 (upd (upd (upd (upd (upd (upd w23 1 32) 2 108) 3 100) 4 97) 5 32) 6 35)) (q_uI q_IX 34 3 7) q_J0, 40, 26520)) rfl rfl ?_ ?_
      · refine q_Ca_of (Nat.le_of_ble_eq_true rfl) ?_
        refine q_Ru_seg (g2 := (5, [(0, .ref 98), (1, .int 35)], [.int 6, .ref 98], (q_cX (q_uA q_AX 35 (upd (upd (upd (upd (upd w23 1 32) 2 108) 3 100) 4 97) 5 32)) (q_uI q_IX 34 3 6) q_J0, 40, 26520))) 3 (fun _ _ => rfl) ?_
        refine q_Ru_seg (g2 := (7, [(0, .ref 98), (1, .int 35)], [.int 7, .ref 98], (q_cX (q_uA q_AX 35 (upd (upd (upd (upd (upd w23 1 32) 2 108) 3 100) 4 97) 5 32)) (q_uI q_IX 34 3 6) q_J0, 40, 26520))) 2 (fun _ _ => rfl) ?_
        refine q_Ru_call (v := none) (h2 := (q_cX (q_uA q_AX 35 (upd (upd (upd (upd (upd w23 1 32) 2 108) 3 100) 4 97) 5 32)) (q_uI q_IX 34 3 6) q_J0, 40, 26520)) rfl rfl ?_ ?_
        · refine q_Ca_of (Nat.le_of_ble_eq_true rfl) ?_
          refine q_Ru_seg (g2 := (9, [(0, .ref 98), (1, .int 7)], [.int 0, .int 16], (q_cX (q_uA q_AX 35 (upd (upd (upd (upd (upd w23 1 32) 2 108) 3 100) 4 97) 5 32)) (q_uI q_IX 34 3 6) q_J0, 40, 26520))) 5 (fun _ _ => rfl) ?_
          refine q_Ru_seg (g2 := (38, [(2, .int 16), (0, .ref 98), (1, .int 7)], [], (q_cX (q_uA q_AX 35 (upd (upd (upd (upd (upd w23 1 32) 2 108) 3 100) 4 97) 5 32)) (q_uI q_IX 34 3 6) q_J0, 40, 26520))) 6 (fun _ _ => rfl) ?_
          exact q_Ru_ret rfl rfl
        show q_Ru _ _ _ (10, [(0, .ref 98), (1, .int 35)], [], (q_cX (q_uA q_AX 35 (upd (upd (upd (upd (upd w23 1 32) 2 108) 3 100) 4 97) 5 32)) (q_uI q_IX 34 3 6) q_J0, 40, 26520)) _
        refine q_Ru_seg (g2 := (11, [(0, .ref 98), (1, .int 35)], [.ref 98], (q_cX (q_uA q_AX 35 (upd (upd (upd (upd (upd w23 1 32) 2 108) 3 100) 4 97) 5 32)) (q_uI q_IX 34 3 6) q_J0, 40, 26520))) 1 (fun _ _ => rfl) ?_
        refine q_Ru_call (v := (some (.int 1))) (h2 := (q_cX (q_uA q_AX 35 (upd (upd (upd (upd (upd w23 1 32) 2 108) 3 100) 4 97) 5 32)) (q_uI q_IX 34 3 6) q_J0, 40, 26520)) rfl rfl ?_ ?_
        · refine q_Ca_of (Nat.le_of_ble_eq_true rfl) ?_
          refine q_Ru_seg (g2 := (10, [(0, .ref 98)], [.int 0], (q_cX (q_uA q_AX 35 (upd (upd (upd (upd (upd w23 1 32) 2 108) 3 100) 4 97) 5 32)) (q_uI q_IX 34 3 6) q_J0, 40, 26520))) 4 (fun _ _ => rfl) ?_
          refine q_Ru_seg (g2 := (18, [(0, .ref 98)], [.int 1], (q_cX (q_uA q_AX 35 (upd (upd (upd (upd (upd w23 1 32) 2 108) 3 100) 4 97) 5 32)) (q_uI q_IX 34 3 6) q_J0, 40, 26520))) 3 (fun _ _ => rfl) ?_
          exact q_Ru_ret rfl rfl
        show q_Ru _ _ _ (14, [(0, .ref 98), (1, .int 35)], [.int 1], (q_cX (q_uA q_AX 35 (upd (upd (upd (upd (upd w23 1 32) 2 108) 3 100) 4 97) 5 32)) (q_uI q_IX 34 3 6) q_J0, 40, 26520)) _
        refine q_Ru_seg (g2 := (18, [(0, .ref 98), (1, .int 35)], [.int 35], (q_cX (q_uA q_AX 35 (upd (upd (upd (upd (upd w23 1 32) 2 108) 3 100) 4 97) 5 32)) (q_uI q_IX 34 3 6) q_J0, 40, 26520))) 2 (fun _ _ => rfl) ?_
        refine q_Ru_call (v := (some (.int 1))) (h2 := (q_cX (q_uA q_AX 35 (upd (upd (upd (upd (upd w23 1 32) 2 108) 3 100) 4 97) 5 32)) (q_uI q_IX 34 3 6) q_J0, 40, 26520)) rfl rfl ?_ ?_
        · refine q_Ca_of (Nat.le_of_ble_eq_true rfl) ?_
          refine q_Ru_seg (g2 := (12, [(0, .int 35)], [.int 1], (q_cX (q_uA q_AX 35 (upd (upd (upd (upd (upd w23 1 32) 2 108) 3 100) 4 97) 5 32)) (q_uI q_IX 34 3 6) q_J0, 40, 26520))) 5 (fun _ _ => rfl) ?_
          exact q_Ru_ret rfl rfl
        show q_Ru _ _ _ (21, [(0, .ref 98), (1, .int 35)], [.int 1], (q_cX (q_uA q_AX 35 (upd (upd (upd (upd (upd w23 1 32) 2 108) 3 100) 4 97) 5 32)) (q_uI q_IX 34 3 6) q_J0, 40, 26520)) _
        refine q_Ru_seg (g2 := (33, [(0, .ref 98), (1, .int 35)], [.int 6, .ref 98, .ref 99], (q_cX (q_uA q_AX 35 (upd (upd (upd (upd (upd w23 1 32) 2 108) 3 100) 4 97) 5 32)) (q_uI q_IX 34 3 6) q_J0, 40, 26520))) 6 (fun _ _ => rfl) ?_
        refine q_Ru_seg (g2 := (76, [(0, .ref 98), (1, .int 35)], [.ref 98], (q_cX (q_uA q_AX 35 (upd (upd (upd (upd (upd (upd w23 1 32) 2 108) 3 100) 4 97) 5 32) 6 35)) (q_uI q_IX 34 3 7) q_J0, 40, 26520))) 9 (fun _ _ => rfl) ?_
        exact q_Ru_ret rfl rfl
      show q_Ru _ _ _ (5, [(0, .ref 98), (1, .int 35)], [.ref 98], (q_cX (q_uA q_AX 35 (upd (upd (upd (upd (upd (upd w23 1 32) 2 108) 3 100) 4 97) 5 32) 6 35)) (q_uI q_IX 34 3 7) q_J0, 40, 26520)) _
      generalize (upd (upd (upd (upd (upd (upd w23 1 32) 2 108) 3 100) 4 97) 5 32) 6 35) = w24
      refine q_Ru_seg (g2 := (7, [(0, .ref 98), (1, .int 35)], [.ref 98], (q_cX (q_uA q_AX 35 w24) (q_uI q_IX 34 3 7) q_J0, 40, 26520))) 2 (fun _ _ => rfl) ?_
      exact q_Ru_ret rfl rfl
    show q_Ru _ _ _ (17, [(0, .ref 98), (1, .int 0), (2, .int 0)], [.ref 98], (q_cX (q_uA q_AX 35 (upd (upd (upd (upd (upd (upd w23 1 32) 2 108) 3 100) 4 97) 5 32) 6 35)) (q_uI q_IX 34 3 7) q_J0, 40, 26520)) _
    generalize (upd (upd (upd (upd (upd (upd w23 1 32) 2 108) 3 100) 4 97) 5 32) 6 35) = w25
    exact q_Ru_le (Nat.le_of_ble_eq_true rfl) (q_xc19 L xs a hl_a hu_a w25)
  show q_Ru _ _ _ (111, [(6, .int 0), (5, .int 0), (4, .int 2), (3, .int 0), (0, .ref 98), (1, .ref 66), (2, .int a)], [], (q_cX (q_uA q_AX 35 (upd (upd (upd (upd (upd (upd (upd w23 1 32) 2 108) 3 100) 4 97) 5 32) 6 35) 7 48)) (q_uI q_IX 34 3 8) q_J0, 40, 26520)) _
  generalize (upd (upd (upd (upd (upd (upd (upd w23 1 32) 2 108) 3 100) 4 97) 5 32) 6 35) 7 48) = w26
  exact q_Ru_ret rfl rfl
set_option maxHeartbeats 20000000 in
theorem q_xc21 (L : Nat) (xs : Nat → Int32) (a : Int32) (hl_a : 0 ≤ a.toInt) (hu_a : a.toInt ≤ 9) (w23 : Nat → Int32) : q_Ru (q_TBs 98 L xs) 5 195 (42, [(5, .int 0), (4, .int 2), (3, .int 0), (0, .ref 98), (1, .ref 66), (2, .int a)], [.ref 98], (q_cX (q_uA q_AX 35 (upd w23 1 32)) (q_uI q_IX 34 3 2) q_J0, 40, 26520)) (.inl none, (q_cX (q_uA q_AX 35 (upd (upd (upd (upd (upd (upd (upd w23 1 32) 2 108) 3 100) 4 97) 5 32) 6 35) 7 48)) (q_uI q_IX 34 3 8) q_J0, 40, 26520)) := by
  refine q_Ru_seg (g2 := (45, [(5, .int 0), (4, .int 2), (3, .int 0), (0, .ref 98), (1, .ref 66), (2, .int a)], [.int 0, .ref 98], (q_cX (q_uA q_AX 35 (upd w23 1 32)) (q_uI q_IX 34 3 2) q_J0, 40, 26520))) 3 (fun _ _ => rfl) ?_
  refine q_Ru_call (v := none) (h2 := (q_cX (q_uA q_AX 35 (upd (upd (upd (upd w23 1 32) 2 108) 3 100) 4 97)) (q_uI q_IX 34 3 5) q_J0, 40, 26520)) rfl rfl ?_ ?_
  · refine q_Ca_of (Nat.le_of_ble_eq_true rfl) ?_
    refine q_Ru_seg (g2 := (1, [(0, .ref 98), (1, .int 0)], [.int 0], (q_cX (q_uA q_AX 35 (upd w23 1 32)) (q_uI q_IX 34 3 2) q_J0, 40, 26520))) 1 (fun _ _ => rfl) ?_
    refine q_Ru_call (v := (some (.int 0))) (h2 := (q_cX (q_uA q_AX 35 (upd w23 1 32)) (q_uI q_IX 34 3 2) q_J0, 40, 26520)) rfl rfl ?_ ?_
    · refine q_Ca_of (Nat.le_of_ble_eq_true rfl) ?_
      refine q_Ru_seg (g2 := (11, [(0, .int 0)], [.int 0], (q_cX (q_uA q_AX 35 (upd w23 1 32)) (q_uI q_IX 34 3 2) q_J0, 40, 26520))) 6 (fun _ _ => rfl) ?_
      exact q_Ru_ret rfl rfl
    show q_Ru _ _ _ (4, [(0, .ref 98), (1, .int 0)], [.int 0], (q_cX (q_uA q_AX 35 (upd w23 1 32)) (q_uI q_IX 34 3 2) q_J0, 40, 26520)) _
    refine q_Ru_seg (g2 := (44, [(4, .int 0), (3, .ref 12), (2, .int 0), (0, .ref 98), (1, .int 0)], [.ref 12, .int 2], (q_cX (q_uA q_AX 35 (upd w23 1 32)) (q_uI q_IX 34 3 2) q_J0, 40, 26520))) 19 (fun _ _ => rfl) ?_
    refine q_Ru_call (v := (some (.int 63))) (h2 := (q_cX (q_uA q_AX 35 (upd w23 1 32)) (q_uI q_IX 34 3 2) q_J0, 40, 26520)) rfl rfl ?_ ?_
    · refine q_Ca_of (Nat.le_of_ble_eq_true rfl) ?_
      refine q_Ru_seg (g2 := (6, [(0, .ref 12)], [.ref 12, .int 63], (q_cX (q_uA q_AX 35 (upd w23 1 32)) (q_uI q_IX 34 3 2) q_J0, 40, 26520))) 4 (fun _ _ => rfl) ?_
      refine q_Ru_call (v := (some (.int 0))) (h2 := (q_cX (q_uA q_AX 35 (upd w23 1 32)) (q_uI q_IX 34 3 2) q_J0, 40, 26520)) rfl rfl ?_ ?_
      · refine q_Ca_of (Nat.le_of_ble_eq_true rfl) ?_
        refine q_Ru_seg (g2 := (14, [(0, .ref 12)], [.int 0], (q_cX (q_uA q_AX 35 (upd w23 1 32)) (q_uI q_IX 34 3 2) q_J0, 40, 26520))) 5 (fun _ _ => rfl) ?_
        exact q_Ru_ret rfl rfl
      show q_Ru _ _ _ (9, [(0, .ref 12)], [.int 0, .int 63], (q_cX (q_uA q_AX 35 (upd w23 1 32)) (q_uI q_IX 34 3 2) q_J0, 40, 26520)) _
      refine q_Ru_seg (g2 := (10, [(0, .ref 12)], [.int 63], (q_cX (q_uA q_AX 35 (upd w23 1 32)) (q_uI q_IX 34 3 2) q_J0, 40, 26520))) 1 (fun _ _ => rfl) ?_
      exact q_Ru_ret rfl rfl
    show q_Ru _ _ _ (47, [(4, .int 0), (3, .ref 12), (2, .int 0), (0, .ref 98), (1, .int 0)], [.int 63, .int 2], (q_cX (q_uA q_AX 35 (upd w23 1 32)) (q_uI q_IX 34 3 2) q_J0, 40, 26520)) _
    exact q_Ru_le (Nat.le_of_ble_eq_true rfl) (q_xc18 L xs a hl_a hu_a w23)
  show q_Ru _ _ _ (48, [(5, .int 0), (4, .int 2), (3, .int 0), (0, .ref 98), (1, .ref 66), (2, .int a)], [], (q_cX (q_uA q_AX 35 (upd (upd (upd (upd w23 1 32) 2 108) 3 100) 4 97)) (q_uI q_IX 34 3 5) q_J0, 40, 26520)) _
  refine q_Ru_seg (g2 := (56, [(5, .int 0), (4, .int 2), (3, .int 0), (0, .ref 98), (1, .ref 66), (2, .int a)], [.int 0], (q_cX (q_uA q_AX 35 (upd (upd (upd (upd w23 1 32) 2 108) 3 100) 4 97)) (q_uI q_IX 34 3 5) q_J0, 40, 26520))) 4 (fun _ _ => rfl) ?_
  refine q_Ru_call (v := (some (.int 0))) (h2 := (q_cX (q_uA q_AX 35 (upd (upd (upd (upd w23 1 32) 2 108) 3 100) 4 97)) (q_uI q_IX 34 3 5) q_J0, 40, 26520)) rfl rfl ?_ ?_
  · refine q_Ca_of (Nat.le_of_ble_eq_true rfl) ?_
    refine q_Ru_seg (g2 := (19, [(0, .int 0)], [.int 0], (q_cX (q_uA q_AX 35 (upd (upd (upd (upd w23 1 32) 2 108) 3 100) 4 97)) (q_uI q_IX 34 3 5) q_J0, 40, 26520))) 4 (fun _ _ => rfl) ?_
    exact q_Ru_ret rfl rfl
  show q_Ru _ _ _ (59, [(5, .int 0), (4, .int 2), (3, .int 0), (0, .ref 98), (1, .ref 66), (2, .int a)], [.int 0], (q_cX (q_uA q_AX 35 (upd (upd (upd (upd w23 1 32) 2 108) 3 100) 4 97)) (q_uI q_IX 34 3 5) q_J0, 40, 26520)) _
  refine q_Ru_seg (g2 := (103, [(6, .int 0), (5, .int 0), (4, .int 2), (3, .int 0), (0, .ref 98), (1, .ref 66), (2, .int a)], [.int 0, .ref 98], (q_cX (q_uA q_AX 35 (upd (upd (upd (upd w23 1 32) 2 108) 3 100) 4 97)) (q_uI q_IX 34 3 5) q_J0, 40, 26520))) 9 (fun _ _ => rfl) ?_
  refine q_Ru_call (v := (some (.int 0))) (h2 := (q_cX (q_uA q_AX 35 (upd (upd (upd (upd w23 1 32) 2 108) 3 100) 4 97)) (q_uI q_IX 34 3 5) q_J0, 40, 26520)) rfl rfl ?_ ?_
  · refine q_Ca_of (Nat.le_of_ble_eq_true rfl) ?_
    refine q_Ru_seg (g2 := (1, [(0, .int 0)], [.int 0], (q_cX (q_uA q_AX 35 (upd (upd (upd (upd w23 1 32) 2 108) 3 100) 4 97)) (q_uI q_IX 34 3 5) q_J0, 40, 26520))) 1 (fun _ _ => rfl) ?_
    refine q_Ru_call (v := (some (.int 0))) (h2 := (q_cX (q_uA q_AX 35 (upd (upd (upd (upd w23 1 32) 2 108) 3 100) 4 97)) (q_uI q_IX 34 3 5) q_J0, 40, 26520)) rfl rfl ?_ ?_
    · refine q_Ca_of (Nat.le_of_ble_eq_true rfl) ?_
      refine q_Ru_seg (g2 := (11, [(0, .int 0)], [.int 0], (q_cX (q_uA q_AX 35 (upd (upd (upd (upd w23 1 32) 2 108) 3 100) 4 97)) (q_uI q_IX 34 3 5) q_J0, 40, 26520))) 6 (fun _ _ => rfl) ?_
      exact q_Ru_ret rfl rfl
    show q_Ru _ _ _ (4, [(0, .int 0)], [.int 0], (q_cX (q_uA q_AX 35 (upd (upd (upd (upd w23 1 32) 2 108) 3 100) 4 97)) (q_uI q_IX 34 3 5) q_J0, 40, 26520)) _
    refine q_Ru_seg (g2 := (11, [(0, .int 0)], [.int 0], (q_cX (q_uA q_AX 35 (upd (upd (upd (upd w23 1 32) 2 108) 3 100) 4 97)) (q_uI q_IX 34 3 5) q_J0, 40, 26520))) 4 (fun _ _ => rfl) ?_
    exact q_Ru_ret rfl rfl
  show q_Ru _ _ _ (106, [(6, .int 0), (5, .int 0), (4, .int 2), (3, .int 0), (0, .ref 98), (1, .ref 66), (2, .int a)], [.int 0, .ref 98], (q_cX (q_uA q_AX 35 (upd (upd (upd (upd w23 1 32) 2 108) 3 100) 4 97)) (q_uI q_IX 34 3 5) q_J0, 40, 26520)) _
  exact q_Ru_le (Nat.le_of_ble_eq_true rfl) (q_xc20 L xs a hl_a hu_a w23)
set_option maxHeartbeats 20000000 in
theorem q_xc22 (L : Nat) (xs : Nat → Int32) (a : Int32) (hl_a : 0 ≤ a.toInt) (hu_a : a.toInt ≤ 9) (h164 : decide (a < 0) = false) (h166 : decide ((-10) < -a) = true) (h167 : decide ((-100) < -a) = true) (h168 : decide (-a < (-9)) = false) : q_Ru (q_TBs 98 L xs) 5 195 (30, [(5, .int 0), (4, .int 2), (3, .int 0), (0, .ref 98), (1, .ref 66), (2, .int a)], [], (q_cX q_AX (q_uI q_IX 34 3 0) q_J0, 40, 26520)) (.inl none, (q_cX (q_uA q_AX 35 (upd (upd (upd (upd (upd (upd (upd (upd (fun _ => 0) 0 (vp_nar .byte ((fun j => q_o6.getD j 0) ((-(-a)).toNatClampNeg)))) 1 32) 2 108) 3 100) 4 97) 5 32) 6 35) 7 48)) (q_uI q_IX 34 3 8) q_J0, 40, 26520)) := by
  refine q_Ru_seg (g2 := (32, [(5, .int 0), (4, .int 2), (3, .int 0), (0, .ref 98), (1, .ref 66), (2, .int a)], [.int a, .ref 98], (q_cX q_AX (q_uI q_IX 34 3 0) q_J0, 40, 26520))) 2 (fun _ _ => rfl) ?_
  refine q_Ru_call (v := (some (.ref 98))) (h2 := (q_cX (q_uA q_AX 35 (upd (fun _ => 0) 0 (vp_nar .byte ((fun j => q_o6.getD j 0) ((-(-a)).toNatClampNeg))))) (q_uI q_IX 34 3 1) q_J0, 40, 26520)) rfl rfl ?_ ?_
  · refine q_Ca_of (Nat.le_of_ble_eq_true rfl) ?_
    refine q_Ru_seg (g2 := (2, [(0, .ref 98), (1, .int a)], [.int a, .ref 98], (q_cX q_AX (q_uI q_IX 34 3 0) q_J0, 40, 26520))) 2 (fun _ _ => rfl) ?_
    refine q_Ru_call (v := (some (.ref 98))) (h2 := (q_cX (q_uA q_AX 35 (upd (fun _ => 0) 0 (vp_nar .byte ((fun j => q_o6.getD j 0) ((-(-a)).toNatClampNeg))))) (q_uI q_IX 34 3 1) q_J0, 40, 26520)) rfl rfl ?_ ?_
    · refine q_Ca_of (Nat.le_of_ble_eq_true rfl) ?_
      refine q_Ru_seg (g2 := (4, [(0, .ref 98), (1, .int a)], [.int 0], (q_cX q_AX (q_uI q_IX 34 3 0) q_J0, 40, 26520))) 2 (fun _ _ => rfl) ?_
      refine q_Ru_seg (g2 := (7, [(2, .int 0), (0, .ref 98), (1, .int a)], [.int a, .int 0], (q_cX q_AX (q_uI q_IX 34 3 0) q_J0, 40, 26520))) 3 (fun _ _ => rfl) ?_
      refine q_Ru_call (v := (some (.int 1))) (h2 := (q_cX q_AX (q_uI q_IX 34 3 0) q_J0, 40, 26520)) rfl rfl ?_ ?_
      · refine q_Ca_of (Nat.le_of_ble_eq_true rfl) ?_
        refine q_Ru_seg (g2 := (3, [(1, .int 1), (0, .int a)], [.int a], (q_cX q_AX (q_uI q_IX 34 3 0) q_J0, 40, 26520))) 3 (fun _ _ => rfl) ?_
        refine q_Ru_rsF (g2 := (6, [(1, .int 1), (0, .int a)], [], (q_cX q_AX (q_uI q_IX 34 3 0) q_J0, 40, 26520))) rfl rfl h164 ?_
        refine q_Ru_seg (g2 := (24, [(3, .int 1), (2, .int (-10)), (0, .int (-a)), (1, .int 0)], [.int (-10), .int (-a)], (q_cX q_AX (q_uI q_IX 34 3 0) q_J0, 40, 26520))) 14 (fun _ _ => rfl) ?_
        refine q_Ru_rsF (g2 := (27, [(3, .int 1), (2, .int (-10)), (0, .int (-a)), (1, .int 0)], [], (q_cX q_AX (q_uI q_IX 34 3 0) q_J0, 40, 26520))) rfl rfl (q_d_geT h166) ?_
        refine q_Ru_seg (g2 := (30, [(3, .int 1), (2, .int (-10)), (0, .int (-a)), (1, .int 0)], [.int 1], (q_cX q_AX (q_uI q_IX 34 3 0) q_J0, 40, 26520))) 3 (fun _ _ => rfl) ?_
        exact q_Ru_ret rfl rfl
      show q_Ru _ _ _ (10, [(2, .int 0), (0, .ref 98), (1, .int a)], [.int 1, .int 0], (q_cX q_AX (q_uI q_IX 34 3 0) q_J0, 40, 26520)) _
      refine q_Ru_seg (g2 := (14, [(3, .int 1), (2, .int 0), (0, .ref 98), (1, .int a)], [.int 1, .ref 98], (q_cX q_AX (q_uI q_IX 34 3 0) q_J0, 40, 26520))) 4 (fun _ _ => rfl) ?_
      refine q_Ru_call (v := none) (h2 := (q_cX q_AX (q_uI q_IX 34 3 0) q_J0, 40, 26520)) rfl rfl ?_ ?_
      · refine q_Ca_of (Nat.le_of_ble_eq_true rfl) ?_
        refine q_Ru_seg (g2 := (9, [(0, .ref 98), (1, .int 1)], [.int 0, .int 16], (q_cX q_AX (q_uI q_IX 34 3 0) q_J0, 40, 26520))) 5 (fun _ _ => rfl) ?_
        refine q_Ru_seg (g2 := (38, [(2, .int 16), (0, .ref 98), (1, .int 1)], [], (q_cX q_AX (q_uI q_IX 34 3 0) q_J0, 40, 26520))) 6 (fun _ _ => rfl) ?_
        exact q_Ru_ret rfl rfl
      show q_Ru _ _ _ (17, [(3, .int 1), (2, .int 0), (0, .ref 98), (1, .int a)], [], (q_cX q_AX (q_uI q_IX 34 3 0) q_J0, 40, 26520)) _
      refine q_Ru_seg (g2 := (18, [(3, .int 1), (2, .int 0), (0, .ref 98), (1, .int a)], [.ref 98], (q_cX q_AX (q_uI q_IX 34 3 0) q_J0, 40, 26520))) 1 (fun _ _ => rfl) ?_
      refine q_Ru_call (v := (some (.int 1))) (h2 := (q_cX q_AX (q_uI q_IX 34 3 0) q_J0, 40, 26520)) rfl rfl ?_ ?_
      · refine q_Ca_of (Nat.le_of_ble_eq_true rfl) ?_
        refine q_Ru_seg (g2 := (10, [(0, .ref 98)], [.int 0], (q_cX q_AX (q_uI q_IX 34 3 0) q_J0, 40, 26520))) 4 (fun _ _ => rfl) ?_
        refine q_Ru_seg (g2 := (18, [(0, .ref 98)], [.int 1], (q_cX q_AX (q_uI q_IX 34 3 0) q_J0, 40, 26520))) 3 (fun _ _ => rfl) ?_
        exact q_Ru_ret rfl rfl
      show q_Ru _ _ _ (21, [(3, .int 1), (2, .int 0), (0, .ref 98), (1, .int a)], [.int 1], (q_cX q_AX (q_uI q_IX 34 3 0) q_J0, 40, 26520)) _
      refine q_Ru_seg (g2 := (30, [(3, .int 1), (2, .int 0), (0, .ref 98), (1, .int a)], [.ref 99, .int 1, .int a], (q_cX q_AX (q_uI q_IX 34 3 0) q_J0, 40, 26520))) 5 (fun _ _ => rfl) ?_
      refine q_Ru_call (v := (some (.int 0))) (h2 := (q_cX (q_uA q_AX 35 (upd (fun _ => 0) 0 (vp_nar .byte ((fun j => q_o6.getD j 0) ((-(-a)).toNatClampNeg))))) (q_uI q_IX 34 3 0) q_J0, 40, 26520)) rfl rfl ?_ ?_
      · refine q_Ca_of (Nat.le_of_ble_eq_true rfl) ?_
        refine q_Ru_seg (g2 := (4, [(5, .int 1), (0, .int a), (1, .int 1), (2, .ref 99)], [.int a], (q_cX q_AX (q_uI q_IX 34 3 0) q_J0, 40, 26520))) 3 (fun _ _ => rfl) ?_
        refine q_Ru_rsT (g2 := (11, [(5, .int 1), (0, .int a), (1, .int 1), (2, .ref 99)], [], (q_cX q_AX (q_uI q_IX 34 3 0) q_J0, 40, 26520))) rfl rfl (q_d_geF h164) ?_
        refine q_Ru_seg (g2 := (25, [(0, .int (-a)), (6, .int 0), (5, .int 1), (1, .int 1), (2, .ref 99)], [.int (-100), .int (-a)], (q_cX q_AX (q_uI q_IX 34 3 0) q_J0, 40, 26520))) 9 (fun _ _ => rfl) ?_
        refine q_Ru_rsT (g2 := (72, [(0, .int (-a)), (6, .int 0), (5, .int 1), (1, .int 1), (2, .ref 99)], [], (q_cX q_AX (q_uI q_IX 34 3 0) q_J0, 40, 26520))) rfl rfl h167 ?_
        refine q_Ru_seg (g2 := (83, [(5, .int 0), (0, .int (-a)), (6, .int 0), (1, .int 1), (2, .ref 99)], [.int (-(-a)), .ref 6, .int 0, .ref 99], (q_cX q_AX (q_uI q_IX 34 3 0) q_J0, 40, 26520))) 6 (fun _ _ => rfl) ?_
        refine q_Ru_rsT (g2 := (84, [(5, .int 0), (0, .int (-a)), (6, .int 0), (1, .int 1), (2, .ref 99)], [.int ((fun j => q_o6.getD j 0) ((-(-a)).toNatClampNeg)), .int 0, .ref 99], (q_cX q_AX (q_uI q_IX 34 3 0) q_J0, 40, 26520))) rfl rfl (q_tbl1 (fun a => q_in (-(-a)) 100) (l := 0) (n := 9) (by decide +kernel) hl_a hu_a) ?_
        generalize ((fun j => q_o6.getD j 0) ((-(-a)).toNatClampNeg)) = y20
        refine q_Ru_seg (g2 := (88, [(5, .int 0), (0, .int (-a)), (6, .int 0), (1, .int 1), (2, .ref 99)], [.int (-9), .int (-a)], (q_cX (q_uA q_AX 35 (upd (fun _ => 0) 0 (vp_nar .byte y20))) (q_uI q_IX 34 3 0) q_J0, 40, 26520))) 3 (fun _ _ => rfl) ?_
        refine q_Ru_rsT (g2 := (104, [(5, .int 0), (0, .int (-a)), (6, .int 0), (1, .int 1), (2, .ref 99)], [], (q_cX (q_uA q_AX 35 (upd (fun _ => 0) 0 (vp_nar .byte y20))) (q_uI q_IX 34 3 0) q_J0, 40, 26520))) rfl rfl (q_d_geF h168) ?_
        refine q_Ru_seg (g2 := (120, [(5, .int 0), (0, .int (-a)), (6, .int 0), (1, .int 1), (2, .ref 99)], [.int 0], (q_cX (q_uA q_AX 35 (upd (fun _ => 0) 0 (vp_nar .byte y20))) (q_uI q_IX 34 3 0) q_J0, 40, 26520))) 3 (fun _ _ => rfl) ?_
        exact q_Ru_ret rfl rfl
      show q_Ru _ _ _ (33, [(3, .int 1), (2, .int 0), (0, .ref 98), (1, .int a)], [.int 0], (q_cX (q_uA q_AX 35 (upd (fun _ => 0) 0 (vp_nar .byte ((fun j => q_o6.getD j 0) ((-(-a)).toNatClampNeg))))) (q_uI q_IX 34 3 0) q_J0, 40, 26520)) _
      generalize (upd (fun _ => 0) 0 (vp_nar .byte ((fun j => q_o6.getD j 0) ((-(-a)).toNatClampNeg)))) = w21
      refine q_Ru_seg (g2 := (54, [(3, .int 1), (2, .int 0), (0, .ref 98), (1, .int a)], [.ref 98], (q_cX (q_uA q_AX 35 w21) (q_uI q_IX 34 3 1) q_J0, 40, 26520))) 6 (fun _ _ => rfl) ?_
      exact q_Ru_ret rfl rfl
    show q_Ru _ _ _ (5, [(0, .ref 98), (1, .int a)], [.ref 98], (q_cX (q_uA q_AX 35 (upd (fun _ => 0) 0 (vp_nar .byte ((fun j => q_o6.getD j 0) ((-(-a)).toNatClampNeg))))) (q_uI q_IX 34 3 1) q_J0, 40, 26520)) _
    generalize (upd (fun _ => 0) 0 (vp_nar .byte ((fun j => q_o6.getD j 0) ((-(-a)).toNatClampNeg)))) = w22
    refine q_Ru_seg (g2 := (7, [(0, .ref 98), (1, .int a)], [.ref 98], (q_cX (q_uA q_AX 35 w22) (q_uI q_IX 34 3 1) q_J0, 40, 26520))) 2 (fun _ _ => rfl) ?_
    exact q_Ru_ret rfl rfl
  show q_Ru _ _ _ (35, [(5, .int 0), (4, .int 2), (3, .int 0), (0, .ref 98), (1, .ref 66), (2, .int a)], [.ref 98], (q_cX (q_uA q_AX 35 (upd (fun _ => 0) 0 (vp_nar .byte ((fun j => q_o6.getD j 0) ((-(-a)).toNatClampNeg))))) (q_uI q_IX 34 3 1) q_J0, 40, 26520)) _
  generalize (upd (fun _ => 0) 0 (vp_nar .byte ((fun j => q_o6.getD j 0) ((-(-a)).toNatClampNeg)))) = w23
  refine q_Ru_seg (g2 := (39, [(5, .int 0), (4, .int 2), (3, .int 0), (0, .ref 98), (1, .ref 66), (2, .int a)], [.int 32, .ref 98], (q_cX (q_uA q_AX 35 w23) (q_uI q_IX 34 3 1) q_J0, 40, 26520))) 3 (fun _ _ => rfl) ?_
  refine q_Ru_call (v := (some (.ref 98))) (h2 := (q_cX (q_uA q_AX 35 (upd w23 1 32)) (q_uI q_IX 34 3 2) q_J0, 40, 26520)) rfl rfl ?_ ?_
  · refine q_Ca_of (Nat.le_of_ble_eq_true rfl) ?_
    refine q_Ru_seg (g2 := (2, [(0, .ref 98), (1, .int 32)], [.int 32, .ref 98], (q_cX (q_uA q_AX 35 w23) (q_uI q_IX 34 3 1) q_J0, 40, 26520))) 2 (fun _ _ => rfl) ?_
    refine q_Ru_call (v := (some (.ref 98))) (h2 := (q_cX (q_uA q_AX 35 (upd w23 1 32)) (q_uI q_IX 34 3 2) q_J0, 40, 26520)) rfl rfl ?_ ?_
    · refine q_Ca_of (Nat.le_of_ble_eq_true rfl) ?_
      refine q_Ru_seg (g2 := (5, [(0, .ref 98), (1, .int 32)], [.int 1, .ref 98], (q_cX (q_uA q_AX 35 w23) (q_uI q_IX 34 3 1) q_J0, 40, 26520))) 3 (fun _ _ => rfl) ?_
      refine q_Ru_seg (g2 := (7, [(0, .ref 98), (1, .int 32)], [.int 2, .ref 98], (q_cX (q_uA q_AX 35 w23) (q_uI q_IX 34 3 1) q_J0, 40, 26520))) 2 (fun _ _ => rfl) ?_
      refine q_Ru_call (v := none) (h2 := (q_cX (q_uA q_AX 35 w23) (q_uI q_IX 34 3 1) q_J0, 40, 26520)) rfl rfl ?_ ?_
      · refine q_Ca_of (Nat.le_of_ble_eq_true rfl) ?_
        refine q_Ru_seg (g2 := (9, [(0, .ref 98), (1, .int 2)], [.int 0, .int 16], (q_cX (q_uA q_AX 35 w23) (q_uI q_IX 34 3 1) q_J0, 40, 26520))) 5 (fun _ _ => rfl) ?_
        refine q_Ru_seg (g2 := (38, [(2, .int 16), (0, .ref 98), (1, .int 2)], [], (q_cX (q_uA q_AX 35 w23) (q_uI q_IX 34 3 1) q_J0, 40, 26520))) 6 (fun _ _ => rfl) ?_
        exact q_Ru_ret rfl rfl
      show q_Ru _ _ _ (10, [(0, .ref 98), (1, .int 32)], [], (q_cX (q_uA q_AX 35 w23) (q_uI q_IX 34 3 1) q_J0, 40, 26520)) _
      refine q_Ru_seg (g2 := (11, [(0, .ref 98), (1, .int 32)], [.ref 98], (q_cX (q_uA q_AX 35 w23) (q_uI q_IX 34 3 1) q_J0, 40, 26520))) 1 (fun _ _ => rfl) ?_
      refine q_Ru_call (v := (some (.int 1))) (h2 := (q_cX (q_uA q_AX 35 w23) (q_uI q_IX 34 3 1) q_J0, 40, 26520)) rfl rfl ?_ ?_
      · refine q_Ca_of (Nat.le_of_ble_eq_true rfl) ?_
        refine q_Ru_seg (g2 := (10, [(0, .ref 98)], [.int 0], (q_cX (q_uA q_AX 35 w23) (q_uI q_IX 34 3 1) q_J0, 40, 26520))) 4 (fun _ _ => rfl) ?_
        refine q_Ru_seg (g2 := (18, [(0, .ref 98)], [.int 1], (q_cX (q_uA q_AX 35 w23) (q_uI q_IX 34 3 1) q_J0, 40, 26520))) 3 (fun _ _ => rfl) ?_
        exact q_Ru_ret rfl rfl
      show q_Ru _ _ _ (14, [(0, .ref 98), (1, .int 32)], [.int 1], (q_cX (q_uA q_AX 35 w23) (q_uI q_IX 34 3 1) q_J0, 40, 26520)) _
      refine q_Ru_seg (g2 := (18, [(0, .ref 98), (1, .int 32)], [.int 32], (q_cX (q_uA q_AX 35 w23) (q_uI q_IX 34 3 1) q_J0, 40, 26520))) 2 (fun _ _ => rfl) ?_
      refine q_Ru_call (v := (some (.int 1))) (h2 := (q_cX (q_uA q_AX 35 w23) (q_uI q_IX 34 3 1) q_J0, 40, 26520)) rfl rfl ?_ ?_
      · refine q_Ca_of (Nat.le_of_ble_eq_true rfl) ?_
        refine q_Ru_seg (g2 := (12, [(0, .int 32)], [.int 1], (q_cX (q_uA q_AX 35 w23) (q_uI q_IX 34 3 1) q_J0, 40, 26520))) 5 (fun _ _ => rfl) ?_
        exact q_Ru_ret rfl rfl
      show q_Ru _ _ _ (21, [(0, .ref 98), (1, .int 32)], [.int 1], (q_cX (q_uA q_AX 35 w23) (q_uI q_IX 34 3 1) q_J0, 40, 26520)) _
      refine q_Ru_seg (g2 := (33, [(0, .ref 98), (1, .int 32)], [.int 1, .ref 98, .ref 99], (q_cX (q_uA q_AX 35 w23) (q_uI q_IX 34 3 1) q_J0, 40, 26520))) 6 (fun _ _ => rfl) ?_
      refine q_Ru_seg (g2 := (76, [(0, .ref 98), (1, .int 32)], [.ref 98], (q_cX (q_uA q_AX 35 (upd w23 1 32)) (q_uI q_IX 34 3 2) q_J0, 40, 26520))) 9 (fun _ _ => rfl) ?_
      exact q_Ru_ret rfl rfl
    show q_Ru _ _ _ (5, [(0, .ref 98), (1, .int 32)], [.ref 98], (q_cX (q_uA q_AX 35 (upd w23 1 32)) (q_uI q_IX 34 3 2) q_J0, 40, 26520)) _
    refine q_Ru_seg (g2 := (7, [(0, .ref 98), (1, .int 32)], [.ref 98], (q_cX (q_uA q_AX 35 (upd w23 1 32)) (q_uI q_IX 34 3 2) q_J0, 40, 26520))) 2 (fun _ _ => rfl) ?_
    exact q_Ru_ret rfl rfl
  show q_Ru _ _ _ (42, [(5, .int 0), (4, .int 2), (3, .int 0), (0, .ref 98), (1, .ref 66), (2, .int a)], [.ref 98], (q_cX (q_uA q_AX 35 (upd w23 1 32)) (q_uI q_IX 34 3 2) q_J0, 40, 26520)) _
  exact q_Ru_le (Nat.le_of_ble_eq_true rfl) (q_xc21 L xs a hl_a hu_a w23)
set_option maxHeartbeats 20000000 in
theorem q_xc23 (L : Nat) (xs : Nat → Int32) (a : Int32) (hl_a : 0 ≤ a.toInt) (hu_a : a.toInt ≤ 9) (h164 : decide (a < 0) = false) (h166 : decide ((-10) < -a) = true) (h167 : decide ((-100) < -a) = true) (h168 : decide (-a < (-9)) = false) : q_Ru (q_TBs 98 L xs) 6 34 (4, [(0, .ref 64), (1, .int a)], [], (q_cX q_AX q_IX q_J0, 40, 26520)) (.inl (some (.int 8)), (q_cX (q_uA q_AX 35 (upd (upd (upd (upd (upd (upd (upd (upd (fun _ => 0) 0 (vp_nar .byte ((fun j => q_o6.getD j 0) ((-(-a)).toNatClampNeg)))) 1 32) 2 108) 3 100) 4 97) 5 32) 6 35) 7 48)) (q_uI q_IX 34 3 8) q_J0, 40, 26520)) := by
  refine q_Ru_seg (g2 := (16, [(0, .ref 64), (1, .int a)], [.int a, .ref 66, .ref 98], (q_cX q_AX q_IX q_J0, 40, 26520))) 6 (fun _ _ => rfl) ?_
  refine q_Ru_call (v := none) (h2 := (q_cX (q_uA q_AX 35 (upd (upd (upd (upd (upd (upd (upd (upd (fun _ => 0) 0 (vp_nar .byte ((fun j => q_o6.getD j 0) ((-(-a)).toNatClampNeg)))) 1 32) 2 108) 3 100) 4 97) 5 32) 6 35) 7 48)) (q_uI q_IX 34 3 8) q_J0, 40, 26520)) rfl rfl ?_ ?_
  · refine q_Ca_of (Nat.le_of_ble_eq_true rfl) ?_
    refine q_Ru_seg (g2 := (2, [(0, .ref 98), (1, .ref 66), (2, .int a)], [.int a, .ref 66], (q_cX q_AX q_IX q_J0, 40, 26520))) 2 (fun _ _ => rfl) ?_
    refine q_Ru_call (v := (some (.int 0))) (h2 := (q_cX q_AX q_IX q_J0, 40, 26520)) rfl rfl ?_ ?_
    · exact ((q_p_read0 a hl_a (Int.le_trans hu_a (by decide))).le (Nat.le_of_ble_eq_true rfl)).tb q_TB0_le
    show q_Ru _ _ _ (5, [(0, .ref 98), (1, .ref 66), (2, .int a)], [.int 0], (q_cX q_AX q_IX q_J0, 40, 26520)) _
    refine q_Ru_seg (g2 := (7, [(3, .int 0), (0, .ref 98), (1, .ref 66), (2, .int a)], [.int 0], (q_cX q_AX q_IX q_J0, 40, 26520))) 2 (fun _ _ => rfl) ?_
    refine q_Ru_call (v := (some (.int 2))) (h2 := (q_cX q_AX q_IX q_J0, 40, 26520)) rfl rfl ?_ ?_
    · refine q_Ca_of (Nat.le_of_ble_eq_true rfl) ?_
      refine q_Ru_seg (g2 := (1, [(0, .int 0)], [.int 0], (q_cX q_AX q_IX q_J0, 40, 26520))) 1 (fun _ _ => rfl) ?_
      refine q_Ru_call (v := (some (.int 0))) (h2 := (q_cX q_AX q_IX q_J0, 40, 26520)) rfl rfl ?_ ?_
      · refine q_Ca_of (Nat.le_of_ble_eq_true rfl) ?_
        refine q_Ru_seg (g2 := (11, [(0, .int 0)], [.int 0], (q_cX q_AX q_IX q_J0, 40, 26520))) 6 (fun _ _ => rfl) ?_
        exact q_Ru_ret rfl rfl
      show q_Ru _ _ _ (4, [(0, .int 0)], [.int 0], (q_cX q_AX q_IX q_J0, 40, 26520)) _
      refine q_Ru_seg (g2 := (27, [(1, .int 0), (0, .int 0)], [.int 2], (q_cX q_AX q_IX q_J0, 40, 26520))) 9 (fun _ _ => rfl) ?_
      exact q_Ru_ret rfl rfl
    show q_Ru _ _ _ (10, [(3, .int 0), (0, .ref 98), (1, .ref 66), (2, .int a)], [.int 2], (q_cX q_AX q_IX q_J0, 40, 26520)) _
    refine q_Ru_seg (g2 := (20, [(4, .int 2), (3, .int 0), (0, .ref 98), (1, .ref 66), (2, .int a)], [.int ((a + 1) &&& 4095), .ref 66], (q_cX q_AX q_IX q_J0, 40, 26520))) 7 (fun _ _ => rfl) ?_
    refine q_Ru_call (v := (some (.int 0))) (h2 := (q_cX q_AX q_IX q_J0, 40, 26520)) rfl rfl ?_ ?_
    · exact ((q_p_read0 ((a + 1) &&& 4095) (q_and_lo (a + 1) 4095) (q_and_hi (a + 1) 4095 4095)).le (Nat.le_of_ble_eq_true rfl)).tb q_TB0_le
    show q_Ru _ _ _ (23, [(4, .int 2), (3, .int 0), (0, .ref 98), (1, .ref 66), (2, .int a)], [.int 0], (q_cX q_AX q_IX q_J0, 40, 26520)) _
    refine q_Ru_seg (g2 := (27, [(5, .int 0), (4, .int 2), (3, .int 0), (0, .ref 98), (1, .ref 66), (2, .int a)], [.int 0, .ref 98], (q_cX q_AX q_IX q_J0, 40, 26520))) 3 (fun _ _ => rfl) ?_
    refine q_Ru_call (v := none) (h2 := (q_cX q_AX (q_uI q_IX 34 3 0) q_J0, 40, 26520)) rfl rfl ?_ ?_
    · refine q_Ca_of (Nat.le_of_ble_eq_true rfl) ?_
      refine q_Ru_seg (g2 := (2, [(0, .ref 98), (1, .int 0)], [.int 0, .ref 98], (q_cX q_AX q_IX q_J0, 40, 26520))) 2 (fun _ _ => rfl) ?_
      refine q_Ru_call (v := none) (h2 := (q_cX q_AX (q_uI q_IX 34 3 0) q_J0, 40, 26520)) rfl rfl ?_ ?_
      · refine q_Ca_of (Nat.le_of_ble_eq_true rfl) ?_
        refine q_Ru_seg (g2 := (15, [(0, .ref 98), (1, .int 0)], [.int 0, .ref 98], (q_cX q_AX q_IX q_J0, 40, 26520))) 4 (fun _ _ => rfl) ?_
        refine q_Ru_call (v := none) (h2 := (q_cX q_AX q_IX q_J0, 40, 26520)) rfl rfl ?_ ?_
        · refine q_Ca_of (Nat.le_of_ble_eq_true rfl) ?_
          refine q_Ru_seg (g2 := (9, [(0, .ref 98), (1, .int 0)], [.int 0, .int 16], (q_cX q_AX q_IX q_J0, 40, 26520))) 5 (fun _ _ => rfl) ?_
          refine q_Ru_seg (g2 := (38, [(2, .int 16), (0, .ref 98), (1, .int 0)], [], (q_cX q_AX q_IX q_J0, 40, 26520))) 6 (fun _ _ => rfl) ?_
          exact q_Ru_ret rfl rfl
        show q_Ru _ _ _ (18, [(0, .ref 98), (1, .int 0)], [], (q_cX q_AX q_IX q_J0, 40, 26520)) _
        refine q_Ru_seg (g2 := (22, [(0, .ref 98), (1, .int 0)], [.int 0], (q_cX q_AX q_IX q_J0, 40, 26520))) 2 (fun _ _ => rfl) ?_
        refine q_Ru_seg (g2 := (67, [(0, .ref 98), (1, .int 0)], [.int 0], (q_cX q_AX q_IX q_J0, 40, 26520))) 4 (fun _ _ => rfl) ?_
        refine q_Ru_seg (g2 := (81, [(0, .ref 98), (1, .int 0)], [], (q_cX q_AX (q_uI q_IX 34 3 0) q_J0, 40, 26520))) 5 (fun _ _ => rfl) ?_
        exact q_Ru_ret rfl rfl
      show q_Ru _ _ _ (5, [(0, .ref 98), (1, .int 0)], [], (q_cX q_AX (q_uI q_IX 34 3 0) q_J0, 40, 26520)) _
      exact q_Ru_ret rfl rfl
    show q_Ru _ _ _ (30, [(5, .int 0), (4, .int 2), (3, .int 0), (0, .ref 98), (1, .ref 66), (2, .int a)], [], (q_cX q_AX (q_uI q_IX 34 3 0) q_J0, 40, 26520)) _
    exact q_Ru_le (Nat.le_of_ble_eq_true rfl) (q_xc22 L xs a hl_a hu_a h164 h166 h167 h168)
  show q_Ru _ _ _ (19, [(0, .ref 64), (1, .int a)], [], (q_cX (q_uA q_AX 35 (upd (upd (upd (upd (upd (upd (upd (upd (fun _ => 0) 0 (vp_nar .byte ((fun j => q_o6.getD j 0) ((-(-a)).toNatClampNeg)))) 1 32) 2 108) 3 100) 4 97) 5 32) 6 35) 7 48)) (q_uI q_IX 34 3 8) q_J0, 40, 26520)) _
  generalize (upd (upd (upd (upd (upd (upd (upd (upd (fun _ => 0) 0 (vp_nar .byte ((fun j => q_o6.getD j 0) ((-(-a)).toNatClampNeg)))) 1 32) 2 108) 3 100) 4 97) 5 32) 6 35) 7 48) = w27
  refine q_Ru_seg (g2 := (23, [(0, .ref 64), (1, .int a)], [.ref 98], (q_cX (q_uA q_AX 35 w27) (q_uI q_IX 34 3 8) q_J0, 40, 26520))) 2 (fun _ _ => rfl) ?_
  refine q_Ru_call (v := (some (.int 8))) (h2 := (q_cX (q_uA q_AX 35 w27) (q_uI q_IX 34 3 8) q_J0, 40, 26520)) rfl rfl ?_ ?_
  · refine q_Ca_of (Nat.le_of_ble_eq_true rfl) ?_
    refine q_Ru_seg (g2 := (1, [(0, .ref 98)], [.ref 98], (q_cX (q_uA q_AX 35 w27) (q_uI q_IX 34 3 8) q_J0, 40, 26520))) 1 (fun _ _ => rfl) ?_
    refine q_Ru_call (v := (some (.int 8))) (h2 := (q_cX (q_uA q_AX 35 w27) (q_uI q_IX 34 3 8) q_J0, 40, 26520)) rfl rfl ?_ ?_
    · refine q_Ca_of (Nat.le_of_ble_eq_true rfl) ?_
      refine q_Ru_seg (g2 := (4, [(0, .ref 98)], [.int 8], (q_cX (q_uA q_AX 35 w27) (q_uI q_IX 34 3 8) q_J0, 40, 26520))) 2 (fun _ _ => rfl) ?_
      exact q_Ru_ret rfl rfl
    show q_Ru _ _ _ (4, [(0, .ref 98)], [.int 8], (q_cX (q_uA q_AX 35 w27) (q_uI q_IX 34 3 8) q_J0, 40, 26520)) _
    exact q_Ru_ret rfl rfl
  show q_Ru _ _ _ (26, [(0, .ref 64), (1, .int a)], [.int 8], (q_cX (q_uA q_AX 35 w27) (q_uI q_IX 34 3 8) q_J0, 40, 26520)) _
  exact q_Ru_ret rfl rfl
set_option maxHeartbeats 20000000 in
theorem q_xc24 (L : Nat) (xs : Nat → Int32) (a : Int32) (hl_a : 0 ≤ a.toInt) (hu_a : a.toInt ≤ 9) (f9 : Nat → Int32) (f10 : Nat → Int32) (p10 : q_Ca q_TB0 4 214 [.ref 64, .int ((a + 1) &&& 4095)] (q_cM (q_uA (q_uA q_AM 33 f9) 32 (upd (upd (upd (upd (upd (upd (upd (fun _ => 0) 0 (vp_nar .char ((((48 : Int32) + (a - a / 10 * 10)).toUInt32 % 65536).toInt32))) 1 32) 2 108) 3 100) 4 97) 5 32) 6 35)) (q_uI (q_uI q_IM 0 39 0) 0 35 7) q_J0, 34, 31630) (.inl (some (.int 0)), (q_cM (q_uA (q_uA q_AM 33 f10) 32 (upd (upd (upd (upd (upd (upd (upd (fun _ => 0) 0 (vp_nar .char ((((48 : Int32) + (a - a / 10 * 10)).toUInt32 % 65536).toInt32))) 1 32) 2 108) 3 100) 4 97) 5 32) 6 35)) (q_uI (q_uI q_IM 0 39 0) 0 35 7) q_J0, 34, 31630))) : q_Ru q_TB0 8 286 (82, [(2, .int 0), (0, .ref 64), (1, .int a)], [.int 0], (q_cM (q_uA (q_uA (q_uA q_AM 33 f9) 32 (fun _ => 0)) 32 (upd (upd (upd (upd (upd (fun _ => 0) 0 (vp_nar .char ((((48 : Int32) + (a - a / 10 * 10)).toUInt32 % 65536).toInt32))) 1 32) 2 108) 3 100) 4 97)) (q_uI (q_uI q_IM 0 39 0) 0 35 5) q_J0, 34, 31630)) (.inl (some (.int 8)), (q_cM (q_uA (q_uA (q_uA q_AM 33 f10) 32 (upd (upd (upd (upd (upd (upd (upd (fun _ => 0) 0 (vp_nar .char ((((48 : Int32) + (a - a / 10 * 10)).toUInt32 % 65536).toInt32))) 1 32) 2 108) 3 100) 4 97) 5 32) 6 35)) 32 (upd (upd (upd (upd (upd (upd (upd (upd (fun _ => 0) 0 (vp_nar .char ((((48 : Int32) + (a - a / 10 * 10)).toUInt32 % 65536).toInt32))) 1 32) 2 108) 3 100) 4 97) 5 32) 6 35) 7 48)) (q_uI (q_uI q_IM 0 39 0) 0 35 8) q_J0, 34, 31630)) := by
  refine q_Ru_seg (g2 := (91, [(2, .int 0), (0, .ref 64), (1, .int a)], [.int a, .int 0, .ref 64], (q_cM (q_uA (q_uA (q_uA q_AM 33 f9) 32 (fun _ => 0)) 32 (upd (upd (upd (upd (upd (fun _ => 0) 0 (vp_nar .char ((((48 : Int32) + (a - a / 10 * 10)).toUInt32 % 65536).toInt32))) 1 32) 2 108) 3 100) 4 97)) (q_uI (q_uI q_IM 0 39 0) 0 35 5) q_J0, 34, 31630))) 6 (fun _ _ => rfl) ?_
  refine q_Ru_call (v := none) (h2 := (q_cM (q_uA (q_uA (q_uA q_AM 33 f10) 32 (upd (upd (upd (upd (upd (upd (upd (fun _ => 0) 0 (vp_nar .char ((((48 : Int32) + (a - a / 10 * 10)).toUInt32 % 65536).toInt32))) 1 32) 2 108) 3 100) 4 97) 5 32) 6 35)) 32 (upd (upd (upd (upd (upd (upd (upd (upd (fun _ => 0) 0 (vp_nar .char ((((48 : Int32) + (a - a / 10 * 10)).toUInt32 % 65536).toInt32))) 1 32) 2 108) 3 100) 4 97) 5 32) 6 35) 7 48)) (q_uI (q_uI q_IM 0 39 0) 0 35 8) q_J0, 34, 31630)) rfl rfl ?_ ?_
  · refine q_Ca_of (Nat.le_of_ble_eq_true rfl) ?_
    refine q_Ru_seg (g2 := (3, [(0, .ref 64), (1, .int 0), (2, .int a)], [.int 32, .ref 64], (q_cM (q_uA (q_uA (q_uA q_AM 33 f9) 32 (fun _ => 0)) 32 (upd (upd (upd (upd (upd (fun _ => 0) 0 (vp_nar .char ((((48 : Int32) + (a - a / 10 * 10)).toUInt32 % 65536).toInt32))) 1 32) 2 108) 3 100) 4 97)) (q_uI (q_uI q_IM 0 39 0) 0 35 5) q_J0, 34, 31630))) 2 (fun _ _ => rfl) ?_
    refine q_Ru_call (v := none) (h2 := (q_cM (q_uA (q_uA (q_uA q_AM 33 f9) 32 (fun _ => 0)) 32 (upd (upd (upd (upd (upd (upd (fun _ => 0) 0 (vp_nar .char ((((48 : Int32) + (a - a / 10 * 10)).toUInt32 % 65536).toInt32))) 1 32) 2 108) 3 100) 4 97) 5 32)) (q_uI (q_uI q_IM 0 39 0) 0 35 6) q_J0, 34, 31630)) rfl rfl ?_ ?_
    · refine q_Ca_of (Nat.le_of_ble_eq_true rfl) ?_
      refine q_Ru_seg (g2 := (8, [(0, .ref 64), (1, .int 32)], [.int 5, .ref 96], (q_cM (q_uA (q_uA (q_uA q_AM 33 f9) 32 (fun _ => 0)) 32 (upd (upd (upd (upd (upd (fun _ => 0) 0 (vp_nar .char ((((48 : Int32) + (a - a / 10 * 10)).toUInt32 % 65536).toInt32))) 1 32) 2 108) 3 100) 4 97)) (q_uI (q_uI q_IM 0 39 0) 0 35 5) q_J0, 34, 31630))) 4 (fun _ _ => rfl) ?_
      refine q_Ru_seg (g2 := (15, [(0, .ref 64), (1, .int 32)], [.int 5, .ref 64], (q_cM (q_uA (q_uA (q_uA q_AM 33 f9) 32 (fun _ => 0)) 32 (upd (upd (upd (upd (upd (upd (fun _ => 0) 0 (vp_nar .char ((((48 : Int32) + (a - a / 10 * 10)).toUInt32 % 65536).toInt32))) 1 32) 2 108) 3 100) 4 97) 5 32)) (q_uI (q_uI q_IM 0 39 0) 0 35 5) q_J0, 34, 31630))) 5 (fun _ _ => rfl) ?_
      refine q_Ru_seg (g2 := (20, [(0, .ref 64), (1, .int 32)], [], (q_cM (q_uA (q_uA (q_uA q_AM 33 f9) 32 (fun _ => 0)) 32 (upd (upd (upd (upd (upd (upd (fun _ => 0) 0 (vp_nar .char ((((48 : Int32) + (a - a / 10 * 10)).toUInt32 % 65536).toInt32))) 1 32) 2 108) 3 100) 4 97) 5 32)) (q_uI (q_uI q_IM 0 39 0) 0 35 6) q_J0, 34, 31630))) 3 (fun _ _ => rfl) ?_
      exact q_Ru_ret rfl rfl
    show q_Ru _ _ _ (6, [(0, .ref 64), (1, .int 0), (2, .int a)], [], (q_cM (q_uA (q_uA (q_uA q_AM 33 f9) 32 (fun _ => 0)) 32 (upd (upd (upd (upd (upd (upd (fun _ => 0) 0 (vp_nar .char ((((48 : Int32) + (a - a / 10 * 10)).toUInt32 % 65536).toInt32))) 1 32) 2 108) 3 100) 4 97) 5 32)) (q_uI (q_uI q_IM 0 39 0) 0 35 6) q_J0, 34, 31630)) _
    refine q_Ru_seg (g2 := (13, [(0, .ref 64), (1, .int 0), (2, .int a)], [.int 35, .ref 64], (q_cM (q_uA (q_uA (q_uA q_AM 33 f9) 32 (fun _ => 0)) 32 (upd (upd (upd (upd (upd (upd (fun _ => 0) 0 (vp_nar .char ((((48 : Int32) + (a - a / 10 * 10)).toUInt32 % 65536).toInt32))) 1 32) 2 108) 3 100) 4 97) 5 32)) (q_uI (q_uI q_IM 0 39 0) 0 35 6) q_J0, 34, 31630))) 4 (fun _ _ => rfl) ?_
    refine q_Ru_call (v := none) (h2 := (q_cM (q_uA (q_uA (q_uA q_AM 33 f9) 32 (fun _ => 0)) 32 (upd (upd (upd (upd (upd (upd (upd (fun _ => 0) 0 (vp_nar .char ((((48 : Int32) + (a - a / 10 * 10)).toUInt32 % 65536).toInt32))) 1 32) 2 108) 3 100) 4 97) 5 32) 6 35)) (q_uI (q_uI q_IM 0 39 0) 0 35 7) q_J0, 34, 31630)) rfl rfl ?_ ?_
    · refine q_Ca_of (Nat.le_of_ble_eq_true rfl) ?_
      refine q_Ru_seg (g2 := (8, [(0, .ref 64), (1, .int 35)], [.int 6, .ref 96], (q_cM (q_uA (q_uA (q_uA q_AM 33 f9) 32 (fun _ => 0)) 32 (upd (upd (upd (upd (upd (upd (fun _ => 0) 0 (vp_nar .char ((((48 : Int32) + (a - a / 10 * 10)).toUInt32 % 65536).toInt32))) 1 32) 2 108) 3 100) 4 97) 5 32)) (q_uI (q_uI q_IM 0 39 0) 0 35 6) q_J0, 34, 31630))) 4 (fun _ _ => rfl) ?_
      refine q_Ru_seg (g2 := (15, [(0, .ref 64), (1, .int 35)], [.int 6, .ref 64], (q_cM (q_uA (q_uA (q_uA q_AM 33 f9) 32 (fun _ => 0)) 32 (upd (upd (upd (upd (upd (upd (upd (fun _ => 0) 0 (vp_nar .char ((((48 : Int32) + (a - a / 10 * 10)).toUInt32 % 65536).toInt32))) 1 32) 2 108) 3 100) 4 97) 5 32) 6 35)) (q_uI (q_uI q_IM 0 39 0) 0 35 6) q_J0, 34, 31630))) 5 (fun _ _ => rfl) ?_
      refine q_Ru_seg (g2 := (20, [(0, .ref 64), (1, .int 35)], [], (q_cM (q_uA (q_uA (q_uA q_AM 33 f9) 32 (fun _ => 0)) 32 (upd (upd (upd (upd (upd (upd (upd (fun _ => 0) 0 (vp_nar .char ((((48 : Int32) + (a - a / 10 * 10)).toUInt32 % 65536).toInt32))) 1 32) 2 108) 3 100) 4 97) 5 32) 6 35)) (q_uI (q_uI q_IM 0 39 0) 0 35 7) q_J0, 34, 31630))) 3 (fun _ _ => rfl) ?_
      exact q_Ru_ret rfl rfl
    show q_Ru _ _ _ (16, [(0, .ref 64), (1, .int 0), (2, .int a)], [], (q_cM (q_uA (q_uA (q_uA q_AM 33 f9) 32 (fun _ => 0)) 32 (upd (upd (upd (upd (upd (upd (upd (fun _ => 0) 0 (vp_nar .char ((((48 : Int32) + (a - a / 10 * 10)).toUInt32 % 65536).toInt32))) 1 32) 2 108) 3 100) 4 97) 5 32) 6 35)) (q_uI (q_uI q_IM 0 39 0) 0 35 7) q_J0, 34, 31630)) _
    refine q_Ru_seg (g2 := (31, [(0, .ref 64), (1, .int 0), (2, .int a)], [.int 5, .int 3, .int 0, .ref 64], (q_cM (q_uA (q_uA (q_uA q_AM 33 f9) 32 (fun _ => 0)) 32 (upd (upd (upd (upd (upd (upd (upd (fun _ => 0) 0 (vp_nar .char ((((48 : Int32) + (a - a / 10 * 10)).toUInt32 % 65536).toInt32))) 1 32) 2 108) 3 100) 4 97) 5 32) 6 35)) (q_uI (q_uI q_IM 0 39 0) 0 35 7) q_J0, 34, 31630))) 7 (fun _ _ => rfl) ?_
    refine q_Ru_call (v := (some (.int 0))) (h2 := (q_cM (q_uA (q_uA (q_uA q_AM 33 f9) 32 (fun _ => 0)) 32 (upd (upd (upd (upd (upd (upd (upd (fun _ => 0) 0 (vp_nar .char ((((48 : Int32) + (a - a / 10 * 10)).toUInt32 % 65536).toInt32))) 1 32) 2 108) 3 100) 4 97) 5 32) 6 35)) (q_uI (q_uI q_IM 0 39 0) 0 35 7) q_J0, 34, 31630)) rfl rfl ?_ ?_
    · refine q_Ca_of (Nat.le_of_ble_eq_true rfl) ?_
      refine q_Ru_seg (g2 := (15, [(0, .int 0), (1, .int 3), (2, .int 5)], [.int 0], (q_cM (q_uA (q_uA (q_uA q_AM 33 f9) 32 (fun _ => 0)) 32 (upd (upd (upd (upd (upd (upd (upd (fun _ => 0) 0 (vp_nar .char ((((48 : Int32) + (a - a / 10 * 10)).toUInt32 % 65536).toInt32))) 1 32) 2 108) 3 100) 4 97) 5 32) 6 35)) (q_uI (q_uI q_IM 0 39 0) 0 35 7) q_J0, 34, 31630))) 4 (fun _ _ => rfl) ?_
      exact q_Ru_ret rfl rfl
    show q_Ru _ _ _ (34, [(0, .ref 64), (1, .int 0), (2, .int a)], [.int 0, .ref 64], (q_cM (q_uA (q_uA (q_uA q_AM 33 f9) 32 (fun _ => 0)) 32 (upd (upd (upd (upd (upd (upd (upd (fun _ => 0) 0 (vp_nar .char ((((48 : Int32) + (a - a / 10 * 10)).toUInt32 % 65536).toInt32))) 1 32) 2 108) 3 100) 4 97) 5 32) 6 35)) (q_uI (q_uI q_IM 0 39 0) 0 35 7) q_J0, 34, 31630)) _
    refine q_Ru_seg (g2 := (51, [(0, .ref 64), (1, .int 0), (2, .int a)], [.int (a + 1), .ref 64, .ref 64], (q_cM (q_uA (q_uA (q_uA q_AM 33 f9) 32 (fun _ => 0)) 32 (upd (upd (upd (upd (upd (upd (upd (fun _ => 0) 0 (vp_nar .char ((((48 : Int32) + (a - a / 10 * 10)).toUInt32 % 65536).toInt32))) 1 32) 2 108) 3 100) 4 97) 5 32) 6 35)) (q_uI (q_uI q_IM 0 39 0) 0 35 7) q_J0, 34, 31630))) 5 (fun _ _ => rfl) ?_
    refine q_Ru_call (v := (some (.int 0))) (h2 := (q_cM (q_uA (q_uA q_AM 33 f10) 32 (upd (upd (upd (upd (upd (upd (upd (fun _ => 0) 0 (vp_nar .char ((((48 : Int32) + (a - a / 10 * 10)).toUInt32 % 65536).toInt32))) 1 32) 2 108) 3 100) 4 97) 5 32) 6 35)) (q_uI (q_uI q_IM 0 39 0) 0 35 7) q_J0, 34, 31630)) rfl rfl ?_ ?_
    · refine q_Ca_of (Nat.le_of_ble_eq_true rfl) ?_
      refine q_Ru_seg (g2 := (2, [(0, .ref 64), (1, .int (a + 1))], [.int (a + 1), .ref 64], (q_cM (q_uA (q_uA (q_uA q_AM 33 f9) 32 (fun _ => 0)) 32 (upd (upd (upd (upd (upd (upd (upd (fun _ => 0) 0 (vp_nar .char ((((48 : Int32) + (a - a / 10 * 10)).toUInt32 % 65536).toInt32))) 1 32) 2 108) 3 100) 4 97) 5 32) 6 35)) (q_uI (q_uI q_IM 0 39 0) 0 35 7) q_J0, 34, 31630))) 2 (fun _ _ => rfl) ?_
      refine q_Ru_call (v := (some (.int ((a + 1) &&& 4095)))) (h2 := (q_cM (q_uA (q_uA (q_uA q_AM 33 f9) 32 (fun _ => 0)) 32 (upd (upd (upd (upd (upd (upd (upd (fun _ => 0) 0 (vp_nar .char ((((48 : Int32) + (a - a / 10 * 10)).toUInt32 % 65536).toInt32))) 1 32) 2 108) 3 100) 4 97) 5 32) 6 35)) (q_uI (q_uI q_IM 0 39 0) 0 35 7) q_J0, 34, 31630)) rfl rfl ?_ ?_
      · refine q_Ca_of (Nat.le_of_ble_eq_true rfl) ?_
        refine q_Ru_seg (g2 := (5, [(0, .int (a + 1))], [.int ((a + 1) &&& 4095)], (q_cM (q_uA (q_uA (q_uA q_AM 33 f9) 32 (fun _ => 0)) 32 (upd (upd (upd (upd (upd (upd (upd (fun _ => 0) 0 (vp_nar .char ((((48 : Int32) + (a - a / 10 * 10)).toUInt32 % 65536).toInt32))) 1 32) 2 108) 3 100) 4 97) 5 32) 6 35)) (q_uI (q_uI q_IM 0 39 0) 0 35 7) q_J0, 34, 31630))) 3 (fun _ _ => rfl) ?_
        exact q_Ru_ret rfl rfl
      show q_Ru _ _ _ (5, [(0, .ref 64), (1, .int (a + 1))], [.int ((a + 1) &&& 4095), .ref 64], (q_cM (q_uA (q_uA (q_uA q_AM 33 f9) 32 (fun _ => 0)) 32 (upd (upd (upd (upd (upd (upd (upd (fun _ => 0) 0 (vp_nar .char ((((48 : Int32) + (a - a / 10 * 10)).toUInt32 % 65536).toInt32))) 1 32) 2 108) 3 100) 4 97) 5 32) 6 35)) (q_uI (q_uI q_IM 0 39 0) 0 35 7) q_J0, 34, 31630)) _
      refine q_Ru_call (v := (some (.int 0))) (h2 := (q_cM (q_uA (q_uA q_AM 33 f10) 32 (upd (upd (upd (upd (upd (upd (upd (fun _ => 0) 0 (vp_nar .char ((((48 : Int32) + (a - a / 10 * 10)).toUInt32 % 65536).toInt32))) 1 32) 2 108) 3 100) 4 97) 5 32) 6 35)) (q_uI (q_uI q_IM 0 39 0) 0 35 7) q_J0, 34, 31630)) rfl rfl ?_ ?_
      · exact p10.le (Nat.le_of_ble_eq_true rfl)
      show q_Ru _ _ _ (8, [(0, .ref 64), (1, .int (a + 1))], [.int 0], (q_cM (q_uA (q_uA q_AM 33 f10) 32 (upd (upd (upd (upd (upd (upd (upd (fun _ => 0) 0 (vp_nar .char ((((48 : Int32) + (a - a / 10 * 10)).toUInt32 % 65536).toInt32))) 1 32) 2 108) 3 100) 4 97) 5 32) 6 35)) (q_uI (q_uI q_IM 0 39 0) 0 35 7) q_J0, 34, 31630)) _
      exact q_Ru_ret rfl rfl
    show q_Ru _ _ _ (54, [(0, .ref 64), (1, .int 0), (2, .int a)], [.int 0, .ref 64], (q_cM (q_uA (q_uA q_AM 33 f10) 32 (upd (upd (upd (upd (upd (upd (upd (fun _ => 0) 0 (vp_nar .char ((((48 : Int32) + (a - a / 10 * 10)).toUInt32 % 65536).toInt32))) 1 32) 2 108) 3 100) 4 97) 5 32) 6 35)) (q_uI (q_uI q_IM 0 39 0) 0 35 7) q_J0, 34, 31630)) _
    refine q_Ru_call (v := none) (h2 := (q_cM (q_uA (q_uA (q_uA q_AM 33 f10) 32 (upd (upd (upd (upd (upd (upd (upd (fun _ => 0) 0 (vp_nar .char ((((48 : Int32) + (a - a / 10 * 10)).toUInt32 % 65536).toInt32))) 1 32) 2 108) 3 100) 4 97) 5 32) 6 35)) 32 (upd (upd (upd (upd (upd (upd (upd (upd (fun _ => 0) 0 (vp_nar .char ((((48 : Int32) + (a - a / 10 * 10)).toUInt32 % 65536).toInt32))) 1 32) 2 108) 3 100) 4 97) 5 32) 6 35) 7 48)) (q_uI (q_uI q_IM 0 39 0) 0 35 8) q_J0, 34, 31630)) rfl rfl ?_ ?_
    · refine q_Ca_of (Nat.le_of_ble_eq_true rfl) ?_
      refine q_Ru_seg (g2 := (23, [(0, .ref 64), (1, .int 0)], [.int 48, .ref 64], (q_cM (q_uA (q_uA q_AM 33 f10) 32 (upd (upd (upd (upd (upd (upd (upd (fun _ => 0) 0 (vp_nar .char ((((48 : Int32) + (a - a / 10 * 10)).toUInt32 % 65536).toInt32))) 1 32) 2 108) 3 100) 4 97) 5 32) 6 35)) (q_uI (q_uI q_IM 0 39 0) 0 35 7) q_J0, 34, 31630))) 10 (fun _ _ => rfl) ?_
      refine q_Ru_call (v := none) (h2 := (q_cM (q_uA (q_uA (q_uA q_AM 33 f10) 32 (upd (upd (upd (upd (upd (upd (upd (fun _ => 0) 0 (vp_nar .char ((((48 : Int32) + (a - a / 10 * 10)).toUInt32 % 65536).toInt32))) 1 32) 2 108) 3 100) 4 97) 5 32) 6 35)) 32 (upd (upd (upd (upd (upd (upd (upd (upd (fun _ => 0) 0 (vp_nar .char ((((48 : Int32) + (a - a / 10 * 10)).toUInt32 % 65536).toInt32))) 1 32) 2 108) 3 100) 4 97) 5 32) 6 35) 7 48)) (q_uI (q_uI q_IM 0 39 0) 0 35 8) q_J0, 34, 31630)) rfl rfl ?_ ?_
      · refine q_Ca_of (Nat.le_of_ble_eq_true rfl) ?_
        refine q_Ru_seg (g2 := (8, [(0, .ref 64), (1, .int 48)], [.int 7, .ref 96], (q_cM (q_uA (q_uA q_AM 33 f10) 32 (upd (upd (upd (upd (upd (upd (upd (fun _ => 0) 0 (vp_nar .char ((((48 : Int32) + (a - a / 10 * 10)).toUInt32 % 65536).toInt32))) 1 32) 2 108) 3 100) 4 97) 5 32) 6 35)) (q_uI (q_uI q_IM 0 39 0) 0 35 7) q_J0, 34, 31630))) 4 (fun _ _ => rfl) ?_
        refine q_Ru_seg (g2 := (15, [(0, .ref 64), (1, .int 48)], [.int 7, .ref 64], (q_cM (q_uA (q_uA (q_uA q_AM 33 f10) 32 (upd (upd (upd (upd (upd (upd (upd (fun _ => 0) 0 (vp_nar .char ((((48 : Int32) + (a - a / 10 * 10)).toUInt32 % 65536).toInt32))) 1 32) 2 108) 3 100) 4 97) 5 32) 6 35)) 32 (upd (upd (upd (upd (upd (upd (upd (upd (fun _ => 0) 0 (vp_nar .char ((((48 : Int32) + (a - a / 10 * 10)).toUInt32 % 65536).toInt32))) 1 32) 2 108) 3 100) 4 97) 5 32) 6 35) 7 48)) (q_uI (q_uI q_IM 0 39 0) 0 35 7) q_J0, 34, 31630))) 5 (fun _ _ => rfl) ?_
        refine q_Ru_seg (g2 := (20, [(0, .ref 64), (1, .int 48)], [], (q_cM (q_uA (q_uA (q_uA q_AM 33 f10) 32 (upd (upd (upd (upd (upd (upd (upd (fun _ => 0) 0 (vp_nar .char ((((48 : Int32) + (a - a / 10 * 10)).toUInt32 % 65536).toInt32))) 1 32) 2 108) 3 100) 4 97) 5 32) 6 35)) 32 (upd (upd (upd (upd (upd (upd (upd (upd (fun _ => 0) 0 (vp_nar .char ((((48 : Int32) + (a - a / 10 * 10)).toUInt32 % 65536).toInt32))) 1 32) 2 108) 3 100) 4 97) 5 32) 6 35) 7 48)) (q_uI (q_uI q_IM 0 39 0) 0 35 8) q_J0, 34, 31630))) 3 (fun _ _ => rfl) ?_
        exact q_Ru_ret rfl rfl
      show q_Ru _ _ _ (26, [(0, .ref 64), (1, .int 0)], [], (q_cM (q_uA (q_uA (q_uA q_AM 33 f10) 32 (upd (upd (upd (upd (upd (upd (upd (fun _ => 0) 0 (vp_nar .char ((((48 : Int32) + (a - a / 10 * 10)).toUInt32 % 65536).toInt32))) 1 32) 2 108) 3 100) 4 97) 5 32) 6 35)) 32 (upd (upd (upd (upd (upd (upd (upd (upd (fun _ => 0) 0 (vp_nar .char ((((48 : Int32) + (a - a / 10 * 10)).toUInt32 % 65536).toInt32))) 1 32) 2 108) 3 100) 4 97) 5 32) 6 35) 7 48)) (q_uI (q_uI q_IM 0 39 0) 0 35 8) q_J0, 34, 31630)) _
      exact q_Ru_ret rfl rfl
    show q_Ru _ _ _ (57, [(0, .ref 64), (1, .int 0), (2, .int a)], [], (q_cM (q_uA (q_uA (q_uA q_AM 33 f10) 32 (upd (upd (upd (upd (upd (upd (upd (fun _ => 0) 0 (vp_nar .char ((((48 : Int32) + (a - a / 10 * 10)).toUInt32 % 65536).toInt32))) 1 32) 2 108) 3 100) 4 97) 5 32) 6 35)) 32 (upd (upd (upd (upd (upd (upd (upd (upd (fun _ => 0) 0 (vp_nar .char ((((48 : Int32) + (a - a / 10 * 10)).toUInt32 % 65536).toInt32))) 1 32) 2 108) 3 100) 4 97) 5 32) 6 35) 7 48)) (q_uI (q_uI q_IM 0 39 0) 0 35 8) q_J0, 34, 31630)) _
    refine q_Ru_seg (g2 := (136, [(0, .ref 64), (1, .int 0), (2, .int a)], [], (q_cM (q_uA (q_uA (q_uA q_AM 33 f10) 32 (upd (upd (upd (upd (upd (upd (upd (fun _ => 0) 0 (vp_nar .char ((((48 : Int32) + (a - a / 10 * 10)).toUInt32 % 65536).toInt32))) 1 32) 2 108) 3 100) 4 97) 5 32) 6 35)) 32 (upd (upd (upd (upd (upd (upd (upd (upd (fun _ => 0) 0 (vp_nar .char ((((48 : Int32) + (a - a / 10 * 10)).toUInt32 % 65536).toInt32))) 1 32) 2 108) 3 100) 4 97) 5 32) 6 35) 7 48)) (q_uI (q_uI q_IM 0 39 0) 0 35 8) q_J0, 34, 31630))) 27 (fun _ _ => rfl) ?_
    exact q_Ru_ret rfl rfl
  show q_Ru _ _ _ (94, [(2, .int 0), (0, .ref 64), (1, .int a)], [], (q_cM (q_uA (q_uA (q_uA q_AM 33 f10) 32 (upd (upd (upd (upd (upd (upd (upd (fun _ => 0) 0 (vp_nar .char ((((48 : Int32) + (a - a / 10 * 10)).toUInt32 % 65536).toInt32))) 1 32) 2 108) 3 100) 4 97) 5 32) 6 35)) 32 (upd (upd (upd (upd (upd (upd (upd (upd (fun _ => 0) 0 (vp_nar .char ((((48 : Int32) + (a - a / 10 * 10)).toUInt32 % 65536).toInt32))) 1 32) 2 108) 3 100) 4 97) 5 32) 6 35) 7 48)) (q_uI (q_uI q_IM 0 39 0) 0 35 8) q_J0, 34, 31630)) _
  refine q_Ru_seg (g2 := (107, [(2, .int 0), (0, .ref 64), (1, .int a)], [.int 8], (q_cM (q_uA (q_uA (q_uA q_AM 33 f10) 32 (upd (upd (upd (upd (upd (upd (upd (fun _ => 0) 0 (vp_nar .char ((((48 : Int32) + (a - a / 10 * 10)).toUInt32 % 65536).toInt32))) 1 32) 2 108) 3 100) 4 97) 5 32) 6 35)) 32 (upd (upd (upd (upd (upd (upd (upd (upd (fun _ => 0) 0 (vp_nar .char ((((48 : Int32) + (a - a / 10 * 10)).toUInt32 % 65536).toInt32))) 1 32) 2 108) 3 100) 4 97) 5 32) 6 35) 7 48)) (q_uI (q_uI q_IM 0 39 0) 0 35 8) q_J0, 34, 31630))) 3 (fun _ _ => rfl) ?_
  exact q_Ru_ret rfl rfl
set_option maxHeartbeats 20000000 in
theorem q_xc25 (L : Nat) (xs : Nat → Int32) (a : Int32) (hl_a : 0 ≤ a.toInt) (hu_a : a.toInt ≤ 9) (f9 : Nat → Int32) (f10 : Nat → Int32) (p10 : q_Ca q_TB0 4 214 [.ref 64, .int ((a + 1) &&& 4095)] (q_cM (q_uA (q_uA q_AM 33 f9) 32 (upd (upd (upd (upd (upd (upd (upd (fun _ => 0) 0 (vp_nar .char ((((48 : Int32) + (a - a / 10 * 10)).toUInt32 % 65536).toInt32))) 1 32) 2 108) 3 100) 4 97) 5 32) 6 35)) (q_uI (q_uI q_IM 0 39 0) 0 35 7) q_J0, 34, 31630) (.inl (some (.int 0)), (q_cM (q_uA (q_uA q_AM 33 f10) 32 (upd (upd (upd (upd (upd (upd (upd (fun _ => 0) 0 (vp_nar .char ((((48 : Int32) + (a - a / 10 * 10)).toUInt32 % 65536).toInt32))) 1 32) 2 108) 3 100) 4 97) 5 32) 6 35)) (q_uI (q_uI q_IM 0 39 0) 0 35 7) q_J0, 34, 31630))) : q_Ru q_TB0 8 286 (47, [(2, .int 0), (0, .ref 64), (1, .int a)], [.int 0], (q_cM (q_uA (q_uA (q_uA q_AM 33 f9) 32 (fun _ => 0)) 32 (upd (upd (fun _ => 0) 0 (vp_nar .char ((((48 : Int32) + (a - a / 10 * 10)).toUInt32 % 65536).toInt32))) 1 32)) (q_uI (q_uI q_IM 0 39 0) 0 35 2) q_J0, 34, 31630)) (.inl (some (.int 8)), (q_cM (q_uA (q_uA (q_uA q_AM 33 f10) 32 (upd (upd (upd (upd (upd (upd (upd (fun _ => 0) 0 (vp_nar .char ((((48 : Int32) + (a - a / 10 * 10)).toUInt32 % 65536).toInt32))) 1 32) 2 108) 3 100) 4 97) 5 32) 6 35)) 32 (upd (upd (upd (upd (upd (upd (upd (upd (fun _ => 0) 0 (vp_nar .char ((((48 : Int32) + (a - a / 10 * 10)).toUInt32 % 65536).toInt32))) 1 32) 2 108) 3 100) 4 97) 5 32) 6 35) 7 48)) (q_uI (q_uI q_IM 0 39 0) 0 35 8) q_J0, 34, 31630)) := by
  refine q_Ru_seg (g2 := (75, [(2, .int 0), (0, .ref 64), (1, .int a)], [.int 0, .ref 64], (q_cM (q_uA (q_uA (q_uA q_AM 33 f9) 32 (fun _ => 0)) 32 (upd (upd (fun _ => 0) 0 (vp_nar .char ((((48 : Int32) + (a - a / 10 * 10)).toUInt32 % 65536).toInt32))) 1 32)) (q_uI (q_uI q_IM 0 39 0) 0 35 2) q_J0, 34, 31630))) 3 (fun _ _ => rfl) ?_
  refine q_Ru_call (v := none) (h2 := (q_cM (q_uA (q_uA (q_uA q_AM 33 f9) 32 (fun _ => 0)) 32 (upd (upd (upd (upd (upd (fun _ => 0) 0 (vp_nar .char ((((48 : Int32) + (a - a / 10 * 10)).toUInt32 % 65536).toInt32))) 1 32) 2 108) 3 100) 4 97)) (q_uI (q_uI q_IM 0 39 0) 0 35 5) q_J0, 34, 31630)) rfl rfl ?_ ?_
  · refine q_Ca_of (Nat.le_of_ble_eq_true rfl) ?_
    refine q_Ru_seg (g2 := (1, [(0, .ref 64), (1, .int 0)], [.int 0], (q_cM (q_uA (q_uA (q_uA q_AM 33 f9) 32 (fun _ => 0)) 32 (upd (upd (fun _ => 0) 0 (vp_nar .char ((((48 : Int32) + (a - a / 10 * 10)).toUInt32 % 65536).toInt32))) 1 32)) (q_uI (q_uI q_IM 0 39 0) 0 35 2) q_J0, 34, 31630))) 1 (fun _ _ => rfl) ?_
    refine q_Ru_call (v := (some (.int 0))) (h2 := (q_cM (q_uA (q_uA (q_uA q_AM 33 f9) 32 (fun _ => 0)) 32 (upd (upd (fun _ => 0) 0 (vp_nar .char ((((48 : Int32) + (a - a / 10 * 10)).toUInt32 % 65536).toInt32))) 1 32)) (q_uI (q_uI q_IM 0 39 0) 0 35 2) q_J0, 34, 31630)) rfl rfl ?_ ?_
    · refine q_Ca_of (Nat.le_of_ble_eq_true rfl) ?_
      refine q_Ru_seg (g2 := (42, [(0, .int 0)], [.int 0], (q_cM (q_uA (q_uA (q_uA q_AM 33 f9) 32 (fun _ => 0)) 32 (upd (upd (fun _ => 0) 0 (vp_nar .char ((((48 : Int32) + (a - a / 10 * 10)).toUInt32 % 65536).toInt32))) 1 32)) (q_uI (q_uI q_IM 0 39 0) 0 35 2) q_J0, 34, 31630))) 7 (fun _ _ => rfl) ?_
      exact q_Ru_ret rfl rfl
    show q_Ru _ _ _ (4, [(0, .ref 64), (1, .int 0)], [.int 0], (q_cM (q_uA (q_uA (q_uA q_AM 33 f9) 32 (fun _ => 0)) 32 (upd (upd (fun _ => 0) 0 (vp_nar .char ((((48 : Int32) + (a - a / 10 * 10)).toUInt32 % 65536).toInt32))) 1 32)) (q_uI (q_uI q_IM 0 39 0) 0 35 2) q_J0, 34, 31630)) _
    refine q_Ru_seg (g2 := (26, [(3, .int 0), (2, .int 0), (0, .ref 64), (1, .int 0)], [.int 108, .ref 64], (q_cM (q_uA (q_uA (q_uA q_AM 33 f9) 32 (fun _ => 0)) 32 (upd (upd (fun _ => 0) 0 (vp_nar .char ((((48 : Int32) + (a - a / 10 * 10)).toUInt32 % 65536).toInt32))) 1 32)) (q_uI (q_uI q_IM 0 39 0) 0 35 2) q_J0, 34, 31630))) 16 (fun _ _ => rfl) ?_
    refine q_Ru_seg (g2 := (42, [(3, .int 0), (2, .int 0), (0, .ref 64), (1, .int 0)], [.int 108, .ref 64], (q_cM (q_uA (q_uA (q_uA q_AM 33 f9) 32 (fun _ => 0)) 32 (upd (upd (fun _ => 0) 0 (vp_nar .char ((((48 : Int32) + (a - a / 10 * 10)).toUInt32 % 65536).toInt32))) 1 32)) (q_uI (q_uI q_IM 0 39 0) 0 35 2) q_J0, 34, 31630))) 1 (fun _ _ => rfl) ?_
    refine q_Ru_call (v := none) (h2 := (q_cM (q_uA (q_uA (q_uA q_AM 33 f9) 32 (fun _ => 0)) 32 (upd (upd (upd (fun _ => 0) 0 (vp_nar .char ((((48 : Int32) + (a - a / 10 * 10)).toUInt32 % 65536).toInt32))) 1 32) 2 108)) (q_uI (q_uI q_IM 0 39 0) 0 35 3) q_J0, 34, 31630)) rfl rfl ?_ ?_
    · refine q_Ca_of (Nat.le_of_ble_eq_true rfl) ?_
      refine q_Ru_seg (g2 := (8, [(0, .ref 64), (1, .int 108)], [.int 2, .ref 96], (q_cM (q_uA (q_uA (q_uA q_AM 33 f9) 32 (fun _ => 0)) 32 (upd (upd (fun _ => 0) 0 (vp_nar .char ((((48 : Int32) + (a - a / 10 * 10)).toUInt32 % 65536).toInt32))) 1 32)) (q_uI (q_uI q_IM 0 39 0) 0 35 2) q_J0, 34, 31630))) 4 (fun _ _ => rfl) ?_
      refine q_Ru_seg (g2 := (15, [(0, .ref 64), (1, .int 108)], [.int 2, .ref 64], (q_cM (q_uA (q_uA (q_uA q_AM 33 f9) 32 (fun _ => 0)) 32 (upd (upd (upd (fun _ => 0) 0 (vp_nar .char ((((48 : Int32) + (a - a / 10 * 10)).toUInt32 % 65536).toInt32))) 1 32) 2 108)) (q_uI (q_uI q_IM 0 39 0) 0 35 2) q_J0, 34, 31630))) 5 (fun _ _ => rfl) ?_
      refine q_Ru_seg (g2 := (20, [(0, .ref 64), (1, .int 108)], [], (q_cM (q_uA (q_uA (q_uA q_AM 33 f9) 32 (fun _ => 0)) 32 (upd (upd (upd (fun _ => 0) 0 (vp_nar .char ((((48 : Int32) + (a - a / 10 * 10)).toUInt32 % 65536).toInt32))) 1 32) 2 108)) (q_uI (q_uI q_IM 0 39 0) 0 35 3) q_J0, 34, 31630))) 3 (fun _ _ => rfl) ?_
      exact q_Ru_ret rfl rfl
    show q_Ru _ _ _ (45, [(3, .int 0), (2, .int 0), (0, .ref 64), (1, .int 0)], [], (q_cM (q_uA (q_uA (q_uA q_AM 33 f9) 32 (fun _ => 0)) 32 (upd (upd (upd (fun _ => 0) 0 (vp_nar .char ((((48 : Int32) + (a - a / 10 * 10)).toUInt32 % 65536).toInt32))) 1 32) 2 108)) (q_uI (q_uI q_IM 0 39 0) 0 35 3) q_J0, 34, 31630)) _
    refine q_Ru_seg (g2 := (26, [(3, .int 1), (2, .int 0), (0, .ref 64), (1, .int 0)], [.int 100, .ref 64], (q_cM (q_uA (q_uA (q_uA q_AM 33 f9) 32 (fun _ => 0)) 32 (upd (upd (upd (fun _ => 0) 0 (vp_nar .char ((((48 : Int32) + (a - a / 10 * 10)).toUInt32 % 65536).toInt32))) 1 32) 2 108)) (q_uI (q_uI q_IM 0 39 0) 0 35 3) q_J0, 34, 31630))) 15 (fun _ _ => rfl) ?_
    refine q_Ru_seg (g2 := (42, [(3, .int 1), (2, .int 0), (0, .ref 64), (1, .int 0)], [.int 100, .ref 64], (q_cM (q_uA (q_uA (q_uA q_AM 33 f9) 32 (fun _ => 0)) 32 (upd (upd (upd (fun _ => 0) 0 (vp_nar .char ((((48 : Int32) + (a - a / 10 * 10)).toUInt32 % 65536).toInt32))) 1 32) 2 108)) (q_uI (q_uI q_IM 0 39 0) 0 35 3) q_J0, 34, 31630))) 1 (fun _ _ => rfl) ?_
    refine q_Ru_call (v := none) (h2 := (q_cM (q_uA (q_uA (q_uA q_AM 33 f9) 32 (fun _ => 0)) 32 (upd (upd (upd (upd (fun _ => 0) 0 (vp_nar .char ((((48 : Int32) + (a - a / 10 * 10)).toUInt32 % 65536).toInt32))) 1 32) 2 108) 3 100)) (q_uI (q_uI q_IM 0 39 0) 0 35 4) q_J0, 34, 31630)) rfl rfl ?_ ?_
    · refine q_Ca_of (Nat.le_of_ble_eq_true rfl) ?_
      refine q_Ru_seg (g2 := (8, [(0, .ref 64), (1, .int 100)], [.int 3, .ref 96], (q_cM (q_uA (q_uA (q_uA q_AM 33 f9) 32 (fun _ => 0)) 32 (upd (upd (upd (fun _ => 0) 0 (vp_nar .char ((((48 : Int32) + (a - a / 10 * 10)).toUInt32 % 65536).toInt32))) 1 32) 2 108)) (q_uI (q_uI q_IM 0 39 0) 0 35 3) q_J0, 34, 31630))) 4 (fun _ _ => rfl) ?_
      refine q_Ru_seg (g2 := (15, [(0, .ref 64), (1, .int 100)], [.int 3, .ref 64], (q_cM (q_uA (q_uA (q_uA q_AM 33 f9) 32 (fun _ => 0)) 32 (upd (upd (upd (upd (fun _ => 0) 0 (vp_nar .char ((((48 : Int32) + (a - a / 10 * 10)).toUInt32 % 65536).toInt32))) 1 32) 2 108) 3 100)) (q_uI (q_uI q_IM 0 39 0) 0 35 3) q_J0, 34, 31630))) 5 (fun _ _ => rfl) ?_
      refine q_Ru_seg (g2 := (20, [(0, .ref 64), (1, .int 100)], [], (q_cM (q_uA (q_uA (q_uA q_AM 33 f9) 32 (fun _ => 0)) 32 (upd (upd (upd (upd (fun _ => 0) 0 (vp_nar .char ((((48 : Int32) + (a - a / 10 * 10)).toUInt32 % 65536).toInt32))) 1 32) 2 108) 3 100)) (q_uI (q_uI q_IM 0 39 0) 0 35 4) q_J0, 34, 31630))) 3 (fun _ _ => rfl) ?_
      exact q_Ru_ret rfl rfl
    show q_Ru _ _ _ (45, [(3, .int 1), (2, .int 0), (0, .ref 64), (1, .int 0)], [], (q_cM (q_uA (q_uA (q_uA q_AM 33 f9) 32 (fun _ => 0)) 32 (upd (upd (upd (upd (fun _ => 0) 0 (vp_nar .char ((((48 : Int32) + (a - a / 10 * 10)).toUInt32 % 65536).toInt32))) 1 32) 2 108) 3 100)) (q_uI (q_uI q_IM 0 39 0) 0 35 4) q_J0, 34, 31630)) _
    refine q_Ru_seg (g2 := (26, [(3, .int 2), (2, .int 0), (0, .ref 64), (1, .int 0)], [.int 97, .ref 64], (q_cM (q_uA (q_uA (q_uA q_AM 33 f9) 32 (fun _ => 0)) 32 (upd (upd (upd (upd (fun _ => 0) 0 (vp_nar .char ((((48 : Int32) + (a - a / 10 * 10)).toUInt32 % 65536).toInt32))) 1 32) 2 108) 3 100)) (q_uI (q_uI q_IM 0 39 0) 0 35 4) q_J0, 34, 31630))) 15 (fun _ _ => rfl) ?_
    refine q_Ru_seg (g2 := (42, [(3, .int 2), (2, .int 0), (0, .ref 64), (1, .int 0)], [.int 97, .ref 64], (q_cM (q_uA (q_uA (q_uA q_AM 33 f9) 32 (fun _ => 0)) 32 (upd (upd (upd (upd (fun _ => 0) 0 (vp_nar .char ((((48 : Int32) + (a - a / 10 * 10)).toUInt32 % 65536).toInt32))) 1 32) 2 108) 3 100)) (q_uI (q_uI q_IM 0 39 0) 0 35 4) q_J0, 34, 31630))) 1 (fun _ _ => rfl) ?_
    refine q_Ru_call (v := none) (h2 := (q_cM (q_uA (q_uA (q_uA q_AM 33 f9) 32 (fun _ => 0)) 32 (upd (upd (upd (upd (upd (fun _ => 0) 0 (vp_nar .char ((((48 : Int32) + (a - a / 10 * 10)).toUInt32 % 65536).toInt32))) 1 32) 2 108) 3 100) 4 97)) (q_uI (q_uI q_IM 0 39 0) 0 35 5) q_J0, 34, 31630)) rfl rfl ?_ ?_
    · refine q_Ca_of (Nat.le_of_ble_eq_true rfl) ?_
      refine q_Ru_seg (g2 := (8, [(0, .ref 64), (1, .int 97)], [.int 4, .ref 96], (q_cM (q_uA (q_uA (q_uA q_AM 33 f9) 32 (fun _ => 0)) 32 (upd (upd (upd (upd (fun _ => 0) 0 (vp_nar .char ((((48 : Int32) + (a - a / 10 * 10)).toUInt32 % 65536).toInt32))) 1 32) 2 108) 3 100)) (q_uI (q_uI q_IM 0 39 0) 0 35 4) q_J0, 34, 31630))) 4 (fun _ _ => rfl) ?_
      refine q_Ru_seg (g2 := (15, [(0, .ref 64), (1, .int 97)], [.int 4, .ref 64], (q_cM (q_uA (q_uA (q_uA q_AM 33 f9) 32 (fun _ => 0)) 32 (upd (upd (upd (upd (upd (fun _ => 0) 0 (vp_nar .char ((((48 : Int32) + (a - a / 10 * 10)).toUInt32 % 65536).toInt32))) 1 32) 2 108) 3 100) 4 97)) (q_uI (q_uI q_IM 0 39 0) 0 35 4) q_J0, 34, 31630))) 5 (fun _ _ => rfl) ?_
      refine q_Ru_seg (g2 := (20, [(0, .ref 64), (1, .int 97)], [], (q_cM (q_uA (q_uA (q_uA q_AM 33 f9) 32 (fun _ => 0)) 32 (upd (upd (upd (upd (upd (fun _ => 0) 0 (vp_nar .char ((((48 : Int32) + (a - a / 10 * 10)).toUInt32 % 65536).toInt32))) 1 32) 2 108) 3 100) 4 97)) (q_uI (q_uI q_IM 0 39 0) 0 35 5) q_J0, 34, 31630))) 3 (fun _ _ => rfl) ?_
      exact q_Ru_ret rfl rfl
    show q_Ru _ _ _ (45, [(3, .int 2), (2, .int 0), (0, .ref 64), (1, .int 0)], [], (q_cM (q_uA (q_uA (q_uA q_AM 33 f9) 32 (fun _ => 0)) 32 (upd (upd (upd (upd (upd (fun _ => 0) 0 (vp_nar .char ((((48 : Int32) + (a - a / 10 * 10)).toUInt32 % 65536).toInt32))) 1 32) 2 108) 3 100) 4 97)) (q_uI (q_uI q_IM 0 39 0) 0 35 5) q_J0, 34, 31630)) _
    refine q_Ru_seg (g2 := (51, [(3, .int 3), (2, .int 0), (0, .ref 64), (1, .int 0)], [], (q_cM (q_uA (q_uA (q_uA q_AM 33 f9) 32 (fun _ => 0)) 32 (upd (upd (upd (upd (upd (fun _ => 0) 0 (vp_nar .char ((((48 : Int32) + (a - a / 10 * 10)).toUInt32 % 65536).toInt32))) 1 32) 2 108) 3 100) 4 97)) (q_uI (q_uI q_IM 0 39 0) 0 35 5) q_J0, 34, 31630))) 5 (fun _ _ => rfl) ?_
    exact q_Ru_ret rfl rfl
  show q_Ru _ _ _ (78, [(2, .int 0), (0, .ref 64), (1, .int a)], [], (q_cM (q_uA (q_uA (q_uA q_AM 33 f9) 32 (fun _ => 0)) 32 (upd (upd (upd (upd (upd (fun _ => 0) 0 (vp_nar .char ((((48 : Int32) + (a - a / 10 * 10)).toUInt32 % 65536).toInt32))) 1 32) 2 108) 3 100) 4 97)) (q_uI (q_uI q_IM 0 39 0) 0 35 5) q_J0, 34, 31630)) _
  refine q_Ru_seg (g2 := (79, [(2, .int 0), (0, .ref 64), (1, .int a)], [.int 0], (q_cM (q_uA (q_uA (q_uA q_AM 33 f9) 32 (fun _ => 0)) 32 (upd (upd (upd (upd (upd (fun _ => 0) 0 (vp_nar .char ((((48 : Int32) + (a - a / 10 * 10)).toUInt32 % 65536).toInt32))) 1 32) 2 108) 3 100) 4 97)) (q_uI (q_uI q_IM 0 39 0) 0 35 5) q_J0, 34, 31630))) 1 (fun _ _ => rfl) ?_
  refine q_Ru_call (v := (some (.int 0))) (h2 := (q_cM (q_uA (q_uA (q_uA q_AM 33 f9) 32 (fun _ => 0)) 32 (upd (upd (upd (upd (upd (fun _ => 0) 0 (vp_nar .char ((((48 : Int32) + (a - a / 10 * 10)).toUInt32 % 65536).toInt32))) 1 32) 2 108) 3 100) 4 97)) (q_uI (q_uI q_IM 0 39 0) 0 35 5) q_J0, 34, 31630)) rfl rfl ?_ ?_
  · refine q_Ca_of (Nat.le_of_ble_eq_true rfl) ?_
    refine q_Ru_seg (g2 := (42, [(0, .int 0)], [.int 0], (q_cM (q_uA (q_uA (q_uA q_AM 33 f9) 32 (fun _ => 0)) 32 (upd (upd (upd (upd (upd (fun _ => 0) 0 (vp_nar .char ((((48 : Int32) + (a - a / 10 * 10)).toUInt32 % 65536).toInt32))) 1 32) 2 108) 3 100) 4 97)) (q_uI (q_uI q_IM 0 39 0) 0 35 5) q_J0, 34, 31630))) 7 (fun _ _ => rfl) ?_
    exact q_Ru_ret rfl rfl
  show q_Ru _ _ _ (82, [(2, .int 0), (0, .ref 64), (1, .int a)], [.int 0], (q_cM (q_uA (q_uA (q_uA q_AM 33 f9) 32 (fun _ => 0)) 32 (upd (upd (upd (upd (upd (fun _ => 0) 0 (vp_nar .char ((((48 : Int32) + (a - a / 10 * 10)).toUInt32 % 65536).toInt32))) 1 32) 2 108) 3 100) 4 97)) (q_uI (q_uI q_IM 0 39 0) 0 35 5) q_J0, 34, 31630)) _
  exact q_Ru_le (Nat.le_of_ble_eq_true rfl) (q_xc24 L xs a hl_a hu_a f9 f10 p10)
set_option maxHeartbeats 20000000 in
theorem q_xc26 (L : Nat) (xs : Nat → Int32) (a : Int32) (hl_a : 0 ≤ a.toInt) (hu_a : a.toInt ≤ 9) (f9 : Nat → Int32) (f10 : Nat → Int32) (h170 : decide (a < 10) = true) (p10 : q_Ca q_TB0 4 214 [.ref 64, .int ((a + 1) &&& 4095)] (q_cM (q_uA (q_uA q_AM 33 f9) 32 (upd (upd (upd (upd (upd (upd (upd (fun _ => 0) 0 (vp_nar .char ((((48 : Int32) + (a - a / 10 * 10)).toUInt32 % 65536).toInt32))) 1 32) 2 108) 3 100) 4 97) 5 32) 6 35)) (q_uI (q_uI q_IM 0 39 0) 0 35 7) q_J0, 34, 31630) (.inl (some (.int 0)), (q_cM (q_uA (q_uA q_AM 33 f10) 32 (upd (upd (upd (upd (upd (upd (upd (fun _ => 0) 0 (vp_nar .char ((((48 : Int32) + (a - a / 10 * 10)).toUInt32 % 65536).toInt32))) 1 32) 2 108) 3 100) 4 97) 5 32) 6 35)) (q_uI (q_uI q_IM 0 39 0) 0 35 7) q_J0, 34, 31630))) (p9 : q_Ca q_TB0 4 214 [.ref 64, .int (a &&& 4095)] (q_cM (q_uA (q_uA q_AM 33 (fun _ => 0)) 32 (fun _ => 0)) (q_uI q_IM 0 39 0) q_J0, 34, 31630) (.inl (some (.int 0)), (q_cM (q_uA (q_uA q_AM 33 f9) 32 (fun _ => 0)) (q_uI q_IM 0 39 0) q_J0, 34, 31630))) : q_Ru q_TB0 8 286 (16, [(0, .ref 64), (1, .int a)], [.int 0], (q_cM q_AM (q_uI q_IM 0 39 0) q_J0, 34, 31630)) (.inl (some (.int 8)), (q_cM (q_uA (q_uA (q_uA q_AM 33 f10) 32 (upd (upd (upd (upd (upd (upd (upd (fun _ => 0) 0 (vp_nar .char ((((48 : Int32) + (a - a / 10 * 10)).toUInt32 % 65536).toInt32))) 1 32) 2 108) 3 100) 4 97) 5 32) 6 35)) 32 (upd (upd (upd (upd (upd (upd (upd (upd (fun _ => 0) 0 (vp_nar .char ((((48 : Int32) + (a - a / 10 * 10)).toUInt32 % 65536).toInt32))) 1 32) 2 108) 3 100) 4 97) 5 32) 6 35) 7 48)) (q_uI (q_uI q_IM 0 39 0) 0 35 8) q_J0, 34, 31630)) := by
  refine q_Ru_seg (g2 := (23, [(0, .ref 64), (1, .int a)], [.int a, .ref 64], (q_cM q_AM (q_uI q_IM 0 39 0) q_J0, 34, 31630))) 3 (fun _ _ => rfl) ?_
  refine q_Ru_call (v := (some (.int 0))) (h2 := (q_cM (q_uA (q_uA q_AM 33 f9) 32 (fun _ => 0)) (q_uI q_IM 0 39 0) q_J0, 34, 31630)) rfl rfl ?_ ?_
  · refine q_Ca_of (Nat.le_of_ble_eq_true rfl) ?_
    refine q_Ru_seg (g2 := (2, [(0, .ref 64), (1, .int a)], [.int a, .ref 64], (q_cM q_AM (q_uI q_IM 0 39 0) q_J0, 34, 31630))) 2 (fun _ _ => rfl) ?_
    refine q_Ru_call (v := (some (.int (a &&& 4095)))) (h2 := (q_cM q_AM (q_uI q_IM 0 39 0) q_J0, 34, 31630)) rfl rfl ?_ ?_
    · refine q_Ca_of (Nat.le_of_ble_eq_true rfl) ?_
      refine q_Ru_seg (g2 := (5, [(0, .int a)], [.int (a &&& 4095)], (q_cM q_AM (q_uI q_IM 0 39 0) q_J0, 34, 31630))) 3 (fun _ _ => rfl) ?_
      exact q_Ru_ret rfl rfl
    show q_Ru _ _ _ (5, [(0, .ref 64), (1, .int a)], [.int (a &&& 4095), .ref 64], (q_cM q_AM (q_uI q_IM 0 39 0) q_J0, 34, 31630)) _
    refine q_Ru_call (v := (some (.int 0))) (h2 := (q_cM (q_uA (q_uA q_AM 33 f9) 32 (fun _ => 0)) (q_uI q_IM 0 39 0) q_J0, 34, 31630)) rfl rfl ?_ ?_
    · exact p9.le (Nat.le_of_ble_eq_true rfl)
    show q_Ru _ _ _ (8, [(0, .ref 64), (1, .int a)], [.int 0], (q_cM (q_uA (q_uA q_AM 33 f9) 32 (fun _ => 0)) (q_uI q_IM 0 39 0) q_J0, 34, 31630)) _
    exact q_Ru_ret rfl rfl
  show q_Ru _ _ _ (26, [(0, .ref 64), (1, .int a)], [.int 0], (q_cM (q_uA (q_uA q_AM 33 f9) 32 (fun _ => 0)) (q_uI q_IM 0 39 0) q_J0, 34, 31630)) _
  refine q_Ru_seg (g2 := (34, [(2, .int 0), (0, .ref 64), (1, .int a)], [.int a, .ref 64], (q_cM (q_uA (q_uA q_AM 33 f9) 32 (fun _ => 0)) (q_uI (q_uI q_IM 0 39 0) 0 35 0) q_J0, 34, 31630))) 6 (fun _ _ => rfl) ?_
  refine q_Ru_call (v := none) (h2 := (q_cM (q_uA (q_uA (q_uA q_AM 33 f9) 32 (fun _ => 0)) 32 (upd (fun _ => 0) 0 (vp_nar .char ((((48 : Int32) + (a - a / 10 * 10)).toUInt32 % 65536).toInt32)))) (q_uI (q_uI q_IM 0 39 0) 0 35 1) q_J0, 34, 31630)) rfl rfl ?_ ?_
  · refine q_Ca_of (Nat.le_of_ble_eq_true rfl) ?_
    refine q_Ru_seg (g2 := (3, [(0, .ref 64), (1, .int a)], [.int 10, .int a], (q_cM (q_uA (q_uA q_AM 33 f9) 32 (fun _ => 0)) (q_uI (q_uI q_IM 0 39 0) 0 35 0) q_J0, 34, 31630))) 2 (fun _ _ => rfl) ?_
    refine q_Ru_rsT (g2 := (14, [(0, .ref 64), (1, .int a)], [], (q_cM (q_uA (q_uA q_AM 33 f9) 32 (fun _ => 0)) (q_uI (q_uI q_IM 0 39 0) 0 35 0) q_J0, 34, 31630))) rfl rfl h170 ?_
    refine q_Ru_seg (g2 := (23, [(0, .ref 64), (1, .int a)], [.int ((((48 : Int32) + (a - a / 10 * 10)).toUInt32 % 65536).toInt32), .ref 64], (q_cM (q_uA (q_uA q_AM 33 f9) 32 (fun _ => 0)) (q_uI (q_uI q_IM 0 39 0) 0 35 0) q_J0, 34, 31630))) 7 (fun _ _ => rfl) ?_
    refine q_Ru_call (v := none) (h2 := (q_cM (q_uA (q_uA (q_uA q_AM 33 f9) 32 (fun _ => 0)) 32 (upd (fun _ => 0) 0 (vp_nar .char ((((48 : Int32) + (a - a / 10 * 10)).toUInt32 % 65536).toInt32)))) (q_uI (q_uI q_IM 0 39 0) 0 35 1) q_J0, 34, 31630)) rfl rfl ?_ ?_
    · refine q_Ca_of (Nat.le_of_ble_eq_true rfl) ?_
      refine q_Ru_seg (g2 := (8, [(0, .ref 64), (1, .int ((((48 : Int32) + (a - a / 10 * 10)).toUInt32 % 65536).toInt32))], [.int 0, .ref 96], (q_cM (q_uA (q_uA q_AM 33 f9) 32 (fun _ => 0)) (q_uI (q_uI q_IM 0 39 0) 0 35 0) q_J0, 34, 31630))) 4 (fun _ _ => rfl) ?_
      refine q_Ru_seg (g2 := (15, [(0, .ref 64), (1, .int ((((48 : Int32) + (a - a / 10 * 10)).toUInt32 % 65536).toInt32))], [.int 0, .ref 64], (q_cM (q_uA (q_uA (q_uA q_AM 33 f9) 32 (fun _ => 0)) 32 (upd (fun _ => 0) 0 (vp_nar .char ((((48 : Int32) + (a - a / 10 * 10)).toUInt32 % 65536).toInt32)))) (q_uI (q_uI q_IM 0 39 0) 0 35 0) q_J0, 34, 31630))) 5 (fun _ _ => rfl) ?_
      refine q_Ru_seg (g2 := (20, [(0, .ref 64), (1, .int ((((48 : Int32) + (a - a / 10 * 10)).toUInt32 % 65536).toInt32))], [], (q_cM (q_uA (q_uA (q_uA q_AM 33 f9) 32 (fun _ => 0)) 32 (upd (fun _ => 0) 0 (vp_nar .char ((((48 : Int32) + (a - a / 10 * 10)).toUInt32 % 65536).toInt32)))) (q_uI (q_uI q_IM 0 39 0) 0 35 1) q_J0, 34, 31630))) 3 (fun _ _ => rfl) ?_
      exact q_Ru_ret rfl rfl
    show q_Ru _ _ _ (26, [(0, .ref 64), (1, .int a)], [], (q_cM (q_uA (q_uA (q_uA q_AM 33 f9) 32 (fun _ => 0)) 32 (upd (fun _ => 0) 0 (vp_nar .char ((((48 : Int32) + (a - a / 10 * 10)).toUInt32 % 65536).toInt32)))) (q_uI (q_uI q_IM 0 39 0) 0 35 1) q_J0, 34, 31630)) _
    exact q_Ru_ret rfl rfl
  show q_Ru _ _ _ (37, [(2, .int 0), (0, .ref 64), (1, .int a)], [], (q_cM (q_uA (q_uA (q_uA q_AM 33 f9) 32 (fun _ => 0)) 32 (upd (fun _ => 0) 0 (vp_nar .char ((((48 : Int32) + (a - a / 10 * 10)).toUInt32 % 65536).toInt32)))) (q_uI (q_uI q_IM 0 39 0) 0 35 1) q_J0, 34, 31630)) _
  refine q_Ru_seg (g2 := (40, [(2, .int 0), (0, .ref 64), (1, .int a)], [.int 32, .ref 64], (q_cM (q_uA (q_uA (q_uA q_AM 33 f9) 32 (fun _ => 0)) 32 (upd (fun _ => 0) 0 (vp_nar .char ((((48 : Int32) + (a - a / 10 * 10)).toUInt32 % 65536).toInt32)))) (q_uI (q_uI q_IM 0 39 0) 0 35 1) q_J0, 34, 31630))) 2 (fun _ _ => rfl) ?_
  refine q_Ru_call (v := none) (h2 := (q_cM (q_uA (q_uA (q_uA q_AM 33 f9) 32 (fun _ => 0)) 32 (upd (upd (fun _ => 0) 0 (vp_nar .char ((((48 : Int32) + (a - a / 10 * 10)).toUInt32 % 65536).toInt32))) 1 32)) (q_uI (q_uI q_IM 0 39 0) 0 35 2) q_J0, 34, 31630)) rfl rfl ?_ ?_
  · refine q_Ca_of (Nat.le_of_ble_eq_true rfl) ?_
    refine q_Ru_seg (g2 := (8, [(0, .ref 64), (1, .int 32)], [.int 1, .ref 96], (q_cM (q_uA (q_uA (q_uA q_AM 33 f9) 32 (fun _ => 0)) 32 (upd (fun _ => 0) 0 (vp_nar .char ((((48 : Int32) + (a - a / 10 * 10)).toUInt32 % 65536).toInt32)))) (q_uI (q_uI q_IM 0 39 0) 0 35 1) q_J0, 34, 31630))) 4 (fun _ _ => rfl) ?_
    refine q_Ru_seg (g2 := (15, [(0, .ref 64), (1, .int 32)], [.int 1, .ref 64], (q_cM (q_uA (q_uA (q_uA q_AM 33 f9) 32 (fun _ => 0)) 32 (upd (upd (fun _ => 0) 0 (vp_nar .char ((((48 : Int32) + (a - a / 10 * 10)).toUInt32 % 65536).toInt32))) 1 32)) (q_uI (q_uI q_IM 0 39 0) 0 35 1) q_J0, 34, 31630))) 5 (fun _ _ => rfl) ?_
    refine q_Ru_seg (g2 := (20, [(0, .ref 64), (1, .int 32)], [], (q_cM (q_uA (q_uA (q_uA q_AM 33 f9) 32 (fun _ => 0)) 32 (upd (upd (fun _ => 0) 0 (vp_nar .char ((((48 : Int32) + (a - a / 10 * 10)).toUInt32 % 65536).toInt32))) 1 32)) (q_uI (q_uI q_IM 0 39 0) 0 35 2) q_J0, 34, 31630))) 3 (fun _ _ => rfl) ?_
    exact q_Ru_ret rfl rfl
  show q_Ru _ _ _ (43, [(2, .int 0), (0, .ref 64), (1, .int a)], [], (q_cM (q_uA (q_uA (q_uA q_AM 33 f9) 32 (fun _ => 0)) 32 (upd (upd (fun _ => 0) 0 (vp_nar .char ((((48 : Int32) + (a - a / 10 * 10)).toUInt32 % 65536).toInt32))) 1 32)) (q_uI (q_uI q_IM 0 39 0) 0 35 2) q_J0, 34, 31630)) _
  refine q_Ru_seg (g2 := (44, [(2, .int 0), (0, .ref 64), (1, .int a)], [.int 0], (q_cM (q_uA (q_uA (q_uA q_AM 33 f9) 32 (fun _ => 0)) 32 (upd (upd (fun _ => 0) 0 (vp_nar .char ((((48 : Int32) + (a - a / 10 * 10)).toUInt32 % 65536).toInt32))) 1 32)) (q_uI (q_uI q_IM 0 39 0) 0 35 2) q_J0, 34, 31630))) 1 (fun _ _ => rfl) ?_
  refine q_Ru_call (v := (some (.int 0))) (h2 := (q_cM (q_uA (q_uA (q_uA q_AM 33 f9) 32 (fun _ => 0)) 32 (upd (upd (fun _ => 0) 0 (vp_nar .char ((((48 : Int32) + (a - a / 10 * 10)).toUInt32 % 65536).toInt32))) 1 32)) (q_uI (q_uI q_IM 0 39 0) 0 35 2) q_J0, 34, 31630)) rfl rfl ?_ ?_
  · refine q_Ca_of (Nat.le_of_ble_eq_true rfl) ?_
    refine q_Ru_seg (g2 := (1, [(0, .int 0)], [.int 0], (q_cM (q_uA (q_uA (q_uA q_AM 33 f9) 32 (fun _ => 0)) 32 (upd (upd (fun _ => 0) 0 (vp_nar .char ((((48 : Int32) + (a - a / 10 * 10)).toUInt32 % 65536).toInt32))) 1 32)) (q_uI (q_uI q_IM 0 39 0) 0 35 2) q_J0, 34, 31630))) 1 (fun _ _ => rfl) ?_
    refine q_Ru_call (v := (some (.int 0))) (h2 := (q_cM (q_uA (q_uA (q_uA q_AM 33 f9) 32 (fun _ => 0)) 32 (upd (upd (fun _ => 0) 0 (vp_nar .char ((((48 : Int32) + (a - a / 10 * 10)).toUInt32 % 65536).toInt32))) 1 32)) (q_uI (q_uI q_IM 0 39 0) 0 35 2) q_J0, 34, 31630)) rfl rfl ?_ ?_
    · refine q_Ca_of (Nat.le_of_ble_eq_true rfl) ?_
      refine q_Ru_seg (g2 := (42, [(0, .int 0)], [.int 0], (q_cM (q_uA (q_uA (q_uA q_AM 33 f9) 32 (fun _ => 0)) 32 (upd (upd (fun _ => 0) 0 (vp_nar .char ((((48 : Int32) + (a - a / 10 * 10)).toUInt32 % 65536).toInt32))) 1 32)) (q_uI (q_uI q_IM 0 39 0) 0 35 2) q_J0, 34, 31630))) 7 (fun _ _ => rfl) ?_
      exact q_Ru_ret rfl rfl
    show q_Ru _ _ _ (4, [(0, .int 0)], [.int 0], (q_cM (q_uA (q_uA (q_uA q_AM 33 f9) 32 (fun _ => 0)) 32 (upd (upd (fun _ => 0) 0 (vp_nar .char ((((48 : Int32) + (a - a / 10 * 10)).toUInt32 % 65536).toInt32))) 1 32)) (q_uI (q_uI q_IM 0 39 0) 0 35 2) q_J0, 34, 31630)) _
    refine q_Ru_seg (g2 := (25, [(0, .int 0)], [.int 0], (q_cM (q_uA (q_uA (q_uA q_AM 33 f9) 32 (fun _ => 0)) 32 (upd (upd (fun _ => 0) 0 (vp_nar .char ((((48 : Int32) + (a - a / 10 * 10)).toUInt32 % 65536).toInt32))) 1 32)) (q_uI (q_uI q_IM 0 39 0) 0 35 2) q_J0, 34, 31630))) 2 (fun _ _ => rfl) ?_
    exact q_Ru_ret rfl rfl
  show q_Ru _ _ _ (47, [(2, .int 0), (0, .ref 64), (1, .int a)], [.int 0], (q_cM (q_uA (q_uA (q_uA q_AM 33 f9) 32 (fun _ => 0)) 32 (upd (upd (fun _ => 0) 0 (vp_nar .char ((((48 : Int32) + (a - a / 10 * 10)).toUInt32 % 65536).toInt32))) 1 32)) (q_uI (q_uI q_IM 0 39 0) 0 35 2) q_J0, 34, 31630)) _
  exact q_Ru_le (Nat.le_of_ble_eq_true rfl) (q_xc25 L xs a hl_a hu_a f9 f10 p10)
set_option maxHeartbeats 20000000 in
theorem q_op_writeLine98_0 (L : Nat) (xs : Nat → Int32) (a : Int32) (hl_a : 0 ≤ a.toInt) (hu_a : a.toInt ≤ 9) : ∃ (r b : Int32) (w : Int64), q_opXT (q_TBs 98 L xs) 6 [.int a] r w ∧ q_opM 286 [.int a] r (.int b) ∧ (r = 0 → w = b.toInt64) := by
  have h164 : decide (a < 0) = false := q_not_tr (q_tbl1 (fun a => !decide (a < 0)) (l := 0) (n := 9) (by decide +kernel) hl_a hu_a)
  have h165 : decide (a < 4096) = true := q_tbl1 (fun a => decide (a < 4096)) (l := 0) (n := 9) (by decide +kernel) hl_a hu_a
  have h166 : decide ((-10) < -a) = true := q_tbl1 (fun a => decide ((-10) < -a)) (l := 0) (n := 9) (by decide +kernel) hl_a hu_a
  have h167 : decide ((-100) < -a) = true := q_tbl1 (fun a => decide ((-100) < -a)) (l := 0) (n := 9) (by decide +kernel) hl_a hu_a
  have h168 : decide (-a < (-9)) = false := q_not_tr (q_tbl1 (fun a => !decide (-a < (-9))) (l := 0) (n := 9) (by decide +kernel) hl_a hu_a)
  have h169 : decide (4095 < a) = false := q_not_tr (q_tbl1 (fun a => !decide (4095 < a)) (l := 0) (n := 9) (by decide +kernel) hl_a hu_a)
  have h170 : decide (a < 10) = true := q_tbl1 (fun a => decide (a < 10)) (l := 0) (n := 9) (by decide +kernel) hl_a hu_a
  obtain ⟨f9, p9⟩ := q_p_reads1 (fun _ => 0) (fun _ => 0) (q_uI q_IM 0 39 0) (a &&& 4095) (q_and_lo a 4095) (q_and_hi a 4095 4095)
  obtain ⟨f10, p10⟩ := q_p_reads1 f9 (upd (upd (upd (upd (upd (upd (upd (fun _ => 0) 0 (vp_nar .char ((((48 : Int32) + (a - a / 10 * 10)).toUInt32 % 65536).toInt32))) 1 32) 2 108) 3 100) 4 97) 5 32) 6 35) (q_uI (q_uI q_IM 0 39 0) 0 35 7) ((a + 1) &&& 4095) (q_and_lo (a + 1) 4095) (q_and_hi (a + 1) 4095 4095)
  refine ⟨0, 8, 8, ⟨(q_cX (q_uA q_AX 35 (upd (upd (upd (upd (upd (upd (upd (upd (fun _ => 0) 0 (vp_nar .byte ((fun j => q_o6.getD j 0) ((-(-a)).toNatClampNeg)))) 1 32) 2 108) 3 100) 4 97) 5 32) 6 35) 7 48)) (q_uI q_IX 34 3 8) (q_uA q_J0 39 (vp_updL (fun _ => 0) 0 8)), 40, 26520), (q_uA q_J0 39 (vp_updL (fun _ => 0) 0 8)) 39, ?_, rfl, fun _ => rfl, Nat.le_of_ble_eq_true rfl, Nat.le_of_ble_eq_true rfl⟩, ⟨(q_cM (q_uA (q_uA (q_uA q_AM 33 f10) 32 (upd (upd (upd (upd (upd (upd (upd (fun _ => 0) 0 (vp_nar .char ((((48 : Int32) + (a - a / 10 * 10)).toUInt32 % 65536).toInt32))) 1 32) 2 108) 3 100) 4 97) 5 32) 6 35)) 32 (upd (upd (upd (upd (upd (upd (upd (upd (fun _ => 0) 0 (vp_nar .char ((((48 : Int32) + (a - a / 10 * 10)).toUInt32 % 65536).toInt32))) 1 32) 2 108) 3 100) 4 97) 5 32) 6 35) 7 48)) (q_uI (q_uI q_IM 0 39 0) 0 35 8) q_J0, 34, 31630), _, ?_, rfl, rfl, Nat.le_of_ble_eq_true rfl, Nat.le_of_ble_eq_true rfl⟩, fun _ => rfl⟩
  · refine q_Ca_of (Nat.le_of_ble_eq_true rfl) ?_
    refine q_Ru_seg (g2 := (4, [(0, .ref 64), (1, .int a), (2, .ref 103)], [.int a, .ref 64, .int 0, .ref 103], (q_cX q_AX q_IX q_J0, 40, 26520))) 4 (fun _ _ => rfl) ?_
    refine q_Ru_call (v := (some (.int 8))) (h2 := (q_cX (q_uA q_AX 35 (upd (upd (upd (upd (upd (upd (upd (upd (fun _ => 0) 0 (vp_nar .byte ((fun j => q_o6.getD j 0) ((-(-a)).toNatClampNeg)))) 1 32) 2 108) 3 100) 4 97) 5 32) 6 35) 7 48)) (q_uI q_IX 34 3 8) q_J0, 40, 26520)) rfl rfl ?_ ?_
    · refine q_Ca_of (Nat.le_of_ble_eq_true rfl) ?_
      refine q_Ru_seg (g2 := (1, [(0, .ref 64), (1, .int a)], [.int a], (q_cX q_AX q_IX q_J0, 40, 26520))) 1 (fun _ _ => rfl) ?_
      refine q_Ru_call (v := none) (h2 := (q_cX q_AX q_IX q_J0, 40, 26520)) rfl rfl ?_ ?_
      · refine q_Ca_of (Nat.le_of_ble_eq_true rfl) ?_
        refine q_Ru_seg (g2 := (4, [(0, .int a)], [.int 4096, .int a], (q_cX q_AX q_IX q_J0, 40, 26520))) 2 (fun _ _ => rfl) ?_
        refine q_Ru_call (v := none) (h2 := (q_cX q_AX q_IX q_J0, 40, 26520)) rfl rfl ?_ ?_
        · refine q_Ca_of (Nat.le_of_ble_eq_true rfl) ?_
          refine q_Ru_seg (g2 := (1, [(0, .int a), (1, .int 4096)], [.int a], (q_cX q_AX q_IX q_J0, 40, 26520))) 1 (fun _ _ => rfl) ?_
          refine q_Ru_rsF (g2 := (4, [(0, .int a), (1, .int 4096)], [], (q_cX q_AX q_IX q_J0, 40, 26520))) rfl rfl h164 ?_
          refine q_Ru_seg (g2 := (6, [(0, .int a), (1, .int 4096)], [.int 4096, .int a], (q_cX q_AX q_IX q_J0, 40, 26520))) 2 (fun _ _ => rfl) ?_
          refine q_Ru_rsT (g2 := (19, [(0, .int a), (1, .int 4096)], [], (q_cX q_AX q_IX q_J0, 40, 26520))) rfl rfl h165 ?_
          exact q_Ru_ret rfl rfl
        show q_Ru _ _ _ (7, [(0, .int a)], [], (q_cX q_AX q_IX q_J0, 40, 26520)) _
        exact q_Ru_ret rfl rfl
      show q_Ru _ _ _ (4, [(0, .ref 64), (1, .int a)], [], (q_cX q_AX q_IX q_J0, 40, 26520)) _
      exact q_Ru_le (Nat.le_of_ble_eq_true rfl) (q_xc23 L xs a hl_a hu_a h164 h166 h167 h168)
    show q_Ru _ _ _ (7, [(0, .ref 64), (1, .int a), (2, .ref 103)], [.int 8, .int 0, .ref 103], (q_cX (q_uA q_AX 35 (upd (upd (upd (upd (upd (upd (upd (upd (fun _ => 0) 0 (vp_nar .byte ((fun j => q_o6.getD j 0) ((-(-a)).toNatClampNeg)))) 1 32) 2 108) 3 100) 4 97) 5 32) 6 35) 7 48)) (q_uI q_IX 34 3 8) q_J0, 40, 26520)) _
    generalize (upd (upd (upd (upd (upd (upd (upd (upd (fun _ => 0) 0 (vp_nar .byte ((fun j => q_o6.getD j 0) ((-(-a)).toNatClampNeg)))) 1 32) 2 108) 3 100) 4 97) 5 32) 6 35) 7 48) = w28
    refine q_Ru_seg (g2 := (16, [(0, .ref 64), (1, .int a), (2, .ref 103)], [.int 0], (q_cX (q_uA q_AX 35 w28) (q_uI q_IX 34 3 8) (q_uA q_J0 39 (vp_updL (fun _ => 0) 0 8)), 40, 26520))) 4 (fun _ _ => rfl) ?_
    exact q_Ru_ret rfl rfl
  · refine q_Ca_of (Nat.le_of_ble_eq_true rfl) ?_
    refine q_Ru_seg (g2 := (2, [(0, .ref 64), (1, .int a)], [.int a, .ref 64], (q_cM q_AM q_IM q_J0, 34, 31630))) 2 (fun _ _ => rfl) ?_
    refine q_Ru_call (v := (some (.int 0))) (h2 := (q_cM q_AM q_IM q_J0, 34, 31630)) rfl rfl ?_ ?_
    · refine q_Ca_of (Nat.le_of_ble_eq_true rfl) ?_
      refine q_Ru_seg (g2 := (5, [(0, .int a)], [.int 4095, .int 0, .int a], (q_cM q_AM q_IM q_J0, 34, 31630))) 3 (fun _ _ => rfl) ?_
      refine q_Ru_call (v := (some (.int 1))) (h2 := (q_cM q_AM q_IM q_J0, 34, 31630)) rfl rfl ?_ ?_
      · refine q_Ca_of (Nat.le_of_ble_eq_true rfl) ?_
        refine q_Ru_seg (g2 := (2, [(0, .int a), (1, .int 0), (2, .int 4095)], [.int 0, .int a], (q_cM q_AM q_IM q_J0, 34, 31630))) 2 (fun _ _ => rfl) ?_
        refine q_Ru_rsF (g2 := (5, [(0, .int a), (1, .int 0), (2, .int 4095)], [], (q_cM q_AM q_IM q_J0, 34, 31630))) rfl rfl h164 ?_
        refine q_Ru_seg (g2 := (7, [(0, .int a), (1, .int 0), (2, .int 4095)], [.int 4095, .int a], (q_cM q_AM q_IM q_J0, 34, 31630))) 2 (fun _ _ => rfl) ?_
        refine q_Ru_rsF (g2 := (10, [(0, .int a), (1, .int 0), (2, .int 4095)], [], (q_cM q_AM q_IM q_J0, 34, 31630))) rfl rfl h169 ?_
        refine q_Ru_seg (g2 := (15, [(0, .int a), (1, .int 0), (2, .int 4095)], [.int 1], (q_cM q_AM q_IM q_J0, 34, 31630))) 2 (fun _ _ => rfl) ?_
        exact q_Ru_ret rfl rfl
      show q_Ru _ _ _ (8, [(0, .int a)], [.int 1], (q_cM q_AM q_IM q_J0, 34, 31630)) _
      refine q_Ru_seg (g2 := (16, [(0, .int a)], [.int 0], (q_cM q_AM q_IM q_J0, 34, 31630))) 2 (fun _ _ => rfl) ?_
      exact q_Ru_ret rfl rfl
    show q_Ru _ _ _ (5, [(0, .ref 64), (1, .int a)], [.int 0, .ref 64], (q_cM q_AM q_IM q_J0, 34, 31630)) _
    refine q_Ru_seg (g2 := (13, [(0, .ref 64), (1, .int a)], [.int 0, .ref 64], (q_cM q_AM q_IM q_J0, 34, 31630))) 2 (fun _ _ => rfl) ?_
    refine q_Ru_call (v := (some (.int 0))) (h2 := (q_cM q_AM (q_uI q_IM 0 39 0) q_J0, 34, 31630)) rfl rfl ?_ ?_
    · refine q_Ca_of (Nat.le_of_ble_eq_true rfl) ?_
      refine q_Ru_seg (g2 := (14, [(0, .ref 64), (1, .int 0)], [.int 0], (q_cM q_AM (q_uI q_IM 0 39 0) q_J0, 34, 31630))) 6 (fun _ _ => rfl) ?_
      exact q_Ru_ret rfl rfl
    show q_Ru _ _ _ (16, [(0, .ref 64), (1, .int a)], [.int 0], (q_cM q_AM (q_uI q_IM 0 39 0) q_J0, 34, 31630)) _
    exact q_Ru_le (Nat.le_of_ble_eq_true rfl) (q_xc26 L xs a hl_a hu_a f9 f10 h170 p10 p9)
set_option maxHeartbeats 20000000 in
theorem q_xc51 (L : Nat) (xs : Nat → Int32) (a : Int32) (hl_a : 10 ≤ a.toInt) (hu_a : a.toInt ≤ 99) (w64 : Nat → Int32) : q_Ru (q_TBs 98 L xs) 4 194 (81, [(5, .int 1), (4, .int 0), (3, .ref 12), (2, .int 0), (0, .ref 98), (1, .int 0)], [.ref 98], (q_cX (q_uA q_AX 35 (upd (upd (upd w64 2 32) 3 108) 4 100)) (q_uI q_IX 34 3 5) q_J0, 40, 26520)) (.inl none, (q_cX (q_uA q_AX 35 (upd (upd (upd (upd w64 2 32) 3 108) 4 100) 5 97)) (q_uI q_IX 34 3 6) q_J0, 40, 26520)) := by
  refine q_Ru_seg (g2 := (75, [(5, .int 2), (4, .int 0), (3, .ref 12), (2, .int 0), (0, .ref 98), (1, .int 0)], [.int 2, .ref 12, .ref 98], (q_cX (q_uA q_AX 35 (upd (upd (upd w64 2 32) 3 108) 4 100)) (q_uI q_IX 34 3 5) q_J0, 40, 26520))) 11 (fun _ _ => rfl) ?_
  refine q_Ru_call (v := (some (.int 97))) (h2 := (q_cX (q_uA q_AX 35 (upd (upd (upd w64 2 32) 3 108) 4 100)) (q_uI q_IX 34 3 5) q_J0, 40, 26520)) rfl rfl ?_ ?_
  · refine q_Ca_of (Nat.le_of_ble_eq_true rfl) ?_
    refine q_Ru_seg (g2 := (1, [(0, .ref 12), (1, .int 2)], [.ref 12], (q_cX (q_uA q_AX 35 (upd (upd (upd w64 2 32) 3 108) 4 100)) (q_uI q_IX 34 3 5) q_J0, 40, 26520))) 1 (fun _ _ => rfl) ?_
    refine q_Ru_call (v := (some (.int 1))) (h2 := (q_cX (q_uA q_AX 35 (upd (upd (upd w64 2 32) 3 108) 4 100)) (q_uI q_IX 34 3 5) q_J0, 40, 26520)) rfl rfl ?_ ?_
    · refine q_Ca_of (Nat.le_of_ble_eq_true rfl) ?_
      refine q_Ru_seg (g2 := (18, [(0, .ref 12)], [.int 1], (q_cX (q_uA q_AX 35 (upd (upd (upd w64 2 32) 3 108) 4 100)) (q_uI q_IX 34 3 5) q_J0, 40, 26520))) 7 (fun _ _ => rfl) ?_
      exact q_Ru_ret rfl rfl
    show q_Ru _ _ _ (4, [(0, .ref 12), (1, .int 2)], [.int 1], (q_cX (q_uA q_AX 35 (upd (upd (upd w64 2 32) 3 108) 4 100)) (q_uI q_IX 34 3 5) q_J0, 40, 26520)) _
    refine q_Ru_seg (g2 := (12, [(0, .ref 12), (1, .int 2)], [.int 2, .ref 40], (q_cX (q_uA q_AX 35 (upd (upd (upd w64 2 32) 3 108) 4 100)) (q_uI q_IX 34 3 5) q_J0, 40, 26520))) 4 (fun _ _ => rfl) ?_
    refine q_Ru_call (v := (some (.int 97))) (h2 := (q_cX (q_uA q_AX 35 (upd (upd (upd w64 2 32) 3 108) 4 100)) (q_uI q_IX 34 3 5) q_J0, 40, 26520)) rfl rfl ?_ ?_
    · refine q_Ca_of (Nat.le_of_ble_eq_true rfl) ?_
      refine q_Ru_seg (g2 := (3, [(0, .ref 40), (1, .int 2)], [.int 63, .int 2], (q_cX (q_uA q_AX 35 (upd (upd (upd w64 2 32) 3 108) 4 100)) (q_uI q_IX 34 3 5) q_J0, 40, 26520))) 3 (fun _ _ => rfl) ?_
      refine q_Ru_call (v := none) (h2 := (q_cX (q_uA q_AX 35 (upd (upd (upd w64 2 32) 3 108) 4 100)) (q_uI q_IX 34 3 5) q_J0, 40, 26520)) rfl rfl ?_ ?_
      · refine q_Ca_of (Nat.le_of_ble_eq_true rfl) ?_
        refine q_Ru_seg (g2 := (5, [(0, .int 2), (1, .int 63)], [.null, .int 63, .int 2], (q_cX (q_uA q_AX 35 (upd (upd (upd w64 2 32) 3 108) 4 100)) (q_uI q_IX 34 3 5) q_J0, 40, 26520))) 3 (fun _ _ => rfl) ?_
        refine q_Ru_call (v := (some (.int 2))) (h2 := (q_cX (q_uA q_AX 35 (upd (upd (upd w64 2 32) 3 108) 4 100)) (q_uI q_IX 34 3 5) q_J0, 40, 26520)) rfl rfl ?_ ?_
        · refine q_Ca_of (Nat.le_of_ble_eq_true rfl) ?_
          refine q_Ru_seg (g2 := (17, [(0, .int 2), (1, .int 63), (2, .null)], [.int 2], (q_cX (q_uA q_AX 35 (upd (upd (upd w64 2 32) 3 108) 4 100)) (q_uI q_IX 34 3 5) q_J0, 40, 26520))) 6 (fun _ _ => rfl) ?_
          exact q_Ru_ret rfl rfl
        show q_Ru _ _ _ (8, [(0, .int 2), (1, .int 63)], [.int 2], (q_cX (q_uA q_AX 35 (upd (upd (upd w64 2 32) 3 108) 4 100)) (q_uI q_IX 34 3 5) q_J0, 40, 26520)) _
        refine q_Ru_seg (g2 := (9, [(0, .int 2), (1, .int 63)], [], (q_cX (q_uA q_AX 35 (upd (upd (upd w64 2 32) 3 108) 4 100)) (q_uI q_IX 34 3 5) q_J0, 40, 26520))) 1 (fun _ _ => rfl) ?_
        exact q_Ru_ret rfl rfl
      show q_Ru _ _ _ (6, [(0, .ref 40), (1, .int 2)], [], (q_cX (q_uA q_AX 35 (upd (upd (upd w64 2 32) 3 108) 4 100)) (q_uI q_IX 34 3 5) q_J0, 40, 26520)) _
      refine q_Ru_seg (g2 := (9, [(0, .ref 40), (1, .int 2)], [.int 97], (q_cX (q_uA q_AX 35 (upd (upd (upd w64 2 32) 3 108) 4 100)) (q_uI q_IX 34 3 5) q_J0, 40, 26520))) 3 (fun _ _ => rfl) ?_
      refine q_Ru_seg (g2 := (14, [(0, .ref 40), (1, .int 2)], [.int 97], (q_cX (q_uA q_AX 35 (upd (upd (upd w64 2 32) 3 108) 4 100)) (q_uI q_IX 34 3 5) q_J0, 40, 26520))) 3 (fun _ _ => rfl) ?_
      exact q_Ru_ret rfl rfl
    show q_Ru _ _ _ (15, [(0, .ref 12), (1, .int 2)], [.int 97], (q_cX (q_uA q_AX 35 (upd (upd (upd w64 2 32) 3 108) 4 100)) (q_uI q_IX 34 3 5) q_J0, 40, 26520)) _
    exact q_Ru_ret rfl rfl
  show q_Ru _ _ _ (78, [(5, .int 2), (4, .int 0), (3, .ref 12), (2, .int 0), (0, .ref 98), (1, .int 0)], [.int 97, .ref 98], (q_cX (q_uA q_AX 35 (upd (upd (upd w64 2 32) 3 108) 4 100)) (q_uI q_IX 34 3 5) q_J0, 40, 26520)) _
  refine q_Ru_call (v := (some (.ref 98))) (h2 := (q_cX (q_uA q_AX 35 (upd (upd (upd (upd w64 2 32) 3 108) 4 100) 5 97)) (q_uI q_IX 34 3 6) q_J0, 40, 26520)) rfl rfl ?_ ?_
  · refine q_Ca_of (Nat.le_of_ble_eq_true rfl) ?_
    refine q_Ru_seg (g2 := (2, [(0, .ref 98), (1, .int 97)], [.int 97, .ref 98], (q_cX (q_uA q_AX 35 (upd (upd (upd w64 2 32) 3 108) 4 100)) (q_uI q_IX 34 3 5) q_J0, 40, 26520))) 2 (fun _ _ => rfl) ?_
    refine q_Ru_call (v := (some (.ref 98))) (h2 := (q_cX (q_uA q_AX 35 (upd (upd (upd (upd w64 2 32) 3 108) 4 100) 5 97)) (q_uI q_IX 34 3 6) q_J0, 40, 26520)) rfl rfl ?_ ?_
    · refine q_Ca_of (Nat.le_of_ble_eq_true rfl) ?_
      refine q_Ru_seg (g2 := (5, [(0, .ref 98), (1, .int 97)], [.int 5, .ref 98], (q_cX (q_uA q_AX 35 (upd (upd (upd w64 2 32) 3 108) 4 100)) (q_uI q_IX 34 3 5) q_J0, 40, 26520))) 3 (fun _ _ => rfl) ?_
      refine q_Ru_seg (g2 := (7, [(0, .ref 98), (1, .int 97)], [.int 6, .ref 98], (q_cX (q_uA q_AX 35 (upd (upd (upd w64 2 32) 3 108) 4 100)) (q_uI q_IX 34 3 5) q_J0, 40, 26520))) 2 (fun _ _ => rfl) ?_
      refine q_Ru_call (v := none) (h2 := (q_cX (q_uA q_AX 35 (upd (upd (upd w64 2 32) 3 108) 4 100)) (q_uI q_IX 34 3 5) q_J0, 40, 26520)) rfl rfl ?_ ?_
      · refine q_Ca_of (Nat.le_of_ble_eq_true rfl) ?_
        refine q_Ru_seg (g2 := (9, [(0, .ref 98), (1, .int 6)], [.int 0, .int 16], (q_cX (q_uA q_AX 35 (upd (upd (upd w64 2 32) 3 108) 4 100)) (q_uI q_IX 34 3 5) q_J0, 40, 26520))) 5 (fun _ _ => rfl) ?_
        refine q_Ru_seg (g2 := (38, [(2, .int 16), (0, .ref 98), (1, .int 6)], [], (q_cX (q_uA q_AX 35 (upd (upd (upd w64 2 32) 3 108) 4 100)) (q_uI q_IX 34 3 5) q_J0, 40, 26520))) 6 (fun _ _ => rfl) ?_
        exact q_Ru_ret rfl rfl
      show q_Ru _ _ _ (10, [(0, .ref 98), (1, .int 97)], [], (q_cX (q_uA q_AX 35 (upd (upd (upd w64 2 32) 3 108) 4 100)) (q_uI q_IX 34 3 5) q_J0, 40, 26520)) _
      refine q_Ru_seg (g2 := (11, [(0, .ref 98), (1, .int 97)], [.ref 98], (q_cX (q_uA q_AX 35 (upd (upd (upd w64 2 32) 3 108) 4 100)) (q_uI q_IX 34 3 5) q_J0, 40, 26520))) 1 (fun _ _ => rfl) ?_
      refine q_Ru_call (v := (some (.int 1))) (h2 := (q_cX (q_uA q_AX 35 (upd (upd (upd w64 2 32) 3 108) 4 100)) (q_uI q_IX 34 3 5) q_J0, 40, 26520)) rfl rfl ?_ ?_
      · refine q_Ca_of (Nat.le_of_ble_eq_true rfl) ?_
        refine q_Ru_seg (g2 := (10, [(0, .ref 98)], [.int 0], (q_cX (q_uA q_AX 35 (upd (upd (upd w64 2 32) 3 108) 4 100)) (q_uI q_IX 34 3 5) q_J0, 40, 26520))) 4 (fun _ _ => rfl) ?_
        refine q_Ru_seg (g2 := (18, [(0, .ref 98)], [.int 1], (q_cX (q_uA q_AX 35 (upd (upd (upd w64 2 32) 3 108) 4 100)) (q_uI q_IX 34 3 5) q_J0, 40, 26520))) 3 (fun _ _ => rfl) ?_
        exact q_Ru_ret rfl rfl
      show q_Ru _ _ _ (14, [(0, .ref 98), (1, .int 97)], [.int 1], (q_cX (q_uA q_AX 35 (upd (upd (upd w64 2 32) 3 108) 4 100)) (q_uI q_IX 34 3 5) q_J0, 40, 26520)) _
      refine q_Ru_seg (g2 := (18, [(0, .ref 98), (1, .int 97)], [.int 97], (q_cX (q_uA q_AX 35 (upd (upd (upd w64 2 32) 3 108) 4 100)) (q_uI q_IX 34 3 5) q_J0, 40, 26520))) 2 (fun _ _ => rfl) ?_
      refine q_Ru_call (v := (some (.int 1))) (h2 := (q_cX (q_uA q_AX 35 (upd (upd (upd w64 2 32) 3 108) 4 100)) (q_uI q_IX 34 3 5) q_J0, 40, 26520)) rfl rfl ?_ ?_
      · refine q_Ca_of (Nat.le_of_ble_eq_true rfl) ?_
        refine q_Ru_seg (g2 := (12, [(0, .int 97)], [.int 1], (q_cX (q_uA q_AX 35 (upd (upd (upd w64 2 32) 3 108) 4 100)) (q_uI q_IX 34 3 5) q_J0, 40, 26520))) 5 (fun _ _ => rfl) ?_
        exact q_Ru_ret rfl rfl
      show q_Ru _ _ _ (21, [(0, .ref 98), (1, .int 97)], [.int 1], (q_cX (q_uA q_AX 35 (upd (upd (upd w64 2 32) 3 108) 4 100)) (q_uI q_IX 34 3 5) q_J0, 40, 26520)) _
      refine q_Ru_seg (g2 := (33, [(0, .ref 98), (1, .int 97)], [.int 5, .ref 98, .ref 99], (q_cX (q_uA q_AX 35 (upd (upd (upd w64 2 32) 3 108) 4 100)) (q_uI q_IX 34 3 5) q_J0, 40, 26520))) 6 (fun _ _ => rfl) ?_
      refine q_Ru_seg (g2 := (76, [(0, .ref 98), (1, .int 97)], [.ref 98], (q_cX (q_uA q_AX 35 (upd (upd (upd (upd w64 2 32) 3 108) 4 100) 5 97)) (q_uI q_IX 34 3 6) q_J0, 40, 26520))) 9 (fun _ _ => rfl) ?_
      exact q_Ru_ret rfl rfl
    show q_Ru _ _ _ (5, [(0, .ref 98), (1, .int 97)], [.ref 98], (q_cX (q_uA q_AX 35 (upd (upd (upd (upd w64 2 32) 3 108) 4 100) 5 97)) (q_uI q_IX 34 3 6) q_J0, 40, 26520)) _
    refine q_Ru_seg (g2 := (7, [(0, .ref 98), (1, .int 97)], [.ref 98], (q_cX (q_uA q_AX 35 (upd (upd (upd (upd w64 2 32) 3 108) 4 100) 5 97)) (q_uI q_IX 34 3 6) q_J0, 40, 26520))) 2 (fun _ _ => rfl) ?_
    exact q_Ru_ret rfl rfl
  show q_Ru _ _ _ (81, [(5, .int 2), (4, .int 0), (3, .ref 12), (2, .int 0), (0, .ref 98), (1, .int 0)], [.ref 98], (q_cX (q_uA q_AX 35 (upd (upd (upd (upd w64 2 32) 3 108) 4 100) 5 97)) (q_uI q_IX 34 3 6) q_J0, 40, 26520)) _
  refine q_Ru_seg (g2 := (88, [(5, .int 3), (4, .int 0), (3, .ref 12), (2, .int 0), (0, .ref 98), (1, .int 0)], [], (q_cX (q_uA q_AX 35 (upd (upd (upd (upd w64 2 32) 3 108) 4 100) 5 97)) (q_uI q_IX 34 3 6) q_J0, 40, 26520))) 8 (fun _ _ => rfl) ?_
  exact q_Ru_ret rfl rfl
set_option maxHeartbeats 20000000 in
theorem q_xc52 (L : Nat) (xs : Nat → Int32) (a : Int32) (hl_a : 10 ≤ a.toInt) (hu_a : a.toInt ≤ 99) (w64 : Nat → Int32) : q_Ru (q_TBs 98 L xs) 4 194 (81, [(5, .int 0), (4, .int 0), (3, .ref 12), (2, .int 0), (0, .ref 98), (1, .int 0)], [.ref 98], (q_cX (q_uA q_AX 35 (upd (upd w64 2 32) 3 108)) (q_uI q_IX 34 3 4) q_J0, 40, 26520)) (.inl none, (q_cX (q_uA q_AX 35 (upd (upd (upd (upd w64 2 32) 3 108) 4 100) 5 97)) (q_uI q_IX 34 3 6) q_J0, 40, 26520)) := by
  refine q_Ru_seg (g2 := (75, [(5, .int 1), (4, .int 0), (3, .ref 12), (2, .int 0), (0, .ref 98), (1, .int 0)], [.int 1, .ref 12, .ref 98], (q_cX (q_uA q_AX 35 (upd (upd w64 2 32) 3 108)) (q_uI q_IX 34 3 4) q_J0, 40, 26520))) 11 (fun _ _ => rfl) ?_
  refine q_Ru_call (v := (some (.int 100))) (h2 := (q_cX (q_uA q_AX 35 (upd (upd w64 2 32) 3 108)) (q_uI q_IX 34 3 4) q_J0, 40, 26520)) rfl rfl ?_ ?_
  · refine q_Ca_of (Nat.le_of_ble_eq_true rfl) ?_
    refine q_Ru_seg (g2 := (1, [(0, .ref 12), (1, .int 1)], [.ref 12], (q_cX (q_uA q_AX 35 (upd (upd w64 2 32) 3 108)) (q_uI q_IX 34 3 4) q_J0, 40, 26520))) 1 (fun _ _ => rfl) ?_
    refine q_Ru_call (v := (some (.int 1))) (h2 := (q_cX (q_uA q_AX 35 (upd (upd w64 2 32) 3 108)) (q_uI q_IX 34 3 4) q_J0, 40, 26520)) rfl rfl ?_ ?_
    · refine q_Ca_of (Nat.le_of_ble_eq_true rfl) ?_
      refine q_Ru_seg (g2 := (18, [(0, .ref 12)], [.int 1], (q_cX (q_uA q_AX 35 (upd (upd w64 2 32) 3 108)) (q_uI q_IX 34 3 4) q_J0, 40, 26520))) 7 (fun _ _ => rfl) ?_
      exact q_Ru_ret rfl rfl
    show q_Ru _ _ _ (4, [(0, .ref 12), (1, .int 1)], [.int 1], (q_cX (q_uA q_AX 35 (upd (upd w64 2 32) 3 108)) (q_uI q_IX 34 3 4) q_J0, 40, 26520)) _
    refine q_Ru_seg (g2 := (12, [(0, .ref 12), (1, .int 1)], [.int 1, .ref 40], (q_cX (q_uA q_AX 35 (upd (upd w64 2 32) 3 108)) (q_uI q_IX 34 3 4) q_J0, 40, 26520))) 4 (fun _ _ => rfl) ?_
    refine q_Ru_call (v := (some (.int 100))) (h2 := (q_cX (q_uA q_AX 35 (upd (upd w64 2 32) 3 108)) (q_uI q_IX 34 3 4) q_J0, 40, 26520)) rfl rfl ?_ ?_
    · refine q_Ca_of (Nat.le_of_ble_eq_true rfl) ?_
      refine q_Ru_seg (g2 := (3, [(0, .ref 40), (1, .int 1)], [.int 63, .int 1], (q_cX (q_uA q_AX 35 (upd (upd w64 2 32) 3 108)) (q_uI q_IX 34 3 4) q_J0, 40, 26520))) 3 (fun _ _ => rfl) ?_
      refine q_Ru_call (v := none) (h2 := (q_cX (q_uA q_AX 35 (upd (upd w64 2 32) 3 108)) (q_uI q_IX 34 3 4) q_J0, 40, 26520)) rfl rfl ?_ ?_
      · refine q_Ca_of (Nat.le_of_ble_eq_true rfl) ?_
        refine q_Ru_seg (g2 := (5, [(0, .int 1), (1, .int 63)], [.null, .int 63, .int 1], (q_cX (q_uA q_AX 35 (upd (upd w64 2 32) 3 108)) (q_uI q_IX 34 3 4) q_J0, 40, 26520))) 3 (fun _ _ => rfl) ?_
        refine q_Ru_call (v := (some (.int 1))) (h2 := (q_cX (q_uA q_AX 35 (upd (upd w64 2 32) 3 108)) (q_uI q_IX 34 3 4) q_J0, 40, 26520)) rfl rfl ?_ ?_
        · refine q_Ca_of (Nat.le_of_ble_eq_true rfl) ?_
          refine q_Ru_seg (g2 := (17, [(0, .int 1), (1, .int 63), (2, .null)], [.int 1], (q_cX (q_uA q_AX 35 (upd (upd w64 2 32) 3 108)) (q_uI q_IX 34 3 4) q_J0, 40, 26520))) 6 (fun _ _ => rfl) ?_
          exact q_Ru_ret rfl rfl
        show q_Ru _ _ _ (8, [(0, .int 1), (1, .int 63)], [.int 1], (q_cX (q_uA q_AX 35 (upd (upd w64 2 32) 3 108)) (q_uI q_IX 34 3 4) q_J0, 40, 26520)) _
        refine q_Ru_seg (g2 := (9, [(0, .int 1), (1, .int 63)], [], (q_cX (q_uA q_AX 35 (upd (upd w64 2 32) 3 108)) (q_uI q_IX 34 3 4) q_J0, 40, 26520))) 1 (fun _ _ => rfl) ?_
        exact q_Ru_ret rfl rfl
      show q_Ru _ _ _ (6, [(0, .ref 40), (1, .int 1)], [], (q_cX (q_uA q_AX 35 (upd (upd w64 2 32) 3 108)) (q_uI q_IX 34 3 4) q_J0, 40, 26520)) _
      refine q_Ru_seg (g2 := (9, [(0, .ref 40), (1, .int 1)], [.int 100], (q_cX (q_uA q_AX 35 (upd (upd w64 2 32) 3 108)) (q_uI q_IX 34 3 4) q_J0, 40, 26520))) 3 (fun _ _ => rfl) ?_
      refine q_Ru_seg (g2 := (14, [(0, .ref 40), (1, .int 1)], [.int 100], (q_cX (q_uA q_AX 35 (upd (upd w64 2 32) 3 108)) (q_uI q_IX 34 3 4) q_J0, 40, 26520))) 3 (fun _ _ => rfl) ?_
      exact q_Ru_ret rfl rfl
    show q_Ru _ _ _ (15, [(0, .ref 12), (1, .int 1)], [.int 100], (q_cX (q_uA q_AX 35 (upd (upd w64 2 32) 3 108)) (q_uI q_IX 34 3 4) q_J0, 40, 26520)) _
    exact q_Ru_ret rfl rfl
  show q_Ru _ _ _ (78, [(5, .int 1), (4, .int 0), (3, .ref 12), (2, .int 0), (0, .ref 98), (1, .int 0)], [.int 100, .ref 98], (q_cX (q_uA q_AX 35 (upd (upd w64 2 32) 3 108)) (q_uI q_IX 34 3 4) q_J0, 40, 26520)) _
  refine q_Ru_call (v := (some (.ref 98))) (h2 := (q_cX (q_uA q_AX 35 (upd (upd (upd w64 2 32) 3 108) 4 100)) (q_uI q_IX 34 3 5) q_J0, 40, 26520)) rfl rfl ?_ ?_
  · refine q_Ca_of (Nat.le_of_ble_eq_true rfl) ?_
    refine q_Ru_seg (g2 := (2, [(0, .ref 98), (1, .int 100)], [.int 100, .ref 98], (q_cX (q_uA q_AX 35 (upd (upd w64 2 32) 3 108)) (q_uI q_IX 34 3 4) q_J0, 40, 26520))) 2 (fun _ _ => rfl) ?_
    refine q_Ru_call (v := (some (.ref 98))) (h2 := (q_cX (q_uA q_AX 35 (upd (upd (upd w64 2 32) 3 108) 4 100)) (q_uI q_IX 34 3 5) q_J0, 40, 26520)) rfl rfl ?_ ?_
    · refine q_Ca_of (Nat.le_of_ble_eq_true rfl) ?_
      refine q_Ru_seg (g2 := (5, [(0, .ref 98), (1, .int 100)], [.int 4, .ref 98], (q_cX (q_uA q_AX 35 (upd (upd w64 2 32) 3 108)) (q_uI q_IX 34 3 4) q_J0, 40, 26520))) 3 (fun _ _ => rfl) ?_
      refine q_Ru_seg (g2 := (7, [(0, .ref 98), (1, .int 100)], [.int 5, .ref 98], (q_cX (q_uA q_AX 35 (upd (upd w64 2 32) 3 108)) (q_uI q_IX 34 3 4) q_J0, 40, 26520))) 2 (fun _ _ => rfl) ?_
      refine q_Ru_call (v := none) (h2 := (q_cX (q_uA q_AX 35 (upd (upd w64 2 32) 3 108)) (q_uI q_IX 34 3 4) q_J0, 40, 26520)) rfl rfl ?_ ?_
      · refine q_Ca_of (Nat.le_of_ble_eq_true rfl) ?_
        refine q_Ru_seg (g2 := (9, [(0, .ref 98), (1, .int 5)], [.int 0, .int 16], (q_cX (q_uA q_AX 35 (upd (upd w64 2 32) 3 108)) (q_uI q_IX 34 3 4) q_J0, 40, 26520))) 5 (fun _ _ => rfl) ?_
        refine q_Ru_seg (g2 := (38, [(2, .int 16), (0, .ref 98), (1, .int 5)], [], (q_cX (q_uA q_AX 35 (upd (upd w64 2 32) 3 108)) (q_uI q_IX 34 3 4) q_J0, 40, 26520))) 6 (fun _ _ => rfl) ?_
        exact q_Ru_ret rfl rfl
      show q_Ru _ _ _ (10, [(0, .ref 98), (1, .int 100)], [], (q_cX (q_uA q_AX 35 (upd (upd w64 2 32) 3 108)) (q_uI q_IX 34 3 4) q_J0, 40, 26520)) _
      refine q_Ru_seg (g2 := (11, [(0, .ref 98), (1, .int 100)], [.ref 98], (q_cX (q_uA q_AX 35 (upd (upd w64 2 32) 3 108)) (q_uI q_IX 34 3 4) q_J0, 40, 26520))) 1 (fun _ _ => rfl) ?_
      refine q_Ru_call (v := (some (.int 1))) (h2 := (q_cX (q_uA q_AX 35 (upd (upd w64 2 32) 3 108)) (q_uI q_IX 34 3 4) q_J0, 40, 26520)) rfl rfl ?_ ?_
      · refine q_Ca_of (Nat.le_of_ble_eq_true rfl) ?_
        refine q_Ru_seg (g2 := (10, [(0, .ref 98)], [.int 0], (q_cX (q_uA q_AX 35 (upd (upd w64 2 32) 3 108)) (q_uI q_IX 34 3 4) q_J0, 40, 26520))) 4 (fun _ _ => rfl) ?_
        refine q_Ru_seg (g2 := (18, [(0, .ref 98)], [.int 1], (q_cX (q_uA q_AX 35 (upd (upd w64 2 32) 3 108)) (q_uI q_IX 34 3 4) q_J0, 40, 26520))) 3 (fun _ _ => rfl) ?_
        exact q_Ru_ret rfl rfl
      show q_Ru _ _ _ (14, [(0, .ref 98), (1, .int 100)], [.int 1], (q_cX (q_uA q_AX 35 (upd (upd w64 2 32) 3 108)) (q_uI q_IX 34 3 4) q_J0, 40, 26520)) _
      refine q_Ru_seg (g2 := (18, [(0, .ref 98), (1, .int 100)], [.int 100], (q_cX (q_uA q_AX 35 (upd (upd w64 2 32) 3 108)) (q_uI q_IX 34 3 4) q_J0, 40, 26520))) 2 (fun _ _ => rfl) ?_
      refine q_Ru_call (v := (some (.int 1))) (h2 := (q_cX (q_uA q_AX 35 (upd (upd w64 2 32) 3 108)) (q_uI q_IX 34 3 4) q_J0, 40, 26520)) rfl rfl ?_ ?_
      · refine q_Ca_of (Nat.le_of_ble_eq_true rfl) ?_
        refine q_Ru_seg (g2 := (12, [(0, .int 100)], [.int 1], (q_cX (q_uA q_AX 35 (upd (upd w64 2 32) 3 108)) (q_uI q_IX 34 3 4) q_J0, 40, 26520))) 5 (fun _ _ => rfl) ?_
        exact q_Ru_ret rfl rfl
      show q_Ru _ _ _ (21, [(0, .ref 98), (1, .int 100)], [.int 1], (q_cX (q_uA q_AX 35 (upd (upd w64 2 32) 3 108)) (q_uI q_IX 34 3 4) q_J0, 40, 26520)) _
      refine q_Ru_seg (g2 := (33, [(0, .ref 98), (1, .int 100)], [.int 4, .ref 98, .ref 99], (q_cX (q_uA q_AX 35 (upd (upd w64 2 32) 3 108)) (q_uI q_IX 34 3 4) q_J0, 40, 26520))) 6 (fun _ _ => rfl) ?_
      refine q_Ru_seg (g2 := (76, [(0, .ref 98), (1, .int 100)], [.ref 98], (q_cX (q_uA q_AX 35 (upd (upd (upd w64 2 32) 3 108) 4 100)) (q_uI q_IX 34 3 5) q_J0, 40, 26520))) 9 (fun _ _ => rfl) ?_
      exact q_Ru_ret rfl rfl
    show q_Ru _ _ _ (5, [(0, .ref 98), (1, .int 100)], [.ref 98], (q_cX (q_uA q_AX 35 (upd (upd (upd w64 2 32) 3 108) 4 100)) (q_uI q_IX 34 3 5) q_J0, 40, 26520)) _
    refine q_Ru_seg (g2 := (7, [(0, .ref 98), (1, .int 100)], [.ref 98], (q_cX (q_uA q_AX 35 (upd (upd (upd w64 2 32) 3 108) 4 100)) (q_uI q_IX 34 3 5) q_J0, 40, 26520))) 2 (fun _ _ => rfl) ?_
    exact q_Ru_ret rfl rfl
  show q_Ru _ _ _ (81, [(5, .int 1), (4, .int 0), (3, .ref 12), (2, .int 0), (0, .ref 98), (1, .int 0)], [.ref 98], (q_cX (q_uA q_AX 35 (upd (upd (upd w64 2 32) 3 108) 4 100)) (q_uI q_IX 34 3 5) q_J0, 40, 26520)) _
  exact q_Ru_le (Nat.le_of_ble_eq_true rfl) (q_xc51 L xs a hl_a hu_a w64)
set_option maxHeartbeats 20000000 in
theorem q_xc53 (L : Nat) (xs : Nat → Int32) (a : Int32) (hl_a : 10 ≤ a.toInt) (hu_a : a.toInt ≤ 99) (w64 : Nat → Int32) : q_Ru (q_TBs 98 L xs) 4 194 (47, [(4, .int 0), (3, .ref 12), (2, .int 0), (0, .ref 98), (1, .int 0)], [.int 63, .int 2], (q_cX (q_uA q_AX 35 (upd w64 2 32)) (q_uI q_IX 34 3 3) q_J0, 40, 26520)) (.inl none, (q_cX (q_uA q_AX 35 (upd (upd (upd (upd w64 2 32) 3 108) 4 100) 5 97)) (q_uI q_IX 34 3 6) q_J0, 40, 26520)) := by
  refine q_Ru_seg (g2 := (75, [(5, .int 0), (4, .int 0), (3, .ref 12), (2, .int 0), (0, .ref 98), (1, .int 0)], [.int 0, .ref 12, .ref 98], (q_cX (q_uA q_AX 35 (upd w64 2 32)) (q_uI q_IX 34 3 3) q_J0, 40, 26520))) 11 (fun _ _ => rfl) ?_
  refine q_Ru_call (v := (some (.int 108))) (h2 := (q_cX (q_uA q_AX 35 (upd w64 2 32)) (q_uI q_IX 34 3 3) q_J0, 40, 26520)) rfl rfl ?_ ?_
  · refine q_Ca_of (Nat.le_of_ble_eq_true rfl) ?_
    refine q_Ru_seg (g2 := (1, [(0, .ref 12), (1, .int 0)], [.ref 12], (q_cX (q_uA q_AX 35 (upd w64 2 32)) (q_uI q_IX 34 3 3) q_J0, 40, 26520))) 1 (fun _ _ => rfl) ?_
    refine q_Ru_call (v := (some (.int 1))) (h2 := (q_cX (q_uA q_AX 35 (upd w64 2 32)) (q_uI q_IX 34 3 3) q_J0, 40, 26520)) rfl rfl ?_ ?_
    · refine q_Ca_of (Nat.le_of_ble_eq_true rfl) ?_
      refine q_Ru_seg (g2 := (18, [(0, .ref 12)], [.int 1], (q_cX (q_uA q_AX 35 (upd w64 2 32)) (q_uI q_IX 34 3 3) q_J0, 40, 26520))) 7 (fun _ _ => rfl) ?_
      exact q_Ru_ret rfl rfl
    show q_Ru _ _ _ (4, [(0, .ref 12), (1, .int 0)], [.int 1], (q_cX (q_uA q_AX 35 (upd w64 2 32)) (q_uI q_IX 34 3 3) q_J0, 40, 26520)) _
    refine q_Ru_seg (g2 := (12, [(0, .ref 12), (1, .int 0)], [.int 0, .ref 40], (q_cX (q_uA q_AX 35 (upd w64 2 32)) (q_uI q_IX 34 3 3) q_J0, 40, 26520))) 4 (fun _ _ => rfl) ?_
    refine q_Ru_call (v := (some (.int 108))) (h2 := (q_cX (q_uA q_AX 35 (upd w64 2 32)) (q_uI q_IX 34 3 3) q_J0, 40, 26520)) rfl rfl ?_ ?_
    · refine q_Ca_of (Nat.le_of_ble_eq_true rfl) ?_
      refine q_Ru_seg (g2 := (3, [(0, .ref 40), (1, .int 0)], [.int 63, .int 0], (q_cX (q_uA q_AX 35 (upd w64 2 32)) (q_uI q_IX 34 3 3) q_J0, 40, 26520))) 3 (fun _ _ => rfl) ?_
      refine q_Ru_call (v := none) (h2 := (q_cX (q_uA q_AX 35 (upd w64 2 32)) (q_uI q_IX 34 3 3) q_J0, 40, 26520)) rfl rfl ?_ ?_
      · refine q_Ca_of (Nat.le_of_ble_eq_true rfl) ?_
        refine q_Ru_seg (g2 := (5, [(0, .int 0), (1, .int 63)], [.null, .int 63, .int 0], (q_cX (q_uA q_AX 35 (upd w64 2 32)) (q_uI q_IX 34 3 3) q_J0, 40, 26520))) 3 (fun _ _ => rfl) ?_
        refine q_Ru_call (v := (some (.int 0))) (h2 := (q_cX (q_uA q_AX 35 (upd w64 2 32)) (q_uI q_IX 34 3 3) q_J0, 40, 26520)) rfl rfl ?_ ?_
        · refine q_Ca_of (Nat.le_of_ble_eq_true rfl) ?_
          refine q_Ru_seg (g2 := (17, [(0, .int 0), (1, .int 63), (2, .null)], [.int 0], (q_cX (q_uA q_AX 35 (upd w64 2 32)) (q_uI q_IX 34 3 3) q_J0, 40, 26520))) 6 (fun _ _ => rfl) ?_
          exact q_Ru_ret rfl rfl
        show q_Ru _ _ _ (8, [(0, .int 0), (1, .int 63)], [.int 0], (q_cX (q_uA q_AX 35 (upd w64 2 32)) (q_uI q_IX 34 3 3) q_J0, 40, 26520)) _
        refine q_Ru_seg (g2 := (9, [(0, .int 0), (1, .int 63)], [], (q_cX (q_uA q_AX 35 (upd w64 2 32)) (q_uI q_IX 34 3 3) q_J0, 40, 26520))) 1 (fun _ _ => rfl) ?_
        exact q_Ru_ret rfl rfl
      show q_Ru _ _ _ (6, [(0, .ref 40), (1, .int 0)], [], (q_cX (q_uA q_AX 35 (upd w64 2 32)) (q_uI q_IX 34 3 3) q_J0, 40, 26520)) _
      refine q_Ru_seg (g2 := (9, [(0, .ref 40), (1, .int 0)], [.int 108], (q_cX (q_uA q_AX 35 (upd w64 2 32)) (q_uI q_IX 34 3 3) q_J0, 40, 26520))) 3 (fun _ _ => rfl) ?_
      refine q_Ru_seg (g2 := (14, [(0, .ref 40), (1, .int 0)], [.int 108], (q_cX (q_uA q_AX 35 (upd w64 2 32)) (q_uI q_IX 34 3 3) q_J0, 40, 26520))) 3 (fun _ _ => rfl) ?_
      exact q_Ru_ret rfl rfl
    show q_Ru _ _ _ (15, [(0, .ref 12), (1, .int 0)], [.int 108], (q_cX (q_uA q_AX 35 (upd w64 2 32)) (q_uI q_IX 34 3 3) q_J0, 40, 26520)) _
    exact q_Ru_ret rfl rfl
  show q_Ru _ _ _ (78, [(5, .int 0), (4, .int 0), (3, .ref 12), (2, .int 0), (0, .ref 98), (1, .int 0)], [.int 108, .ref 98], (q_cX (q_uA q_AX 35 (upd w64 2 32)) (q_uI q_IX 34 3 3) q_J0, 40, 26520)) _
  refine q_Ru_call (v := (some (.ref 98))) (h2 := (q_cX (q_uA q_AX 35 (upd (upd w64 2 32) 3 108)) (q_uI q_IX 34 3 4) q_J0, 40, 26520)) rfl rfl ?_ ?_
  · refine q_Ca_of (Nat.le_of_ble_eq_true rfl) ?_
    refine q_Ru_seg (g2 := (2, [(0, .ref 98), (1, .int 108)], [.int 108, .ref 98], (q_cX (q_uA q_AX 35 (upd w64 2 32)) (q_uI q_IX 34 3 3) q_J0, 40, 26520))) 2 (fun _ _ => rfl) ?_
    refine q_Ru_call (v := (some (.ref 98))) (h2 := (q_cX (q_uA q_AX 35 (upd (upd w64 2 32) 3 108)) (q_uI q_IX 34 3 4) q_J0, 40, 26520)) rfl rfl ?_ ?_
    · refine q_Ca_of (Nat.le_of_ble_eq_true rfl) ?_
      refine q_Ru_seg (g2 := (5, [(0, .ref 98), (1, .int 108)], [.int 3, .ref 98], (q_cX (q_uA q_AX 35 (upd w64 2 32)) (q_uI q_IX 34 3 3) q_J0, 40, 26520))) 3 (fun _ _ => rfl) ?_
      refine q_Ru_seg (g2 := (7, [(0, .ref 98), (1, .int 108)], [.int 4, .ref 98], (q_cX (q_uA q_AX 35 (upd w64 2 32)) (q_uI q_IX 34 3 3) q_J0, 40, 26520))) 2 (fun _ _ => rfl) ?_
      refine q_Ru_call (v := none) (h2 := (q_cX (q_uA q_AX 35 (upd w64 2 32)) (q_uI q_IX 34 3 3) q_J0, 40, 26520)) rfl rfl ?_ ?_
      · refine q_Ca_of (Nat.le_of_ble_eq_true rfl) ?_
        refine q_Ru_seg (g2 := (9, [(0, .ref 98), (1, .int 4)], [.int 0, .int 16], (q_cX (q_uA q_AX 35 (upd w64 2 32)) (q_uI q_IX 34 3 3) q_J0, 40, 26520))) 5 (fun _ _ => rfl) ?_
        refine q_Ru_seg (g2 := (38, [(2, .int 16), (0, .ref 98), (1, .int 4)], [], (q_cX (q_uA q_AX 35 (upd w64 2 32)) (q_uI q_IX 34 3 3) q_J0, 40, 26520))) 6 (fun _ _ => rfl) ?_
        exact q_Ru_ret rfl rfl
      show q_Ru _ _ _ (10, [(0, .ref 98), (1, .int 108)], [], (q_cX (q_uA q_AX 35 (upd w64 2 32)) (q_uI q_IX 34 3 3) q_J0, 40, 26520)) _
      refine q_Ru_seg (g2 := (11, [(0, .ref 98), (1, .int 108)], [.ref 98], (q_cX (q_uA q_AX 35 (upd w64 2 32)) (q_uI q_IX 34 3 3) q_J0, 40, 26520))) 1 (fun _ _ => rfl) ?_
      refine q_Ru_call (v := (some (.int 1))) (h2 := (q_cX (q_uA q_AX 35 (upd w64 2 32)) (q_uI q_IX 34 3 3) q_J0, 40, 26520)) rfl rfl ?_ ?_
      · refine q_Ca_of (Nat.le_of_ble_eq_true rfl) ?_
        refine q_Ru_seg (g2 := (10, [(0, .ref 98)], [.int 0], (q_cX (q_uA q_AX 35 (upd w64 2 32)) (q_uI q_IX 34 3 3) q_J0, 40, 26520))) 4 (fun _ _ => rfl) ?_
        refine q_Ru_seg (g2 := (18, [(0, .ref 98)], [.int 1], (q_cX (q_uA q_AX 35 (upd w64 2 32)) (q_uI q_IX 34 3 3) q_J0, 40, 26520))) 3 (fun _ _ => rfl) ?_
        exact q_Ru_ret rfl rfl
      show q_Ru _ _ _ (14, [(0, .ref 98), (1, .int 108)], [.int 1], (q_cX (q_uA q_AX 35 (upd w64 2 32)) (q_uI q_IX 34 3 3) q_J0, 40, 26520)) _
      refine q_Ru_seg (g2 := (18, [(0, .ref 98), (1, .int 108)], [.int 108], (q_cX (q_uA q_AX 35 (upd w64 2 32)) (q_uI q_IX 34 3 3) q_J0, 40, 26520))) 2 (fun _ _ => rfl) ?_
      refine q_Ru_call (v := (some (.int 1))) (h2 := (q_cX (q_uA q_AX 35 (upd w64 2 32)) (q_uI q_IX 34 3 3) q_J0, 40, 26520)) rfl rfl ?_ ?_
      · refine q_Ca_of (Nat.le_of_ble_eq_true rfl) ?_
        refine q_Ru_seg (g2 := (12, [(0, .int 108)], [.int 1], (q_cX (q_uA q_AX 35 (upd w64 2 32)) (q_uI q_IX 34 3 3) q_J0, 40, 26520))) 5 (fun _ _ => rfl) ?_
        exact q_Ru_ret rfl rfl
      show q_Ru _ _ _ (21, [(0, .ref 98), (1, .int 108)], [.int 1], (q_cX (q_uA q_AX 35 (upd w64 2 32)) (q_uI q_IX 34 3 3) q_J0, 40, 26520)) _
      refine q_Ru_seg (g2 := (33, [(0, .ref 98), (1, .int 108)], [.int 3, .ref 98, .ref 99], (q_cX (q_uA q_AX 35 (upd w64 2 32)) (q_uI q_IX 34 3 3) q_J0, 40, 26520))) 6 (fun _ _ => rfl) ?_
      refine q_Ru_seg (g2 := (76, [(0, .ref 98), (1, .int 108)], [.ref 98], (q_cX (q_uA q_AX 35 (upd (upd w64 2 32) 3 108)) (q_uI q_IX 34 3 4) q_J0, 40, 26520))) 9 (fun _ _ => rfl) ?_
      exact q_Ru_ret rfl rfl
    show q_Ru _ _ _ (5, [(0, .ref 98), (1, .int 108)], [.ref 98], (q_cX (q_uA q_AX 35 (upd (upd w64 2 32) 3 108)) (q_uI q_IX 34 3 4) q_J0, 40, 26520)) _
    refine q_Ru_seg (g2 := (7, [(0, .ref 98), (1, .int 108)], [.ref 98], (q_cX (q_uA q_AX 35 (upd (upd w64 2 32) 3 108)) (q_uI q_IX 34 3 4) q_J0, 40, 26520))) 2 (fun _ _ => rfl) ?_
    exact q_Ru_ret rfl rfl
  show q_Ru _ _ _ (81, [(5, .int 0), (4, .int 0), (3, .ref 12), (2, .int 0), (0, .ref 98), (1, .int 0)], [.ref 98], (q_cX (q_uA q_AX 35 (upd (upd w64 2 32) 3 108)) (q_uI q_IX 34 3 4) q_J0, 40, 26520)) _
  exact q_Ru_le (Nat.le_of_ble_eq_true rfl) (q_xc52 L xs a hl_a hu_a w64)
set_option maxHeartbeats 20000000 in
theorem q_xc54 (L : Nat) (xs : Nat → Int32) (a : Int32) (hl_a : 10 ≤ a.toInt) (hu_a : a.toInt ≤ 99) (w66 : Nat → Int32) : q_Ru (q_TBs 98 L xs) 3 197 (17, [(0, .ref 98), (1, .int 0), (2, .int 0)], [.ref 98], (q_cX (q_uA q_AX 35 w66) (q_uI q_IX 34 3 8) q_J0, 40, 26520)) (.inl none, (q_cX (q_uA q_AX 35 (upd w66 8 48)) (q_uI q_IX 34 3 9) q_J0, 40, 26520)) := by
  refine q_Ru_seg (g2 := (36, [(0, .ref 98), (1, .int 0), (2, .int 0)], [.int 0, .ref 98], (q_cX (q_uA q_AX 35 w66) (q_uI q_IX 34 3 8) q_J0, 40, 26520))) 4 (fun _ _ => rfl) ?_
  refine q_Ru_call (v := (some (.ref 98))) (h2 := (q_cX (q_uA q_AX 35 (upd w66 8 48)) (q_uI q_IX 34 3 9) q_J0, 40, 26520)) rfl rfl ?_ ?_
  · refine q_Ca_of (Nat.le_of_ble_eq_true rfl) ?_
    refine q_Ru_seg (g2 := (2, [(0, .ref 98), (1, .int 0)], [.int 0, .ref 98], (q_cX (q_uA q_AX 35 w66) (q_uI q_IX 34 3 8) q_J0, 40, 26520))) 2 (fun _ _ => rfl) ?_
    refine q_Ru_call (v := (some (.ref 98))) (h2 := (q_cX (q_uA q_AX 35 (upd w66 8 48)) (q_uI q_IX 34 3 9) q_J0, 40, 26520)) rfl rfl ?_ ?_
    · refine q_Ca_of (Nat.le_of_ble_eq_true rfl) ?_
      refine q_Ru_seg (g2 := (4, [(0, .ref 98), (1, .int 0)], [.int 8], (q_cX (q_uA q_AX 35 w66) (q_uI q_IX 34 3 8) q_J0, 40, 26520))) 2 (fun _ _ => rfl) ?_
      refine q_Ru_seg (g2 := (7, [(2, .int 8), (0, .ref 98), (1, .int 0)], [.int 0, .int 8], (q_cX (q_uA q_AX 35 w66) (q_uI q_IX 34 3 8) q_J0, 40, 26520))) 3 (fun _ _ => rfl) ?_
      refine q_Ru_call (v := (some (.int 1))) (h2 := (q_cX (q_uA q_AX 35 w66) (q_uI q_IX 34 3 8) q_J0, 40, 26520)) rfl rfl ?_ ?_
      · refine q_Ca_of (Nat.le_of_ble_eq_true rfl) ?_
        refine q_Ru_seg (g2 := (30, [(3, .int 1), (2, .int (-10)), (0, .int 0), (1, .int 0)], [.int 1], (q_cX (q_uA q_AX 35 w66) (q_uI q_IX 34 3 8) q_J0, 40, 26520))) 22 (fun _ _ => rfl) ?_
        exact q_Ru_ret rfl rfl
      show q_Ru _ _ _ (10, [(2, .int 8), (0, .ref 98), (1, .int 0)], [.int 1, .int 8], (q_cX (q_uA q_AX 35 w66) (q_uI q_IX 34 3 8) q_J0, 40, 26520)) _
      refine q_Ru_seg (g2 := (14, [(3, .int 9), (2, .int 8), (0, .ref 98), (1, .int 0)], [.int 9, .ref 98], (q_cX (q_uA q_AX 35 w66) (q_uI q_IX 34 3 8) q_J0, 40, 26520))) 4 (fun _ _ => rfl) ?_
      refine q_Ru_call (v := none) (h2 := (q_cX (q_uA q_AX 35 w66) (q_uI q_IX 34 3 8) q_J0, 40, 26520)) rfl rfl ?_ ?_
      · refine q_Ca_of (Nat.le_of_ble_eq_true rfl) ?_
        refine q_Ru_seg (g2 := (9, [(0, .ref 98), (1, .int 9)], [.int 0, .int 16], (q_cX (q_uA q_AX 35 w66) (q_uI q_IX 34 3 8) q_J0, 40, 26520))) 5 (fun _ _ => rfl) ?_
        refine q_Ru_seg (g2 := (38, [(2, .int 16), (0, .ref 98), (1, .int 9)], [], (q_cX (q_uA q_AX 35 w66) (q_uI q_IX 34 3 8) q_J0, 40, 26520))) 6 (fun _ _ => rfl) ?_
        exact q_Ru_ret rfl rfl
      show q_Ru _ _ _ (17, [(3, .int 9), (2, .int 8), (0, .ref 98), (1, .int 0)], [], (q_cX (q_uA q_AX 35 w66) (q_uI q_IX 34 3 8) q_J0, 40, 26520)) _
      refine q_Ru_seg (g2 := (18, [(3, .int 9), (2, .int 8), (0, .ref 98), (1, .int 0)], [.ref 98], (q_cX (q_uA q_AX 35 w66) (q_uI q_IX 34 3 8) q_J0, 40, 26520))) 1 (fun _ _ => rfl) ?_
      refine q_Ru_call (v := (some (.int 1))) (h2 := (q_cX (q_uA q_AX 35 w66) (q_uI q_IX 34 3 8) q_J0, 40, 26520)) rfl rfl ?_ ?_
      · refine q_Ca_of (Nat.le_of_ble_eq_true rfl) ?_
        refine q_Ru_seg (g2 := (10, [(0, .ref 98)], [.int 0], (q_cX (q_uA q_AX 35 w66) (q_uI q_IX 34 3 8) q_J0, 40, 26520))) 4 (fun _ _ => rfl) ?_
        refine q_Ru_seg (g2 := (18, [(0, .ref 98)], [.int 1], (q_cX (q_uA q_AX 35 w66) (q_uI q_IX 34 3 8) q_J0, 40, 26520))) 3 (fun _ _ => rfl) ?_
        exact q_Ru_ret rfl rfl
      show q_Ru _ _ _ (21, [(3, .int 9), (2, .int 8), (0, .ref 98), (1, .int 0)], [.int 1], (q_cX (q_uA q_AX 35 w66) (q_uI q_IX 34 3 8) q_J0, 40, 26520)) _
      refine q_Ru_seg (g2 := (30, [(3, .int 9), (2, .int 8), (0, .ref 98), (1, .int 0)], [.ref 99, .int 9, .int 0], (q_cX (q_uA q_AX 35 w66) (q_uI q_IX 34 3 8) q_J0, 40, 26520))) 5 (fun _ _ => rfl) ?_
      refine q_Ru_call (v := (some (.int 8))) (h2 := (q_cX (q_uA q_AX 35 (upd w66 8 48)) (q_uI q_IX 34 3 8) q_J0, 40, 26520)) rfl rfl ?_ ?_
      · refine q_Ca_of (Nat.le_of_ble_eq_true rfl) ?_
        refine q_Ru_seg (g2 := (84, [(5, .int 8), (0, .int 0), (6, .int 0), (1, .int 9), (2, .ref 99)], [.int 48, .int 8, .ref 99], (q_cX (q_uA q_AX 35 w66) (q_uI q_IX 34 3 8) q_J0, 40, 26520))) 21 (fun _ _ => rfl) ?_
        refine q_Ru_seg (g2 := (120, [(5, .int 8), (0, .int 0), (6, .int 0), (1, .int 9), (2, .ref 99)], [.int 8], (q_cX (q_uA q_AX 35 (upd w66 8 48)) (q_uI q_IX 34 3 8) q_J0, 40, 26520))) 7 (fun _ _ => rfl) ?_
        exact q_Ru_ret rfl rfl
      show q_Ru _ _ _ (33, [(3, .int 9), (2, .int 8), (0, .ref 98), (1, .int 0)], [.int 8], (q_cX (q_uA q_AX 35 (upd w66 8 48)) (q_uI q_IX 34 3 8) q_J0, 40, 26520)) _
      refine q_Ru_seg (g2 := (54, [(3, .int 9), (2, .int 8), (0, .ref 98), (1, .int 0)], [.ref 98], (q_cX (q_uA q_AX 35 (upd w66 8 48)) (q_uI q_IX 34 3 9) q_J0, 40, 26520))) 6 (fun _ _ => rfl) ?_
      exact q_Ru_ret rfl rfl
    show q_Ru _ _ _ (5, [(0, .ref 98), (1, .int 0)], [.ref 98], (q_cX (q_uA q_AX 35 (upd w66 8 48)) (q_uI q_IX 34 3 9) q_J0, 40, 26520)) _
    refine q_Ru_seg (g2 := (7, [(0, .ref 98), (1, .int 0)], [.ref 98], (q_cX (q_uA q_AX 35 (upd w66 8 48)) (q_uI q_IX 34 3 9) q_J0, 40, 26520))) 2 (fun _ _ => rfl) ?_
    exact q_Ru_ret rfl rfl
  show q_Ru _ _ _ (39, [(0, .ref 98), (1, .int 0), (2, .int 0)], [.ref 98], (q_cX (q_uA q_AX 35 (upd w66 8 48)) (q_uI q_IX 34 3 9) q_J0, 40, 26520)) _
  refine q_Ru_seg (g2 := (134, [(0, .ref 98), (1, .int 0), (2, .int 0)], [], (q_cX (q_uA q_AX 35 (upd w66 8 48)) (q_uI q_IX 34 3 9) q_J0, 40, 26520))) 3 (fun _ _ => rfl) ?_
  exact q_Ru_ret rfl rfl
set_option maxHeartbeats 20000000 in
theorem q_xc55 (L : Nat) (xs : Nat → Int32) (a : Int32) (hl_a : 10 ≤ a.toInt) (hu_a : a.toInt ≤ 99) (w64 : Nat → Int32) : q_Ru (q_TBs 98 L xs) 5 195 (106, [(6, .int 0), (5, .int 0), (4, .int 2), (3, .int 0), (0, .ref 98), (1, .ref 66), (2, .int a)], [.int 0, .ref 98], (q_cX (q_uA q_AX 35 (upd (upd (upd (upd w64 2 32) 3 108) 4 100) 5 97)) (q_uI q_IX 34 3 6) q_J0, 40, 26520)) (.inl none, (q_cX (q_uA q_AX 35 (upd (upd (upd (upd (upd (upd (upd w64 2 32) 3 108) 4 100) 5 97) 6 32) 7 35) 8 48)) (q_uI q_IX 34 3 9) q_J0, 40, 26520)) := by
  refine q_Ru_seg (g2 := (108, [(6, .int 0), (5, .int 0), (4, .int 2), (3, .int 0), (0, .ref 98), (1, .ref 66), (2, .int a)], [.int 0, .int 0, .ref 98], (q_cX (q_uA q_AX 35 (upd (upd (upd (upd w64 2 32) 3 108) 4 100) 5 97)) (q_uI q_IX 34 3 6) q_J0, 40, 26520))) 1 (fun _ _ => rfl) ?_
  refine q_Ru_call (v := none) (h2 := (q_cX (q_uA q_AX 35 (upd (upd (upd (upd (upd (upd (upd w64 2 32) 3 108) 4 100) 5 97) 6 32) 7 35) 8 48)) (q_uI q_IX 34 3 9) q_J0, 40, 26520)) rfl rfl ?_ ?_
  · refine q_Ca_of (Nat.le_of_ble_eq_true rfl) ?_
    refine q_Ru_seg (g2 := (3, [(0, .ref 98), (1, .int 0), (2, .int 0)], [.int 32, .ref 98], (q_cX (q_uA q_AX 35 (upd (upd (upd (upd w64 2 32) 3 108) 4 100) 5 97)) (q_uI q_IX 34 3 6) q_J0, 40, 26520))) 2 (fun _ _ => rfl) ?_
    refine q_Ru_call (v := (some (.ref 98))) (h2 := (q_cX (q_uA q_AX 35 (upd (upd (upd (upd (upd w64 2 32) 3 108) 4 100) 5 97) 6 32)) (q_uI q_IX 34 3 7) q_J0, 40, 26520)) rfl rfl ?_ ?_
    · refine q_Ca_of (Nat.le_of_ble_eq_true rfl) ?_
      refine q_Ru_seg (g2 := (2, [(0, .ref 98), (1, .int 32)], [.int 32, .ref 98], (q_cX (q_uA q_AX 35 (upd (upd (upd (upd w64 2 32) 3 108) 4 100) 5 97)) (q_uI q_IX 34 3 6) q_J0, 40, 26520))) 2 (fun _ _ => rfl) ?_
      refine q_Ru_call (v := (some (.ref 98))) (h2 := (q_cX (q_uA q_AX 35 (upd (upd (upd (upd (upd w64 2 32) 3 108) 4 100) 5 97) 6 32)) (q_uI q_IX 34 3 7) q_J0, 40, 26520)) rfl rfl ?_ ?_
      · refine q_Ca_of (Nat.le_of_ble_eq_true rfl) ?_
        refine q_Ru_seg (g2 := (5, [(0, .ref 98), (1, .int 32)], [.int 6, .ref 98], (q_cX (q_uA q_AX 35 (upd (upd (upd (upd w64 2 32) 3 108) 4 100) 5 97)) (q_uI q_IX 34 3 6) q_J0, 40, 26520))) 3 (fun _ _ => rfl) ?_
        refine q_Ru_seg (g2 := (7, [(0, .ref 98), (1, .int 32)], [.int 7, .ref 98], (q_cX (q_uA q_AX 35 (upd (upd (upd (upd w64 2 32) 3 108) 4 100) 5 97)) (q_uI q_IX 34 3 6) q_J0, 40, 26520))) 2 (fun _ _ => rfl) ?_
        refine q_Ru_call (v := none) (h2 := (q_cX (q_uA q_AX 35 (upd (upd (upd (upd w64 2 32) 3 108) 4 100) 5 97)) (q_uI q_IX 34 3 6) q_J0, 40, 26520)) rfl rfl ?_ ?_
        · refine q_Ca_of (Nat.le_of_ble_eq_true rfl) ?_
          refine q_Ru_seg (g2 := (9, [(0, .ref 98), (1, .int 7)], [.int 0, .int 16], (q_cX (q_uA q_AX 35 (upd (upd (upd (upd w64 2 32) 3 108) 4 100) 5 97)) (q_uI q_IX 34 3 6) q_J0, 40, 26520))) 5 (fun _ _ => rfl) ?_
          refine q_Ru_seg (g2 := (38, [(2, .int 16), (0, .ref 98), (1, .int 7)], [], (q_cX (q_uA q_AX 35 (upd (upd (upd (upd w64 2 32) 3 108) 4 100) 5 97)) (q_uI q_IX 34 3 6) q_J0, 40, 26520))) 6 (fun _ _ => rfl) ?_
          exact q_Ru_ret rfl rfl
        show q_Ru _ _ _ (10, [(0, .ref 98), (1, .int 32)], [], (q_cX (q_uA q_AX 35 (upd (upd (upd (upd w64 2 32) 3 108) 4 100) 5 97)) (q_uI q_IX 34 3 6) q_J0, 40, 26520)) _
        refine q_Ru_seg (g2 := (11, [(0, .ref 98), (1, .int 32)], [.ref 98], (q_cX (q_uA q_AX 35 (upd (upd (upd (upd w64 2 32) 3 108) 4 100) 5 97)) (q_uI q_IX 34 3 6) q_J0, 40, 26520))) 1 (fun _ _ => rfl) ?_
        refine q_Ru_call (v := (some (.int 1))) (h2 := (q_cX (q_uA q_AX 35 (upd (upd (upd (upd w64 2 32) 3 108) 4 100) 5 97)) (q_uI q_IX 34 3 6) q_J0, 40, 26520)) rfl rfl ?_ ?_
        · refine q_Ca_of (Nat.le_of_ble_eq_true rfl) ?_
          refine q_Ru_seg (g2 := (10, [(0, .ref 98)], [.int 0], (q_cX (q_uA q_AX 35 (upd (upd (upd (upd w64 2 32) 3 108) 4 100) 5 97)) (q_uI q_IX 34 3 6) q_J0, 40, 26520))) 4 (fun _ _ => rfl) ?_
          refine q_Ru_seg (g2 := (18, [(0, .ref 98)], [.int 1], (q_cX (q_uA q_AX 35 (upd (upd (upd (upd w64 2 32) 3 108) 4 100) 5 97)) (q_uI q_IX 34 3 6) q_J0, 40, 26520))) 3 (fun _ _ => rfl) ?_
          exact q_Ru_ret rfl rfl
        show q_Ru _ _ _ (14, [(0, .ref 98), (1, .int 32)], [.int 1], (q_cX (q_uA q_AX 35 (upd (upd (upd (upd w64 2 32) 3 108) 4 100) 5 97)) (q_uI q_IX 34 3 6) q_J0, 40, 26520)) _
        refine q_Ru_seg (g2 := (18, [(0, .ref 98), (1, .int 32)], [.int 32], (q_cX (q_uA q_AX 35 (upd (upd (upd (upd w64 2 32) 3 108) 4 100) 5 97)) (q_uI q_IX 34 3 6) q_J0, 40, 26520))) 2 (fun _ _ => rfl) ?_
        refine q_Ru_call (v := (some (.int 1))) (h2 := (q_cX (q_uA q_AX 35 (upd (upd (upd (upd w64 2 32) 3 108) 4 100) 5 97)) (q_uI q_IX 34 3 6) q_J0, 40, 26520)) rfl rfl ?_ ?_
        · refine q_Ca_of (Nat.le_of_ble_eq_true rfl) ?_
          refine q_Ru_seg (g2 := (12, [(0, .int 32)], [.int 1], (q_cX (q_uA q_AX 35 (upd (upd (upd (upd w64 2 32) 3 108) 4 100) 5 97)) (q_uI q_IX 34 3 6) q_J0, 40, 26520))) 5 (fun _ _ => rfl) ?_
          exact q_Ru_ret rfl rfl
        show q_Ru _ _ _ (21, [(0, .ref 98), (1, .int 32)], [.int 1], (q_cX (q_uA q_AX 35 (upd (upd (upd (upd w64 2 32) 3 108) 4 100) 5 97)) (q_uI q_IX 34 3 6) q_J0, 40, 26520)) _
        refine q_Ru_seg (g2 := (33, [(0, .ref 98), (1, .int 32)], [.int 6, .ref 98, .ref 99], (q_cX (q_uA q_AX 35 (upd (upd (upd (upd w64 2 32) 3 108) 4 100) 5 97)) (q_uI q_IX 34 3 6) q_J0, 40, 26520))) 6 (fun _ _ => rfl) ?_
        refine q_Ru_seg (g2 := (76, [(0, .ref 98), (1, .int 32)], [.ref 98], (q_cX (q_uA q_AX 35 (upd (upd (upd (upd (upd w64 2 32) 3 108) 4 100) 5 97) 6 32)) (q_uI q_IX 34 3 7) q_J0, 40, 26520))) 9 (fun _ _ => rfl) ?_
        exact q_Ru_ret rfl rfl
      show q_Ru _ _ _ (5, [(0, .ref 98), (1, .int 32)], [.ref 98], (q_cX (q_uA q_AX 35 (upd (upd (upd (upd (upd w64 2 32) 3 108) 4 100) 5 97) 6 32)) (q_uI q_IX 34 3 7) q_J0, 40, 26520)) _
      refine q_Ru_seg (g2 := (7, [(0, .ref 98), (1, .int 32)], [.ref 98], (q_cX (q_uA q_AX 35 (upd (upd (upd (upd (upd w64 2 32) 3 108) 4 100) 5 97) 6 32)) (q_uI q_IX 34 3 7) q_J0, 40, 26520))) 2 (fun _ _ => rfl) ?_
      exact q_Ru_ret rfl rfl
    show q_Ru _ _ _ (6, [(0, .ref 98), (1, .int 0), (2, .int 0)], [.ref 98], (q_cX (q_uA q_AX 35 (upd (upd (upd (upd (upd w64 2 32) 3 108) 4 100) 5 97) 6 32)) (q_uI q_IX 34 3 7) q_J0, 40, 26520)) _
    refine q_Ru_seg (g2 := (14, [(0, .ref 98), (1, .int 0), (2, .int 0)], [.int 35, .ref 98], (q_cX (q_uA q_AX 35 (upd (upd (upd (upd (upd w64 2 32) 3 108) 4 100) 5 97) 6 32)) (q_uI q_IX 34 3 7) q_J0, 40, 26520))) 5 (fun _ _ => rfl) ?_
    refine q_Ru_call (v := (some (.ref 98))) (h2 := (q_cX (q_uA q_AX 35 (upd (upd (upd (upd (upd (upd w64 2 32) 3 108) 4 100) 5 97) 6 32) 7 35)) (q_uI q_IX 34 3 8) q_J0, 40, 26520)) rfl rfl ?_ ?_
    · refine q_Ca_of (Nat.le_of_ble_eq_true rfl) ?_
      refine q_Ru_seg (g2 := (2, [(0, .ref 98), (1, .int 35)], [.int 35, .ref 98], (q_cX (q_uA q_AX 35 (upd (upd (upd (upd (upd w64 2 32) 3 108) 4 100) 5 97) 6 32)) (q_uI q_IX 34 3 7) q_J0, 40, 26520))) 2 (fun _ _ => rfl) ?_
      refine q_Ru_call (v := (some (.ref 98))) (h2 := (q_cX (q_uA q_AX 35 (upd (upd (upd (upd (upd (upd w64 2 32) 3 108) 4 100) 5 97) 6 32) 7 35)) (q_uI q_IX 34 3 8) q_J0, 40, 26520)) rfl rfl ?_ ?_
      · refine q_Ca_of (Nat.le_of_ble_eq_true rfl) ?_
        refine q_Ru_seg (g2 := (5, [(0, .ref 98), (1, .int 35)], [.int 7, .ref 98], (q_cX (q_uA q_AX 35 (upd (upd (upd (upd (upd w64 2 32) 3 108) 4 100) 5 97) 6 32)) (q_uI q_IX 34 3 7) q_J0, 40, 26520))) 3 (fun _ _ => rfl) ?_
        refine q_Ru_seg (g2 := (7, [(0, .ref 98), (1, .int 35)], [.int 8, .ref 98], (q_cX (q_uA q_AX 35 (upd (upd (upd (upd (upd w64 2 32) 3 108) 4 100) 5 97) 6 32)) (q_uI q_IX 34 3 7) q_J0, 40, 26520))) 2 (fun _ _ => rfl) ?_
        refine q_Ru_call (v := none) (h2 := (q_cX (q_uA q_AX 35 (upd (upd (upd (upd (upd w64 2 32) 3 108) 4 100) 5 97) 6 32)) (q_uI q_IX 34 3 7) q_J0, 40, 26520)) rfl rfl ?_ ?_
        · refine q_Ca_of (Nat.le_of_ble_eq_true rfl) ?_
          refine q_Ru_seg (g2 := (9, [(0, .ref 98), (1, .int 8)], [.int 0, .int 16], (q_cX (q_uA q_AX 35 (upd (upd (upd (upd (upd w64 2 32) 3 108) 4 100) 5 97) 6 32)) (q_uI q_IX 34 3 7) q_J0, 40, 26520))) 5 (fun _ _ => rfl) ?_
          refine q_Ru_seg (g2 := (38, [(2, .int 16), (0, .ref 98), (1, .int 8)], [], (q_cX (q_uA q_AX 35 (upd (upd (upd (upd (upd w64 2 32) 3 108) 4 100) 5 97) 6 32)) (q_uI q_IX 34 3 7) q_J0, 40, 26520))) 6 (fun _ _ => rfl) ?_
          exact q_Ru_ret rfl rfl
        show q_Ru _ _ _ (10, [(0, .ref 98), (1, .int 35)], [], (q_cX (q_uA q_AX 35 (upd (upd (upd (upd (upd w64 2 32) 3 108) 4 100) 5 97) 6 32)) (q_uI q_IX 34 3 7) q_J0, 40, 26520)) _
        refine q_Ru_seg (g2 := (11, [(0, .ref 98), (1, .int 35)], [.ref 98], (q_cX (q_uA q_AX 35 (upd (upd (upd (upd (upd w64 2 32) 3 108) 4 100) 5 97) 6 32)) (q_uI q_IX 34 3 7) q_J0, 40, 26520))) 1 (fun _ _ => rfl) ?_
        refine q_Ru_call (v := (some (.int 1))) (h2 := (q_cX (q_uA q_AX 35 (upd (upd (upd (upd (upd w64 2 32) 3 108) 4 100) 5 97) 6 32)) (q_uI q_IX 34 3 7) q_J0, 40, 26520)) rfl rfl ?_ ?_
        · refine q_Ca_of (Nat.le_of_ble_eq_true rfl) ?_
          refine q_Ru_seg (g2 := (10, [(0, .ref 98)], [.int 0], (q_cX (q_uA q_AX 35 (upd (upd (upd (upd (upd w64 2 32) 3 108) 4 100) 5 97) 6 32)) (q_uI q_IX 34 3 7) q_J0, 40, 26520))) 4 (fun _ _ => rfl) ?_
          refine q_Ru_seg (g2 := (18, [(0, .ref 98)], [.int 1], (q_cX (q_uA q_AX 35 (upd (upd (upd (upd (upd w64 2 32) 3 108) 4 100) 5 97) 6 32)) (q_uI q_IX 34 3 7) q_J0, 40, 26520))) 3 (fun _ _ => rfl) ?_
          exact q_Ru_ret rfl rfl
        show q_Ru _ _ _ (14, [(0, .ref 98), (1, .int 35)], [.int 1], (q_cX (q_uA q_AX 35 (upd (upd (upd (upd (upd w64 2 32) 3 108) 4 100) 5 97) 6 32)) (q_uI q_IX 34 3 7) q_J0, 40, 26520)) _
        refine q_Ru_seg (g2 := (18, [(0, .ref 98), (1, .int 35)], [.int 35], (q_cX (q_uA q_AX 35 (upd (upd (upd (upd (upd w64 2 32) 3 108) 4 100) 5 97) 6 32)) (q_uI q_IX 34 3 7) q_J0, 40, 26520))) 2 (fun _ _ => rfl) ?_
        refine q_Ru_call (v := (some (.int 1))) (h2 := (q_cX (q_uA q_AX 35 (upd (upd (upd (upd (upd w64 2 32) 3 108) 4 100) 5 97) 6 32)) (q_uI q_IX 34 3 7) q_J0, 40, 26520)) rfl rfl ?_ ?_
        · refine q_Ca_of (Nat.le_of_ble_eq_true rfl) ?_
          refine q_Ru_seg (g2 := (12, [(0, .int 35)], [.int 1], (q_cX (q_uA q_AX 35 (upd (upd (upd (upd (upd w64 2 32) 3 108) 4 100) 5 97) 6 32)) (q_uI q_IX 34 3 7) q_J0, 40, 26520))) 5 (fun _ _ => rfl) ?_
          exact q_Ru_ret rfl rfl
        show q_Ru _ _ _ (21, [(0, .ref 98), (1, .int 35)], [.int 1], (q_cX (q_uA q_AX 35 (upd (upd (upd (upd (upd w64 2 32) 3 108) 4 100) 5 97) 6 32)) (q_uI q_IX 34 3 7) q_J0, 40, 26520)) _
        refine q_Ru_seg (g2 := (33, [(0, .ref 98), (1, .int 35)], [.int 7, .ref 98, .ref 99], (q_cX (q_uA q_AX 35 (upd (upd (upd (upd (upd w64 2 32) 3 108) 4 100) 5 97) 6 32)) (q_uI q_IX 34 3 7) q_J0, 40, 26520))) 6 (fun _ _ => rfl) ?_
        refine q_Ru_seg (g2 := (76, [(0, .ref 98), (1, .int 35)], [.ref 98], (q_cX (q_uA q_AX 35 (upd (upd (upd (upd (upd (upd w64 2 32) 3 108) 4 100) 5 97) 6 32) 7 35)) (q_uI q_IX 34 3 8) q_J0, 40, 26520))) 9 (fun _ _ => rfl) ?_
        exact q_Ru_ret rfl rfl
      show q_Ru _ _ _ (5, [(0, .ref 98), (1, .int 35)], [.ref 98], (q_cX (q_uA q_AX 35 (upd (upd (upd (upd (upd (upd w64 2 32) 3 108) 4 100) 5 97) 6 32) 7 35)) (q_uI q_IX 34 3 8) q_J0, 40, 26520)) _
      generalize (upd (upd (upd (upd (upd (upd w64 2 32) 3 108) 4 100) 5 97) 6 32) 7 35) = w65
      refine q_Ru_seg (g2 := (7, [(0, .ref 98), (1, .int 35)], [.ref 98], (q_cX (q_uA q_AX 35 w65) (q_uI q_IX 34 3 8) q_J0, 40, 26520))) 2 (fun _ _ => rfl) ?_
      exact q_Ru_ret rfl rfl
    show q_Ru _ _ _ (17, [(0, .ref 98), (1, .int 0), (2, .int 0)], [.ref 98], (q_cX (q_uA q_AX 35 (upd (upd (upd (upd (upd (upd w64 2 32) 3 108) 4 100) 5 97) 6 32) 7 35)) (q_uI q_IX 34 3 8) q_J0, 40, 26520)) _
    generalize (upd (upd (upd (upd (upd (upd w64 2 32) 3 108) 4 100) 5 97) 6 32) 7 35) = w66
    exact q_Ru_le (Nat.le_of_ble_eq_true rfl) (q_xc54 L xs a hl_a hu_a w66)
  show q_Ru _ _ _ (111, [(6, .int 0), (5, .int 0), (4, .int 2), (3, .int 0), (0, .ref 98), (1, .ref 66), (2, .int a)], [], (q_cX (q_uA q_AX 35 (upd (upd (upd (upd (upd (upd (upd w64 2 32) 3 108) 4 100) 5 97) 6 32) 7 35) 8 48)) (q_uI q_IX 34 3 9) q_J0, 40, 26520)) _
  generalize (upd (upd (upd (upd (upd (upd (upd w64 2 32) 3 108) 4 100) 5 97) 6 32) 7 35) 8 48) = w67
  exact q_Ru_ret rfl rfl
set_option maxHeartbeats 20000000 in
theorem q_xc56 (L : Nat) (xs : Nat → Int32) (a : Int32) (hl_a : 10 ≤ a.toInt) (hu_a : a.toInt ≤ 99) (w64 : Nat → Int32) : q_Ru (q_TBs 98 L xs) 5 195 (42, [(5, .int 0), (4, .int 2), (3, .int 0), (0, .ref 98), (1, .ref 66), (2, .int a)], [.ref 98], (q_cX (q_uA q_AX 35 (upd w64 2 32)) (q_uI q_IX 34 3 3) q_J0, 40, 26520)) (.inl none, (q_cX (q_uA q_AX 35 (upd (upd (upd (upd (upd (upd (upd w64 2 32) 3 108) 4 100) 5 97) 6 32) 7 35) 8 48)) (q_uI q_IX 34 3 9) q_J0, 40, 26520)) := by
  refine q_Ru_seg (g2 := (45, [(5, .int 0), (4, .int 2), (3, .int 0), (0, .ref 98), (1, .ref 66), (2, .int a)], [.int 0, .ref 98], (q_cX (q_uA q_AX 35 (upd w64 2 32)) (q_uI q_IX 34 3 3) q_J0, 40, 26520))) 3 (fun _ _ => rfl) ?_
  refine q_Ru_call (v := none) (h2 := (q_cX (q_uA q_AX 35 (upd (upd (upd (upd w64 2 32) 3 108) 4 100) 5 97)) (q_uI q_IX 34 3 6) q_J0, 40, 26520)) rfl rfl ?_ ?_
  · refine q_Ca_of (Nat.le_of_ble_eq_true rfl) ?_
    refine q_Ru_seg (g2 := (1, [(0, .ref 98), (1, .int 0)], [.int 0], (q_cX (q_uA q_AX 35 (upd w64 2 32)) (q_uI q_IX 34 3 3) q_J0, 40, 26520))) 1 (fun _ _ => rfl) ?_
    refine q_Ru_call (v := (some (.int 0))) (h2 := (q_cX (q_uA q_AX 35 (upd w64 2 32)) (q_uI q_IX 34 3 3) q_J0, 40, 26520)) rfl rfl ?_ ?_
    · refine q_Ca_of (Nat.le_of_ble_eq_true rfl) ?_
      refine q_Ru_seg (g2 := (11, [(0, .int 0)], [.int 0], (q_cX (q_uA q_AX 35 (upd w64 2 32)) (q_uI q_IX 34 3 3) q_J0, 40, 26520))) 6 (fun _ _ => rfl) ?_
      exact q_Ru_ret rfl rfl
    show q_Ru _ _ _ (4, [(0, .ref 98), (1, .int 0)], [.int 0], (q_cX (q_uA q_AX 35 (upd w64 2 32)) (q_uI q_IX 34 3 3) q_J0, 40, 26520)) _
    refine q_Ru_seg (g2 := (44, [(4, .int 0), (3, .ref 12), (2, .int 0), (0, .ref 98), (1, .int 0)], [.ref 12, .int 2], (q_cX (q_uA q_AX 35 (upd w64 2 32)) (q_uI q_IX 34 3 3) q_J0, 40, 26520))) 19 (fun _ _ => rfl) ?_
    refine q_Ru_call (v := (some (.int 63))) (h2 := (q_cX (q_uA q_AX 35 (upd w64 2 32)) (q_uI q_IX 34 3 3) q_J0, 40, 26520)) rfl rfl ?_ ?_
    · refine q_Ca_of (Nat.le_of_ble_eq_true rfl) ?_
      refine q_Ru_seg (g2 := (6, [(0, .ref 12)], [.ref 12, .int 63], (q_cX (q_uA q_AX 35 (upd w64 2 32)) (q_uI q_IX 34 3 3) q_J0, 40, 26520))) 4 (fun _ _ => rfl) ?_
      refine q_Ru_call (v := (some (.int 0))) (h2 := (q_cX (q_uA q_AX 35 (upd w64 2 32)) (q_uI q_IX 34 3 3) q_J0, 40, 26520)) rfl rfl ?_ ?_
      · refine q_Ca_of (Nat.le_of_ble_eq_true rfl) ?_
        refine q_Ru_seg (g2 := (14, [(0, .ref 12)], [.int 0], (q_cX (q_uA q_AX 35 (upd w64 2 32)) (q_uI q_IX 34 3 3) q_J0, 40, 26520))) 5 (fun _ _ => rfl) ?_
        exact q_Ru_ret rfl rfl
      show q_Ru _ _ _ (9, [(0, .ref 12)], [.int 0, .int 63], (q_cX (q_uA q_AX 35 (upd w64 2 32)) (q_uI q_IX 34 3 3) q_J0, 40, 26520)) _
      refine q_Ru_seg (g2 := (10, [(0, .ref 12)], [.int 63], (q_cX (q_uA q_AX 35 (upd w64 2 32)) (q_uI q_IX 34 3 3) q_J0, 40, 26520))) 1 (fun _ _ => rfl) ?_
      exact q_Ru_ret rfl rfl
    show q_Ru _ _ _ (47, [(4, .int 0), (3, .ref 12), (2, .int 0), (0, .ref 98), (1, .int 0)], [.int 63, .int 2], (q_cX (q_uA q_AX 35 (upd w64 2 32)) (q_uI q_IX 34 3 3) q_J0, 40, 26520)) _
    exact q_Ru_le (Nat.le_of_ble_eq_true rfl) (q_xc53 L xs a hl_a hu_a w64)
  show q_Ru _ _ _ (48, [(5, .int 0), (4, .int 2), (3, .int 0), (0, .ref 98), (1, .ref 66), (2, .int a)], [], (q_cX (q_uA q_AX 35 (upd (upd (upd (upd w64 2 32) 3 108) 4 100) 5 97)) (q_uI q_IX 34 3 6) q_J0, 40, 26520)) _
  refine q_Ru_seg (g2 := (56, [(5, .int 0), (4, .int 2), (3, .int 0), (0, .ref 98), (1, .ref 66), (2, .int a)], [.int 0], (q_cX (q_uA q_AX 35 (upd (upd (upd (upd w64 2 32) 3 108) 4 100) 5 97)) (q_uI q_IX 34 3 6) q_J0, 40, 26520))) 4 (fun _ _ => rfl) ?_
  refine q_Ru_call (v := (some (.int 0))) (h2 := (q_cX (q_uA q_AX 35 (upd (upd (upd (upd w64 2 32) 3 108) 4 100) 5 97)) (q_uI q_IX 34 3 6) q_J0, 40, 26520)) rfl rfl ?_ ?_
  · refine q_Ca_of (Nat.le_of_ble_eq_true rfl) ?_
    refine q_Ru_seg (g2 := (19, [(0, .int 0)], [.int 0], (q_cX (q_uA q_AX 35 (upd (upd (upd (upd w64 2 32) 3 108) 4 100) 5 97)) (q_uI q_IX 34 3 6) q_J0, 40, 26520))) 4 (fun _ _ => rfl) ?_
    exact q_Ru_ret rfl rfl
  show q_Ru _ _ _ (59, [(5, .int 0), (4, .int 2), (3, .int 0), (0, .ref 98), (1, .ref 66), (2, .int a)], [.int 0], (q_cX (q_uA q_AX 35 (upd (upd (upd (upd w64 2 32) 3 108) 4 100) 5 97)) (q_uI q_IX 34 3 6) q_J0, 40, 26520)) _
  refine q_Ru_seg (g2 := (103, [(6, .int 0), (5, .int 0), (4, .int 2), (3, .int 0), (0, .ref 98), (1, .ref 66), (2, .int a)], [.int 0, .ref 98], (q_cX (q_uA q_AX 35 (upd (upd (upd (upd w64 2 32) 3 108) 4 100) 5 97)) (q_uI q_IX 34 3 6) q_J0, 40, 26520))) 9 (fun _ _ => rfl) ?_
  refine q_Ru_call (v := (some (.int 0))) (h2 := (q_cX (q_uA q_AX 35 (upd (upd (upd (upd w64 2 32) 3 108) 4 100) 5 97)) (q_uI q_IX 34 3 6) q_J0, 40, 26520)) rfl rfl ?_ ?_
  · refine q_Ca_of (Nat.le_of_ble_eq_true rfl) ?_
    refine q_Ru_seg (g2 := (1, [(0, .int 0)], [.int 0], (q_cX (q_uA q_AX 35 (upd (upd (upd (upd w64 2 32) 3 108) 4 100) 5 97)) (q_uI q_IX 34 3 6) q_J0, 40, 26520))) 1 (fun _ _ => rfl) ?_
    refine q_Ru_call (v := (some (.int 0))) (h2 := (q_cX (q_uA q_AX 35 (upd (upd (upd (upd w64 2 32) 3 108) 4 100) 5 97)) (q_uI q_IX 34 3 6) q_J0, 40, 26520)) rfl rfl ?_ ?_
    · refine q_Ca_of (Nat.le_of_ble_eq_true rfl) ?_
      refine q_Ru_seg (g2 := (11, [(0, .int 0)], [.int 0], (q_cX (q_uA q_AX 35 (upd (upd (upd (upd w64 2 32) 3 108) 4 100) 5 97)) (q_uI q_IX 34 3 6) q_J0, 40, 26520))) 6 (fun _ _ => rfl) ?_
      exact q_Ru_ret rfl rfl
    show q_Ru _ _ _ (4, [(0, .int 0)], [.int 0], (q_cX (q_uA q_AX 35 (upd (upd (upd (upd w64 2 32) 3 108) 4 100) 5 97)) (q_uI q_IX 34 3 6) q_J0, 40, 26520)) _
    refine q_Ru_seg (g2 := (11, [(0, .int 0)], [.int 0], (q_cX (q_uA q_AX 35 (upd (upd (upd (upd w64 2 32) 3 108) 4 100) 5 97)) (q_uI q_IX 34 3 6) q_J0, 40, 26520))) 4 (fun _ _ => rfl) ?_
    exact q_Ru_ret rfl rfl
  show q_Ru _ _ _ (106, [(6, .int 0), (5, .int 0), (4, .int 2), (3, .int 0), (0, .ref 98), (1, .ref 66), (2, .int a)], [.int 0, .ref 98], (q_cX (q_uA q_AX 35 (upd (upd (upd (upd w64 2 32) 3 108) 4 100) 5 97)) (q_uI q_IX 34 3 6) q_J0, 40, 26520)) _
  exact q_Ru_le (Nat.le_of_ble_eq_true rfl) (q_xc55 L xs a hl_a hu_a w64)
set_option maxHeartbeats 20000000 in
theorem q_xc57 (L : Nat) (xs : Nat → Int32) (a : Int32) (hl_a : 10 ≤ a.toInt) (hu_a : a.toInt ≤ 99) (h171 : decide (a < 0) = false) (h173 : decide ((-10) < -a) = false) (h174 : decide ((-100) < -a) = true) (h175 : decide (-a < (-9)) = true) : q_Ru (q_TBs 98 L xs) 5 195 (30, [(5, .int 0), (4, .int 2), (3, .int 0), (0, .ref 98), (1, .ref 66), (2, .int a)], [], (q_cX q_AX (q_uI q_IX 34 3 0) q_J0, 40, 26520)) (.inl none, (q_cX (q_uA q_AX 35 (upd (upd (upd (upd (upd (upd (upd (upd (upd (fun _ => 0) 1 (vp_nar .byte ((fun j => q_o6.getD j 0) ((-(-a)).toNatClampNeg)))) 0 (vp_nar .byte ((fun j => q_o7.getD j 0) ((-(-a)).toNatClampNeg)))) 2 32) 3 108) 4 100) 5 97) 6 32) 7 35) 8 48)) (q_uI q_IX 34 3 9) q_J0, 40, 26520)) := by
  refine q_Ru_seg (g2 := (32, [(5, .int 0), (4, .int 2), (3, .int 0), (0, .ref 98), (1, .ref 66), (2, .int a)], [.int a, .ref 98], (q_cX q_AX (q_uI q_IX 34 3 0) q_J0, 40, 26520))) 2 (fun _ _ => rfl) ?_
  refine q_Ru_call (v := (some (.ref 98))) (h2 := (q_cX (q_uA q_AX 35 (upd (upd (fun _ => 0) 1 (vp_nar .byte ((fun j => q_o6.getD j 0) ((-(-a)).toNatClampNeg)))) 0 (vp_nar .byte ((fun j => q_o7.getD j 0) ((-(-a)).toNatClampNeg))))) (q_uI q_IX 34 3 2) q_J0, 40, 26520)) rfl rfl ?_ ?_
  · refine q_Ca_of (Nat.le_of_ble_eq_true rfl) ?_
    refine q_Ru_seg (g2 := (2, [(0, .ref 98), (1, .int a)], [.int a, .ref 98], (q_cX q_AX (q_uI q_IX 34 3 0) q_J0, 40, 26520))) 2 (fun _ _ => rfl) ?_
    refine q_Ru_call (v := (some (.ref 98))) (h2 := (q_cX (q_uA q_AX 35 (upd (upd (fun _ => 0) 1 (vp_nar .byte ((fun j => q_o6.getD j 0) ((-(-a)).toNatClampNeg)))) 0 (vp_nar .byte ((fun j => q_o7.getD j 0) ((-(-a)).toNatClampNeg))))) (q_uI q_IX 34 3 2) q_J0, 40, 26520)) rfl rfl ?_ ?_
    · refine q_Ca_of (Nat.le_of_ble_eq_true rfl) ?_
      refine q_Ru_seg (g2 := (4, [(0, .ref 98), (1, .int a)], [.int 0], (q_cX q_AX (q_uI q_IX 34 3 0) q_J0, 40, 26520))) 2 (fun _ _ => rfl) ?_
      refine q_Ru_seg (g2 := (7, [(2, .int 0), (0, .ref 98), (1, .int a)], [.int a, .int 0], (q_cX q_AX (q_uI q_IX 34 3 0) q_J0, 40, 26520))) 3 (fun _ _ => rfl) ?_
      refine q_Ru_call (v := (some (.int 2))) (h2 := (q_cX q_AX (q_uI q_IX 34 3 0) q_J0, 40, 26520)) rfl rfl ?_ ?_
      · refine q_Ca_of (Nat.le_of_ble_eq_true rfl) ?_
        refine q_Ru_seg (g2 := (3, [(1, .int 1), (0, .int a)], [.int a], (q_cX q_AX (q_uI q_IX 34 3 0) q_J0, 40, 26520))) 3 (fun _ _ => rfl) ?_
        refine q_Ru_rsF (g2 := (6, [(1, .int 1), (0, .int a)], [], (q_cX q_AX (q_uI q_IX 34 3 0) q_J0, 40, 26520))) rfl rfl h171 ?_
        refine q_Ru_seg (g2 := (24, [(3, .int 1), (2, .int (-10)), (0, .int (-a)), (1, .int 0)], [.int (-10), .int (-a)], (q_cX q_AX (q_uI q_IX 34 3 0) q_J0, 40, 26520))) 14 (fun _ _ => rfl) ?_
        refine q_Ru_rsT (g2 := (31, [(3, .int 1), (2, .int (-10)), (0, .int (-a)), (1, .int 0)], [], (q_cX q_AX (q_uI q_IX 34 3 0) q_J0, 40, 26520))) rfl rfl (q_d_geF h173) ?_
        refine q_Ru_seg (g2 := (24, [(3, .int 2), (2, .int (-100)), (0, .int (-a)), (1, .int 0)], [.int (-100), .int (-a)], (q_cX q_AX (q_uI q_IX 34 3 0) q_J0, 40, 26520))) 11 (fun _ _ => rfl) ?_
        refine q_Ru_rsF (g2 := (27, [(3, .int 2), (2, .int (-100)), (0, .int (-a)), (1, .int 0)], [], (q_cX q_AX (q_uI q_IX 34 3 0) q_J0, 40, 26520))) rfl rfl (q_d_geT h174) ?_
        refine q_Ru_seg (g2 := (30, [(3, .int 2), (2, .int (-100)), (0, .int (-a)), (1, .int 0)], [.int 2], (q_cX q_AX (q_uI q_IX 34 3 0) q_J0, 40, 26520))) 3 (fun _ _ => rfl) ?_
        exact q_Ru_ret rfl rfl
      show q_Ru _ _ _ (10, [(2, .int 0), (0, .ref 98), (1, .int a)], [.int 2, .int 0], (q_cX q_AX (q_uI q_IX 34 3 0) q_J0, 40, 26520)) _
      refine q_Ru_seg (g2 := (14, [(3, .int 2), (2, .int 0), (0, .ref 98), (1, .int a)], [.int 2, .ref 98], (q_cX q_AX (q_uI q_IX 34 3 0) q_J0, 40, 26520))) 4 (fun _ _ => rfl) ?_
      refine q_Ru_call (v := none) (h2 := (q_cX q_AX (q_uI q_IX 34 3 0) q_J0, 40, 26520)) rfl rfl ?_ ?_
      · refine q_Ca_of (Nat.le_of_ble_eq_true rfl) ?_
        refine q_Ru_seg (g2 := (9, [(0, .ref 98), (1, .int 2)], [.int 0, .int 16], (q_cX q_AX (q_uI q_IX 34 3 0) q_J0, 40, 26520))) 5 (fun _ _ => rfl) ?_
        refine q_Ru_seg (g2 := (38, [(2, .int 16), (0, .ref 98), (1, .int 2)], [], (q_cX q_AX (q_uI q_IX 34 3 0) q_J0, 40, 26520))) 6 (fun _ _ => rfl) ?_
        exact q_Ru_ret rfl rfl
      show q_Ru _ _ _ (17, [(3, .int 2), (2, .int 0), (0, .ref 98), (1, .int a)], [], (q_cX q_AX (q_uI q_IX 34 3 0) q_J0, 40, 26520)) _
      refine q_Ru_seg (g2 := (18, [(3, .int 2), (2, .int 0), (0, .ref 98), (1, .int a)], [.ref 98], (q_cX q_AX (q_uI q_IX 34 3 0) q_J0, 40, 26520))) 1 (fun _ _ => rfl) ?_
      refine q_Ru_call (v := (some (.int 1))) (h2 := (q_cX q_AX (q_uI q_IX 34 3 0) q_J0, 40, 26520)) rfl rfl ?_ ?_
      · refine q_Ca_of (Nat.le_of_ble_eq_true rfl) ?_
        refine q_Ru_seg (g2 := (10, [(0, .ref 98)], [.int 0], (q_cX q_AX (q_uI q_IX 34 3 0) q_J0, 40, 26520))) 4 (fun _ _ => rfl) ?_
        refine q_Ru_seg (g2 := (18, [(0, .ref 98)], [.int 1], (q_cX q_AX (q_uI q_IX 34 3 0) q_J0, 40, 26520))) 3 (fun _ _ => rfl) ?_
        exact q_Ru_ret rfl rfl
      show q_Ru _ _ _ (21, [(3, .int 2), (2, .int 0), (0, .ref 98), (1, .int a)], [.int 1], (q_cX q_AX (q_uI q_IX 34 3 0) q_J0, 40, 26520)) _
      refine q_Ru_seg (g2 := (30, [(3, .int 2), (2, .int 0), (0, .ref 98), (1, .int a)], [.ref 99, .int 2, .int a], (q_cX q_AX (q_uI q_IX 34 3 0) q_J0, 40, 26520))) 5 (fun _ _ => rfl) ?_
      refine q_Ru_call (v := (some (.int 0))) (h2 := (q_cX (q_uA q_AX 35 (upd (upd (fun _ => 0) 1 (vp_nar .byte ((fun j => q_o6.getD j 0) ((-(-a)).toNatClampNeg)))) 0 (vp_nar .byte ((fun j => q_o7.getD j 0) ((-(-a)).toNatClampNeg))))) (q_uI q_IX 34 3 0) q_J0, 40, 26520)) rfl rfl ?_ ?_
      · refine q_Ca_of (Nat.le_of_ble_eq_true rfl) ?_
        refine q_Ru_seg (g2 := (4, [(5, .int 2), (0, .int a), (1, .int 2), (2, .ref 99)], [.int a], (q_cX q_AX (q_uI q_IX 34 3 0) q_J0, 40, 26520))) 3 (fun _ _ => rfl) ?_
        refine q_Ru_rsT (g2 := (11, [(5, .int 2), (0, .int a), (1, .int 2), (2, .ref 99)], [], (q_cX q_AX (q_uI q_IX 34 3 0) q_J0, 40, 26520))) rfl rfl (q_d_geF h171) ?_
        refine q_Ru_seg (g2 := (25, [(0, .int (-a)), (6, .int 0), (5, .int 2), (1, .int 2), (2, .ref 99)], [.int (-100), .int (-a)], (q_cX q_AX (q_uI q_IX 34 3 0) q_J0, 40, 26520))) 9 (fun _ _ => rfl) ?_
        refine q_Ru_rsT (g2 := (72, [(0, .int (-a)), (6, .int 0), (5, .int 2), (1, .int 2), (2, .ref 99)], [], (q_cX q_AX (q_uI q_IX 34 3 0) q_J0, 40, 26520))) rfl rfl h174 ?_
        refine q_Ru_seg (g2 := (83, [(5, .int 1), (0, .int (-a)), (6, .int 0), (1, .int 2), (2, .ref 99)], [.int (-(-a)), .ref 6, .int 1, .ref 99], (q_cX q_AX (q_uI q_IX 34 3 0) q_J0, 40, 26520))) 6 (fun _ _ => rfl) ?_
        refine q_Ru_rsT (g2 := (84, [(5, .int 1), (0, .int (-a)), (6, .int 0), (1, .int 2), (2, .ref 99)], [.int ((fun j => q_o6.getD j 0) ((-(-a)).toNatClampNeg)), .int 1, .ref 99], (q_cX q_AX (q_uI q_IX 34 3 0) q_J0, 40, 26520))) rfl rfl (q_tbl1 (fun a => q_in (-(-a)) 100) (l := 10) (n := 89) (by decide +kernel) hl_a hu_a) ?_
        generalize ((fun j => q_o6.getD j 0) ((-(-a)).toNatClampNeg)) = y60
        refine q_Ru_seg (g2 := (88, [(5, .int 1), (0, .int (-a)), (6, .int 0), (1, .int 2), (2, .ref 99)], [.int (-9), .int (-a)], (q_cX (q_uA q_AX 35 (upd (fun _ => 0) 1 (vp_nar .byte y60))) (q_uI q_IX 34 3 0) q_J0, 40, 26520))) 3 (fun _ _ => rfl) ?_
        refine q_Ru_rsF (g2 := (91, [(5, .int 1), (0, .int (-a)), (6, .int 0), (1, .int 2), (2, .ref 99)], [], (q_cX (q_uA q_AX 35 (upd (fun _ => 0) 1 (vp_nar .byte y60))) (q_uI q_IX 34 3 0) q_J0, 40, 26520))) rfl rfl (q_d_geT h175) ?_
        refine q_Ru_seg (g2 := (102, [(5, .int 0), (0, .int (-a)), (6, .int 0), (1, .int 2), (2, .ref 99)], [.int (-(-a)), .ref 7, .int 0, .ref 99], (q_cX (q_uA q_AX 35 (upd (fun _ => 0) 1 (vp_nar .byte y60))) (q_uI q_IX 34 3 0) q_J0, 40, 26520))) 6 (fun _ _ => rfl) ?_
        refine q_Ru_rsT (g2 := (103, [(5, .int 0), (0, .int (-a)), (6, .int 0), (1, .int 2), (2, .ref 99)], [.int ((fun j => q_o7.getD j 0) ((-(-a)).toNatClampNeg)), .int 0, .ref 99], (q_cX (q_uA q_AX 35 (upd (fun _ => 0) 1 (vp_nar .byte y60))) (q_uI q_IX 34 3 0) q_J0, 40, 26520))) rfl rfl (q_tbl1 (fun a => q_in (-(-a)) 100) (l := 10) (n := 89) (by decide +kernel) hl_a hu_a) ?_
        generalize ((fun j => q_o7.getD j 0) ((-(-a)).toNatClampNeg)) = y61
        refine q_Ru_seg (g2 := (120, [(5, .int 0), (0, .int (-a)), (6, .int 0), (1, .int 2), (2, .ref 99)], [.int 0], (q_cX (q_uA q_AX 35 (upd (upd (fun _ => 0) 1 (vp_nar .byte y60)) 0 (vp_nar .byte y61))) (q_uI q_IX 34 3 0) q_J0, 40, 26520))) 4 (fun _ _ => rfl) ?_
        exact q_Ru_ret rfl rfl
      show q_Ru _ _ _ (33, [(3, .int 2), (2, .int 0), (0, .ref 98), (1, .int a)], [.int 0], (q_cX (q_uA q_AX 35 (upd (upd (fun _ => 0) 1 (vp_nar .byte ((fun j => q_o6.getD j 0) ((-(-a)).toNatClampNeg)))) 0 (vp_nar .byte ((fun j => q_o7.getD j 0) ((-(-a)).toNatClampNeg))))) (q_uI q_IX 34 3 0) q_J0, 40, 26520)) _
      generalize (upd (upd (fun _ => 0) 1 (vp_nar .byte ((fun j => q_o6.getD j 0) ((-(-a)).toNatClampNeg)))) 0 (vp_nar .byte ((fun j => q_o7.getD j 0) ((-(-a)).toNatClampNeg)))) = w62
      refine q_Ru_seg (g2 := (54, [(3, .int 2), (2, .int 0), (0, .ref 98), (1, .int a)], [.ref 98], (q_cX (q_uA q_AX 35 w62) (q_uI q_IX 34 3 2) q_J0, 40, 26520))) 6 (fun _ _ => rfl) ?_
      exact q_Ru_ret rfl rfl
    show q_Ru _ _ _ (5, [(0, .ref 98), (1, .int a)], [.ref 98], (q_cX (q_uA q_AX 35 (upd (upd (fun _ => 0) 1 (vp_nar .byte ((fun j => q_o6.getD j 0) ((-(-a)).toNatClampNeg)))) 0 (vp_nar .byte ((fun j => q_o7.getD j 0) ((-(-a)).toNatClampNeg))))) (q_uI q_IX 34 3 2) q_J0, 40, 26520)) _
    generalize (upd (upd (fun _ => 0) 1 (vp_nar .byte ((fun j => q_o6.getD j 0) ((-(-a)).toNatClampNeg)))) 0 (vp_nar .byte ((fun j => q_o7.getD j 0) ((-(-a)).toNatClampNeg)))) = w63
    refine q_Ru_seg (g2 := (7, [(0, .ref 98), (1, .int a)], [.ref 98], (q_cX (q_uA q_AX 35 w63) (q_uI q_IX 34 3 2) q_J0, 40, 26520))) 2 (fun _ _ => rfl) ?_
    exact q_Ru_ret rfl rfl
  show q_Ru _ _ _ (35, [(5, .int 0), (4, .int 2), (3, .int 0), (0, .ref 98), (1, .ref 66), (2, .int a)], [.ref 98], (q_cX (q_uA q_AX 35 (upd (upd (fun _ => 0) 1 (vp_nar .byte ((fun j => q_o6.getD j 0) ((-(-a)).toNatClampNeg)))) 0 (vp_nar .byte ((fun j => q_o7.getD j 0) ((-(-a)).toNatClampNeg))))) (q_uI q_IX 34 3 2) q_J0, 40, 26520)) _
  generalize (upd (upd (fun _ => 0) 1 (vp_nar .byte ((fun j => q_o6.getD j 0) ((-(-a)).toNatClampNeg)))) 0 (vp_nar .byte ((fun j => q_o7.getD j 0) ((-(-a)).toNatClampNeg)))) = w64
  refine q_Ru_seg (g2 := (39, [(5, .int 0), (4, .int 2), (3, .int 0), (0, .ref 98), (1, .ref 66), (2, .int a)], [.int 32, .ref 98], (q_cX (q_uA q_AX 35 w64) (q_uI q_IX 34 3 2) q_J0, 40, 26520))) 3 (fun _ _ => rfl) ?_
  refine q_Ru_call (v := (some (.ref 98))) (h2 := (q_cX (q_uA q_AX 35 (upd w64 2 32)) (q_uI q_IX 34 3 3) q_J0, 40, 26520)) rfl rfl ?_ ?_
  · refine q_Ca_of (Nat.le_of_ble_eq_true rfl) ?_
    refine q_Ru_seg (g2 := (2, [(0, .ref 98), (1, .int 32)], [.int 32, .ref 98], (q_cX (q_uA q_AX 35 w64) (q_uI q_IX 34 3 2) q_J0, 40, 26520))) 2 (fun _ _ => rfl) ?_
    refine q_Ru_call (v := (some (.ref 98))) (h2 := (q_cX (q_uA q_AX 35 (upd w64 2 32)) (q_uI q_IX 34 3 3) q_J0, 40, 26520)) rfl rfl ?_ ?_
    · refine q_Ca_of (Nat.le_of_ble_eq_true rfl) ?_
      refine q_Ru_seg (g2 := (5, [(0, .ref 98), (1, .int 32)], [.int 2, .ref 98], (q_cX (q_uA q_AX 35 w64) (q_uI q_IX 34 3 2) q_J0, 40, 26520))) 3 (fun _ _ => rfl) ?_
      refine q_Ru_seg (g2 := (7, [(0, .ref 98), (1, .int 32)], [.int 3, .ref 98], (q_cX (q_uA q_AX 35 w64) (q_uI q_IX 34 3 2) q_J0, 40, 26520))) 2 (fun _ _ => rfl) ?_
      refine q_Ru_call (v := none) (h2 := (q_cX (q_uA q_AX 35 w64) (q_uI q_IX 34 3 2) q_J0, 40, 26520)) rfl rfl ?_ ?_
      · refine q_Ca_of (Nat.le_of_ble_eq_true rfl) ?_
        refine q_Ru_seg (g2 := (9, [(0, .ref 98), (1, .int 3)], [.int 0, .int 16], (q_cX (q_uA q_AX 35 w64) (q_uI q_IX 34 3 2) q_J0, 40, 26520))) 5 (fun _ _ => rfl) ?_
        refine q_Ru_seg (g2 := (38, [(2, .int 16), (0, .ref 98), (1, .int 3)], [], (q_cX (q_uA q_AX 35 w64) (q_uI q_IX 34 3 2) q_J0, 40, 26520))) 6 (fun _ _ => rfl) ?_
        exact q_Ru_ret rfl rfl
      show q_Ru _ _ _ (10, [(0, .ref 98), (1, .int 32)], [], (q_cX (q_uA q_AX 35 w64) (q_uI q_IX 34 3 2) q_J0, 40, 26520)) _
      refine q_Ru_seg (g2 := (11, [(0, .ref 98), (1, .int 32)], [.ref 98], (q_cX (q_uA q_AX 35 w64) (q_uI q_IX 34 3 2) q_J0, 40, 26520))) 1 (fun _ _ => rfl) ?_
      refine q_Ru_call (v := (some (.int 1))) (h2 := (q_cX (q_uA q_AX 35 w64) (q_uI q_IX 34 3 2) q_J0, 40, 26520)) rfl rfl ?_ ?_
      · refine q_Ca_of (Nat.le_of_ble_eq_true rfl) ?_
        refine q_Ru_seg (g2 := (10, [(0, .ref 98)], [.int 0], (q_cX (q_uA q_AX 35 w64) (q_uI q_IX 34 3 2) q_J0, 40, 26520))) 4 (fun _ _ => rfl) ?_
        refine q_Ru_seg (g2 := (18, [(0, .ref 98)], [.int 1], (q_cX (q_uA q_AX 35 w64) (q_uI q_IX 34 3 2) q_J0, 40, 26520))) 3 (fun _ _ => rfl) ?_
        exact q_Ru_ret rfl rfl
      show q_Ru _ _ _ (14, [(0, .ref 98), (1, .int 32)], [.int 1], (q_cX (q_uA q_AX 35 w64) (q_uI q_IX 34 3 2) q_J0, 40, 26520)) _
      refine q_Ru_seg (g2 := (18, [(0, .ref 98), (1, .int 32)], [.int 32], (q_cX (q_uA q_AX 35 w64) (q_uI q_IX 34 3 2) q_J0, 40, 26520))) 2 (fun _ _ => rfl) ?_
      refine q_Ru_call (v := (some (.int 1))) (h2 := (q_cX (q_uA q_AX 35 w64) (q_uI q_IX 34 3 2) q_J0, 40, 26520)) rfl rfl ?_ ?_
      · refine q_Ca_of (Nat.le_of_ble_eq_true rfl) ?_
        refine q_Ru_seg (g2 := (12, [(0, .int 32)], [.int 1], (q_cX (q_uA q_AX 35 w64) (q_uI q_IX 34 3 2) q_J0, 40, 26520))) 5 (fun _ _ => rfl) ?_
        exact q_Ru_ret rfl rfl
      show q_Ru _ _ _ (21, [(0, .ref 98), (1, .int 32)], [.int 1], (q_cX (q_uA q_AX 35 w64) (q_uI q_IX 34 3 2) q_J0, 40, 26520)) _
      refine q_Ru_seg (g2 := (33, [(0, .ref 98), (1, .int 32)], [.int 2, .ref 98, .ref 99], (q_cX (q_uA q_AX 35 w64) (q_uI q_IX 34 3 2) q_J0, 40, 26520))) 6 (fun _ _ => rfl) ?_
      refine q_Ru_seg (g2 := (76, [(0, .ref 98), (1, .int 32)], [.ref 98], (q_cX (q_uA q_AX 35 (upd w64 2 32)) (q_uI q_IX 34 3 3) q_J0, 40, 26520))) 9 (fun _ _ => rfl) ?_
      exact q_Ru_ret rfl rfl
    show q_Ru _ _ _ (5, [(0, .ref 98), (1, .int 32)], [.ref 98], (q_cX (q_uA q_AX 35 (upd w64 2 32)) (q_uI q_IX 34 3 3) q_J0, 40, 26520)) _
    refine q_Ru_seg (g2 := (7, [(0, .ref 98), (1, .int 32)], [.ref 98], (q_cX (q_uA q_AX 35 (upd w64 2 32)) (q_uI q_IX 34 3 3) q_J0, 40, 26520))) 2 (fun _ _ => rfl) ?_
    exact q_Ru_ret rfl rfl
  show q_Ru _ _ _ (42, [(5, .int 0), (4, .int 2), (3, .int 0), (0, .ref 98), (1, .ref 66), (2, .int a)], [.ref 98], (q_cX (q_uA q_AX 35 (upd w64 2 32)) (q_uI q_IX 34 3 3) q_J0, 40, 26520)) _
  exact q_Ru_le (Nat.le_of_ble_eq_true rfl) (q_xc56 L xs a hl_a hu_a w64)
set_option maxHeartbeats 20000000 in
theorem q_xc58 (L : Nat) (xs : Nat → Int32) (a : Int32) (hl_a : 10 ≤ a.toInt) (hu_a : a.toInt ≤ 99) (h171 : decide (a < 0) = false) (h173 : decide ((-10) < -a) = false) (h174 : decide ((-100) < -a) = true) (h175 : decide (-a < (-9)) = true) : q_Ru (q_TBs 98 L xs) 6 34 (4, [(0, .ref 64), (1, .int a)], [], (q_cX q_AX q_IX q_J0, 40, 26520)) (.inl (some (.int 9)), (q_cX (q_uA q_AX 35 (upd (upd (upd (upd (upd (upd (upd (upd (upd (fun _ => 0) 1 (vp_nar .byte ((fun j => q_o6.getD j 0) ((-(-a)).toNatClampNeg)))) 0 (vp_nar .byte ((fun j => q_o7.getD j 0) ((-(-a)).toNatClampNeg)))) 2 32) 3 108) 4 100) 5 97) 6 32) 7 35) 8 48)) (q_uI q_IX 34 3 9) q_J0, 40, 26520)) := by
  refine q_Ru_seg (g2 := (16, [(0, .ref 64), (1, .int a)], [.int a, .ref 66, .ref 98], (q_cX q_AX q_IX q_J0, 40, 26520))) 6 (fun _ _ => rfl) ?_
  refine q_Ru_call (v := none) (h2 := (q_cX (q_uA q_AX 35 (upd (upd (upd (upd (upd (upd (upd (upd (upd (fun _ => 0) 1 (vp_nar .byte ((fun j => q_o6.getD j 0) ((-(-a)).toNatClampNeg)))) 0 (vp_nar .byte ((fun j => q_o7.getD j 0) ((-(-a)).toNatClampNeg)))) 2 32) 3 108) 4 100) 5 97) 6 32) 7 35) 8 48)) (q_uI q_IX 34 3 9) q_J0, 40, 26520)) rfl rfl ?_ ?_
  · refine q_Ca_of (Nat.le_of_ble_eq_true rfl) ?_
    refine q_Ru_seg (g2 := (2, [(0, .ref 98), (1, .ref 66), (2, .int a)], [.int a, .ref 66], (q_cX q_AX q_IX q_J0, 40, 26520))) 2 (fun _ _ => rfl) ?_
    refine q_Ru_call (v := (some (.int 0))) (h2 := (q_cX q_AX q_IX q_J0, 40, 26520)) rfl rfl ?_ ?_
    · exact ((q_p_read0 a (Int.le_trans (by decide) hl_a) (Int.le_trans hu_a (by decide))).le (Nat.le_of_ble_eq_true rfl)).tb q_TB0_le
    show q_Ru _ _ _ (5, [(0, .ref 98), (1, .ref 66), (2, .int a)], [.int 0], (q_cX q_AX q_IX q_J0, 40, 26520)) _
    refine q_Ru_seg (g2 := (7, [(3, .int 0), (0, .ref 98), (1, .ref 66), (2, .int a)], [.int 0], (q_cX q_AX q_IX q_J0, 40, 26520))) 2 (fun _ _ => rfl) ?_
    refine q_Ru_call (v := (some (.int 2))) (h2 := (q_cX q_AX q_IX q_J0, 40, 26520)) rfl rfl ?_ ?_
    · refine q_Ca_of (Nat.le_of_ble_eq_true rfl) ?_
      refine q_Ru_seg (g2 := (1, [(0, .int 0)], [.int 0], (q_cX q_AX q_IX q_J0, 40, 26520))) 1 (fun _ _ => rfl) ?_
      refine q_Ru_call (v := (some (.int 0))) (h2 := (q_cX q_AX q_IX q_J0, 40, 26520)) rfl rfl ?_ ?_
      · refine q_Ca_of (Nat.le_of_ble_eq_true rfl) ?_
        refine q_Ru_seg (g2 := (11, [(0, .int 0)], [.int 0], (q_cX q_AX q_IX q_J0, 40, 26520))) 6 (fun _ _ => rfl) ?_
        exact q_Ru_ret rfl rfl
      show q_Ru _ _ _ (4, [(0, .int 0)], [.int 0], (q_cX q_AX q_IX q_J0, 40, 26520)) _
      refine q_Ru_seg (g2 := (27, [(1, .int 0), (0, .int 0)], [.int 2], (q_cX q_AX q_IX q_J0, 40, 26520))) 9 (fun _ _ => rfl) ?_
      exact q_Ru_ret rfl rfl
    show q_Ru _ _ _ (10, [(3, .int 0), (0, .ref 98), (1, .ref 66), (2, .int a)], [.int 2], (q_cX q_AX q_IX q_J0, 40, 26520)) _
    refine q_Ru_seg (g2 := (20, [(4, .int 2), (3, .int 0), (0, .ref 98), (1, .ref 66), (2, .int a)], [.int ((a + 1) &&& 4095), .ref 66], (q_cX q_AX q_IX q_J0, 40, 26520))) 7 (fun _ _ => rfl) ?_
    refine q_Ru_call (v := (some (.int 0))) (h2 := (q_cX q_AX q_IX q_J0, 40, 26520)) rfl rfl ?_ ?_
    · exact ((q_p_read0 ((a + 1) &&& 4095) (q_and_lo (a + 1) 4095) (q_and_hi (a + 1) 4095 4095)).le (Nat.le_of_ble_eq_true rfl)).tb q_TB0_le
    show q_Ru _ _ _ (23, [(4, .int 2), (3, .int 0), (0, .ref 98), (1, .ref 66), (2, .int a)], [.int 0], (q_cX q_AX q_IX q_J0, 40, 26520)) _
    refine q_Ru_seg (g2 := (27, [(5, .int 0), (4, .int 2), (3, .int 0), (0, .ref 98), (1, .ref 66), (2, .int a)], [.int 0, .ref 98], (q_cX q_AX q_IX q_J0, 40, 26520))) 3 (fun _ _ => rfl) ?_
    refine q_Ru_call (v := none) (h2 := (q_cX q_AX (q_uI q_IX 34 3 0) q_J0, 40, 26520)) rfl rfl ?_ ?_
    · refine q_Ca_of (Nat.le_of_ble_eq_true rfl) ?_
      refine q_Ru_seg (g2 := (2, [(0, .ref 98), (1, .int 0)], [.int 0, .ref 98], (q_cX q_AX q_IX q_J0, 40, 26520))) 2 (fun _ _ => rfl) ?_
      refine q_Ru_call (v := none) (h2 := (q_cX q_AX (q_uI q_IX 34 3 0) q_J0, 40, 26520)) rfl rfl ?_ ?_
      · refine q_Ca_of (Nat.le_of_ble_eq_true rfl) ?_
        refine q_Ru_seg (g2 := (15, [(0, .ref 98), (1, .int 0)], [.int 0, .ref 98], (q_cX q_AX q_IX q_J0, 40, 26520))) 4 (fun _ _ => rfl) ?_
        refine q_Ru_call (v := none) (h2 := (q_cX q_AX q_IX q_J0, 40, 26520)) rfl rfl ?_ ?_
        · refine q_Ca_of (Nat.le_of_ble_eq_true rfl) ?_
          refine q_Ru_seg (g2 := (9, [(0, .ref 98), (1, .int 0)], [.int 0, .int 16], (q_cX q_AX q_IX q_J0, 40, 26520))) 5 (fun _ _ => rfl) ?_
          refine q_Ru_seg (g2 := (38, [(2, .int 16), (0, .ref 98), (1, .int 0)], [], (q_cX q_AX q_IX q_J0, 40, 26520))) 6 (fun _ _ => rfl) ?_
          exact q_Ru_ret rfl rfl
        show q_Ru _ _ _ (18, [(0, .ref 98), (1, .int 0)], [], (q_cX q_AX q_IX q_J0, 40, 26520)) _
        refine q_Ru_seg (g2 := (22, [(0, .ref 98), (1, .int 0)], [.int 0], (q_cX q_AX q_IX q_J0, 40, 26520))) 2 (fun _ _ => rfl) ?_
        refine q_Ru_seg (g2 := (67, [(0, .ref 98), (1, .int 0)], [.int 0], (q_cX q_AX q_IX q_J0, 40, 26520))) 4 (fun _ _ => rfl) ?_
        refine q_Ru_seg (g2 := (81, [(0, .ref 98), (1, .int 0)], [], (q_cX q_AX (q_uI q_IX 34 3 0) q_J0, 40, 26520))) 5 (fun _ _ => rfl) ?_
        exact q_Ru_ret rfl rfl
      show q_Ru _ _ _ (5, [(0, .ref 98), (1, .int 0)], [], (q_cX q_AX (q_uI q_IX 34 3 0) q_J0, 40, 26520)) _
      exact q_Ru_ret rfl rfl
    show q_Ru _ _ _ (30, [(5, .int 0), (4, .int 2), (3, .int 0), (0, .ref 98), (1, .ref 66), (2, .int a)], [], (q_cX q_AX (q_uI q_IX 34 3 0) q_J0, 40, 26520)) _
    exact q_Ru_le (Nat.le_of_ble_eq_true rfl) (q_xc57 L xs a hl_a hu_a h171 h173 h174 h175)
  show q_Ru _ _ _ (19, [(0, .ref 64), (1, .int a)], [], (q_cX (q_uA q_AX 35 (upd (upd (upd (upd (upd (upd (upd (upd (upd (fun _ => 0) 1 (vp_nar .byte ((fun j => q_o6.getD j 0) ((-(-a)).toNatClampNeg)))) 0 (vp_nar .byte ((fun j => q_o7.getD j 0) ((-(-a)).toNatClampNeg)))) 2 32) 3 108) 4 100) 5 97) 6 32) 7 35) 8 48)) (q_uI q_IX 34 3 9) q_J0, 40, 26520)) _
  generalize (upd (upd (upd (upd (upd (upd (upd (upd (upd (fun _ => 0) 1 (vp_nar .byte ((fun j => q_o6.getD j 0) ((-(-a)).toNatClampNeg)))) 0 (vp_nar .byte ((fun j => q_o7.getD j 0) ((-(-a)).toNatClampNeg)))) 2 32) 3 108) 4 100) 5 97) 6 32) 7 35) 8 48) = w68
  refine q_Ru_seg (g2 := (23, [(0, .ref 64), (1, .int a)], [.ref 98], (q_cX (q_uA q_AX 35 w68) (q_uI q_IX 34 3 9) q_J0, 40, 26520))) 2 (fun _ _ => rfl) ?_
  refine q_Ru_call (v := (some (.int 9))) (h2 := (q_cX (q_uA q_AX 35 w68) (q_uI q_IX 34 3 9) q_J0, 40, 26520)) rfl rfl ?_ ?_
  · refine q_Ca_of (Nat.le_of_ble_eq_true rfl) ?_
    refine q_Ru_seg (g2 := (1, [(0, .ref 98)], [.ref 98], (q_cX (q_uA q_AX 35 w68) (q_uI q_IX 34 3 9) q_J0, 40, 26520))) 1 (fun _ _ => rfl) ?_
    refine q_Ru_call (v := (some (.int 9))) (h2 := (q_cX (q_uA q_AX 35 w68) (q_uI q_IX 34 3 9) q_J0, 40, 26520)) rfl rfl ?_ ?_
    · refine q_Ca_of (Nat.le_of_ble_eq_true rfl) ?_
      refine q_Ru_seg (g2 := (4, [(0, .ref 98)], [.int 9], (q_cX (q_uA q_AX 35 w68) (q_uI q_IX 34 3 9) q_J0, 40, 26520))) 2 (fun _ _ => rfl) ?_
      exact q_Ru_ret rfl rfl
    show q_Ru _ _ _ (4, [(0, .ref 98)], [.int 9], (q_cX (q_uA q_AX 35 w68) (q_uI q_IX 34 3 9) q_J0, 40, 26520)) _
    exact q_Ru_ret rfl rfl
  show q_Ru _ _ _ (26, [(0, .ref 64), (1, .int a)], [.int 9], (q_cX (q_uA q_AX 35 w68) (q_uI q_IX 34 3 9) q_J0, 40, 26520)) _
  exact q_Ru_ret rfl rfl
set_option maxHeartbeats 20000000 in
theorem q_xc59 (L : Nat) (xs : Nat → Int32) (a : Int32) (hl_a : 10 ≤ a.toInt) (hu_a : a.toInt ≤ 99) (f13 : Nat → Int32) (f14 : Nat → Int32) (p14 : q_Ca q_TB0 4 214 [.ref 64, .int ((a + 1) &&& 4095)] (q_cM (q_uA (q_uA q_AM 33 f13) 32 (upd (upd (upd (upd (upd (upd (upd (upd (fun _ => 0) 0 (vp_nar .char ((((48 : Int32) + ((a / 10) - (a / 10) / 10 * 10)).toUInt32 % 65536).toInt32))) 1 (vp_nar .char ((((48 : Int32) + (a - a / 10 * 10)).toUInt32 % 65536).toInt32))) 2 32) 3 108) 4 100) 5 97) 6 32) 7 35)) (q_uI (q_uI q_IM 0 39 0) 0 35 8) q_J0, 34, 31630) (.inl (some (.int 0)), (q_cM (q_uA (q_uA q_AM 33 f14) 32 (upd (upd (upd (upd (upd (upd (upd (upd (fun _ => 0) 0 (vp_nar .char ((((48 : Int32) + ((a / 10) - (a / 10) / 10 * 10)).toUInt32 % 65536).toInt32))) 1 (vp_nar .char ((((48 : Int32) + (a - a / 10 * 10)).toUInt32 % 65536).toInt32))) 2 32) 3 108) 4 100) 5 97) 6 32) 7 35)) (q_uI (q_uI q_IM 0 39 0) 0 35 8) q_J0, 34, 31630))) : q_Ru q_TB0 8 286 (82, [(2, .int 0), (0, .ref 64), (1, .int a)], [.int 0], (q_cM (q_uA (q_uA (q_uA q_AM 33 f13) 32 (fun _ => 0)) 32 (upd (upd (upd (upd (upd (upd (fun _ => 0) 0 (vp_nar .char ((((48 : Int32) + ((a / 10) - (a / 10) / 10 * 10)).toUInt32 % 65536).toInt32))) 1 (vp_nar .char ((((48 : Int32) + (a - a / 10 * 10)).toUInt32 % 65536).toInt32))) 2 32) 3 108) 4 100) 5 97)) (q_uI (q_uI q_IM 0 39 0) 0 35 6) q_J0, 34, 31630)) (.inl (some (.int 9)), (q_cM (q_uA (q_uA (q_uA q_AM 33 f14) 32 (upd (upd (upd (upd (upd (upd (upd (upd (fun _ => 0) 0 (vp_nar .char ((((48 : Int32) + ((a / 10) - (a / 10) / 10 * 10)).toUInt32 % 65536).toInt32))) 1 (vp_nar .char ((((48 : Int32) + (a - a / 10 * 10)).toUInt32 % 65536).toInt32))) 2 32) 3 108) 4 100) 5 97) 6 32) 7 35)) 32 (upd (upd (upd (upd (upd (upd (upd (upd (upd (fun _ => 0) 0 (vp_nar .char ((((48 : Int32) + ((a / 10) - (a / 10) / 10 * 10)).toUInt32 % 65536).toInt32))) 1 (vp_nar .char ((((48 : Int32) + (a - a / 10 * 10)).toUInt32 % 65536).toInt32))) 2 32) 3 108) 4 100) 5 97) 6 32) 7 35) 8 48)) (q_uI (q_uI q_IM 0 39 0) 0 35 9) q_J0, 34, 31630)) := by
  refine q_Ru_seg (g2 := (91, [(2, .int 0), (0, .ref 64), (1, .int a)], [.int a, .int 0, .ref 64], (q_cM (q_uA (q_uA (q_uA q_AM 33 f13) 32 (fun _ => 0)) 32 (upd (upd (upd (upd (upd (upd (fun _ => 0) 0 (vp_nar .char ((((48 : Int32) + ((a / 10) - (a / 10) / 10 * 10)).toUInt32 % 65536).toInt32))) 1 (vp_nar .char ((((48 : Int32) + (a - a / 10 * 10)).toUInt32 % 65536).toInt32))) 2 32) 3 108) 4 100) 5 97)) (q_uI (q_uI q_IM 0 39 0) 0 35 6) q_J0, 34, 31630))) 6 (fun _ _ => rfl) ?_
  refine q_Ru_call (v := none) (h2 := (q_cM (q_uA (q_uA (q_uA q_AM 33 f14) 32 (upd (upd (upd (upd (upd (upd (upd (upd (fun _ => 0) 0 (vp_nar .char ((((48 : Int32) + ((a / 10) - (a / 10) / 10 * 10)).toUInt32 % 65536).toInt32))) 1 (vp_nar .char ((((48 : Int32) + (a - a / 10 * 10)).toUInt32 % 65536).toInt32))) 2 32) 3 108) 4 100) 5 97) 6 32) 7 35)) 32 (upd (upd (upd (upd (upd (upd (upd (upd (upd (fun _ => 0) 0 (vp_nar .char ((((48 : Int32) + ((a / 10) - (a / 10) / 10 * 10)).toUInt32 % 65536).toInt32))) 1 (vp_nar .char ((((48 : Int32) + (a - a / 10 * 10)).toUInt32 % 65536).toInt32))) 2 32) 3 108) 4 100) 5 97) 6 32) 7 35) 8 48)) (q_uI (q_uI q_IM 0 39 0) 0 35 9) q_J0, 34, 31630)) rfl rfl ?_ ?_
  · refine q_Ca_of (Nat.le_of_ble_eq_true rfl) ?_
    refine q_Ru_seg (g2 := (3, [(0, .ref 64), (1, .int 0), (2, .int a)], [.int 32, .ref 64], (q_cM (q_uA (q_uA (q_uA q_AM 33 f13) 32 (fun _ => 0)) 32 (upd (upd (upd (upd (upd (upd (fun _ => 0) 0 (vp_nar .char ((((48 : Int32) + ((a / 10) - (a / 10) / 10 * 10)).toUInt32 % 65536).toInt32))) 1 (vp_nar .char ((((48 : Int32) + (a - a / 10 * 10)).toUInt32 % 65536).toInt32))) 2 32) 3 108) 4 100) 5 97)) (q_uI (q_uI q_IM 0 39 0) 0 35 6) q_J0, 34, 31630))) 2 (fun _ _ => rfl) ?_
    refine q_Ru_call (v := none) (h2 := (q_cM (q_uA (q_uA (q_uA q_AM 33 f13) 32 (fun _ => 0)) 32 (upd (upd (upd (upd (upd (upd (upd (fun _ => 0) 0 (vp_nar .char ((((48 : Int32) + ((a / 10) - (a / 10) / 10 * 10)).toUInt32 % 65536).toInt32))) 1 (vp_nar .char ((((48 : Int32) + (a - a / 10 * 10)).toUInt32 % 65536).toInt32))) 2 32) 3 108) 4 100) 5 97) 6 32)) (q_uI (q_uI q_IM 0 39 0) 0 35 7) q_J0, 34, 31630)) rfl rfl ?_ ?_
    · refine q_Ca_of (Nat.le_of_ble_eq_true rfl) ?_
      refine q_Ru_seg (g2 := (8, [(0, .ref 64), (1, .int 32)], [.int 6, .ref 96], (q_cM (q_uA (q_uA (q_uA q_AM 33 f13) 32 (fun _ => 0)) 32 (upd (upd (upd (upd (upd (upd (fun _ => 0) 0 (vp_nar .char ((((48 : Int32) + ((a / 10) - (a / 10) / 10 * 10)).toUInt32 % 65536).toInt32))) 1 (vp_nar .char ((((48 : Int32) + (a - a / 10 * 10)).toUInt32 % 65536).toInt32))) 2 32) 3 108) 4 100) 5 97)) (q_uI (q_uI q_IM 0 39 0) 0 35 6) q_J0, 34, 31630))) 4 (fun _ _ => rfl) ?_
      refine q_Ru_seg (g2 := (15, [(0, .ref 64), (1, .int 32)], [.int 6, .ref 64], (q_cM (q_uA (q_uA (q_uA q_AM 33 f13) 32 (fun _ => 0)) 32 (upd (upd (upd (upd (upd (upd (upd (fun _ => 0) 0 (vp_nar .char ((((48 : Int32) + ((a / 10) - (a / 10) / 10 * 10)).toUInt32 % 65536).toInt32))) 1 (vp_nar .char ((((48 : Int32) + (a - a / 10 * 10)).toUInt32 % 65536).toInt32))) 2 32) 3 108) 4 100) 5 97) 6 32)) (q_uI (q_uI q_IM 0 39 0) 0 35 6) q_J0, 34, 31630))) 5 (fun _ _ => rfl) ?_
      refine q_Ru_seg (g2 := (20, [(0, .ref 64), (1, .int 32)], [], (q_cM (q_uA (q_uA (q_uA q_AM 33 f13) 32 (fun _ => 0)) 32 (upd (upd (upd (upd (upd (upd (upd (fun _ => 0) 0 (vp_nar .char ((((48 : Int32) + ((a / 10) - (a / 10) / 10 * 10)).toUInt32 % 65536).toInt32))) 1 (vp_nar .char ((((48 : Int32) + (a - a / 10 * 10)).toUInt32 % 65536).toInt32))) 2 32) 3 108) 4 100) 5 97) 6 32)) (q_uI (q_uI q_IM 0 39 0) 0 35 7) q_J0, 34, 31630))) 3 (fun _ _ => rfl) ?_
      exact q_Ru_ret rfl rfl
    show q_Ru _ _ _ (6, [(0, .ref 64), (1, .int 0), (2, .int a)], [], (q_cM (q_uA (q_uA (q_uA q_AM 33 f13) 32 (fun _ => 0)) 32 (upd (upd (upd (upd (upd (upd (upd (fun _ => 0) 0 (vp_nar .char ((((48 : Int32) + ((a / 10) - (a / 10) / 10 * 10)).toUInt32 % 65536).toInt32))) 1 (vp_nar .char ((((48 : Int32) + (a - a / 10 * 10)).toUInt32 % 65536).toInt32))) 2 32) 3 108) 4 100) 5 97) 6 32)) (q_uI (q_uI q_IM 0 39 0) 0 35 7) q_J0, 34, 31630)) _
    refine q_Ru_seg (g2 := (13, [(0, .ref 64), (1, .int 0), (2, .int a)], [.int 35, .ref 64], (q_cM (q_uA (q_uA (q_uA q_AM 33 f13) 32 (fun _ => 0)) 32 (upd (upd (upd (upd (upd (upd (upd (fun _ => 0) 0 (vp_nar .char ((((48 : Int32) + ((a / 10) - (a / 10) / 10 * 10)).toUInt32 % 65536).toInt32))) 1 (vp_nar .char ((((48 : Int32) + (a - a / 10 * 10)).toUInt32 % 65536).toInt32))) 2 32) 3 108) 4 100) 5 97) 6 32)) (q_uI (q_uI q_IM 0 39 0) 0 35 7) q_J0, 34, 31630))) 4 (fun _ _ => rfl) ?_
    refine q_Ru_call (v := none) (h2 := (q_cM (q_uA (q_uA (q_uA q_AM 33 f13) 32 (fun _ => 0)) 32 (upd (upd (upd (upd (upd (upd (upd (upd (fun _ => 0) 0 (vp_nar .char ((((48 : Int32) + ((a / 10) - (a / 10) / 10 * 10)).toUInt32 % 65536).toInt32))) 1 (vp_nar .char ((((48 : Int32) + (a - a / 10 * 10)).toUInt32 % 65536).toInt32))) 2 32) 3 108) 4 100) 5 97) 6 32) 7 35)) (q_uI (q_uI q_IM 0 39 0) 0 35 8) q_J0, 34, 31630)) rfl rfl ?_ ?_
    · refine q_Ca_of (Nat.le_of_ble_eq_true rfl) ?_
      refine q_Ru_seg (g2 := (8, [(0, .ref 64), (1, .int 35)], [.int 7, .ref 96], (q_cM (q_uA (q_uA (q_uA q_AM 33 f13) 32 (fun _ => 0)) 32 (upd (upd (upd (upd (upd (upd (upd (fun _ => 0) 0 (vp_nar .char ((((48 : Int32) + ((a / 10) - (a / 10) / 10 * 10)).toUInt32 % 65536).toInt32))) 1 (vp_nar .char ((((48 : Int32) + (a - a / 10 * 10)).toUInt32 % 65536).toInt32))) 2 32) 3 108) 4 100) 5 97) 6 32)) (q_uI (q_uI q_IM 0 39 0) 0 35 7) q_J0, 34, 31630))) 4 (fun _ _ => rfl) ?_
      refine q_Ru_seg (g2 := (15, [(0, .ref 64), (1, .int 35)], [.int 7, .ref 64], (q_cM (q_uA (q_uA (q_uA q_AM 33 f13) 32 (fun _ => 0)) 32 (upd (upd (upd (upd (upd (upd (upd (upd (fun _ => 0) 0 (vp_nar .char ((((48 : Int32) + ((a / 10) - (a / 10) / 10 * 10)).toUInt32 % 65536).toInt32))) 1 (vp_nar .char ((((48 : Int32) + (a - a / 10 * 10)).toUInt32 % 65536).toInt32))) 2 32) 3 108) 4 100) 5 97) 6 32) 7 35)) (q_uI (q_uI q_IM 0 39 0) 0 35 7) q_J0, 34, 31630))) 5 (fun _ _ => rfl) ?_
      refine q_Ru_seg (g2 := (20, [(0, .ref 64), (1, .int 35)], [], (q_cM (q_uA (q_uA (q_uA q_AM 33 f13) 32 (fun _ => 0)) 32 (upd (upd (upd (upd (upd (upd (upd (upd (fun _ => 0) 0 (vp_nar .char ((((48 : Int32) + ((a / 10) - (a / 10) / 10 * 10)).toUInt32 % 65536).toInt32))) 1 (vp_nar .char ((((48 : Int32) + (a - a / 10 * 10)).toUInt32 % 65536).toInt32))) 2 32) 3 108) 4 100) 5 97) 6 32) 7 35)) (q_uI (q_uI q_IM 0 39 0) 0 35 8) q_J0, 34, 31630))) 3 (fun _ _ => rfl) ?_
      exact q_Ru_ret rfl rfl
    show q_Ru _ _ _ (16, [(0, .ref 64), (1, .int 0), (2, .int a)], [], (q_cM (q_uA (q_uA (q_uA q_AM 33 f13) 32 (fun _ => 0)) 32 (upd (upd (upd (upd (upd (upd (upd (upd (fun _ => 0) 0 (vp_nar .char ((((48 : Int32) + ((a / 10) - (a / 10) / 10 * 10)).toUInt32 % 65536).toInt32))) 1 (vp_nar .char ((((48 : Int32) + (a - a / 10 * 10)).toUInt32 % 65536).toInt32))) 2 32) 3 108) 4 100) 5 97) 6 32) 7 35)) (q_uI (q_uI q_IM 0 39 0) 0 35 8) q_J0, 34, 31630)) _
    refine q_Ru_seg (g2 := (31, [(0, .ref 64), (1, .int 0), (2, .int a)], [.int 5, .int 3, .int 0, .ref 64], (q_cM (q_uA (q_uA (q_uA q_AM 33 f13) 32 (fun _ => 0)) 32 (upd (upd (upd (upd (upd (upd (upd (upd (fun _ => 0) 0 (vp_nar .char ((((48 : Int32) + ((a / 10) - (a / 10) / 10 * 10)).toUInt32 % 65536).toInt32))) 1 (vp_nar .char ((((48 : Int32) + (a - a / 10 * 10)).toUInt32 % 65536).toInt32))) 2 32) 3 108) 4 100) 5 97) 6 32) 7 35)) (q_uI (q_uI q_IM 0 39 0) 0 35 8) q_J0, 34, 31630))) 7 (fun _ _ => rfl) ?_
    refine q_Ru_call (v := (some (.int 0))) (h2 := (q_cM (q_uA (q_uA (q_uA q_AM 33 f13) 32 (fun _ => 0)) 32 (upd (upd (upd (upd (upd (upd (upd (upd (fun _ => 0) 0 (vp_nar .char ((((48 : Int32) + ((a / 10) - (a / 10) / 10 * 10)).toUInt32 % 65536).toInt32))) 1 (vp_nar .char ((((48 : Int32) + (a - a / 10 * 10)).toUInt32 % 65536).toInt32))) 2 32) 3 108) 4 100) 5 97) 6 32) 7 35)) (q_uI (q_uI q_IM 0 39 0) 0 35 8) q_J0, 34, 31630)) rfl rfl ?_ ?_
    · refine q_Ca_of (Nat.le_of_ble_eq_true rfl) ?_
      refine q_Ru_seg (g2 := (15, [(0, .int 0), (1, .int 3), (2, .int 5)], [.int 0], (q_cM (q_uA (q_uA (q_uA q_AM 33 f13) 32 (fun _ => 0)) 32 (upd (upd (upd (upd (upd (upd (upd (upd (fun _ => 0) 0 (vp_nar .char ((((48 : Int32) + ((a / 10) - (a / 10) / 10 * 10)).toUInt32 % 65536).toInt32))) 1 (vp_nar .char ((((48 : Int32) + (a - a / 10 * 10)).toUInt32 % 65536).toInt32))) 2 32) 3 108) 4 100) 5 97) 6 32) 7 35)) (q_uI (q_uI q_IM 0 39 0) 0 35 8) q_J0, 34, 31630))) 4 (fun _ _ => rfl) ?_
      exact q_Ru_ret rfl rfl
    show q_Ru _ _ _ (34, [(0, .ref 64), (1, .int 0), (2, .int a)], [.int 0, .ref 64], (q_cM (q_uA (q_uA (q_uA q_AM 33 f13) 32 (fun _ => 0)) 32 (upd (upd (upd (upd (upd (upd (upd (upd (fun _ => 0) 0 (vp_nar .char ((((48 : Int32) + ((a / 10) - (a / 10) / 10 * 10)).toUInt32 % 65536).toInt32))) 1 (vp_nar .char ((((48 : Int32) + (a - a / 10 * 10)).toUInt32 % 65536).toInt32))) 2 32) 3 108) 4 100) 5 97) 6 32) 7 35)) (q_uI (q_uI q_IM 0 39 0) 0 35 8) q_J0, 34, 31630)) _
    refine q_Ru_seg (g2 := (51, [(0, .ref 64), (1, .int 0), (2, .int a)], [.int (a + 1), .ref 64, .ref 64], (q_cM (q_uA (q_uA (q_uA q_AM 33 f13) 32 (fun _ => 0)) 32 (upd (upd (upd (upd (upd (upd (upd (upd (fun _ => 0) 0 (vp_nar .char ((((48 : Int32) + ((a / 10) - (a / 10) / 10 * 10)).toUInt32 % 65536).toInt32))) 1 (vp_nar .char ((((48 : Int32) + (a - a / 10 * 10)).toUInt32 % 65536).toInt32))) 2 32) 3 108) 4 100) 5 97) 6 32) 7 35)) (q_uI (q_uI q_IM 0 39 0) 0 35 8) q_J0, 34, 31630))) 5 (fun _ _ => rfl) ?_
    refine q_Ru_call (v := (some (.int 0))) (h2 := (q_cM (q_uA (q_uA q_AM 33 f14) 32 (upd (upd (upd (upd (upd (upd (upd (upd (fun _ => 0) 0 (vp_nar .char ((((48 : Int32) + ((a / 10) - (a / 10) / 10 * 10)).toUInt32 % 65536).toInt32))) 1 (vp_nar .char ((((48 : Int32) + (a - a / 10 * 10)).toUInt32 % 65536).toInt32))) 2 32) 3 108) 4 100) 5 97) 6 32) 7 35)) (q_uI (q_uI q_IM 0 39 0) 0 35 8) q_J0, 34, 31630)) rfl rfl ?_ ?_
    · refine q_Ca_of (Nat.le_of_ble_eq_true rfl) ?_
      refine q_Ru_seg (g2 := (2, [(0, .ref 64), (1, .int (a + 1))], [.int (a + 1), .ref 64], (q_cM (q_uA (q_uA (q_uA q_AM 33 f13) 32 (fun _ => 0)) 32 (upd (upd (upd (upd (upd (upd (upd (upd (fun _ => 0) 0 (vp_nar .char ((((48 : Int32) + ((a / 10) - (a / 10) / 10 * 10)).toUInt32 % 65536).toInt32))) 1 (vp_nar .char ((((48 : Int32) + (a - a / 10 * 10)).toUInt32 % 65536).toInt32))) 2 32) 3 108) 4 100) 5 97) 6 32) 7 35)) (q_uI (q_uI q_IM 0 39 0) 0 35 8) q_J0, 34, 31630))) 2 (fun _ _ => rfl) ?_
      refine q_Ru_call (v := (some (.int ((a + 1) &&& 4095)))) (h2 := (q_cM (q_uA (q_uA (q_uA q_AM 33 f13) 32 (fun _ => 0)) 32 (upd (upd (upd (upd (upd (upd (upd (upd (fun _ => 0) 0 (vp_nar .char ((((48 : Int32) + ((a / 10) - (a / 10) / 10 * 10)).toUInt32 % 65536).toInt32))) 1 (vp_nar .char ((((48 : Int32) + (a - a / 10 * 10)).toUInt32 % 65536).toInt32))) 2 32) 3 108) 4 100) 5 97) 6 32) 7 35)) (q_uI (q_uI q_IM 0 39 0) 0 35 8) q_J0, 34, 31630)) rfl rfl ?_ ?_
      · refine q_Ca_of (Nat.le_of_ble_eq_true rfl) ?_
        refine q_Ru_seg (g2 := (5, [(0, .int (a + 1))], [.int ((a + 1) &&& 4095)], (q_cM (q_uA (q_uA (q_uA q_AM 33 f13) 32 (fun _ => 0)) 32 (upd (upd (upd (upd (upd (upd (upd (upd (fun _ => 0) 0 (vp_nar .char ((((48 : Int32) + ((a / 10) - (a / 10) / 10 * 10)).toUInt32 % 65536).toInt32))) 1 (vp_nar .char ((((48 : Int32) + (a - a / 10 * 10)).toUInt32 % 65536).toInt32))) 2 32) 3 108) 4 100) 5 97) 6 32) 7 35)) (q_uI (q_uI q_IM 0 39 0) 0 35 8) q_J0, 34, 31630))) 3 (fun _ _ => rfl) ?_
        exact q_Ru_ret rfl rfl
      show q_Ru _ _ _ (5, [(0, .ref 64), (1, .int (a + 1))], [.int ((a + 1) &&& 4095), .ref 64], (q_cM (q_uA (q_uA (q_uA q_AM 33 f13) 32 (fun _ => 0)) 32 (upd (upd (upd (upd (upd (upd (upd (upd (fun _ => 0) 0 (vp_nar .char ((((48 : Int32) + ((a / 10) - (a / 10) / 10 * 10)).toUInt32 % 65536).toInt32))) 1 (vp_nar .char ((((48 : Int32) + (a - a / 10 * 10)).toUInt32 % 65536).toInt32))) 2 32) 3 108) 4 100) 5 97) 6 32) 7 35)) (q_uI (q_uI q_IM 0 39 0) 0 35 8) q_J0, 34, 31630)) _
      refine q_Ru_call (v := (some (.int 0))) (h2 := (q_cM (q_uA (q_uA q_AM 33 f14) 32 (upd (upd (upd (upd (upd (upd (upd (upd (fun _ => 0) 0 (vp_nar .char ((((48 : Int32) + ((a / 10) - (a / 10) / 10 * 10)).toUInt32 % 65536).toInt32))) 1 (vp_nar .char ((((48 : Int32) + (a - a / 10 * 10)).toUInt32 % 65536).toInt32))) 2 32) 3 108) 4 100) 5 97) 6 32) 7 35)) (q_uI (q_uI q_IM 0 39 0) 0 35 8) q_J0, 34, 31630)) rfl rfl ?_ ?_
      · exact p14.le (Nat.le_of_ble_eq_true rfl)
      show q_Ru _ _ _ (8, [(0, .ref 64), (1, .int (a + 1))], [.int 0], (q_cM (q_uA (q_uA q_AM 33 f14) 32 (upd (upd (upd (upd (upd (upd (upd (upd (fun _ => 0) 0 (vp_nar .char ((((48 : Int32) + ((a / 10) - (a / 10) / 10 * 10)).toUInt32 % 65536).toInt32))) 1 (vp_nar .char ((((48 : Int32) + (a - a / 10 * 10)).toUInt32 % 65536).toInt32))) 2 32) 3 108) 4 100) 5 97) 6 32) 7 35)) (q_uI (q_uI q_IM 0 39 0) 0 35 8) q_J0, 34, 31630)) _
      exact q_Ru_ret rfl rfl
    show q_Ru _ _ _ (54, [(0, .ref 64), (1, .int 0), (2, .int a)], [.int 0, .ref 64], (q_cM (q_uA (q_uA q_AM 33 f14) 32 (upd (upd (upd (upd (upd (upd (upd (upd (fun _ => 0) 0 (vp_nar .char ((((48 : Int32) + ((a / 10) - (a / 10) / 10 * 10)).toUInt32 % 65536).toInt32))) 1 (vp_nar .char ((((48 : Int32) + (a - a / 10 * 10)).toUInt32 % 65536).toInt32))) 2 32) 3 108) 4 100) 5 97) 6 32) 7 35)) (q_uI (q_uI q_IM 0 39 0) 0 35 8) q_J0, 34, 31630)) _
    refine q_Ru_call (v := none) (h2 := (q_cM (q_uA (q_uA (q_uA q_AM 33 f14) 32 (upd (upd (upd (upd (upd (upd (upd (upd (fun _ => 0) 0 (vp_nar .char ((((48 : Int32) + ((a / 10) - (a / 10) / 10 * 10)).toUInt32 % 65536).toInt32))) 1 (vp_nar .char ((((48 : Int32) + (a - a / 10 * 10)).toUInt32 % 65536).toInt32))) 2 32) 3 108) 4 100) 5 97) 6 32) 7 35)) 32 (upd (upd (upd (upd (upd (upd (upd (upd (upd (fun _ => 0) 0 (vp_nar .char ((((48 : Int32) + ((a / 10) - (a / 10) / 10 * 10)).toUInt32 % 65536).toInt32))) 1 (vp_nar .char ((((48 : Int32) + (a - a / 10 * 10)).toUInt32 % 65536).toInt32))) 2 32) 3 108) 4 100) 5 97) 6 32) 7 35) 8 48)) (q_uI (q_uI q_IM 0 39 0) 0 35 9) q_J0, 34, 31630)) rfl rfl ?_ ?_
    · refine q_Ca_of (Nat.le_of_ble_eq_true rfl) ?_
      refine q_Ru_seg (g2 := (23, [(0, .ref 64), (1, .int 0)], [.int 48, .ref 64], (q_cM (q_uA (q_uA q_AM 33 f14) 32 (upd (upd (upd (upd (upd (upd (upd (upd (fun _ => 0) 0 (vp_nar .char ((((48 : Int32) + ((a / 10) - (a / 10) / 10 * 10)).toUInt32 % 65536).toInt32))) 1 (vp_nar .char ((((48 : Int32) + (a - a / 10 * 10)).toUInt32 % 65536).toInt32))) 2 32) 3 108) 4 100) 5 97) 6 32) 7 35)) (q_uI (q_uI q_IM 0 39 0) 0 35 8) q_J0, 34, 31630))) 10 (fun _ _ => rfl) ?_
      refine q_Ru_call (v := none) (h2 := (q_cM (q_uA (q_uA (q_uA q_AM 33 f14) 32 (upd (upd (upd (upd (upd (upd (upd (upd (fun _ => 0) 0 (vp_nar .char ((((48 : Int32) + ((a / 10) - (a / 10) / 10 * 10)).toUInt32 % 65536).toInt32))) 1 (vp_nar .char ((((48 : Int32) + (a - a / 10 * 10)).toUInt32 % 65536).toInt32))) 2 32) 3 108) 4 100) 5 97) 6 32) 7 35)) 32 (upd (upd (upd (upd (upd (upd (upd (upd (upd (fun _ => 0) 0 (vp_nar .char ((((48 : Int32) + ((a / 10) - (a / 10) / 10 * 10)).toUInt32 % 65536).toInt32))) 1 (vp_nar .char ((((48 : Int32) + (a - a / 10 * 10)).toUInt32 % 65536).toInt32))) 2 32) 3 108) 4 100) 5 97) 6 32) 7 35) 8 48)) (q_uI (q_uI q_IM 0 39 0) 0 35 9) q_J0, 34, 31630)) rfl rfl ?_ ?_
      · refine q_Ca_of (Nat.le_of_ble_eq_true rfl) ?_
        refine q_Ru_seg (g2 := (8, [(0, .ref 64), (1, .int 48)], [.int 8, .ref 96], (q_cM (q_uA (q_uA q_AM 33 f14) 32 (upd (upd (upd (upd (upd (upd (upd (upd (fun _ => 0) 0 (vp_nar .char ((((48 : Int32) + ((a / 10) - (a / 10) / 10 * 10)).toUInt32 % 65536).toInt32))) 1 (vp_nar .char ((((48 : Int32) + (a - a / 10 * 10)).toUInt32 % 65536).toInt32))) 2 32) 3 108) 4 100) 5 97) 6 32) 7 35)) (q_uI (q_uI q_IM 0 39 0) 0 35 8) q_J0, 34, 31630))) 4 (fun _ _ => rfl) ?_
        refine q_Ru_seg (g2 := (15, [(0, .ref 64), (1, .int 48)], [.int 8, .ref 64], (q_cM (q_uA (q_uA (q_uA q_AM 33 f14) 32 (upd (upd (upd (upd (upd (upd (upd (upd (fun _ => 0) 0 (vp_nar .char ((((48 : Int32) + ((a / 10) - (a / 10) / 10 * 10)).toUInt32 % 65536).toInt32))) 1 (vp_nar .char ((((48 : Int32) + (a - a / 10 * 10)).toUInt32 % 65536).toInt32))) 2 32) 3 108) 4 100) 5 97) 6 32) 7 35)) 32 (upd (upd (upd (upd (upd (upd (upd (upd (upd (fun _ => 0) 0 (vp_nar .char ((((48 : Int32) + ((a / 10) - (a / 10) / 10 * 10)).toUInt32 % 65536).toInt32))) 1 (vp_nar .char ((((48 : Int32) + (a - a / 10 * 10)).toUInt32 % 65536).toInt32))) 2 32) 3 108) 4 100) 5 97) 6 32) 7 35) 8 48)) (q_uI (q_uI q_IM 0 39 0) 0 35 8) q_J0, 34, 31630))) 5 (fun _ _ => rfl) ?_
        refine q_Ru_seg (g2 := (20, [(0, .ref 64), (1, .int 48)], [], (q_cM (q_uA (q_uA (q_uA q_AM 33 f14) 32 (upd (upd (upd (upd (upd (upd (upd (upd (fun _ => 0) 0 (vp_nar .char ((((48 : Int32) + ((a / 10) - (a / 10) / 10 * 10)).toUInt32 % 65536).toInt32))) 1 (vp_nar .char ((((48 : Int32) + (a - a / 10 * 10)).toUInt32 % 65536).toInt32))) 2 32) 3 108) 4 100) 5 97) 6 32) 7 35)) 32 (upd (upd (upd (upd (upd (upd (upd (upd (upd (fun _ => 0) 0 (vp_nar .char ((((48 : Int32) + ((a / 10) - (a / 10) / 10 * 10)).toUInt32 % 65536).toInt32))) 1 (vp_nar .char ((((48 : Int32) + (a - a / 10 * 10)).toUInt32 % 65536).toInt32))) 2 32) 3 108) 4 100) 5 97) 6 32) 7 35) 8 48)) (q_uI (q_uI q_IM 0 39 0) 0 35 9) q_J0, 34, 31630))) 3 (fun _ _ => rfl) ?_
        exact q_Ru_ret rfl rfl
      show q_Ru _ _ _ (26, [(0, .ref 64), (1, .int 0)], [], (q_cM (q_uA (q_uA (q_uA q_AM 33 f14) 32 (upd (upd (upd (upd (upd (upd (upd (upd (fun _ => 0) 0 (vp_nar .char ((((48 : Int32) + ((a / 10) - (a / 10) / 10 * 10)).toUInt32 % 65536).toInt32))) 1 (vp_nar .char ((((48 : Int32) + (a - a / 10 * 10)).toUInt32 % 65536).toInt32))) 2 32) 3 108) 4 100) 5 97) 6 32) 7 35)) 32 (upd (upd (upd (upd (upd (upd (upd (upd (upd (fun _ => 0) 0 (vp_nar .char ((((48 : Int32) + ((a / 10) - (a / 10) / 10 * 10)).toUInt32 % 65536).toInt32))) 1 (vp_nar .char ((((48 : Int32) + (a - a / 10 * 10)).toUInt32 % 65536).toInt32))) 2 32) 3 108) 4 100) 5 97) 6 32) 7 35) 8 48)) (q_uI (q_uI q_IM 0 39 0) 0 35 9) q_J0, 34, 31630)) _
      exact q_Ru_ret rfl rfl
    show q_Ru _ _ _ (57, [(0, .ref 64), (1, .int 0), (2, .int a)], [], (q_cM (q_uA (q_uA (q_uA q_AM 33 f14) 32 (upd (upd (upd (upd (upd (upd (upd (upd (fun _ => 0) 0 (vp_nar .char ((((48 : Int32) + ((a / 10) - (a / 10) / 10 * 10)).toUInt32 % 65536).toInt32))) 1 (vp_nar .char ((((48 : Int32) + (a - a / 10 * 10)).toUInt32 % 65536).toInt32))) 2 32) 3 108) 4 100) 5 97) 6 32) 7 35)) 32 (upd (upd (upd (upd (upd (upd (upd (upd (upd (fun _ => 0) 0 (vp_nar .char ((((48 : Int32) + ((a / 10) - (a / 10) / 10 * 10)).toUInt32 % 65536).toInt32))) 1 (vp_nar .char ((((48 : Int32) + (a - a / 10 * 10)).toUInt32 % 65536).toInt32))) 2 32) 3 108) 4 100) 5 97) 6 32) 7 35) 8 48)) (q_uI (q_uI q_IM 0 39 0) 0 35 9) q_J0, 34, 31630)) _
    refine q_Ru_seg (g2 := (136, [(0, .ref 64), (1, .int 0), (2, .int a)], [], (q_cM (q_uA (q_uA (q_uA q_AM 33 f14) 32 (upd (upd (upd (upd (upd (upd (upd (upd (fun _ => 0) 0 (vp_nar .char ((((48 : Int32) + ((a / 10) - (a / 10) / 10 * 10)).toUInt32 % 65536).toInt32))) 1 (vp_nar .char ((((48 : Int32) + (a - a / 10 * 10)).toUInt32 % 65536).toInt32))) 2 32) 3 108) 4 100) 5 97) 6 32) 7 35)) 32 (upd (upd (upd (upd (upd (upd (upd (upd (upd (fun _ => 0) 0 (vp_nar .char ((((48 : Int32) + ((a / 10) - (a / 10) / 10 * 10)).toUInt32 % 65536).toInt32))) 1 (vp_nar .char ((((48 : Int32) + (a - a / 10 * 10)).toUInt32 % 65536).toInt32))) 2 32) 3 108) 4 100) 5 97) 6 32) 7 35) 8 48)) (q_uI (q_uI q_IM 0 39 0) 0 35 9) q_J0, 34, 31630))) 27 (fun _ _ => rfl) ?_
    exact q_Ru_ret rfl rfl
  show q_Ru _ _ _ (94, [(2, .int 0), (0, .ref 64), (1, .int a)], [], (q_cM (q_uA (q_uA (q_uA q_AM 33 f14) 32 (upd (upd (upd (upd (upd (upd (upd (upd (fun _ => 0) 0 (vp_nar .char ((((48 : Int32) + ((a / 10) - (a / 10) / 10 * 10)).toUInt32 % 65536).toInt32))) 1 (vp_nar .char ((((48 : Int32) + (a - a / 10 * 10)).toUInt32 % 65536).toInt32))) 2 32) 3 108) 4 100) 5 97) 6 32) 7 35)) 32 (upd (upd (upd (upd (upd (upd (upd (upd (upd (fun _ => 0) 0 (vp_nar .char ((((48 : Int32) + ((a / 10) - (a / 10) / 10 * 10)).toUInt32 % 65536).toInt32))) 1 (vp_nar .char ((((48 : Int32) + (a - a / 10 * 10)).toUInt32 % 65536).toInt32))) 2 32) 3 108) 4 100) 5 97) 6 32) 7 35) 8 48)) (q_uI (q_uI q_IM 0 39 0) 0 35 9) q_J0, 34, 31630)) _
  refine q_Ru_seg (g2 := (107, [(2, .int 0), (0, .ref 64), (1, .int a)], [.int 9], (q_cM (q_uA (q_uA (q_uA q_AM 33 f14) 32 (upd (upd (upd (upd (upd (upd (upd (upd (fun _ => 0) 0 (vp_nar .char ((((48 : Int32) + ((a / 10) - (a / 10) / 10 * 10)).toUInt32 % 65536).toInt32))) 1 (vp_nar .char ((((48 : Int32) + (a - a / 10 * 10)).toUInt32 % 65536).toInt32))) 2 32) 3 108) 4 100) 5 97) 6 32) 7 35)) 32 (upd (upd (upd (upd (upd (upd (upd (upd (upd (fun _ => 0) 0 (vp_nar .char ((((48 : Int32) + ((a / 10) - (a / 10) / 10 * 10)).toUInt32 % 65536).toInt32))) 1 (vp_nar .char ((((48 : Int32) + (a - a / 10 * 10)).toUInt32 % 65536).toInt32))) 2 32) 3 108) 4 100) 5 97) 6 32) 7 35) 8 48)) (q_uI (q_uI q_IM 0 39 0) 0 35 9) q_J0, 34, 31630))) 3 (fun _ _ => rfl) ?_
  exact q_Ru_ret rfl rfl
set_option maxHeartbeats 20000000 in
theorem q_xc60 (L : Nat) (xs : Nat → Int32) (a : Int32) (hl_a : 10 ≤ a.toInt) (hu_a : a.toInt ≤ 99) (f13 : Nat → Int32) (f14 : Nat → Int32) (p14 : q_Ca q_TB0 4 214 [.ref 64, .int ((a + 1) &&& 4095)] (q_cM (q_uA (q_uA q_AM 33 f13) 32 (upd (upd (upd (upd (upd (upd (upd (upd (fun _ => 0) 0 (vp_nar .char ((((48 : Int32) + ((a / 10) - (a / 10) / 10 * 10)).toUInt32 % 65536).toInt32))) 1 (vp_nar .char ((((48 : Int32) + (a - a / 10 * 10)).toUInt32 % 65536).toInt32))) 2 32) 3 108) 4 100) 5 97) 6 32) 7 35)) (q_uI (q_uI q_IM 0 39 0) 0 35 8) q_J0, 34, 31630) (.inl (some (.int 0)), (q_cM (q_uA (q_uA q_AM 33 f14) 32 (upd (upd (upd (upd (upd (upd (upd (upd (fun _ => 0) 0 (vp_nar .char ((((48 : Int32) + ((a / 10) - (a / 10) / 10 * 10)).toUInt32 % 65536).toInt32))) 1 (vp_nar .char ((((48 : Int32) + (a - a / 10 * 10)).toUInt32 % 65536).toInt32))) 2 32) 3 108) 4 100) 5 97) 6 32) 7 35)) (q_uI (q_uI q_IM 0 39 0) 0 35 8) q_J0, 34, 31630))) : q_Ru q_TB0 8 286 (47, [(2, .int 0), (0, .ref 64), (1, .int a)], [.int 0], (q_cM (q_uA (q_uA (q_uA q_AM 33 f13) 32 (fun _ => 0)) 32 (upd (upd (upd (fun _ => 0) 0 (vp_nar .char ((((48 : Int32) + ((a / 10) - (a / 10) / 10 * 10)).toUInt32 % 65536).toInt32))) 1 (vp_nar .char ((((48 : Int32) + (a - a / 10 * 10)).toUInt32 % 65536).toInt32))) 2 32)) (q_uI (q_uI q_IM 0 39 0) 0 35 3) q_J0, 34, 31630)) (.inl (some (.int 9)), (q_cM (q_uA (q_uA (q_uA q_AM 33 f14) 32 (upd (upd (upd (upd (upd (upd (upd (upd (fun _ => 0) 0 (vp_nar .char ((((48 : Int32) + ((a / 10) - (a / 10) / 10 * 10)).toUInt32 % 65536).toInt32))) 1 (vp_nar .char ((((48 : Int32) + (a - a / 10 * 10)).toUInt32 % 65536).toInt32))) 2 32) 3 108) 4 100) 5 97) 6 32) 7 35)) 32 (upd (upd (upd (upd (upd (upd (upd (upd (upd (fun _ => 0) 0 (vp_nar .char ((((48 : Int32) + ((a / 10) - (a / 10) / 10 * 10)).toUInt32 % 65536).toInt32))) 1 (vp_nar .char ((((48 : Int32) + (a - a / 10 * 10)).toUInt32 % 65536).toInt32))) 2 32) 3 108) 4 100) 5 97) 6 32) 7 35) 8 48)) (q_uI (q_uI q_IM 0 39 0) 0 35 9) q_J0, 34, 31630)) := by
  refine q_Ru_seg (g2 := (75, [(2, .int 0), (0, .ref 64), (1, .int a)], [.int 0, .ref 64], (q_cM (q_uA (q_uA (q_uA q_AM 33 f13) 32 (fun _ => 0)) 32 (upd (upd (upd (fun _ => 0) 0 (vp_nar .char ((((48 : Int32) + ((a / 10) - (a / 10) / 10 * 10)).toUInt32 % 65536).toInt32))) 1 (vp_nar .char ((((48 : Int32) + (a - a / 10 * 10)).toUInt32 % 65536).toInt32))) 2 32)) (q_uI (q_uI q_IM 0 39 0) 0 35 3) q_J0, 34, 31630))) 3 (fun _ _ => rfl) ?_
  refine q_Ru_call (v := none) (h2 := (q_cM (q_uA (q_uA (q_uA q_AM 33 f13) 32 (fun _ => 0)) 32 (upd (upd (upd (upd (upd (upd (fun _ => 0) 0 (vp_nar .char ((((48 : Int32) + ((a / 10) - (a / 10) / 10 * 10)).toUInt32 % 65536).toInt32))) 1 (vp_nar .char ((((48 : Int32) + (a - a / 10 * 10)).toUInt32 % 65536).toInt32))) 2 32) 3 108) 4 100) 5 97)) (q_uI (q_uI q_IM 0 39 0) 0 35 6) q_J0, 34, 31630)) rfl rfl ?_ ?_
  · refine q_Ca_of (Nat.le_of_ble_eq_true rfl) ?_
    refine q_Ru_seg (g2 := (1, [(0, .ref 64), (1, .int 0)], [.int 0], (q_cM (q_uA (q_uA (q_uA q_AM 33 f13) 32 (fun _ => 0)) 32 (upd (upd (upd (fun _ => 0) 0 (vp_nar .char ((((48 : Int32) + ((a / 10) - (a / 10) / 10 * 10)).toUInt32 % 65536).toInt32))) 1 (vp_nar .char ((((48 : Int32) + (a - a / 10 * 10)).toUInt32 % 65536).toInt32))) 2 32)) (q_uI (q_uI q_IM 0 39 0) 0 35 3) q_J0, 34, 31630))) 1 (fun _ _ => rfl) ?_
    refine q_Ru_call (v := (some (.int 0))) (h2 := (q_cM (q_uA (q_uA (q_uA q_AM 33 f13) 32 (fun _ => 0)) 32 (upd (upd (upd (fun _ => 0) 0 (vp_nar .char ((((48 : Int32) + ((a / 10) - (a / 10) / 10 * 10)).toUInt32 % 65536).toInt32))) 1 (vp_nar .char ((((48 : Int32) + (a - a / 10 * 10)).toUInt32 % 65536).toInt32))) 2 32)) (q_uI (q_uI q_IM 0 39 0) 0 35 3) q_J0, 34, 31630)) rfl rfl ?_ ?_
    · refine q_Ca_of (Nat.le_of_ble_eq_true rfl) ?_
      refine q_Ru_seg (g2 := (42, [(0, .int 0)], [.int 0], (q_cM (q_uA (q_uA (q_uA q_AM 33 f13) 32 (fun _ => 0)) 32 (upd (upd (upd (fun _ => 0) 0 (vp_nar .char ((((48 : Int32) + ((a / 10) - (a / 10) / 10 * 10)).toUInt32 % 65536).toInt32))) 1 (vp_nar .char ((((48 : Int32) + (a - a / 10 * 10)).toUInt32 % 65536).toInt32))) 2 32)) (q_uI (q_uI q_IM 0 39 0) 0 35 3) q_J0, 34, 31630))) 7 (fun _ _ => rfl) ?_
      exact q_Ru_ret rfl rfl
    show q_Ru _ _ _ (4, [(0, .ref 64), (1, .int 0)], [.int 0], (q_cM (q_uA (q_uA (q_uA q_AM 33 f13) 32 (fun _ => 0)) 32 (upd (upd (upd (fun _ => 0) 0 (vp_nar .char ((((48 : Int32) + ((a / 10) - (a / 10) / 10 * 10)).toUInt32 % 65536).toInt32))) 1 (vp_nar .char ((((48 : Int32) + (a - a / 10 * 10)).toUInt32 % 65536).toInt32))) 2 32)) (q_uI (q_uI q_IM 0 39 0) 0 35 3) q_J0, 34, 31630)) _
    refine q_Ru_seg (g2 := (26, [(3, .int 0), (2, .int 0), (0, .ref 64), (1, .int 0)], [.int 108, .ref 64], (q_cM (q_uA (q_uA (q_uA q_AM 33 f13) 32 (fun _ => 0)) 32 (upd (upd (upd (fun _ => 0) 0 (vp_nar .char ((((48 : Int32) + ((a / 10) - (a / 10) / 10 * 10)).toUInt32 % 65536).toInt32))) 1 (vp_nar .char ((((48 : Int32) + (a - a / 10 * 10)).toUInt32 % 65536).toInt32))) 2 32)) (q_uI (q_uI q_IM 0 39 0) 0 35 3) q_J0, 34, 31630))) 16 (fun _ _ => rfl) ?_
    refine q_Ru_seg (g2 := (42, [(3, .int 0), (2, .int 0), (0, .ref 64), (1, .int 0)], [.int 108, .ref 64], (q_cM (q_uA (q_uA (q_uA q_AM 33 f13) 32 (fun _ => 0)) 32 (upd (upd (upd (fun _ => 0) 0 (vp_nar .char ((((48 : Int32) + ((a / 10) - (a / 10) / 10 * 10)).toUInt32 % 65536).toInt32))) 1 (vp_nar .char ((((48 : Int32) + (a - a / 10 * 10)).toUInt32 % 65536).toInt32))) 2 32)) (q_uI (q_uI q_IM 0 39 0) 0 35 3) q_J0, 34, 31630))) 1 (fun _ _ => rfl) ?_
    refine q_Ru_call (v := none) (h2 := (q_cM (q_uA (q_uA (q_uA q_AM 33 f13) 32 (fun _ => 0)) 32 (upd (upd (upd (upd (fun _ => 0) 0 (vp_nar .char ((((48 : Int32) + ((a / 10) - (a / 10) / 10 * 10)).toUInt32 % 65536).toInt32))) 1 (vp_nar .char ((((48 : Int32) + (a - a / 10 * 10)).toUInt32 % 65536).toInt32))) 2 32) 3 108)) (q_uI (q_uI q_IM 0 39 0) 0 35 4) q_J0, 34, 31630)) rfl rfl ?_ ?_
    · refine q_Ca_of (Nat.le_of_ble_eq_true rfl) ?_
      refine q_Ru_seg (g2 := (8, [(0, .ref 64), (1, .int 108)], [.int 3, .ref 96], (q_cM (q_uA (q_uA (q_uA q_AM 33 f13) 32 (fun _ => 0)) 32 (upd (upd (upd (fun _ => 0) 0 (vp_nar .char ((((48 : Int32) + ((a / 10) - (a / 10) / 10 * 10)).toUInt32 % 65536).toInt32))) 1 (vp_nar .char ((((48 : Int32) + (a - a / 10 * 10)).toUInt32 % 65536).toInt32))) 2 32)) (q_uI (q_uI q_IM 0 39 0) 0 35 3) q_J0, 34, 31630))) 4 (fun _ _ => rfl) ?_
      refine q_Ru_seg (g2 := (15, [(0, .ref 64), (1, .int 108)], [.int 3, .ref 64], (q_cM (q_uA (q_uA (q_uA q_AM 33 f13) 32 (fun _ => 0)) 32 (upd (upd (upd (upd (fun _ => 0) 0 (vp_nar .char ((((48 : Int32) + ((a / 10) - (a / 10) / 10 * 10)).toUInt32 % 65536).toInt32))) 1 (vp_nar .char ((((48 : Int32) + (a - a / 10 * 10)).toUInt32 % 65536).toInt32))) 2 32) 3 108)) (q_uI (q_uI q_IM 0 39 0) 0 35 3) q_J0, 34, 31630))) 5 (fun _ _ => rfl) ?_
      refine q_Ru_seg (g2 := (20, [(0, .ref 64), (1, .int 108)], [], (q_cM (q_uA (q_uA (q_uA q_AM 33 f13) 32 (fun _ => 0)) 32 (upd (upd (upd (upd (fun _ => 0) 0 (vp_nar .char ((((48 : Int32) + ((a / 10) - (a / 10) / 10 * 10)).toUInt32 % 65536).toInt32))) 1 (vp_nar .char ((((48 : Int32) + (a - a / 10 * 10)).toUInt32 % 65536).toInt32))) 2 32) 3 108)) (q_uI (q_uI q_IM 0 39 0) 0 35 4) q_J0, 34, 31630))) 3 (fun _ _ => rfl) ?_
      exact q_Ru_ret rfl rfl
    show q_Ru _ _ _ (45, [(3, .int 0), (2, .int 0), (0, .ref 64), (1, .int 0)], [], (q_cM (q_uA (q_uA (q_uA q_AM 33 f13) 32 (fun _ => 0)) 32 (upd (upd (upd (upd (fun _ => 0) 0 (vp_nar .char ((((48 : Int32) + ((a / 10) - (a / 10) / 10 * 10)).toUInt32 % 65536).toInt32))) 1 (vp_nar .char ((((48 : Int32) + (a - a / 10 * 10)).toUInt32 % 65536).toInt32))) 2 32) 3 108)) (q_uI (q_uI q_IM 0 39 0) 0 35 4) q_J0, 34, 31630)) _
    refine q_Ru_seg (g2 := (26, [(3, .int 1), (2, .int 0), (0, .ref 64), (1, .int 0)], [.int 100, .ref 64], (q_cM (q_uA (q_uA (q_uA q_AM 33 f13) 32 (fun _ => 0)) 32 (upd (upd (upd (upd (fun _ => 0) 0 (vp_nar .char ((((48 : Int32) + ((a / 10) - (a / 10) / 10 * 10)).toUInt32 % 65536).toInt32))) 1 (vp_nar .char ((((48 : Int32) + (a - a / 10 * 10)).toUInt32 % 65536).toInt32))) 2 32) 3 108)) (q_uI (q_uI q_IM 0 39 0) 0 35 4) q_J0, 34, 31630))) 15 (fun _ _ => rfl) ?_
    refine q_Ru_seg (g2 := (42, [(3, .int 1), (2, .int 0), (0, .ref 64), (1, .int 0)], [.int 100, .ref 64], (q_cM (q_uA (q_uA (q_uA q_AM 33 f13) 32 (fun _ => 0)) 32 (upd (upd (upd (upd (fun _ => 0) 0 (vp_nar .char ((((48 : Int32) + ((a / 10) - (a / 10) / 10 * 10)).toUInt32 % 65536).toInt32))) 1 (vp_nar .char ((((48 : Int32) + (a - a / 10 * 10)).toUInt32 % 65536).toInt32))) 2 32) 3 108)) (q_uI (q_uI q_IM 0 39 0) 0 35 4) q_J0, 34, 31630))) 1 (fun _ _ => rfl) ?_
    refine q_Ru_call (v := none) (h2 := (q_cM (q_uA (q_uA (q_uA q_AM 33 f13) 32 (fun _ => 0)) 32 (upd (upd (upd (upd (upd (fun _ => 0) 0 (vp_nar .char ((((48 : Int32) + ((a / 10) - (a / 10) / 10 * 10)).toUInt32 % 65536).toInt32))) 1 (vp_nar .char ((((48 : Int32) + (a - a / 10 * 10)).toUInt32 % 65536).toInt32))) 2 32) 3 108) 4 100)) (q_uI (q_uI q_IM 0 39 0) 0 35 5) q_J0, 34, 31630)) rfl rfl ?_ ?_
    · refine q_Ca_of (Nat.le_of_ble_eq_true rfl) ?_
      refine q_Ru_seg (g2 := (8, [(0, .ref 64), (1, .int 100)], [.int 4, .ref 96], (q_cM (q_uA (q_uA (q_uA q_AM 33 f13) 32 (fun _ => 0)) 32 (upd (upd (upd (upd (fun _ => 0) 0 (vp_nar .char ((((48 : Int32) + ((a / 10) - (a / 10) / 10 * 10)).toUInt32 % 65536).toInt32))) 1 (vp_nar .char ((((48 : Int32) + (a - a / 10 * 10)).toUInt32 % 65536).toInt32))) 2 32) 3 108)) (q_uI (q_uI q_IM 0 39 0) 0 35 4) q_J0, 34, 31630))) 4 (fun _ _ => rfl) ?_
      refine q_Ru_seg (g2 := (15, [(0, .ref 64), (1, .int 100)], [.int 4, .ref 64], (q_cM (q_uA (q_uA (q_uA q_AM 33 f13) 32 (fun _ => 0)) 32 (upd (upd (upd (upd (upd (fun _ => 0) 0 (vp_nar .char ((((48 : Int32) + ((a / 10) - (a / 10) / 10 * 10)).toUInt32 % 65536).toInt32))) 1 (vp_nar .char ((((48 : Int32) + (a - a / 10 * 10)).toUInt32 % 65536).toInt32))) 2 32) 3 108) 4 100)) (q_uI (q_uI q_IM 0 39 0) 0 35 4) q_J0, 34, 31630))) 5 (fun _ _ => rfl) ?_
      refine q_Ru_seg (g2 := (20, [(0, .ref 64), (1, .int 100)], [], (q_cM (q_uA (q_uA (q_uA q_AM 33 f13) 32 (fun _ => 0)) 32 (upd (upd (upd (upd (upd (fun _ => 0) 0 (vp_nar .char ((((48 : Int32) + ((a / 10) - (a / 10) / 10 * 10)).toUInt32 % 65536).toInt32))) 1 (vp_nar .char ((((48 : Int32) + (a - a / 10 * 10)).toUInt32 % 65536).toInt32))) 2 32) 3 108) 4 100)) (q_uI (q_uI q_IM 0 39 0) 0 35 5) q_J0, 34, 31630))) 3 (fun _ _ => rfl) ?_
      exact q_Ru_ret rfl rfl
    show q_Ru _ _ _ (45, [(3, .int 1), (2, .int 0), (0, .ref 64), (1, .int 0)], [], (q_cM (q_uA (q_uA (q_uA q_AM 33 f13) 32 (fun _ => 0)) 32 (upd (upd (upd (upd (upd (fun _ => 0) 0 (vp_nar .char ((((48 : Int32) + ((a / 10) - (a / 10) / 10 * 10)).toUInt32 % 65536).toInt32))) 1 (vp_nar .char ((((48 : Int32) + (a - a / 10 * 10)).toUInt32 % 65536).toInt32))) 2 32) 3 108) 4 100)) (q_uI (q_uI q_IM 0 39 0) 0 35 5) q_J0, 34, 31630)) _
    refine q_Ru_seg (g2 := (26, [(3, .int 2), (2, .int 0), (0, .ref 64), (1, .int 0)], [.int 97, .ref 64], (q_cM (q_uA (q_uA (q_uA q_AM 33 f13) 32 (fun _ => 0)) 32 (upd (upd (upd (upd (upd (fun _ => 0) 0 (vp_nar .char ((((48 : Int32) + ((a / 10) - (a / 10) / 10 * 10)).toUInt32 % 65536).toInt32))) 1 (vp_nar .char ((((48 : Int32) + (a - a / 10 * 10)).toUInt32 % 65536).toInt32))) 2 32) 3 108) 4 100)) (q_uI (q_uI q_IM 0 39 0) 0 35 5) q_J0, 34, 31630))) 15 (fun _ _ => rfl) ?_
    refine q_Ru_seg (g2 := (42, [(3, .int 2), (2, .int 0), (0, .ref 64), (1, .int 0)], [.int 97, .ref 64], (q_cM (q_uA (q_uA (q_uA q_AM 33 f13) 32 (fun _ => 0)) 32 (upd (upd (upd (upd (upd (fun _ => 0) 0 (vp_nar .char ((((48 : Int32) + ((a / 10) - (a / 10) / 10 * 10)).toUInt32 % 65536).toInt32))) 1 (vp_nar .char ((((48 : Int32) + (a - a / 10 * 10)).toUInt32 % 65536).toInt32))) 2 32) 3 108) 4 100)) (q_uI (q_uI q_IM 0 39 0) 0 35 5) q_J0, 34, 31630))) 1 (fun _ _ => rfl) ?_
    refine q_Ru_call (v := none) (h2 := (q_cM (q_uA (q_uA (q_uA q_AM 33 f13) 32 (fun _ => 0)) 32 (upd (upd (upd (upd (upd (upd (fun _ => 0) 0 (vp_nar .char ((((48 : Int32) + ((a / 10) - (a / 10) / 10 * 10)).toUInt32 % 65536).toInt32))) 1 (vp_nar .char ((((48 : Int32) + (a - a / 10 * 10)).toUInt32 % 65536).toInt32))) 2 32) 3 108) 4 100) 5 97)) (q_uI (q_uI q_IM 0 39 0) 0 35 6) q_J0, 34, 31630)) rfl rfl ?_ ?_
    · refine q_Ca_of (Nat.le_of_ble_eq_true rfl) ?_
      refine q_Ru_seg (g2 := (8, [(0, .ref 64), (1, .int 97)], [.int 5, .ref 96], (q_cM (q_uA (q_uA (q_uA q_AM 33 f13) 32 (fun _ => 0)) 32 (upd (upd (upd (upd (upd (fun _ => 0) 0 (vp_nar .char ((((48 : Int32) + ((a / 10) - (a / 10) / 10 * 10)).toUInt32 % 65536).toInt32))) 1 (vp_nar .char ((((48 : Int32) + (a - a / 10 * 10)).toUInt32 % 65536).toInt32))) 2 32) 3 108) 4 100)) (q_uI (q_uI q_IM 0 39 0) 0 35 5) q_J0, 34, 31630))) 4 (fun _ _ => rfl) ?_
      refine q_Ru_seg (g2 := (15, [(0, .ref 64), (1, .int 97)], [.int 5, .ref 64], (q_cM (q_uA (q_uA (q_uA q_AM 33 f13) 32 (fun _ => 0)) 32 (upd (upd (upd (upd (upd (upd (fun _ => 0) 0 (vp_nar .char ((((48 : Int32) + ((a / 10) - (a / 10) / 10 * 10)).toUInt32 % 65536).toInt32))) 1 (vp_nar .char ((((48 : Int32) + (a - a / 10 * 10)).toUInt32 % 65536).toInt32))) 2 32) 3 108) 4 100) 5 97)) (q_uI (q_uI q_IM 0 39 0) 0 35 5) q_J0, 34, 31630))) 5 (fun _ _ => rfl) ?_
      refine q_Ru_seg (g2 := (20, [(0, .ref 64), (1, .int 97)], [], (q_cM (q_uA (q_uA (q_uA q_AM 33 f13) 32 (fun _ => 0)) 32 (upd (upd (upd (upd (upd (upd (fun _ => 0) 0 (vp_nar .char ((((48 : Int32) + ((a / 10) - (a / 10) / 10 * 10)).toUInt32 % 65536).toInt32))) 1 (vp_nar .char ((((48 : Int32) + (a - a / 10 * 10)).toUInt32 % 65536).toInt32))) 2 32) 3 108) 4 100) 5 97)) (q_uI (q_uI q_IM 0 39 0) 0 35 6) q_J0, 34, 31630))) 3 (fun _ _ => rfl) ?_
      exact q_Ru_ret rfl rfl
    show q_Ru _ _ _ (45, [(3, .int 2), (2, .int 0), (0, .ref 64), (1, .int 0)], [], (q_cM (q_uA (q_uA (q_uA q_AM 33 f13) 32 (fun _ => 0)) 32 (upd (upd (upd (upd (upd (upd (fun _ => 0) 0 (vp_nar .char ((((48 : Int32) + ((a / 10) - (a / 10) / 10 * 10)).toUInt32 % 65536).toInt32))) 1 (vp_nar .char ((((48 : Int32) + (a - a / 10 * 10)).toUInt32 % 65536).toInt32))) 2 32) 3 108) 4 100) 5 97)) (q_uI (q_uI q_IM 0 39 0) 0 35 6) q_J0, 34, 31630)) _
    refine q_Ru_seg (g2 := (51, [(3, .int 3), (2, .int 0), (0, .ref 64), (1, .int 0)], [], (q_cM (q_uA (q_uA (q_uA q_AM 33 f13) 32 (fun _ => 0)) 32 (upd (upd (upd (upd (upd (upd (fun _ => 0) 0 (vp_nar .char ((((48 : Int32) + ((a / 10) - (a / 10) / 10 * 10)).toUInt32 % 65536).toInt32))) 1 (vp_nar .char ((((48 : Int32) + (a - a / 10 * 10)).toUInt32 % 65536).toInt32))) 2 32) 3 108) 4 100) 5 97)) (q_uI (q_uI q_IM 0 39 0) 0 35 6) q_J0, 34, 31630))) 5 (fun _ _ => rfl) ?_
    exact q_Ru_ret rfl rfl
  show q_Ru _ _ _ (78, [(2, .int 0), (0, .ref 64), (1, .int a)], [], (q_cM (q_uA (q_uA (q_uA q_AM 33 f13) 32 (fun _ => 0)) 32 (upd (upd (upd (upd (upd (upd (fun _ => 0) 0 (vp_nar .char ((((48 : Int32) + ((a / 10) - (a / 10) / 10 * 10)).toUInt32 % 65536).toInt32))) 1 (vp_nar .char ((((48 : Int32) + (a - a / 10 * 10)).toUInt32 % 65536).toInt32))) 2 32) 3 108) 4 100) 5 97)) (q_uI (q_uI q_IM 0 39 0) 0 35 6) q_J0, 34, 31630)) _
  refine q_Ru_seg (g2 := (79, [(2, .int 0), (0, .ref 64), (1, .int a)], [.int 0], (q_cM (q_uA (q_uA (q_uA q_AM 33 f13) 32 (fun _ => 0)) 32 (upd (upd (upd (upd (upd (upd (fun _ => 0) 0 (vp_nar .char ((((48 : Int32) + ((a / 10) - (a / 10) / 10 * 10)).toUInt32 % 65536).toInt32))) 1 (vp_nar .char ((((48 : Int32) + (a - a / 10 * 10)).toUInt32 % 65536).toInt32))) 2 32) 3 108) 4 100) 5 97)) (q_uI (q_uI q_IM 0 39 0) 0 35 6) q_J0, 34, 31630))) 1 (fun _ _ => rfl) ?_
  refine q_Ru_call (v := (some (.int 0))) (h2 := (q_cM (q_uA (q_uA (q_uA q_AM 33 f13) 32 (fun _ => 0)) 32 (upd (upd (upd (upd (upd (upd (fun _ => 0) 0 (vp_nar .char ((((48 : Int32) + ((a / 10) - (a / 10) / 10 * 10)).toUInt32 % 65536).toInt32))) 1 (vp_nar .char ((((48 : Int32) + (a - a / 10 * 10)).toUInt32 % 65536).toInt32))) 2 32) 3 108) 4 100) 5 97)) (q_uI (q_uI q_IM 0 39 0) 0 35 6) q_J0, 34, 31630)) rfl rfl ?_ ?_
  · refine q_Ca_of (Nat.le_of_ble_eq_true rfl) ?_
    refine q_Ru_seg (g2 := (42, [(0, .int 0)], [.int 0], (q_cM (q_uA (q_uA (q_uA q_AM 33 f13) 32 (fun _ => 0)) 32 (upd (upd (upd (upd (upd (upd (fun _ => 0) 0 (vp_nar .char ((((48 : Int32) + ((a / 10) - (a / 10) / 10 * 10)).toUInt32 % 65536).toInt32))) 1 (vp_nar .char ((((48 : Int32) + (a - a / 10 * 10)).toUInt32 % 65536).toInt32))) 2 32) 3 108) 4 100) 5 97)) (q_uI (q_uI q_IM 0 39 0) 0 35 6) q_J0, 34, 31630))) 7 (fun _ _ => rfl) ?_
    exact q_Ru_ret rfl rfl
  show q_Ru _ _ _ (82, [(2, .int 0), (0, .ref 64), (1, .int a)], [.int 0], (q_cM (q_uA (q_uA (q_uA q_AM 33 f13) 32 (fun _ => 0)) 32 (upd (upd (upd (upd (upd (upd (fun _ => 0) 0 (vp_nar .char ((((48 : Int32) + ((a / 10) - (a / 10) / 10 * 10)).toUInt32 % 65536).toInt32))) 1 (vp_nar .char ((((48 : Int32) + (a - a / 10 * 10)).toUInt32 % 65536).toInt32))) 2 32) 3 108) 4 100) 5 97)) (q_uI (q_uI q_IM 0 39 0) 0 35 6) q_J0, 34, 31630)) _
  exact q_Ru_le (Nat.le_of_ble_eq_true rfl) (q_xc59 L xs a hl_a hu_a f13 f14 p14)
set_option maxHeartbeats 20000000 in
theorem q_xc61 (L : Nat) (xs : Nat → Int32) (a : Int32) (hl_a : 10 ≤ a.toInt) (hu_a : a.toInt ≤ 99) (f13 : Nat → Int32) (f14 : Nat → Int32) (h177 : decide (a < 10) = false) (h178 : decide (a / 10 < 10) = true) (p14 : q_Ca q_TB0 4 214 [.ref 64, .int ((a + 1) &&& 4095)] (q_cM (q_uA (q_uA q_AM 33 f13) 32 (upd (upd (upd (upd (upd (upd (upd (upd (fun _ => 0) 0 (vp_nar .char ((((48 : Int32) + ((a / 10) - (a / 10) / 10 * 10)).toUInt32 % 65536).toInt32))) 1 (vp_nar .char ((((48 : Int32) + (a - a / 10 * 10)).toUInt32 % 65536).toInt32))) 2 32) 3 108) 4 100) 5 97) 6 32) 7 35)) (q_uI (q_uI q_IM 0 39 0) 0 35 8) q_J0, 34, 31630) (.inl (some (.int 0)), (q_cM (q_uA (q_uA q_AM 33 f14) 32 (upd (upd (upd (upd (upd (upd (upd (upd (fun _ => 0) 0 (vp_nar .char ((((48 : Int32) + ((a / 10) - (a / 10) / 10 * 10)).toUInt32 % 65536).toInt32))) 1 (vp_nar .char ((((48 : Int32) + (a - a / 10 * 10)).toUInt32 % 65536).toInt32))) 2 32) 3 108) 4 100) 5 97) 6 32) 7 35)) (q_uI (q_uI q_IM 0 39 0) 0 35 8) q_J0, 34, 31630))) : q_Ru q_TB0 8 286 (26, [(0, .ref 64), (1, .int a)], [.int 0], (q_cM (q_uA (q_uA q_AM 33 f13) 32 (fun _ => 0)) (q_uI q_IM 0 39 0) q_J0, 34, 31630)) (.inl (some (.int 9)), (q_cM (q_uA (q_uA (q_uA q_AM 33 f14) 32 (upd (upd (upd (upd (upd (upd (upd (upd (fun _ => 0) 0 (vp_nar .char ((((48 : Int32) + ((a / 10) - (a / 10) / 10 * 10)).toUInt32 % 65536).toInt32))) 1 (vp_nar .char ((((48 : Int32) + (a - a / 10 * 10)).toUInt32 % 65536).toInt32))) 2 32) 3 108) 4 100) 5 97) 6 32) 7 35)) 32 (upd (upd (upd (upd (upd (upd (upd (upd (upd (fun _ => 0) 0 (vp_nar .char ((((48 : Int32) + ((a / 10) - (a / 10) / 10 * 10)).toUInt32 % 65536).toInt32))) 1 (vp_nar .char ((((48 : Int32) + (a - a / 10 * 10)).toUInt32 % 65536).toInt32))) 2 32) 3 108) 4 100) 5 97) 6 32) 7 35) 8 48)) (q_uI (q_uI q_IM 0 39 0) 0 35 9) q_J0, 34, 31630)) := by
  refine q_Ru_seg (g2 := (34, [(2, .int 0), (0, .ref 64), (1, .int a)], [.int a, .ref 64], (q_cM (q_uA (q_uA q_AM 33 f13) 32 (fun _ => 0)) (q_uI (q_uI q_IM 0 39 0) 0 35 0) q_J0, 34, 31630))) 6 (fun _ _ => rfl) ?_
  refine q_Ru_call (v := none) (h2 := (q_cM (q_uA (q_uA (q_uA q_AM 33 f13) 32 (fun _ => 0)) 32 (upd (upd (fun _ => 0) 0 (vp_nar .char ((((48 : Int32) + ((a / 10) - (a / 10) / 10 * 10)).toUInt32 % 65536).toInt32))) 1 (vp_nar .char ((((48 : Int32) + (a - a / 10 * 10)).toUInt32 % 65536).toInt32)))) (q_uI (q_uI q_IM 0 39 0) 0 35 2) q_J0, 34, 31630)) rfl rfl ?_ ?_
  · refine q_Ca_of (Nat.le_of_ble_eq_true rfl) ?_
    refine q_Ru_seg (g2 := (3, [(0, .ref 64), (1, .int a)], [.int 10, .int a], (q_cM (q_uA (q_uA q_AM 33 f13) 32 (fun _ => 0)) (q_uI (q_uI q_IM 0 39 0) 0 35 0) q_J0, 34, 31630))) 2 (fun _ _ => rfl) ?_
    refine q_Ru_rsF (g2 := (6, [(0, .ref 64), (1, .int a)], [], (q_cM (q_uA (q_uA q_AM 33 f13) 32 (fun _ => 0)) (q_uI (q_uI q_IM 0 39 0) 0 35 0) q_J0, 34, 31630))) rfl rfl h177 ?_
    refine q_Ru_seg (g2 := (11, [(0, .ref 64), (1, .int a)], [.int (a / 10), .ref 64], (q_cM (q_uA (q_uA q_AM 33 f13) 32 (fun _ => 0)) (q_uI (q_uI q_IM 0 39 0) 0 35 0) q_J0, 34, 31630))) 4 (fun _ _ => rfl) ?_
    refine q_Ru_call (v := none) (h2 := (q_cM (q_uA (q_uA (q_uA q_AM 33 f13) 32 (fun _ => 0)) 32 (upd (fun _ => 0) 0 (vp_nar .char ((((48 : Int32) + ((a / 10) - (a / 10) / 10 * 10)).toUInt32 % 65536).toInt32)))) (q_uI (q_uI q_IM 0 39 0) 0 35 1) q_J0, 34, 31630)) rfl rfl ?_ ?_
    · refine q_Ca_of (Nat.le_of_ble_eq_true rfl) ?_
      refine q_Ru_seg (g2 := (3, [(0, .ref 64), (1, .int (a / 10))], [.int 10, .int (a / 10)], (q_cM (q_uA (q_uA q_AM 33 f13) 32 (fun _ => 0)) (q_uI (q_uI q_IM 0 39 0) 0 35 0) q_J0, 34, 31630))) 2 (fun _ _ => rfl) ?_
      refine q_Ru_rsT (g2 := (14, [(0, .ref 64), (1, .int (a / 10))], [], (q_cM (q_uA (q_uA q_AM 33 f13) 32 (fun _ => 0)) (q_uI (q_uI q_IM 0 39 0) 0 35 0) q_J0, 34, 31630))) rfl rfl h178 ?_
      refine q_Ru_seg (g2 := (23, [(0, .ref 64), (1, .int (a / 10))], [.int ((((48 : Int32) + ((a / 10) - (a / 10) / 10 * 10)).toUInt32 % 65536).toInt32), .ref 64], (q_cM (q_uA (q_uA q_AM 33 f13) 32 (fun _ => 0)) (q_uI (q_uI q_IM 0 39 0) 0 35 0) q_J0, 34, 31630))) 7 (fun _ _ => rfl) ?_
      refine q_Ru_call (v := none) (h2 := (q_cM (q_uA (q_uA (q_uA q_AM 33 f13) 32 (fun _ => 0)) 32 (upd (fun _ => 0) 0 (vp_nar .char ((((48 : Int32) + ((a / 10) - (a / 10) / 10 * 10)).toUInt32 % 65536).toInt32)))) (q_uI (q_uI q_IM 0 39 0) 0 35 1) q_J0, 34, 31630)) rfl rfl ?_ ?_
      · refine q_Ca_of (Nat.le_of_ble_eq_true rfl) ?_
        refine q_Ru_seg (g2 := (8, [(0, .ref 64), (1, .int ((((48 : Int32) + ((a / 10) - (a / 10) / 10 * 10)).toUInt32 % 65536).toInt32))], [.int 0, .ref 96], (q_cM (q_uA (q_uA q_AM 33 f13) 32 (fun _ => 0)) (q_uI (q_uI q_IM 0 39 0) 0 35 0) q_J0, 34, 31630))) 4 (fun _ _ => rfl) ?_
        refine q_Ru_seg (g2 := (15, [(0, .ref 64), (1, .int ((((48 : Int32) + ((a / 10) - (a / 10) / 10 * 10)).toUInt32 % 65536).toInt32))], [.int 0, .ref 64], (q_cM (q_uA (q_uA (q_uA q_AM 33 f13) 32 (fun _ => 0)) 32 (upd (fun _ => 0) 0 (vp_nar .char ((((48 : Int32) + ((a / 10) - (a / 10) / 10 * 10)).toUInt32 % 65536).toInt32)))) (q_uI (q_uI q_IM 0 39 0) 0 35 0) q_J0, 34, 31630))) 5 (fun _ _ => rfl) ?_
        refine q_Ru_seg (g2 := (20, [(0, .ref 64), (1, .int ((((48 : Int32) + ((a / 10) - (a / 10) / 10 * 10)).toUInt32 % 65536).toInt32))], [], (q_cM (q_uA (q_uA (q_uA q_AM 33 f13) 32 (fun _ => 0)) 32 (upd (fun _ => 0) 0 (vp_nar .char ((((48 : Int32) + ((a / 10) - (a / 10) / 10 * 10)).toUInt32 % 65536).toInt32)))) (q_uI (q_uI q_IM 0 39 0) 0 35 1) q_J0, 34, 31630))) 3 (fun _ _ => rfl) ?_
        exact q_Ru_ret rfl rfl
      show q_Ru _ _ _ (26, [(0, .ref 64), (1, .int (a / 10))], [], (q_cM (q_uA (q_uA (q_uA q_AM 33 f13) 32 (fun _ => 0)) 32 (upd (fun _ => 0) 0 (vp_nar .char ((((48 : Int32) + ((a / 10) - (a / 10) / 10 * 10)).toUInt32 % 65536).toInt32)))) (q_uI (q_uI q_IM 0 39 0) 0 35 1) q_J0, 34, 31630)) _
      exact q_Ru_ret rfl rfl
    show q_Ru _ _ _ (14, [(0, .ref 64), (1, .int a)], [], (q_cM (q_uA (q_uA (q_uA q_AM 33 f13) 32 (fun _ => 0)) 32 (upd (fun _ => 0) 0 (vp_nar .char ((((48 : Int32) + ((a / 10) - (a / 10) / 10 * 10)).toUInt32 % 65536).toInt32)))) (q_uI (q_uI q_IM 0 39 0) 0 35 1) q_J0, 34, 31630)) _
    refine q_Ru_seg (g2 := (23, [(0, .ref 64), (1, .int a)], [.int ((((48 : Int32) + (a - a / 10 * 10)).toUInt32 % 65536).toInt32), .ref 64], (q_cM (q_uA (q_uA (q_uA q_AM 33 f13) 32 (fun _ => 0)) 32 (upd (fun _ => 0) 0 (vp_nar .char ((((48 : Int32) + ((a / 10) - (a / 10) / 10 * 10)).toUInt32 % 65536).toInt32)))) (q_uI (q_uI q_IM 0 39 0) 0 35 1) q_J0, 34, 31630))) 7 (fun _ _ => rfl) ?_
    refine q_Ru_call (v := none) (h2 := (q_cM (q_uA (q_uA (q_uA q_AM 33 f13) 32 (fun _ => 0)) 32 (upd (upd (fun _ => 0) 0 (vp_nar .char ((((48 : Int32) + ((a / 10) - (a / 10) / 10 * 10)).toUInt32 % 65536).toInt32))) 1 (vp_nar .char ((((48 : Int32) + (a - a / 10 * 10)).toUInt32 % 65536).toInt32)))) (q_uI (q_uI q_IM 0 39 0) 0 35 2) q_J0, 34, 31630)) rfl rfl ?_ ?_
    · refine q_Ca_of (Nat.le_of_ble_eq_true rfl) ?_
      refine q_Ru_seg (g2 := (8, [(0, .ref 64), (1, .int ((((48 : Int32) + (a - a / 10 * 10)).toUInt32 % 65536).toInt32))], [.int 1, .ref 96], (q_cM (q_uA (q_uA (q_uA q_AM 33 f13) 32 (fun _ => 0)) 32 (upd (fun _ => 0) 0 (vp_nar .char ((((48 : Int32) + ((a / 10) - (a / 10) / 10 * 10)).toUInt32 % 65536).toInt32)))) (q_uI (q_uI q_IM 0 39 0) 0 35 1) q_J0, 34, 31630))) 4 (fun _ _ => rfl) ?_
      refine q_Ru_seg (g2 := (15, [(0, .ref 64), (1, .int ((((48 : Int32) + (a - a / 10 * 10)).toUInt32 % 65536).toInt32))], [.int 1, .ref 64], (q_cM (q_uA (q_uA (q_uA q_AM 33 f13) 32 (fun _ => 0)) 32 (upd (upd (fun _ => 0) 0 (vp_nar .char ((((48 : Int32) + ((a / 10) - (a / 10) / 10 * 10)).toUInt32 % 65536).toInt32))) 1 (vp_nar .char ((((48 : Int32) + (a - a / 10 * 10)).toUInt32 % 65536).toInt32)))) (q_uI (q_uI q_IM 0 39 0) 0 35 1) q_J0, 34, 31630))) 5 (fun _ _ => rfl) ?_
      refine q_Ru_seg (g2 := (20, [(0, .ref 64), (1, .int ((((48 : Int32) + (a - a / 10 * 10)).toUInt32 % 65536).toInt32))], [], (q_cM (q_uA (q_uA (q_uA q_AM 33 f13) 32 (fun _ => 0)) 32 (upd (upd (fun _ => 0) 0 (vp_nar .char ((((48 : Int32) + ((a / 10) - (a / 10) / 10 * 10)).toUInt32 % 65536).toInt32))) 1 (vp_nar .char ((((48 : Int32) + (a - a / 10 * 10)).toUInt32 % 65536).toInt32)))) (q_uI (q_uI q_IM 0 39 0) 0 35 2) q_J0, 34, 31630))) 3 (fun _ _ => rfl) ?_
      exact q_Ru_ret rfl rfl
    show q_Ru _ _ _ (26, [(0, .ref 64), (1, .int a)], [], (q_cM (q_uA (q_uA (q_uA q_AM 33 f13) 32 (fun _ => 0)) 32 (upd (upd (fun _ => 0) 0 (vp_nar .char ((((48 : Int32) + ((a / 10) - (a / 10) / 10 * 10)).toUInt32 % 65536).toInt32))) 1 (vp_nar .char ((((48 : Int32) + (a - a / 10 * 10)).toUInt32 % 65536).toInt32)))) (q_uI (q_uI q_IM 0 39 0) 0 35 2) q_J0, 34, 31630)) _
    exact q_Ru_ret rfl rfl
  show q_Ru _ _ _ (37, [(2, .int 0), (0, .ref 64), (1, .int a)], [], (q_cM (q_uA (q_uA (q_uA q_AM 33 f13) 32 (fun _ => 0)) 32 (upd (upd (fun _ => 0) 0 (vp_nar .char ((((48 : Int32) + ((a / 10) - (a / 10) / 10 * 10)).toUInt32 % 65536).toInt32))) 1 (vp_nar .char ((((48 : Int32) + (a - a / 10 * 10)).toUInt32 % 65536).toInt32)))) (q_uI (q_uI q_IM 0 39 0) 0 35 2) q_J0, 34, 31630)) _
  refine q_Ru_seg (g2 := (40, [(2, .int 0), (0, .ref 64), (1, .int a)], [.int 32, .ref 64], (q_cM (q_uA (q_uA (q_uA q_AM 33 f13) 32 (fun _ => 0)) 32 (upd (upd (fun _ => 0) 0 (vp_nar .char ((((48 : Int32) + ((a / 10) - (a / 10) / 10 * 10)).toUInt32 % 65536).toInt32))) 1 (vp_nar .char ((((48 : Int32) + (a - a / 10 * 10)).toUInt32 % 65536).toInt32)))) (q_uI (q_uI q_IM 0 39 0) 0 35 2) q_J0, 34, 31630))) 2 (fun _ _ => rfl) ?_
  refine q_Ru_call (v := none) (h2 := (q_cM (q_uA (q_uA (q_uA q_AM 33 f13) 32 (fun _ => 0)) 32 (upd (upd (upd (fun _ => 0) 0 (vp_nar .char ((((48 : Int32) + ((a / 10) - (a / 10) / 10 * 10)).toUInt32 % 65536).toInt32))) 1 (vp_nar .char ((((48 : Int32) + (a - a / 10 * 10)).toUInt32 % 65536).toInt32))) 2 32)) (q_uI (q_uI q_IM 0 39 0) 0 35 3) q_J0, 34, 31630)) rfl rfl ?_ ?_
  · refine q_Ca_of (Nat.le_of_ble_eq_true rfl) ?_
    refine q_Ru_seg (g2 := (8, [(0, .ref 64), (1, .int 32)], [.int 2, .ref 96], (q_cM (q_uA (q_uA (q_uA q_AM 33 f13) 32 (fun _ => 0)) 32 (upd (upd (fun _ => 0) 0 (vp_nar .char ((((48 : Int32) + ((a / 10) - (a / 10) / 10 * 10)).toUInt32 % 65536).toInt32))) 1 (vp_nar .char ((((48 : Int32) + (a - a / 10 * 10)).toUInt32 % 65536).toInt32)))) (q_uI (q_uI q_IM 0 39 0) 0 35 2) q_J0, 34, 31630))) 4 (fun _ _ => rfl) ?_
    refine q_Ru_seg (g2 := (15, [(0, .ref 64), (1, .int 32)], [.int 2, .ref 64], (q_cM (q_uA (q_uA (q_uA q_AM 33 f13) 32 (fun _ => 0)) 32 (upd (upd (upd (fun _ => 0) 0 (vp_nar .char ((((48 : Int32) + ((a / 10) - (a / 10) / 10 * 10)).toUInt32 % 65536).toInt32))) 1 (vp_nar .char ((((48 : Int32) + (a - a / 10 * 10)).toUInt32 % 65536).toInt32))) 2 32)) (q_uI (q_uI q_IM 0 39 0) 0 35 2) q_J0, 34, 31630))) 5 (fun _ _ => rfl) ?_
    refine q_Ru_seg (g2 := (20, [(0, .ref 64), (1, .int 32)], [], (q_cM (q_uA (q_uA (q_uA q_AM 33 f13) 32 (fun _ => 0)) 32 (upd (upd (upd (fun _ => 0) 0 (vp_nar .char ((((48 : Int32) + ((a / 10) - (a / 10) / 10 * 10)).toUInt32 % 65536).toInt32))) 1 (vp_nar .char ((((48 : Int32) + (a - a / 10 * 10)).toUInt32 % 65536).toInt32))) 2 32)) (q_uI (q_uI q_IM 0 39 0) 0 35 3) q_J0, 34, 31630))) 3 (fun _ _ => rfl) ?_
    exact q_Ru_ret rfl rfl
  show q_Ru _ _ _ (43, [(2, .int 0), (0, .ref 64), (1, .int a)], [], (q_cM (q_uA (q_uA (q_uA q_AM 33 f13) 32 (fun _ => 0)) 32 (upd (upd (upd (fun _ => 0) 0 (vp_nar .char ((((48 : Int32) + ((a / 10) - (a / 10) / 10 * 10)).toUInt32 % 65536).toInt32))) 1 (vp_nar .char ((((48 : Int32) + (a - a / 10 * 10)).toUInt32 % 65536).toInt32))) 2 32)) (q_uI (q_uI q_IM 0 39 0) 0 35 3) q_J0, 34, 31630)) _
  refine q_Ru_seg (g2 := (44, [(2, .int 0), (0, .ref 64), (1, .int a)], [.int 0], (q_cM (q_uA (q_uA (q_uA q_AM 33 f13) 32 (fun _ => 0)) 32 (upd (upd (upd (fun _ => 0) 0 (vp_nar .char ((((48 : Int32) + ((a / 10) - (a / 10) / 10 * 10)).toUInt32 % 65536).toInt32))) 1 (vp_nar .char ((((48 : Int32) + (a - a / 10 * 10)).toUInt32 % 65536).toInt32))) 2 32)) (q_uI (q_uI q_IM 0 39 0) 0 35 3) q_J0, 34, 31630))) 1 (fun _ _ => rfl) ?_
  refine q_Ru_call (v := (some (.int 0))) (h2 := (q_cM (q_uA (q_uA (q_uA q_AM 33 f13) 32 (fun _ => 0)) 32 (upd (upd (upd (fun _ => 0) 0 (vp_nar .char ((((48 : Int32) + ((a / 10) - (a / 10) / 10 * 10)).toUInt32 % 65536).toInt32))) 1 (vp_nar .char ((((48 : Int32) + (a - a / 10 * 10)).toUInt32 % 65536).toInt32))) 2 32)) (q_uI (q_uI q_IM 0 39 0) 0 35 3) q_J0, 34, 31630)) rfl rfl ?_ ?_
  · refine q_Ca_of (Nat.le_of_ble_eq_true rfl) ?_
    refine q_Ru_seg (g2 := (1, [(0, .int 0)], [.int 0], (q_cM (q_uA (q_uA (q_uA q_AM 33 f13) 32 (fun _ => 0)) 32 (upd (upd (upd (fun _ => 0) 0 (vp_nar .char ((((48 : Int32) + ((a / 10) - (a / 10) / 10 * 10)).toUInt32 % 65536).toInt32))) 1 (vp_nar .char ((((48 : Int32) + (a - a / 10 * 10)).toUInt32 % 65536).toInt32))) 2 32)) (q_uI (q_uI q_IM 0 39 0) 0 35 3) q_J0, 34, 31630))) 1 (fun _ _ => rfl) ?_
    refine q_Ru_call (v := (some (.int 0))) (h2 := (q_cM (q_uA (q_uA (q_uA q_AM 33 f13) 32 (fun _ => 0)) 32 (upd (upd (upd (fun _ => 0) 0 (vp_nar .char ((((48 : Int32) + ((a / 10) - (a / 10) / 10 * 10)).toUInt32 % 65536).toInt32))) 1 (vp_nar .char ((((48 : Int32) + (a - a / 10 * 10)).toUInt32 % 65536).toInt32))) 2 32)) (q_uI (q_uI q_IM 0 39 0) 0 35 3) q_J0, 34, 31630)) rfl rfl ?_ ?_
    · refine q_Ca_of (Nat.le_of_ble_eq_true rfl) ?_
      refine q_Ru_seg (g2 := (42, [(0, .int 0)], [.int 0], (q_cM (q_uA (q_uA (q_uA q_AM 33 f13) 32 (fun _ => 0)) 32 (upd (upd (upd (fun _ => 0) 0 (vp_nar .char ((((48 : Int32) + ((a / 10) - (a / 10) / 10 * 10)).toUInt32 % 65536).toInt32))) 1 (vp_nar .char ((((48 : Int32) + (a - a / 10 * 10)).toUInt32 % 65536).toInt32))) 2 32)) (q_uI (q_uI q_IM 0 39 0) 0 35 3) q_J0, 34, 31630))) 7 (fun _ _ => rfl) ?_
      exact q_Ru_ret rfl rfl
    show q_Ru _ _ _ (4, [(0, .int 0)], [.int 0], (q_cM (q_uA (q_uA (q_uA q_AM 33 f13) 32 (fun _ => 0)) 32 (upd (upd (upd (fun _ => 0) 0 (vp_nar .char ((((48 : Int32) + ((a / 10) - (a / 10) / 10 * 10)).toUInt32 % 65536).toInt32))) 1 (vp_nar .char ((((48 : Int32) + (a - a / 10 * 10)).toUInt32 % 65536).toInt32))) 2 32)) (q_uI (q_uI q_IM 0 39 0) 0 35 3) q_J0, 34, 31630)) _
    refine q_Ru_seg (g2 := (25, [(0, .int 0)], [.int 0], (q_cM (q_uA (q_uA (q_uA q_AM 33 f13) 32 (fun _ => 0)) 32 (upd (upd (upd (fun _ => 0) 0 (vp_nar .char ((((48 : Int32) + ((a / 10) - (a / 10) / 10 * 10)).toUInt32 % 65536).toInt32))) 1 (vp_nar .char ((((48 : Int32) + (a - a / 10 * 10)).toUInt32 % 65536).toInt32))) 2 32)) (q_uI (q_uI q_IM 0 39 0) 0 35 3) q_J0, 34, 31630))) 2 (fun _ _ => rfl) ?_
    exact q_Ru_ret rfl rfl
  show q_Ru _ _ _ (47, [(2, .int 0), (0, .ref 64), (1, .int a)], [.int 0], (q_cM (q_uA (q_uA (q_uA q_AM 33 f13) 32 (fun _ => 0)) 32 (upd (upd (upd (fun _ => 0) 0 (vp_nar .char ((((48 : Int32) + ((a / 10) - (a / 10) / 10 * 10)).toUInt32 % 65536).toInt32))) 1 (vp_nar .char ((((48 : Int32) + (a - a / 10 * 10)).toUInt32 % 65536).toInt32))) 2 32)) (q_uI (q_uI q_IM 0 39 0) 0 35 3) q_J0, 34, 31630)) _
  exact q_Ru_le (Nat.le_of_ble_eq_true rfl) (q_xc60 L xs a hl_a hu_a f13 f14 p14)
set_option maxHeartbeats 20000000 in
theorem q_op_writeLine98_1 (L : Nat) (xs : Nat → Int32) (a : Int32) (hl_a : 10 ≤ a.toInt) (hu_a : a.toInt ≤ 99) : ∃ (r b : Int32) (w : Int64), q_opXT (q_TBs 98 L xs) 6 [.int a] r w ∧ q_opM 286 [.int a] r (.int b) ∧ (r = 0 → w = b.toInt64) := by
  have h171 : decide (a < 0) = false := q_not_tr (q_tbl1 (fun a => !decide (a < 0)) (l := 10) (n := 89) (by decide +kernel) hl_a hu_a)
  have h172 : decide (a < 4096) = true := q_tbl1 (fun a => decide (a < 4096)) (l := 10) (n := 89) (by decide +kernel) hl_a hu_a
  have h173 : decide ((-10) < -a) = false := q_not_tr (q_tbl1 (fun a => !decide ((-10) < -a)) (l := 10) (n := 89) (by decide +kernel) hl_a hu_a)
  have h174 : decide ((-100) < -a) = true := q_tbl1 (fun a => decide ((-100) < -a)) (l := 10) (n := 89) (by decide +kernel) hl_a hu_a
  have h175 : decide (-a < (-9)) = true := q_tbl1 (fun a => decide (-a < (-9))) (l := 10) (n := 89) (by decide +kernel) hl_a hu_a
  have h176 : decide (4095 < a) = false := q_not_tr (q_tbl1 (fun a => !decide (4095 < a)) (l := 10) (n := 89) (by decide +kernel) hl_a hu_a)
  have h177 : decide (a < 10) = false := q_not_tr (q_tbl1 (fun a => !decide (a < 10)) (l := 10) (n := 89) (by decide +kernel) hl_a hu_a)
  have h178 : decide (a / 10 < 10) = true := q_tbl1 (fun a => decide (a / 10 < 10)) (l := 10) (n := 89) (by decide +kernel) hl_a hu_a
  obtain ⟨f13, p13⟩ := q_p_reads1 (fun _ => 0) (fun _ => 0) (q_uI q_IM 0 39 0) (a &&& 4095) (q_and_lo a 4095) (q_and_hi a 4095 4095)
  obtain ⟨f14, p14⟩ := q_p_reads1 f13 (upd (upd (upd (upd (upd (upd (upd (upd (fun _ => 0) 0 (vp_nar .char ((((48 : Int32) + ((a / 10) - (a / 10) / 10 * 10)).toUInt32 % 65536).toInt32))) 1 (vp_nar .char ((((48 : Int32) + (a - a / 10 * 10)).toUInt32 % 65536).toInt32))) 2 32) 3 108) 4 100) 5 97) 6 32) 7 35) (q_uI (q_uI q_IM 0 39 0) 0 35 8) ((a + 1) &&& 4095) (q_and_lo (a + 1) 4095) (q_and_hi (a + 1) 4095 4095)
  refine ⟨0, 9, 9, ⟨(q_cX (q_uA q_AX 35 (upd (upd (upd (upd (upd (upd (upd (upd (upd (fun _ => 0) 1 (vp_nar .byte ((fun j => q_o6.getD j 0) ((-(-a)).toNatClampNeg)))) 0 (vp_nar .byte ((fun j => q_o7.getD j 0) ((-(-a)).toNatClampNeg)))) 2 32) 3 108) 4 100) 5 97) 6 32) 7 35) 8 48)) (q_uI q_IX 34 3 9) (q_uA q_J0 39 (vp_updL (fun _ => 0) 0 9)), 40, 26520), (q_uA q_J0 39 (vp_updL (fun _ => 0) 0 9)) 39, ?_, rfl, fun _ => rfl, Nat.le_of_ble_eq_true rfl, Nat.le_of_ble_eq_true rfl⟩, ⟨(q_cM (q_uA (q_uA (q_uA q_AM 33 f14) 32 (upd (upd (upd (upd (upd (upd (upd (upd (fun _ => 0) 0 (vp_nar .char ((((48 : Int32) + ((a / 10) - (a / 10) / 10 * 10)).toUInt32 % 65536).toInt32))) 1 (vp_nar .char ((((48 : Int32) + (a - a / 10 * 10)).toUInt32 % 65536).toInt32))) 2 32) 3 108) 4 100) 5 97) 6 32) 7 35)) 32 (upd (upd (upd (upd (upd (upd (upd (upd (upd (fun _ => 0) 0 (vp_nar .char ((((48 : Int32) + ((a / 10) - (a / 10) / 10 * 10)).toUInt32 % 65536).toInt32))) 1 (vp_nar .char ((((48 : Int32) + (a - a / 10 * 10)).toUInt32 % 65536).toInt32))) 2 32) 3 108) 4 100) 5 97) 6 32) 7 35) 8 48)) (q_uI (q_uI q_IM 0 39 0) 0 35 9) q_J0, 34, 31630), _, ?_, rfl, rfl, Nat.le_of_ble_eq_true rfl, Nat.le_of_ble_eq_true rfl⟩, fun _ => rfl⟩
  · refine q_Ca_of (Nat.le_of_ble_eq_true rfl) ?_
    refine q_Ru_seg (g2 := (4, [(0, .ref 64), (1, .int a), (2, .ref 103)], [.int a, .ref 64, .int 0, .ref 103], (q_cX q_AX q_IX q_J0, 40, 26520))) 4 (fun _ _ => rfl) ?_
    refine q_Ru_call (v := (some (.int 9))) (h2 := (q_cX (q_uA q_AX 35 (upd (upd (upd (upd (upd (upd (upd (upd (upd (fun _ => 0) 1 (vp_nar .byte ((fun j => q_o6.getD j 0) ((-(-a)).toNatClampNeg)))) 0 (vp_nar .byte ((fun j => q_o7.getD j 0) ((-(-a)).toNatClampNeg)))) 2 32) 3 108) 4 100) 5 97) 6 32) 7 35) 8 48)) (q_uI q_IX 34 3 9) q_J0, 40, 26520)) rfl rfl ?_ ?_
    · refine q_Ca_of (Nat.le_of_ble_eq_true rfl) ?_
      refine q_Ru_seg (g2 := (1, [(0, .ref 64), (1, .int a)], [.int a], (q_cX q_AX q_IX q_J0, 40, 26520))) 1 (fun _ _ => rfl) ?_
      refine q_Ru_call (v := none) (h2 := (q_cX q_AX q_IX q_J0, 40, 26520)) rfl rfl ?_ ?_
      · refine q_Ca_of (Nat.le_of_ble_eq_true rfl) ?_
        refine q_Ru_seg (g2 := (4, [(0, .int a)], [.int 4096, .int a], (q_cX q_AX q_IX q_J0, 40, 26520))) 2 (fun _ _ => rfl) ?_
        refine q_Ru_call (v := none) (h2 := (q_cX q_AX q_IX q_J0, 40, 26520)) rfl rfl ?_ ?_
        · refine q_Ca_of (Nat.le_of_ble_eq_true rfl) ?_
          refine q_Ru_seg (g2 := (1, [(0, .int a), (1, .int 4096)], [.int a], (q_cX q_AX q_IX q_J0, 40, 26520))) 1 (fun _ _ => rfl) ?_
          refine q_Ru_rsF (g2 := (4, [(0, .int a), (1, .int 4096)], [], (q_cX q_AX q_IX q_J0, 40, 26520))) rfl rfl h171 ?_
          refine q_Ru_seg (g2 := (6, [(0, .int a), (1, .int 4096)], [.int 4096, .int a], (q_cX q_AX q_IX q_J0, 40, 26520))) 2 (fun _ _ => rfl) ?_
          refine q_Ru_rsT (g2 := (19, [(0, .int a), (1, .int 4096)], [], (q_cX q_AX q_IX q_J0, 40, 26520))) rfl rfl h172 ?_
          exact q_Ru_ret rfl rfl
        show q_Ru _ _ _ (7, [(0, .int a)], [], (q_cX q_AX q_IX q_J0, 40, 26520)) _
        exact q_Ru_ret rfl rfl
      show q_Ru _ _ _ (4, [(0, .ref 64), (1, .int a)], [], (q_cX q_AX q_IX q_J0, 40, 26520)) _
      exact q_Ru_le (Nat.le_of_ble_eq_true rfl) (q_xc58 L xs a hl_a hu_a h171 h173 h174 h175)
    show q_Ru _ _ _ (7, [(0, .ref 64), (1, .int a), (2, .ref 103)], [.int 9, .int 0, .ref 103], (q_cX (q_uA q_AX 35 (upd (upd (upd (upd (upd (upd (upd (upd (upd (fun _ => 0) 1 (vp_nar .byte ((fun j => q_o6.getD j 0) ((-(-a)).toNatClampNeg)))) 0 (vp_nar .byte ((fun j => q_o7.getD j 0) ((-(-a)).toNatClampNeg)))) 2 32) 3 108) 4 100) 5 97) 6 32) 7 35) 8 48)) (q_uI q_IX 34 3 9) q_J0, 40, 26520)) _
    generalize (upd (upd (upd (upd (upd (upd (upd (upd (upd (fun _ => 0) 1 (vp_nar .byte ((fun j => q_o6.getD j 0) ((-(-a)).toNatClampNeg)))) 0 (vp_nar .byte ((fun j => q_o7.getD j 0) ((-(-a)).toNatClampNeg)))) 2 32) 3 108) 4 100) 5 97) 6 32) 7 35) 8 48) = w69
    refine q_Ru_seg (g2 := (16, [(0, .ref 64), (1, .int a), (2, .ref 103)], [.int 0], (q_cX (q_uA q_AX 35 w69) (q_uI q_IX 34 3 9) (q_uA q_J0 39 (vp_updL (fun _ => 0) 0 9)), 40, 26520))) 4 (fun _ _ => rfl) ?_
    exact q_Ru_ret rfl rfl
  · refine q_Ca_of (Nat.le_of_ble_eq_true rfl) ?_
    refine q_Ru_seg (g2 := (2, [(0, .ref 64), (1, .int a)], [.int a, .ref 64], (q_cM q_AM q_IM q_J0, 34, 31630))) 2 (fun _ _ => rfl) ?_
    refine q_Ru_call (v := (some (.int 0))) (h2 := (q_cM q_AM q_IM q_J0, 34, 31630)) rfl rfl ?_ ?_
    · refine q_Ca_of (Nat.le_of_ble_eq_true rfl) ?_
      refine q_Ru_seg (g2 := (5, [(0, .int a)], [.int 4095, .int 0, .int a], (q_cM q_AM q_IM q_J0, 34, 31630))) 3 (fun _ _ => rfl) ?_
      refine q_Ru_call (v := (some (.int 1))) (h2 := (q_cM q_AM q_IM q_J0, 34, 31630)) rfl rfl ?_ ?_
      · refine q_Ca_of (Nat.le_of_ble_eq_true rfl) ?_
        refine q_Ru_seg (g2 := (2, [(0, .int a), (1, .int 0), (2, .int 4095)], [.int 0, .int a], (q_cM q_AM q_IM q_J0, 34, 31630))) 2 (fun _ _ => rfl) ?_
        refine q_Ru_rsF (g2 := (5, [(0, .int a), (1, .int 0), (2, .int 4095)], [], (q_cM q_AM q_IM q_J0, 34, 31630))) rfl rfl h171 ?_
        refine q_Ru_seg (g2 := (7, [(0, .int a), (1, .int 0), (2, .int 4095)], [.int 4095, .int a], (q_cM q_AM q_IM q_J0, 34, 31630))) 2 (fun _ _ => rfl) ?_
        refine q_Ru_rsF (g2 := (10, [(0, .int a), (1, .int 0), (2, .int 4095)], [], (q_cM q_AM q_IM q_J0, 34, 31630))) rfl rfl h176 ?_
        refine q_Ru_seg (g2 := (15, [(0, .int a), (1, .int 0), (2, .int 4095)], [.int 1], (q_cM q_AM q_IM q_J0, 34, 31630))) 2 (fun _ _ => rfl) ?_
        exact q_Ru_ret rfl rfl
      show q_Ru _ _ _ (8, [(0, .int a)], [.int 1], (q_cM q_AM q_IM q_J0, 34, 31630)) _
      refine q_Ru_seg (g2 := (16, [(0, .int a)], [.int 0], (q_cM q_AM q_IM q_J0, 34, 31630))) 2 (fun _ _ => rfl) ?_
      exact q_Ru_ret rfl rfl
    show q_Ru _ _ _ (5, [(0, .ref 64), (1, .int a)], [.int 0, .ref 64], (q_cM q_AM q_IM q_J0, 34, 31630)) _
    refine q_Ru_seg (g2 := (13, [(0, .ref 64), (1, .int a)], [.int 0, .ref 64], (q_cM q_AM q_IM q_J0, 34, 31630))) 2 (fun _ _ => rfl) ?_
    refine q_Ru_call (v := (some (.int 0))) (h2 := (q_cM q_AM (q_uI q_IM 0 39 0) q_J0, 34, 31630)) rfl rfl ?_ ?_
    · refine q_Ca_of (Nat.le_of_ble_eq_true rfl) ?_
      refine q_Ru_seg (g2 := (14, [(0, .ref 64), (1, .int 0)], [.int 0], (q_cM q_AM (q_uI q_IM 0 39 0) q_J0, 34, 31630))) 6 (fun _ _ => rfl) ?_
      exact q_Ru_ret rfl rfl
    show q_Ru _ _ _ (16, [(0, .ref 64), (1, .int a)], [.int 0], (q_cM q_AM (q_uI q_IM 0 39 0) q_J0, 34, 31630)) _
    refine q_Ru_seg (g2 := (23, [(0, .ref 64), (1, .int a)], [.int a, .ref 64], (q_cM q_AM (q_uI q_IM 0 39 0) q_J0, 34, 31630))) 3 (fun _ _ => rfl) ?_
    refine q_Ru_call (v := (some (.int 0))) (h2 := (q_cM (q_uA (q_uA q_AM 33 f13) 32 (fun _ => 0)) (q_uI q_IM 0 39 0) q_J0, 34, 31630)) rfl rfl ?_ ?_
    · refine q_Ca_of (Nat.le_of_ble_eq_true rfl) ?_
      refine q_Ru_seg (g2 := (2, [(0, .ref 64), (1, .int a)], [.int a, .ref 64], (q_cM q_AM (q_uI q_IM 0 39 0) q_J0, 34, 31630))) 2 (fun _ _ => rfl) ?_
      refine q_Ru_call (v := (some (.int (a &&& 4095)))) (h2 := (q_cM q_AM (q_uI q_IM 0 39 0) q_J0, 34, 31630)) rfl rfl ?_ ?_
      · refine q_Ca_of (Nat.le_of_ble_eq_true rfl) ?_
        refine q_Ru_seg (g2 := (5, [(0, .int a)], [.int (a &&& 4095)], (q_cM q_AM (q_uI q_IM 0 39 0) q_J0, 34, 31630))) 3 (fun _ _ => rfl) ?_
        exact q_Ru_ret rfl rfl
      show q_Ru _ _ _ (5, [(0, .ref 64), (1, .int a)], [.int (a &&& 4095), .ref 64], (q_cM q_AM (q_uI q_IM 0 39 0) q_J0, 34, 31630)) _
      refine q_Ru_call (v := (some (.int 0))) (h2 := (q_cM (q_uA (q_uA q_AM 33 f13) 32 (fun _ => 0)) (q_uI q_IM 0 39 0) q_J0, 34, 31630)) rfl rfl ?_ ?_
      · exact p13.le (Nat.le_of_ble_eq_true rfl)
      show q_Ru _ _ _ (8, [(0, .ref 64), (1, .int a)], [.int 0], (q_cM (q_uA (q_uA q_AM 33 f13) 32 (fun _ => 0)) (q_uI q_IM 0 39 0) q_J0, 34, 31630)) _
      exact q_Ru_ret rfl rfl
    show q_Ru _ _ _ (26, [(0, .ref 64), (1, .int a)], [.int 0], (q_cM (q_uA (q_uA q_AM 33 f13) 32 (fun _ => 0)) (q_uI q_IM 0 39 0) q_J0, 34, 31630)) _
    exact q_Ru_le (Nat.le_of_ble_eq_true rfl) (q_xc61 L xs a hl_a hu_a f13 f14 h177 h178 p14)
set_option maxHeartbeats 20000000 in
theorem q_xc98 (L : Nat) (xs : Nat → Int32) (a : Int32) (hl_a : 100 ≤ a.toInt) (hu_a : a.toInt ≤ 999) (h179 : decide (a < 0) = false) (h182 : decide ((-100) < -a) = false) (h184 : decide ((-100) < (-a) / 100) = true) (h185 : decide ((-a) / 100 < (-9)) = false) : q_Ru (q_TBs 98 L xs) 1 341 (10, [(2, .int 0), (0, .ref 98), (1, .int a)], [.int 3, .int 0], (q_cX q_AX (q_uI q_IX 34 3 0) q_J0, 40, 26520)) (.inl (some (.ref 98)), (q_cX (q_uA q_AX 35 (upd (upd (upd (fun _ => 0) 2 (vp_nar .byte ((fun j => q_o6.getD j 0) (((((-a) / 100) * 100) - (-a)).toNatClampNeg)))) 1 (vp_nar .byte ((fun j => q_o7.getD j 0) (((((-a) / 100) * 100) - (-a)).toNatClampNeg)))) 0 (vp_nar .byte ((fun j => q_o6.getD j 0) ((-((-a) / 100)).toNatClampNeg))))) (q_uI q_IX 34 3 3) q_J0, 40, 26520)) := by
  refine q_Ru_seg (g2 := (14, [(3, .int 3), (2, .int 0), (0, .ref 98), (1, .int a)], [.int 3, .ref 98], (q_cX q_AX (q_uI q_IX 34 3 0) q_J0, 40, 26520))) 4 (fun _ _ => rfl) ?_
  refine q_Ru_call (v := none) (h2 := (q_cX q_AX (q_uI q_IX 34 3 0) q_J0, 40, 26520)) rfl rfl ?_ ?_
  · refine q_Ca_of (Nat.le_of_ble_eq_true rfl) ?_
    refine q_Ru_seg (g2 := (9, [(0, .ref 98), (1, .int 3)], [.int 0, .int 16], (q_cX q_AX (q_uI q_IX 34 3 0) q_J0, 40, 26520))) 5 (fun _ _ => rfl) ?_
    refine q_Ru_seg (g2 := (38, [(2, .int 16), (0, .ref 98), (1, .int 3)], [], (q_cX q_AX (q_uI q_IX 34 3 0) q_J0, 40, 26520))) 6 (fun _ _ => rfl) ?_
    exact q_Ru_ret rfl rfl
  show q_Ru _ _ _ (17, [(3, .int 3), (2, .int 0), (0, .ref 98), (1, .int a)], [], (q_cX q_AX (q_uI q_IX 34 3 0) q_J0, 40, 26520)) _
  refine q_Ru_seg (g2 := (18, [(3, .int 3), (2, .int 0), (0, .ref 98), (1, .int a)], [.ref 98], (q_cX q_AX (q_uI q_IX 34 3 0) q_J0, 40, 26520))) 1 (fun _ _ => rfl) ?_
  refine q_Ru_call (v := (some (.int 1))) (h2 := (q_cX q_AX (q_uI q_IX 34 3 0) q_J0, 40, 26520)) rfl rfl ?_ ?_
  · refine q_Ca_of (Nat.le_of_ble_eq_true rfl) ?_
    refine q_Ru_seg (g2 := (10, [(0, .ref 98)], [.int 0], (q_cX q_AX (q_uI q_IX 34 3 0) q_J0, 40, 26520))) 4 (fun _ _ => rfl) ?_
    refine q_Ru_seg (g2 := (18, [(0, .ref 98)], [.int 1], (q_cX q_AX (q_uI q_IX 34 3 0) q_J0, 40, 26520))) 3 (fun _ _ => rfl) ?_
    exact q_Ru_ret rfl rfl
  show q_Ru _ _ _ (21, [(3, .int 3), (2, .int 0), (0, .ref 98), (1, .int a)], [.int 1], (q_cX q_AX (q_uI q_IX 34 3 0) q_J0, 40, 26520)) _
  refine q_Ru_seg (g2 := (30, [(3, .int 3), (2, .int 0), (0, .ref 98), (1, .int a)], [.ref 99, .int 3, .int a], (q_cX q_AX (q_uI q_IX 34 3 0) q_J0, 40, 26520))) 5 (fun _ _ => rfl) ?_
  refine q_Ru_call (v := (some (.int 0))) (h2 := (q_cX (q_uA q_AX 35 (upd (upd (upd (fun _ => 0) 2 (vp_nar .byte ((fun j => q_o6.getD j 0) (((((-a) / 100) * 100) - (-a)).toNatClampNeg)))) 1 (vp_nar .byte ((fun j => q_o7.getD j 0) (((((-a) / 100) * 100) - (-a)).toNatClampNeg)))) 0 (vp_nar .byte ((fun j => q_o6.getD j 0) ((-((-a) / 100)).toNatClampNeg))))) (q_uI q_IX 34 3 0) q_J0, 40, 26520)) rfl rfl ?_ ?_
  · refine q_Ca_of (Nat.le_of_ble_eq_true rfl) ?_
    refine q_Ru_seg (g2 := (4, [(5, .int 3), (0, .int a), (1, .int 3), (2, .ref 99)], [.int a], (q_cX q_AX (q_uI q_IX 34 3 0) q_J0, 40, 26520))) 3 (fun _ _ => rfl) ?_
    refine q_Ru_rsT (g2 := (11, [(5, .int 3), (0, .int a), (1, .int 3), (2, .ref 99)], [], (q_cX q_AX (q_uI q_IX 34 3 0) q_J0, 40, 26520))) rfl rfl (q_d_geF h179) ?_
    refine q_Ru_seg (g2 := (25, [(0, .int (-a)), (6, .int 0), (5, .int 3), (1, .int 3), (2, .ref 99)], [.int (-100), .int (-a)], (q_cX q_AX (q_uI q_IX 34 3 0) q_J0, 40, 26520))) 9 (fun _ _ => rfl) ?_
    refine q_Ru_rsF (g2 := (28, [(0, .int (-a)), (6, .int 0), (5, .int 3), (1, .int 3), (2, .ref 99)], [], (q_cX q_AX (q_uI q_IX 34 3 0) q_J0, 40, 26520))) rfl rfl h182 ?_
    refine q_Ru_seg (g2 := (54, [(5, .int 2), (0, .int ((-a) / 100)), (4, .int ((((-a) / 100) * 100) - (-a))), (3, .int ((-a) / 100)), (6, .int 0), (1, .int 3), (2, .ref 99)], [.int ((((-a) / 100) * 100) - (-a)), .ref 6, .int 2, .ref 99], (q_cX q_AX (q_uI q_IX 34 3 0) q_J0, 40, 26520))) 17 (fun _ _ => rfl) ?_
    refine q_Ru_rsT (g2 := (55, [(5, .int 2), (0, .int ((-a) / 100)), (4, .int ((((-a) / 100) * 100) - (-a))), (3, .int ((-a) / 100)), (6, .int 0), (1, .int 3), (2, .ref 99)], [.int ((fun j => q_o6.getD j 0) (((((-a) / 100) * 100) - (-a)).toNatClampNeg)), .int 2, .ref 99], (q_cX q_AX (q_uI q_IX 34 3 0) q_J0, 40, 26520))) rfl rfl (q_tbl1 (fun a => q_in ((((-a) / 100) * 100) - (-a)) 100) (l := 100) (n := 899) (by decide +kernel) hl_a hu_a) ?_
    generalize ((fun j => q_o6.getD j 0) (((((-a) / 100) * 100) - (-a)).toNatClampNeg)) = y121
    refine q_Ru_seg (g2 := (67, [(5, .int 1), (0, .int ((-a) / 100)), (4, .int ((((-a) / 100) * 100) - (-a))), (3, .int ((-a) / 100)), (6, .int 0), (1, .int 3), (2, .ref 99)], [.int ((((-a) / 100) * 100) - (-a)), .ref 7, .int 1, .ref 99], (q_cX (q_uA q_AX 35 (upd (fun _ => 0) 2 (vp_nar .byte y121))) (q_uI q_IX 34 3 0) q_J0, 40, 26520))) 6 (fun _ _ => rfl) ?_
    refine q_Ru_rsT (g2 := (68, [(5, .int 1), (0, .int ((-a) / 100)), (4, .int ((((-a) / 100) * 100) - (-a))), (3, .int ((-a) / 100)), (6, .int 0), (1, .int 3), (2, .ref 99)], [.int ((fun j => q_o7.getD j 0) (((((-a) / 100) * 100) - (-a)).toNatClampNeg)), .int 1, .ref 99], (q_cX (q_uA q_AX 35 (upd (fun _ => 0) 2 (vp_nar .byte y121))) (q_uI q_IX 34 3 0) q_J0, 40, 26520))) rfl rfl (q_tbl1 (fun a => q_in ((((-a) / 100) * 100) - (-a)) 100) (l := 100) (n := 899) (by decide +kernel) hl_a hu_a) ?_
    generalize ((fun j => q_o7.getD j 0) (((((-a) / 100) * 100) - (-a)).toNatClampNeg)) = y122
    refine q_Ru_seg (g2 := (25, [(5, .int 1), (0, .int ((-a) / 100)), (4, .int ((((-a) / 100) * 100) - (-a))), (3, .int ((-a) / 100)), (6, .int 0), (1, .int 3), (2, .ref 99)], [.int (-100), .int ((-a) / 100)], (q_cX (q_uA q_AX 35 (upd (upd (fun _ => 0) 2 (vp_nar .byte y121)) 1 (vp_nar .byte y122))) (q_uI q_IX 34 3 0) q_J0, 40, 26520))) 4 (fun _ _ => rfl) ?_
    refine q_Ru_rsT (g2 := (72, [(5, .int 1), (0, .int ((-a) / 100)), (4, .int ((((-a) / 100) * 100) - (-a))), (3, .int ((-a) / 100)), (6, .int 0), (1, .int 3), (2, .ref 99)], [], (q_cX (q_uA q_AX 35 (upd (upd (fun _ => 0) 2 (vp_nar .byte y121)) 1 (vp_nar .byte y122))) (q_uI q_IX 34 3 0) q_J0, 40, 26520))) rfl rfl h184 ?_
    refine q_Ru_seg (g2 := (83, [(5, .int 0), (0, .int ((-a) / 100)), (4, .int ((((-a) / 100) * 100) - (-a))), (3, .int ((-a) / 100)), (6, .int 0), (1, .int 3), (2, .ref 99)], [.int (-((-a) / 100)), .ref 6, .int 0, .ref 99], (q_cX (q_uA q_AX 35 (upd (upd (fun _ => 0) 2 (vp_nar .byte y121)) 1 (vp_nar .byte y122))) (q_uI q_IX 34 3 0) q_J0, 40, 26520))) 6 (fun _ _ => rfl) ?_
    refine q_Ru_rsT (g2 := (84, [(5, .int 0), (0, .int ((-a) / 100)), (4, .int ((((-a) / 100) * 100) - (-a))), (3, .int ((-a) / 100)), (6, .int 0), (1, .int 3), (2, .ref 99)], [.int ((fun j => q_o6.getD j 0) ((-((-a) / 100)).toNatClampNeg)), .int 0, .ref 99], (q_cX (q_uA q_AX 35 (upd (upd (fun _ => 0) 2 (vp_nar .byte y121)) 1 (vp_nar .byte y122))) (q_uI q_IX 34 3 0) q_J0, 40, 26520))) rfl rfl (q_tbl1 (fun a => q_in (-((-a) / 100)) 100) (l := 100) (n := 899) (by decide +kernel) hl_a hu_a) ?_
    generalize ((fun j => q_o6.getD j 0) ((-((-a) / 100)).toNatClampNeg)) = y123
    refine q_Ru_seg (g2 := (88, [(5, .int 0), (0, .int ((-a) / 100)), (4, .int ((((-a) / 100) * 100) - (-a))), (3, .int ((-a) / 100)), (6, .int 0), (1, .int 3), (2, .ref 99)], [.int (-9), .int ((-a) / 100)], (q_cX (q_uA q_AX 35 (upd (upd (upd (fun _ => 0) 2 (vp_nar .byte y121)) 1 (vp_nar .byte y122)) 0 (vp_nar .byte y123))) (q_uI q_IX 34 3 0) q_J0, 40, 26520))) 3 (fun _ _ => rfl) ?_
    refine q_Ru_rsT (g2 := (104, [(5, .int 0), (0, .int ((-a) / 100)), (4, .int ((((-a) / 100) * 100) - (-a))), (3, .int ((-a) / 100)), (6, .int 0), (1, .int 3), (2, .ref 99)], [], (q_cX (q_uA q_AX 35 (upd (upd (upd (fun _ => 0) 2 (vp_nar .byte y121)) 1 (vp_nar .byte y122)) 0 (vp_nar .byte y123))) (q_uI q_IX 34 3 0) q_J0, 40, 26520))) rfl rfl (q_d_geF h185) ?_
    refine q_Ru_seg (g2 := (120, [(5, .int 0), (0, .int ((-a) / 100)), (4, .int ((((-a) / 100) * 100) - (-a))), (3, .int ((-a) / 100)), (6, .int 0), (1, .int 3), (2, .ref 99)], [.int 0], (q_cX (q_uA q_AX 35 (upd (upd (upd (fun _ => 0) 2 (vp_nar .byte y121)) 1 (vp_nar .byte y122)) 0 (vp_nar .byte y123))) (q_uI q_IX 34 3 0) q_J0, 40, 26520))) 3 (fun _ _ => rfl) ?_
    exact q_Ru_ret rfl rfl
  show q_Ru _ _ _ (33, [(3, .int 3), (2, .int 0), (0, .ref 98), (1, .int a)], [.int 0], (q_cX (q_uA q_AX 35 (upd (upd (upd (fun _ => 0) 2 (vp_nar .byte ((fun j => q_o6.getD j 0) (((((-a) / 100) * 100) - (-a)).toNatClampNeg)))) 1 (vp_nar .byte ((fun j => q_o7.getD j 0) (((((-a) / 100) * 100) - (-a)).toNatClampNeg)))) 0 (vp_nar .byte ((fun j => q_o6.getD j 0) ((-((-a) / 100)).toNatClampNeg))))) (q_uI q_IX 34 3 0) q_J0, 40, 26520)) _
  generalize (upd (upd (upd (fun _ => 0) 2 (vp_nar .byte ((fun j => q_o6.getD j 0) (((((-a) / 100) * 100) - (-a)).toNatClampNeg)))) 1 (vp_nar .byte ((fun j => q_o7.getD j 0) (((((-a) / 100) * 100) - (-a)).toNatClampNeg)))) 0 (vp_nar .byte ((fun j => q_o6.getD j 0) ((-((-a) / 100)).toNatClampNeg)))) = w124
  refine q_Ru_seg (g2 := (54, [(3, .int 3), (2, .int 0), (0, .ref 98), (1, .int a)], [.ref 98], (q_cX (q_uA q_AX 35 w124) (q_uI q_IX 34 3 3) q_J0, 40, 26520))) 6 (fun _ _ => rfl) ?_
  exact q_Ru_ret rfl rfl
set_option maxHeartbeats 20000000 in
theorem q_xc99 (L : Nat) (xs : Nat → Int32) (a : Int32) (hl_a : 100 ≤ a.toInt) (hu_a : a.toInt ≤ 999) (w126 : Nat → Int32) : q_Ru (q_TBs 98 L xs) 4 194 (81, [(5, .int 1), (4, .int 0), (3, .ref 12), (2, .int 0), (0, .ref 98), (1, .int 0)], [.ref 98], (q_cX (q_uA q_AX 35 (upd (upd (upd w126 3 32) 4 108) 5 100)) (q_uI q_IX 34 3 6) q_J0, 40, 26520)) (.inl none, (q_cX (q_uA q_AX 35 (upd (upd (upd (upd w126 3 32) 4 108) 5 100) 6 97)) (q_uI q_IX 34 3 7) q_J0, 40, 26520)) := by
  refine q_Ru_seg (g2 := (75, [(5, .int 2), (4, .int 0), (3, .ref 12), (2, .int 0), (0, .ref 98), (1, .int 0)], [.int 2, .ref 12, .ref 98], (q_cX (q_uA q_AX 35 (upd (upd (upd w126 3 32) 4 108) 5 100)) (q_uI q_IX 34 3 6) q_J0, 40, 26520))) 11 (fun _ _ => rfl) ?_
  refine q_Ru_call (v := (some (.int 97))) (h2 := (q_cX (q_uA q_AX 35 (upd (upd (upd w126 3 32) 4 108) 5 100)) (q_uI q_IX 34 3 6) q_J0, 40, 26520)) rfl rfl ?_ ?_
  · refine q_Ca_of (Nat.le_of_ble_eq_true rfl) ?_
    refine q_Ru_seg (g2 := (1, [(0, .ref 12), (1, .int 2)], [.ref 12], (q_cX (q_uA q_AX 35 (upd (upd (upd w126 3 32) 4 108) 5 100)) (q_uI q_IX 34 3 6) q_J0, 40, 26520))) 1 (fun _ _ => rfl) ?_
    refine q_Ru_call (v := (some (.int 1))) (h2 := (q_cX (q_uA q_AX 35 (upd (upd (upd w126 3 32) 4 108) 5 100)) (q_uI q_IX 34 3 6) q_J0, 40, 26520)) rfl rfl ?_ ?_
    · refine q_Ca_of (Nat.le_of_ble_eq_true rfl) ?_
      refine q_Ru_seg (g2 := (18, [(0, .ref 12)], [.int 1], (q_cX (q_uA q_AX 35 (upd (upd (upd w126 3 32) 4 108) 5 100)) (q_uI q_IX 34 3 6) q_J0, 40, 26520))) 7 (fun _ _ => rfl) ?_
      exact q_Ru_ret rfl rfl
    show q_Ru _ _ _ (4, [(0, .ref 12), (1, .int 2)], [.int 1], (q_cX (q_uA q_AX 35 (upd (upd (upd w126 3 32) 4 108) 5 100)) (q_uI q_IX 34 3 6) q_J0, 40, 26520)) _
    refine q_Ru_seg (g2 := (12, [(0, .ref 12), (1, .int 2)], [.int 2, .ref 40], (q_cX (q_uA q_AX 35 (upd (upd (upd w126 3 32) 4 108) 5 100)) (q_uI q_IX 34 3 6) q_J0, 40, 26520))) 4 (fun _ _ => rfl) ?_
    refine q_Ru_call (v := (some (.int 97))) (h2 := (q_cX (q_uA q_AX 35 (upd (upd (upd w126 3 32) 4 108) 5 100)) (q_uI q_IX 34 3 6) q_J0, 40, 26520)) rfl rfl ?_ ?_
    · refine q_Ca_of (Nat.le_of_ble_eq_true rfl) ?_
      refine q_Ru_seg (g2 := (3, [(0, .ref 40), (1, .int 2)], [.int 63, .int 2], (q_cX (q_uA q_AX 35 (upd (upd (upd w126 3 32) 4 108) 5 100)) (q_uI q_IX 34 3 6) q_J0, 40, 26520))) 3 (fun _ _ => rfl) ?_
      refine q_Ru_call (v := none) (h2 := (q_cX (q_uA q_AX 35 (upd (upd (upd w126 3 32) 4 108) 5 100)) (q_uI q_IX 34 3 6) q_J0, 40, 26520)) rfl rfl ?_ ?_
      · refine q_Ca_of (Nat.le_of_ble_eq_true rfl) ?_
        refine q_Ru_seg (g2 := (5, [(0, .int 2), (1, .int 63)], [.null, .int 63, .int 2], (q_cX (q_uA q_AX 35 (upd (upd (upd w126 3 32) 4 108) 5 100)) (q_uI q_IX 34 3 6) q_J0, 40, 26520))) 3 (fun _ _ => rfl) ?_
        refine q_Ru_call (v := (some (.int 2))) (h2 := (q_cX (q_uA q_AX 35 (upd (upd (upd w126 3 32) 4 108) 5 100)) (q_uI q_IX 34 3 6) q_J0, 40, 26520)) rfl rfl ?_ ?_
        · refine q_Ca_of (Nat.le_of_ble_eq_true rfl) ?_
          refine q_Ru_seg (g2 := (17, [(0, .int 2), (1, .int 63), (2, .null)], [.int 2], (q_cX (q_uA q_AX 35 (upd (upd (upd w126 3 32) 4 108) 5 100)) (q_uI q_IX 34 3 6) q_J0, 40, 26520))) 6 (fun _ _ => rfl) ?_
          exact q_Ru_ret rfl rfl
        show q_Ru _ _ _ (8, [(0, .int 2), (1, .int 63)], [.int 2], (q_cX (q_uA q_AX 35 (upd (upd (upd w126 3 32) 4 108) 5 100)) (q_uI q_IX 34 3 6) q_J0, 40, 26520)) _
        refine q_Ru_seg (g2 := (9, [(0, .int 2), (1, .int 63)], [], (q_cX (q_uA q_AX 35 (upd (upd (upd w126 3 32) 4 108) 5 100)) (q_uI q_IX 34 3 6) q_J0, 40, 26520))) 1 (fun _ _ => rfl) ?_
        exact q_Ru_ret rfl rfl
      show q_Ru _ _ _ (6, [(0, .ref 40), (1, .int 2)], [], (q_cX (q_uA q_AX 35 (upd (upd (upd w126 3 32) 4 108) 5 100)) (q_uI q_IX 34 3 6) q_J0, 40, 26520)) _
      refine q_Ru_seg (g2 := (9, [(0, .ref 40), (1, .int 2)], [.int 97], (q_cX (q_uA q_AX 35 (upd (upd (upd w126 3 32) 4 108) 5 100)) (q_uI q_IX 34 3 6) q_J0, 40, 26520))) 3 (fun _ _ => rfl) ?_
      refine q_Ru_seg (g2 := (14, [(0, .ref 40), (1, .int 2)], [.int 97], (q_cX (q_uA q_AX 35 (upd (upd (upd w126 3 32) 4 108) 5 100)) (q_uI q_IX 34 3 6) q_J0, 40, 26520))) 3 (fun _ _ => rfl) ?_
      exact q_Ru_ret rfl rfl
    show q_Ru _ _ _ (15, [(0, .ref 12), (1, .int 2)], [.int 97], (q_cX (q_uA q_AX 35 (upd (upd (upd w126 3 32) 4 108) 5 100)) (q_uI q_IX 34 3 6) q_J0, 40, 26520)) _
    exact q_Ru_ret rfl rfl
  show q_Ru _ _ _ (78, [(5, .int 2), (4, .int 0), (3, .ref 12), (2, .int 0), (0, .ref 98), (1, .int 0)], [.int 97, .ref 98], (q_cX (q_uA q_AX 35 (upd (upd (upd w126 3 32) 4 108) 5 100)) (q_uI q_IX 34 3 6) q_J0, 40, 26520)) _
  refine q_Ru_call (v := (some (.ref 98))) (h2 := (q_cX (q_uA q_AX 35 (upd (upd (upd (upd w126 3 32) 4 108) 5 100) 6 97)) (q_uI q_IX 34 3 7) q_J0, 40, 26520)) rfl rfl ?_ ?_
  · refine q_Ca_of (Nat.le_of_ble_eq_true rfl) ?_
    refine q_Ru_seg (g2 := (2, [(0, .ref 98), (1, .int 97)], [.int 97, .ref 98], (q_cX (q_uA q_AX 35 (upd (upd (upd w126 3 32) 4 108) 5 100)) (q_uI q_IX 34 3 6) q_J0, 40, 26520))) 2 (fun _ _ => rfl) ?_
    refine q_Ru_call (v := (some (.ref 98))) (h2 := (q_cX (q_uA q_AX 35 (upd (upd (upd (upd w126 3 32) 4 108) 5 100) 6 97)) (q_uI q_IX 34 3 7) q_J0, 40, 26520)) rfl rfl ?_ ?_
    · refine q_Ca_of (Nat.le_of_ble_eq_true rfl) ?_
      refine q_Ru_seg (g2 := (5, [(0, .ref 98), (1, .int 97)], [.int 6, .ref 98], (q_cX (q_uA q_AX 35 (upd (upd (upd w126 3 32) 4 108) 5 100)) (q_uI q_IX 34 3 6) q_J0, 40, 26520))) 3 (fun _ _ => rfl) ?_
      refine q_Ru_seg (g2 := (7, [(0, .ref 98), (1, .int 97)], [.int 7, .ref 98], (q_cX (q_uA q_AX 35 (upd (upd (upd w126 3 32) 4 108) 5 100)) (q_uI q_IX 34 3 6) q_J0, 40, 26520))) 2 (fun _ _ => rfl) ?_
      refine q_Ru_call (v := none) (h2 := (q_cX (q_uA q_AX 35 (upd (upd (upd w126 3 32) 4 108) 5 100)) (q_uI q_IX 34 3 6) q_J0, 40, 26520)) rfl rfl ?_ ?_
      · refine q_Ca_of (Nat.le_of_ble_eq_true rfl) ?_
        refine q_Ru_seg (g2 := (9, [(0, .ref 98), (1, .int 7)], [.int 0, .int 16], (q_cX (q_uA q_AX 35 (upd (upd (upd w126 3 32) 4 108) 5 100)) (q_uI q_IX 34 3 6) q_J0, 40, 26520))) 5 (fun _ _ => rfl) ?_
        refine q_Ru_seg (g2 := (38, [(2, .int 16), (0, .ref 98), (1, .int 7)], [], (q_cX (q_uA q_AX 35 (upd (upd (upd w126 3 32) 4 108) 5 100)) (q_uI q_IX 34 3 6) q_J0, 40, 26520))) 6 (fun _ _ => rfl) ?_
        exact q_Ru_ret rfl rfl
      show q_Ru _ _ _ (10, [(0, .ref 98), (1, .int 97)], [], (q_cX (q_uA q_AX 35 (upd (upd (upd w126 3 32) 4 108) 5 100)) (q_uI q_IX 34 3 6) q_J0, 40, 26520)) _
      refine q_Ru_seg (g2 := (11, [(0, .ref 98), (1, .int 97)], [.ref 98], (q_cX (q_uA q_AX 35 (upd (upd (upd w126 3 32) 4 108) 5 100)) (q_uI q_IX 34 3 6) q_J0, 40, 26520))) 1 (fun _ _ => rfl) ?_
      refine q_Ru_call (v := (some (.int 1))) (h2 := (q_cX (q_uA q_AX 35 (upd (upd (upd w126 3 32) 4 108) 5 100)) (q_uI q_IX 34 3 6) q_J0, 40, 26520)) rfl rfl ?_ ?_
      · refine q_Ca_of (Nat.le_of_ble_eq_true rfl) ?_
        refine q_Ru_seg (g2 := (10, [(0, .ref 98)], [.int 0], (q_cX (q_uA q_AX 35 (upd (upd (upd w126 3 32) 4 108) 5 100)) (q_uI q_IX 34 3 6) q_J0, 40, 26520))) 4 (fun _ _ => rfl) ?_
        refine q_Ru_seg (g2 := (18, [(0, .ref 98)], [.int 1], (q_cX (q_uA q_AX 35 (upd (upd (upd w126 3 32) 4 108) 5 100)) (q_uI q_IX 34 3 6) q_J0, 40, 26520))) 3 (fun _ _ => rfl) ?_
        exact q_Ru_ret rfl rfl
      show q_Ru _ _ _ (14, [(0, .ref 98), (1, .int 97)], [.int 1], (q_cX (q_uA q_AX 35 (upd (upd (upd w126 3 32) 4 108) 5 100)) (q_uI q_IX 34 3 6) q_J0, 40, 26520)) _
      refine q_Ru_seg (g2 := (18, [(0, .ref 98), (1, .int 97)], [.int 97], (q_cX (q_uA q_AX 35 (upd (upd (upd w126 3 32) 4 108) 5 100)) (q_uI q_IX 34 3 6) q_J0, 40, 26520))) 2 (fun _ _ => rfl) ?_
      refine q_Ru_call (v := (some (.int 1))) (h2 := (q_cX (q_uA q_AX 35 (upd (upd (upd w126 3 32) 4 108) 5 100)) (q_uI q_IX 34 3 6) q_J0, 40, 26520)) rfl rfl ?_ ?_
      · refine q_Ca_of (Nat.le_of_ble_eq_true rfl) ?_
        refine q_Ru_seg (g2 := (12, [(0, .int 97)], [.int 1], (q_cX (q_uA q_AX 35 (upd (upd (upd w126 3 32) 4 108) 5 100)) (q_uI q_IX 34 3 6) q_J0, 40, 26520))) 5 (fun _ _ => rfl) ?_
        exact q_Ru_ret rfl rfl
      show q_Ru _ _ _ (21, [(0, .ref 98), (1, .int 97)], [.int 1], (q_cX (q_uA q_AX 35 (upd (upd (upd w126 3 32) 4 108) 5 100)) (q_uI q_IX 34 3 6) q_J0, 40, 26520)) _
      refine q_Ru_seg (g2 := (33, [(0, .ref 98), (1, .int 97)], [.int 6, .ref 98, .ref 99], (q_cX (q_uA q_AX 35 (upd (upd (upd w126 3 32) 4 108) 5 100)) (q_uI q_IX 34 3 6) q_J0, 40, 26520))) 6 (fun _ _ => rfl) ?_
      refine q_Ru_seg (g2 := (76, [(0, .ref 98), (1, .int 97)], [.ref 98], (q_cX (q_uA q_AX 35 (upd (upd (upd (upd w126 3 32) 4 108) 5 100) 6 97)) (q_uI q_IX 34 3 7) q_J0, 40, 26520))) 9 (fun _ _ => rfl) ?_
      exact q_Ru_ret rfl rfl
    show q_Ru _ _ _ (5, [(0, .ref 98), (1, .int 97)], [.ref 98], (q_cX (q_uA q_AX 35 (upd (upd (upd (upd w126 3 32) 4 108) 5 100) 6 97)) (q_uI q_IX 34 3 7) q_J0, 40, 26520)) _
    refine q_Ru_seg (g2 := (7, [(0, .ref 98), (1, .int 97)], [.ref 98], (q_cX (q_uA q_AX 35 (upd (upd (upd (upd w126 3 32) 4 108) 5 100) 6 97)) (q_uI q_IX 34 3 7) q_J0, 40, 26520))) 2 (fun _ _ => rfl) ?_
    exact q_Ru_ret rfl rfl
  show q_Ru _ _ _ (81, [(5, .int 2), (4, .int 0), (3, .ref 12), (2, .int 0), (0, .ref 98), (1, .int 0)], [.ref 98], (q_cX (q_uA q_AX 35 (upd (upd (upd (upd w126 3 32) 4 108) 5 100) 6 97)) (q_uI q_IX 34 3 7) q_J0, 40, 26520)) _
  refine q_Ru_seg (g2 := (88, [(5, .int 3), (4, .int 0), (3, .ref 12), (2, .int 0), (0, .ref 98), (1, .int 0)], [], (q_cX (q_uA q_AX 35 (upd (upd (upd (upd w126 3 32) 4 108) 5 100) 6 97)) (q_uI q_IX 34 3 7) q_J0, 40, 26520))) 8 (fun _ _ => rfl) ?_
  exact q_Ru_ret rfl rfl
set_option maxHeartbeats 20000000 in
theorem q_xc100 (L : Nat) (xs : Nat → Int32) (a : Int32) (hl_a : 100 ≤ a.toInt) (hu_a : a.toInt ≤ 999) (w126 : Nat → Int32) : q_Ru (q_TBs 98 L xs) 4 194 (81, [(5, .int 0), (4, .int 0), (3, .ref 12), (2, .int 0), (0, .ref 98), (1, .int 0)], [.ref 98], (q_cX (q_uA q_AX 35 (upd (upd w126 3 32) 4 108)) (q_uI q_IX 34 3 5) q_J0, 40, 26520)) (.inl none, (q_cX (q_uA q_AX 35 (upd (upd (upd (upd w126 3 32) 4 108) 5 100) 6 97)) (q_uI q_IX 34 3 7) q_J0, 40, 26520)) := by
  refine q_Ru_seg (g2 := (75, [(5, .int 1), (4, .int 0), (3, .ref 12), (2, .int 0), (0, .ref 98), (1, .int 0)], [.int 1, .ref 12, .ref 98], (q_cX (q_uA q_AX 35 (upd (upd w126 3 32) 4 108)) (q_uI q_IX 34 3 5) q_J0, 40, 26520))) 11 (fun _ _ => rfl) ?_
  refine q_Ru_call (v := (some (.int 100))) (h2 := (q_cX (q_uA q_AX 35 (upd (upd w126 3 32) 4 108)) (q_uI q_IX 34 3 5) q_J0, 40, 26520)) rfl rfl ?_ ?_
  · refine q_Ca_of (Nat.le_of_ble_eq_true rfl) ?_
    refine q_Ru_seg (g2 := (1, [(0, .ref 12), (1, .int 1)], [.ref 12], (q_cX (q_uA q_AX 35 (upd (upd w126 3 32) 4 108)) (q_uI q_IX 34 3 5) q_J0, 40, 26520))) 1 (fun _ _ => rfl) ?_
    refine q_Ru_call (v := (some (.int 1))) (h2 := (q_cX (q_uA q_AX 35 (upd (upd w126 3 32) 4 108)) (q_uI q_IX 34 3 5) q_J0, 40, 26520)) rfl rfl ?_ ?_
    · refine q_Ca_of (Nat.le_of_ble_eq_true rfl) ?_
      refine q_Ru_seg (g2 := (18, [(0, .ref 12)], [.int 1], (q_cX (q_uA q_AX 35 (upd (upd w126 3 32) 4 108)) (q_uI q_IX 34 3 5) q_J0, 40, 26520))) 7 (fun _ _ => rfl) ?_
      exact q_Ru_ret rfl rfl
    show q_Ru _ _ _ (4, [(0, .ref 12), (1, .int 1)], [.int 1], (q_cX (q_uA q_AX 35 (upd (upd w126 3 32) 4 108)) (q_uI q_IX 34 3 5) q_J0, 40, 26520)) _
    refine q_Ru_seg (g2 := (12, [(0, .ref 12), (1, .int 1)], [.int 1, .ref 40], (q_cX (q_uA q_AX 35 (upd (upd w126 3 32) 4 108)) (q_uI q_IX 34 3 5) q_J0, 40, 26520))) 4 (fun _ _ => rfl) ?_
    refine q_Ru_call (v := (some (.int 100))) (h2 := (q_cX (q_uA q_AX 35 (upd (upd w126 3 32) 4 108)) (q_uI q_IX 34 3 5) q_J0, 40, 26520)) rfl rfl ?_ ?_
    · refine q_Ca_of (Nat.le_of_ble_eq_true rfl) ?_
      refine q_Ru_seg (g2 := (3, [(0, .ref 40), (1, .int 1)], [.int 63, .int 1], (q_cX (q_uA q_AX 35 (upd (upd w126 3 32) 4 108)) (q_uI q_IX 34 3 5) q_J0, 40, 26520))) 3 (fun _ _ => rfl) ?_
      refine q_Ru_call (v := none) (h2 := (q_cX (q_uA q_AX 35 (upd (upd w126 3 32) 4 108)) (q_uI q_IX 34 3 5) q_J0, 40, 26520)) rfl rfl ?_ ?_
      · refine q_Ca_of (Nat.le_of_ble_eq_true rfl) ?_
        refine q_Ru_seg (g2 := (5, [(0, .int 1), (1, .int 63)], [.null, .int 63, .int 1], (q_cX (q_uA q_AX 35 (upd (upd w126 3 32) 4 108)) (q_uI q_IX 34 3 5) q_J0, 40, 26520))) 3 (fun _ _ => rfl) ?_
        refine q_Ru_call (v := (some (.int 1))) (h2 := (q_cX (q_uA q_AX 35 (upd (upd w126 3 32) 4 108)) (q_uI q_IX 34 3 5) q_J0, 40, 26520)) rfl rfl ?_ ?_
        · refine q_Ca_of (Nat.le_of_ble_eq_true rfl) ?_
          refine q_Ru_seg (g2 := (17, [(0, .int 1), (1, .int 63), (2, .null)], [.int 1], (q_cX (q_uA q_AX 35 (upd (upd w126 3 32) 4 108)) (q_uI q_IX 34 3 5) q_J0, 40, 26520))) 6 (fun _ _ => rfl) ?_
          exact q_Ru_ret rfl rfl
        show q_Ru _ _ _ (8, [(0, .int 1), (1, .int 63)], [.int 1], (q_cX (q_uA q_AX 35 (upd (upd w126 3 32) 4 108)) (q_uI q_IX 34 3 5) q_J0, 40, 26520)) _
        refine q_Ru_seg (g2 := (9, [(0, .int 1), (1, .int 63)], [], (q_cX (q_uA q_AX 35 (upd (upd w126 3 32) 4 108)) (q_uI q_IX 34 3 5) q_J0, 40, 26520))) 1 (fun _ _ => rfl) ?_
        exact q_Ru_ret rfl rfl
      show q_Ru _ _ _ (6, [(0, .ref 40), (1, .int 1)], [], (q_cX (q_uA q_AX 35 (upd (upd w126 3 32) 4 108)) (q_uI q_IX 34 3 5) q_J0, 40, 26520)) _
      refine q_Ru_seg (g2 := (9, [(0, .ref 40), (1, .int 1)], [.int 100], (q_cX (q_uA q_AX 35 (upd (upd w126 3 32) 4 108)) (q_uI q_IX 34 3 5) q_J0, 40, 26520))) 3 (fun _ _ => rfl) ?_
      refine q_Ru_seg (g2 := (14, [(0, .ref 40), (1, .int 1)], [.int 100], (q_cX (q_uA q_AX 35 (upd (upd w126 3 32) 4 108)) (q_uI q_IX 34 3 5) q_J0, 40, 26520))) 3 (fun _ _ => rfl) ?_
      exact q_Ru_ret rfl rfl
    show q_Ru _ _ _ (15, [(0, .ref 12), (1, .int 1)], [.int 100], (q_cX (q_uA q_AX 35 (upd (upd w126 3 32) 4 108)) (q_uI q_IX 34 3 5) q_J0, 40, 26520)) _
    exact q_Ru_ret rfl rfl
  show q_Ru _ _ _ (78, [(5, .int 1), (4, .int 0), (3, .ref 12), (2, .int 0), (0, .ref 98), (1, .int 0)], [.int 100, .ref 98], (q_cX (q_uA q_AX 35 (upd (upd w126 3 32) 4 108)) (q_uI q_IX 34 3 5) q_J0, 40, 26520)) _
  refine q_Ru_call (v := (some (.ref 98))) (h2 := (q_cX (q_uA q_AX 35 (upd (upd (upd w126 3 32) 4 108) 5 100)) (q_uI q_IX 34 3 6) q_J0, 40, 26520)) rfl rfl ?_ ?_
  · refine q_Ca_of (Nat.le_of_ble_eq_true rfl) ?_
    refine q_Ru_seg (g2 := (2, [(0, .ref 98), (1, .int 100)], [.int 100, .ref 98], (q_cX (q_uA q_AX 35 (upd (upd w126 3 32) 4 108)) (q_uI q_IX 34 3 5) q_J0, 40, 26520))) 2 (fun _ _ => rfl) ?_
    refine q_Ru_call (v := (some (.ref 98))) (h2 := (q_cX (q_uA q_AX 35 (upd (upd (upd w126 3 32) 4 108) 5 100)) (q_uI q_IX 34 3 6) q_J0, 40, 26520)) rfl rfl ?_ ?_
    · refine q_Ca_of (Nat.le_of_ble_eq_true rfl) ?_
      refine q_Ru_seg (g2 := (5, [(0, .ref 98), (1, .int 100)], [.int 5, .ref 98], (q_cX (q_uA q_AX 35 (upd (upd w126 3 32) 4 108)) (q_uI q_IX 34 3 5) q_J0, 40, 26520))) 3 (fun _ _ => rfl) ?_
      refine q_Ru_seg (g2 := (7, [(0, .ref 98), (1, .int 100)], [.int 6, .ref 98], (q_cX (q_uA q_AX 35 (upd (upd w126 3 32) 4 108)) (q_uI q_IX 34 3 5) q_J0, 40, 26520))) 2 (fun _ _ => rfl) ?_
      refine q_Ru_call (v := none) (h2 := (q_cX (q_uA q_AX 35 (upd (upd w126 3 32) 4 108)) (q_uI q_IX 34 3 5) q_J0, 40, 26520)) rfl rfl ?_ ?_
      · refine q_Ca_of (Nat.le_of_ble_eq_true rfl) ?_
        refine q_Ru_seg (g2 := (9, [(0, .ref 98), (1, .int 6)], [.int 0, .int 16], (q_cX (q_uA q_AX 35 (upd (upd w126 3 32) 4 108)) (q_uI q_IX 34 3 5) q_J0, 40, 26520))) 5 (fun _ _ => rfl) ?_
        refine q_Ru_seg (g2 := (38, [(2, .int 16), (0, .ref 98), (1, .int 6)], [], (q_cX (q_uA q_AX 35 (upd (upd w126 3 32) 4 108)) (q_uI q_IX 34 3 5) q_J0, 40, 26520))) 6 (fun _ _ => rfl) ?_
        exact q_Ru_ret rfl rfl
      show q_Ru _ _ _ (10, [(0, .ref 98), (1, .int 100)], [], (q_cX (q_uA q_AX 35 (upd (upd w126 3 32) 4 108)) (q_uI q_IX 34 3 5) q_J0, 40, 26520)) _
      refine q_Ru_seg (g2 := (11, [(0, .ref 98), (1, .int 100)], [.ref 98], (q_cX (q_uA q_AX 35 (upd (upd w126 3 32) 4 108)) (q_uI q_IX 34 3 5) q_J0, 40, 26520))) 1 (fun _ _ => rfl) ?_
      refine q_Ru_call (v := (some (.int 1))) (h2 := (q_cX (q_uA q_AX 35 (upd (upd w126 3 32) 4 108)) (q_uI q_IX 34 3 5) q_J0, 40, 26520)) rfl rfl ?_ ?_
      · refine q_Ca_of (Nat.le_of_ble_eq_true rfl) ?_
        refine q_Ru_seg (g2 := (10, [(0, .ref 98)], [.int 0], (q_cX (q_uA q_AX 35 (upd (upd w126 3 32) 4 108)) (q_uI q_IX 34 3 5) q_J0, 40, 26520))) 4 (fun _ _ => rfl) ?_
        refine q_Ru_seg (g2 := (18, [(0, .ref 98)], [.int 1], (q_cX (q_uA q_AX 35 (upd (upd w126 3 32) 4 108)) (q_uI q_IX 34 3 5) q_J0, 40, 26520))) 3 (fun _ _ => rfl) ?_
        exact q_Ru_ret rfl rfl
      show q_Ru _ _ _ (14, [(0, .ref 98), (1, .int 100)], [.int 1], (q_cX (q_uA q_AX 35 (upd (upd w126 3 32) 4 108)) (q_uI q_IX 34 3 5) q_J0, 40, 26520)) _
      refine q_Ru_seg (g2 := (18, [(0, .ref 98), (1, .int 100)], [.int 100], (q_cX (q_uA q_AX 35 (upd (upd w126 3 32) 4 108)) (q_uI q_IX 34 3 5) q_J0, 40, 26520))) 2 (fun _ _ => rfl) ?_
      refine q_Ru_call (v := (some (.int 1))) (h2 := (q_cX (q_uA q_AX 35 (upd (upd w126 3 32) 4 108)) (q_uI q_IX 34 3 5) q_J0, 40, 26520)) rfl rfl ?_ ?_
      · refine q_Ca_of (Nat.le_of_ble_eq_true rfl) ?_
        refine q_Ru_seg (g2 := (12, [(0, .int 100)], [.int 1], (q_cX (q_uA q_AX 35 (upd (upd w126 3 32) 4 108)) (q_uI q_IX 34 3 5) q_J0, 40, 26520))) 5 (fun _ _ => rfl) ?_
        exact q_Ru_ret rfl rfl
      show q_Ru _ _ _ (21, [(0, .ref 98), (1, .int 100)], [.int 1], (q_cX (q_uA q_AX 35 (upd (upd w126 3 32) 4 108)) (q_uI q_IX 34 3 5) q_J0, 40, 26520)) _
      refine q_Ru_seg (g2 := (33, [(0, .ref 98), (1, .int 100)], [.int 5, .ref 98, .ref 99], (q_cX (q_uA q_AX 35 (upd (upd w126 3 32) 4 108)) (q_uI q_IX 34 3 5) q_J0, 40, 26520))) 6 (fun _ _ => rfl) ?_
      refine q_Ru_seg (g2 := (76, [(0, .ref 98), (1, .int 100)], [.ref 98], (q_cX (q_uA q_AX 35 (upd (upd (upd w126 3 32) 4 108) 5 100)) (q_uI q_IX 34 3 6) q_J0, 40, 26520))) 9 (fun _ _ => rfl) ?_
      exact q_Ru_ret rfl rfl
    show q_Ru _ _ _ (5, [(0, .ref 98), (1, .int 100)], [.ref 98], (q_cX (q_uA q_AX 35 (upd (upd (upd w126 3 32) 4 108) 5 100)) (q_uI q_IX 34 3 6) q_J0, 40, 26520)) _
    refine q_Ru_seg (g2 := (7, [(0, .ref 98), (1, .int 100)], [.ref 98], (q_cX (q_uA q_AX 35 (upd (upd (upd w126 3 32) 4 108) 5 100)) (q_uI q_IX 34 3 6) q_J0, 40, 26520))) 2 (fun _ _ => rfl) ?_
    exact q_Ru_ret rfl rfl
  show q_Ru _ _ _ (81, [(5, .int 1), (4, .int 0), (3, .ref 12), (2, .int 0), (0, .ref 98), (1, .int 0)], [.ref 98], (q_cX (q_uA q_AX 35 (upd (upd (upd w126 3 32) 4 108) 5 100)) (q_uI q_IX 34 3 6) q_J0, 40, 26520)) _
  exact q_Ru_le (Nat.le_of_ble_eq_true rfl) (q_xc99 L xs a hl_a hu_a w126)
set_option maxHeartbeats 20000000 in
theorem q_xc101 (L : Nat) (xs : Nat → Int32) (a : Int32) (hl_a : 100 ≤ a.toInt) (hu_a : a.toInt ≤ 999) (w126 : Nat → Int32) : q_Ru (q_TBs 98 L xs) 4 194 (47, [(4, .int 0), (3, .ref 12), (2, .int 0), (0, .ref 98), (1, .int 0)], [.int 63, .int 2], (q_cX (q_uA q_AX 35 (upd w126 3 32)) (q_uI q_IX 34 3 4) q_J0, 40, 26520)) (.inl none, (q_cX (q_uA q_AX 35 (upd (upd (upd (upd w126 3 32) 4 108) 5 100) 6 97)) (q_uI q_IX 34 3 7) q_J0, 40, 26520)) := by
  refine q_Ru_seg (g2 := (75, [(5, .int 0), (4, .int 0), (3, .ref 12), (2, .int 0), (0, .ref 98), (1, .int 0)], [.int 0, .ref 12, .ref 98], (q_cX (q_uA q_AX 35 (upd w126 3 32)) (q_uI q_IX 34 3 4) q_J0, 40, 26520))) 11 (fun _ _ => rfl) ?_
  refine q_Ru_call (v := (some (.int 108))) (h2 := (q_cX (q_uA q_AX 35 (upd w126 3 32)) (q_uI q_IX 34 3 4) q_J0, 40, 26520)) rfl rfl ?_ ?_
  · refine q_Ca_of (Nat.le_of_ble_eq_true rfl) ?_
    refine q_Ru_seg (g2 := (1, [(0, .ref 12), (1, .int 0)], [.ref 12], (q_cX (q_uA q_AX 35 (upd w126 3 32)) (q_uI q_IX 34 3 4) q_J0, 40, 26520))) 1 (fun _ _ => rfl) ?_
    refine q_Ru_call (v := (some (.int 1))) (h2 := (q_cX (q_uA q_AX 35 (upd w126 3 32)) (q_uI q_IX 34 3 4) q_J0, 40, 26520)) rfl rfl ?_ ?_
    · refine q_Ca_of (Nat.le_of_ble_eq_true rfl) ?_
      refine q_Ru_seg (g2 := (18, [(0, .ref 12)], [.int 1], (q_cX (q_uA q_AX 35 (upd w126 3 32)) (q_uI q_IX 34 3 4) q_J0, 40, 26520))) 7 (fun _ _ => rfl) ?_
      exact q_Ru_ret rfl rfl
    show q_Ru _ _ _ (4, [(0, .ref 12), (1, .int 0)], [.int 1], (q_cX (q_uA q_AX 35 (upd w126 3 32)) (q_uI q_IX 34 3 4) q_J0, 40, 26520)) _
    refine q_Ru_seg (g2 := (12, [(0, .ref 12), (1, .int 0)], [.int 0, .ref 40], (q_cX (q_uA q_AX 35 (upd w126 3 32)) (q_uI q_IX 34 3 4) q_J0, 40, 26520))) 4 (fun _ _ => rfl) ?_
    refine q_Ru_call (v := (some (.int 108))) (h2 := (q_cX (q_uA q_AX 35 (upd w126 3 32)) (q_uI q_IX 34 3 4) q_J0, 40, 26520)) rfl rfl ?_ ?_
    · refine q_Ca_of (Nat.le_of_ble_eq_true rfl) ?_
      refine q_Ru_seg (g2 := (3, [(0, .ref 40), (1, .int 0)], [.int 63, .int 0], (q_cX (q_uA q_AX 35 (upd w126 3 32)) (q_uI q_IX 34 3 4) q_J0, 40, 26520))) 3 (fun _ _ => rfl) ?_
      refine q_Ru_call (v := none) (h2 := (q_cX (q_uA q_AX 35 (upd w126 3 32)) (q_uI q_IX 34 3 4) q_J0, 40, 26520)) rfl rfl ?_ ?_
      · refine q_Ca_of (Nat.le_of_ble_eq_true rfl) ?_
        refine q_Ru_seg (g2 := (5, [(0, .int 0), (1, .int 63)], [.null, .int 63, .int 0], (q_cX (q_uA q_AX 35 (upd w126 3 32)) (q_uI q_IX 34 3 4) q_J0, 40, 26520))) 3 (fun _ _ => rfl) ?_
        refine q_Ru_call (v := (some (.int 0))) (h2 := (q_cX (q_uA q_AX 35 (upd w126 3 32)) (q_uI q_IX 34 3 4) q_J0, 40, 26520)) rfl rfl ?_ ?_
        · refine q_Ca_of (Nat.le_of_ble_eq_true rfl) ?_
          refine q_Ru_seg (g2 := (17, [(0, .int 0), (1, .int 63), (2, .null)], [.int 0], (q_cX (q_uA q_AX 35 (upd w126 3 32)) (q_uI q_IX 34 3 4) q_J0, 40, 26520))) 6 (fun _ _ => rfl) ?_
          exact q_Ru_ret rfl rfl
        show q_Ru _ _ _ (8, [(0, .int 0), (1, .int 63)], [.int 0], (q_cX (q_uA q_AX 35 (upd w126 3 32)) (q_uI q_IX 34 3 4) q_J0, 40, 26520)) _
        refine q_Ru_seg (g2 := (9, [(0, .int 0), (1, .int 63)], [], (q_cX (q_uA q_AX 35 (upd w126 3 32)) (q_uI q_IX 34 3 4) q_J0, 40, 26520))) 1 (fun _ _ => rfl) ?_
        exact q_Ru_ret rfl rfl
      show q_Ru _ _ _ (6, [(0, .ref 40), (1, .int 0)], [], (q_cX (q_uA q_AX 35 (upd w126 3 32)) (q_uI q_IX 34 3 4) q_J0, 40, 26520)) _
      refine q_Ru_seg (g2 := (9, [(0, .ref 40), (1, .int 0)], [.int 108], (q_cX (q_uA q_AX 35 (upd w126 3 32)) (q_uI q_IX 34 3 4) q_J0, 40, 26520))) 3 (fun _ _ => rfl) ?_
      refine q_Ru_seg (g2 := (14, [(0, .ref 40), (1, .int 0)], [.int 108], (q_cX (q_uA q_AX 35 (upd w126 3 32)) (q_uI q_IX 34 3 4) q_J0, 40, 26520))) 3 (fun _ _ => rfl) ?_
      exact q_Ru_ret rfl rfl
    show q_Ru _ _ _ (15, [(0, .ref 12), (1, .int 0)], [.int 108], (q_cX (q_uA q_AX 35 (upd w126 3 32)) (q_uI q_IX 34 3 4) q_J0, 40, 26520)) _
    exact q_Ru_ret rfl rfl
  show q_Ru _ _ _ (78, [(5, .int 0), (4, .int 0), (3, .ref 12), (2, .int 0), (0, .ref 98), (1, .int 0)], [.int 108, .ref 98], (q_cX (q_uA q_AX 35 (upd w126 3 32)) (q_uI q_IX 34 3 4) q_J0, 40, 26520)) _
  refine q_Ru_call (v := (some (.ref 98))) (h2 := (q_cX (q_uA q_AX 35 (upd (upd w126 3 32) 4 108)) (q_uI q_IX 34 3 5) q_J0, 40, 26520)) rfl rfl ?_ ?_
  · refine q_Ca_of (Nat.le_of_ble_eq_true rfl) ?_
    refine q_Ru_seg (g2 := (2, [(0, .ref 98), (1, .int 108)], [.int 108, .ref 98], (q_cX (q_uA q_AX 35 (upd w126 3 32)) (q_uI q_IX 34 3 4) q_J0, 40, 26520))) 2 (fun _ _ => rfl) ?_
    refine q_Ru_call (v := (some (.ref 98))) (h2 := (q_cX (q_uA q_AX 35 (upd (upd w126 3 32) 4 108)) (q_uI q_IX 34 3 5) q_J0, 40, 26520)) rfl rfl ?_ ?_
    · refine q_Ca_of (Nat.le_of_ble_eq_true rfl) ?_
      refine q_Ru_seg (g2 := (5, [(0, .ref 98), (1, .int 108)], [.int 4, .ref 98], (q_cX (q_uA q_AX 35 (upd w126 3 32)) (q_uI q_IX 34 3 4) q_J0, 40, 26520))) 3 (fun _ _ => rfl) ?_
      refine q_Ru_seg (g2 := (7, [(0, .ref 98), (1, .int 108)], [.int 5, .ref 98], (q_cX (q_uA q_AX 35 (upd w126 3 32)) (q_uI q_IX 34 3 4) q_J0, 40, 26520))) 2 (fun _ _ => rfl) ?_
      refine q_Ru_call (v := none) (h2 := (q_cX (q_uA q_AX 35 (upd w126 3 32)) (q_uI q_IX 34 3 4) q_J0, 40, 26520)) rfl rfl ?_ ?_
      · refine q_Ca_of (Nat.le_of_ble_eq_true rfl) ?_
        refine q_Ru_seg (g2 := (9, [(0, .ref 98), (1, .int 5)], [.int 0, .int 16], (q_cX (q_uA q_AX 35 (upd w126 3 32)) (q_uI q_IX 34 3 4) q_J0, 40, 26520))) 5 (fun _ _ => rfl) ?_
        refine q_Ru_seg (g2 := (38, [(2, .int 16), (0, .ref 98), (1, .int 5)], [], (q_cX (q_uA q_AX 35 (upd w126 3 32)) (q_uI q_IX 34 3 4) q_J0, 40, 26520))) 6 (fun _ _ => rfl) ?_
        exact q_Ru_ret rfl rfl
      show q_Ru _ _ _ (10, [(0, .ref 98), (1, .int 108)], [], (q_cX (q_uA q_AX 35 (upd w126 3 32)) (q_uI q_IX 34 3 4) q_J0, 40, 26520)) _
      refine q_Ru_seg (g2 := (11, [(0, .ref 98), (1, .int 108)], [.ref 98], (q_cX (q_uA q_AX 35 (upd w126 3 32)) (q_uI q_IX 34 3 4) q_J0, 40, 26520))) 1 (fun _ _ => rfl) ?_
      refine q_Ru_call (v := (some (.int 1))) (h2 := (q_cX (q_uA q_AX 35 (upd w126 3 32)) (q_uI q_IX 34 3 4) q_J0, 40, 26520)) rfl rfl ?_ ?_
      · refine q_Ca_of (Nat.le_of_ble_eq_true rfl) ?_
        refine q_Ru_seg (g2 := (10, [(0, .ref 98)], [.int 0], (q_cX (q_uA q_AX 35 (upd w126 3 32)) (q_uI q_IX 34 3 4) q_J0, 40, 26520))) 4 (fun _ _ => rfl) ?_
        refine q_Ru_seg (g2 := (18, [(0, .ref 98)], [.int 1], (q_cX (q_uA q_AX 35 (upd w126 3 32)) (q_uI q_IX 34 3 4) q_J0, 40, 26520))) 3 (fun _ _ => rfl) ?_
        exact q_Ru_ret rfl rfl
      show q_Ru _ _ _ (14, [(0, .ref 98), (1, .int 108)], [.int 1], (q_cX (q_uA q_AX 35 (upd w126 3 32)) (q_uI q_IX 34 3 4) q_J0, 40, 26520)) _
      refine q_Ru_seg (g2 := (18, [(0, .ref 98), (1, .int 108)], [.int 108], (q_cX (q_uA q_AX 35 (upd w126 3 32)) (q_uI q_IX 34 3 4) q_J0, 40, 26520))) 2 (fun _ _ => rfl) ?_
      refine q_Ru_call (v := (some (.int 1))) (h2 := (q_cX (q_uA q_AX 35 (upd w126 3 32)) (q_uI q_IX 34 3 4) q_J0, 40, 26520)) rfl rfl ?_ ?_
      · refine q_Ca_of (Nat.le_of_ble_eq_true rfl) ?_
        refine q_Ru_seg (g2 := (12, [(0, .int 108)], [.int 1], (q_cX (q_uA q_AX 35 (upd w126 3 32)) (q_uI q_IX 34 3 4) q_J0, 40, 26520))) 5 (fun _ _ => rfl) ?_
        exact q_Ru_ret rfl rfl
      show q_Ru _ _ _ (21, [(0, .ref 98), (1, .int 108)], [.int 1], (q_cX (q_uA q_AX 35 (upd w126 3 32)) (q_uI q_IX 34 3 4) q_J0, 40, 26520)) _
      refine q_Ru_seg (g2 := (33, [(0, .ref 98), (1, .int 108)], [.int 4, .ref 98, .ref 99], (q_cX (q_uA q_AX 35 (upd w126 3 32)) (q_uI q_IX 34 3 4) q_J0, 40, 26520))) 6 (fun _ _ => rfl) ?_
      refine q_Ru_seg (g2 := (76, [(0, .ref 98), (1, .int 108)], [.ref 98], (q_cX (q_uA q_AX 35 (upd (upd w126 3 32) 4 108)) (q_uI q_IX 34 3 5) q_J0, 40, 26520))) 9 (fun _ _ => rfl) ?_
      exact q_Ru_ret rfl rfl
    show q_Ru _ _ _ (5, [(0, .ref 98), (1, .int 108)], [.ref 98], (q_cX (q_uA q_AX 35 (upd (upd w126 3 32) 4 108)) (q_uI q_IX 34 3 5) q_J0, 40, 26520)) _
    refine q_Ru_seg (g2 := (7, [(0, .ref 98), (1, .int 108)], [.ref 98], (q_cX (q_uA q_AX 35 (upd (upd w126 3 32) 4 108)) (q_uI q_IX 34 3 5) q_J0, 40, 26520))) 2 (fun _ _ => rfl) ?_
    exact q_Ru_ret rfl rfl
  show q_Ru _ _ _ (81, [(5, .int 0), (4, .int 0), (3, .ref 12), (2, .int 0), (0, .ref 98), (1, .int 0)], [.ref 98], (q_cX (q_uA q_AX 35 (upd (upd w126 3 32) 4 108)) (q_uI q_IX 34 3 5) q_J0, 40, 26520)) _
  exact q_Ru_le (Nat.le_of_ble_eq_true rfl) (q_xc100 L xs a hl_a hu_a w126)
set_option maxHeartbeats 20000000 in
theorem q_xc102 (L : Nat) (xs : Nat → Int32) (a : Int32) (hl_a : 100 ≤ a.toInt) (hu_a : a.toInt ≤ 999) (w128 : Nat → Int32) : q_Ru (q_TBs 98 L xs) 3 197 (17, [(0, .ref 98), (1, .int 0), (2, .int 0)], [.ref 98], (q_cX (q_uA q_AX 35 (upd w128 8 35)) (q_uI q_IX 34 3 9) q_J0, 40, 26520)) (.inl none, (q_cX (q_uA q_AX 35 (upd (upd w128 8 35) 9 48)) (q_uI q_IX 34 3 10) q_J0, 40, 26520)) := by
  refine q_Ru_seg (g2 := (36, [(0, .ref 98), (1, .int 0), (2, .int 0)], [.int 0, .ref 98], (q_cX (q_uA q_AX 35 (upd w128 8 35)) (q_uI q_IX 34 3 9) q_J0, 40, 26520))) 4 (fun _ _ => rfl) ?_
  refine q_Ru_call (v := (some (.ref 98))) (h2 := (q_cX (q_uA q_AX 35 (upd (upd w128 8 35) 9 48)) (q_uI q_IX 34 3 10) q_J0, 40, 26520)) rfl rfl ?_ ?_
  · refine q_Ca_of (Nat.le_of_ble_eq_true rfl) ?_
    refine q_Ru_seg (g2 := (2, [(0, .ref 98), (1, .int 0)], [.int 0, .ref 98], (q_cX (q_uA q_AX 35 (upd w128 8 35)) (q_uI q_IX 34 3 9) q_J0, 40, 26520))) 2 (fun _ _ => rfl) ?_
    refine q_Ru_call (v := (some (.ref 98))) (h2 := (q_cX (q_uA q_AX 35 (upd (upd w128 8 35) 9 48)) (q_uI q_IX 34 3 10) q_J0, 40, 26520)) rfl rfl ?_ ?_
    · refine q_Ca_of (Nat.le_of_ble_eq_true rfl) ?_
      refine q_Ru_seg (g2 := (4, [(0, .ref 98), (1, .int 0)], [.int 9], (q_cX (q_uA q_AX 35 (upd w128 8 35)) (q_uI q_IX 34 3 9) q_J0, 40, 26520))) 2 (fun _ _ => rfl) ?_
      refine q_Ru_seg (g2 := (7, [(2, .int 9), (0, .ref 98), (1, .int 0)], [.int 0, .int 9], (q_cX (q_uA q_AX 35 (upd w128 8 35)) (q_uI q_IX 34 3 9) q_J0, 40, 26520))) 3 (fun _ _ => rfl) ?_
      refine q_Ru_call (v := (some (.int 1))) (h2 := (q_cX (q_uA q_AX 35 (upd w128 8 35)) (q_uI q_IX 34 3 9) q_J0, 40, 26520)) rfl rfl ?_ ?_
      · refine q_Ca_of (Nat.le_of_ble_eq_true rfl) ?_
        refine q_Ru_seg (g2 := (30, [(3, .int 1), (2, .int (-10)), (0, .int 0), (1, .int 0)], [.int 1], (q_cX (q_uA q_AX 35 (upd w128 8 35)) (q_uI q_IX 34 3 9) q_J0, 40, 26520))) 22 (fun _ _ => rfl) ?_
        exact q_Ru_ret rfl rfl
      show q_Ru _ _ _ (10, [(2, .int 9), (0, .ref 98), (1, .int 0)], [.int 1, .int 9], (q_cX (q_uA q_AX 35 (upd w128 8 35)) (q_uI q_IX 34 3 9) q_J0, 40, 26520)) _
      refine q_Ru_seg (g2 := (14, [(3, .int 10), (2, .int 9), (0, .ref 98), (1, .int 0)], [.int 10, .ref 98], (q_cX (q_uA q_AX 35 (upd w128 8 35)) (q_uI q_IX 34 3 9) q_J0, 40, 26520))) 4 (fun _ _ => rfl) ?_
      refine q_Ru_call (v := none) (h2 := (q_cX (q_uA q_AX 35 (upd w128 8 35)) (q_uI q_IX 34 3 9) q_J0, 40, 26520)) rfl rfl ?_ ?_
      · refine q_Ca_of (Nat.le_of_ble_eq_true rfl) ?_
        refine q_Ru_seg (g2 := (9, [(0, .ref 98), (1, .int 10)], [.int 0, .int 16], (q_cX (q_uA q_AX 35 (upd w128 8 35)) (q_uI q_IX 34 3 9) q_J0, 40, 26520))) 5 (fun _ _ => rfl) ?_
        refine q_Ru_seg (g2 := (38, [(2, .int 16), (0, .ref 98), (1, .int 10)], [], (q_cX (q_uA q_AX 35 (upd w128 8 35)) (q_uI q_IX 34 3 9) q_J0, 40, 26520))) 6 (fun _ _ => rfl) ?_
        exact q_Ru_ret rfl rfl
      show q_Ru _ _ _ (17, [(3, .int 10), (2, .int 9), (0, .ref 98), (1, .int 0)], [], (q_cX (q_uA q_AX 35 (upd w128 8 35)) (q_uI q_IX 34 3 9) q_J0, 40, 26520)) _
      refine q_Ru_seg (g2 := (18, [(3, .int 10), (2, .int 9), (0, .ref 98), (1, .int 0)], [.ref 98], (q_cX (q_uA q_AX 35 (upd w128 8 35)) (q_uI q_IX 34 3 9) q_J0, 40, 26520))) 1 (fun _ _ => rfl) ?_
      refine q_Ru_call (v := (some (.int 1))) (h2 := (q_cX (q_uA q_AX 35 (upd w128 8 35)) (q_uI q_IX 34 3 9) q_J0, 40, 26520)) rfl rfl ?_ ?_
      · refine q_Ca_of (Nat.le_of_ble_eq_true rfl) ?_
        refine q_Ru_seg (g2 := (10, [(0, .ref 98)], [.int 0], (q_cX (q_uA q_AX 35 (upd w128 8 35)) (q_uI q_IX 34 3 9) q_J0, 40, 26520))) 4 (fun _ _ => rfl) ?_
        refine q_Ru_seg (g2 := (18, [(0, .ref 98)], [.int 1], (q_cX (q_uA q_AX 35 (upd w128 8 35)) (q_uI q_IX 34 3 9) q_J0, 40, 26520))) 3 (fun _ _ => rfl) ?_
        exact q_Ru_ret rfl rfl
      show q_Ru _ _ _ (21, [(3, .int 10), (2, .int 9), (0, .ref 98), (1, .int 0)], [.int 1], (q_cX (q_uA q_AX 35 (upd w128 8 35)) (q_uI q_IX 34 3 9) q_J0, 40, 26520)) _
      refine q_Ru_seg (g2 := (30, [(3, .int 10), (2, .int 9), (0, .ref 98), (1, .int 0)], [.ref 99, .int 10, .int 0], (q_cX (q_uA q_AX 35 (upd w128 8 35)) (q_uI q_IX 34 3 9) q_J0, 40, 26520))) 5 (fun _ _ => rfl) ?_
      refine q_Ru_call (v := (some (.int 9))) (h2 := (q_cX (q_uA q_AX 35 (upd (upd w128 8 35) 9 48)) (q_uI q_IX 34 3 9) q_J0, 40, 26520)) rfl rfl ?_ ?_
      · refine q_Ca_of (Nat.le_of_ble_eq_true rfl) ?_
        refine q_Ru_seg (g2 := (84, [(5, .int 9), (0, .int 0), (6, .int 0), (1, .int 10), (2, .ref 99)], [.int 48, .int 9, .ref 99], (q_cX (q_uA q_AX 35 (upd w128 8 35)) (q_uI q_IX 34 3 9) q_J0, 40, 26520))) 21 (fun _ _ => rfl) ?_
        refine q_Ru_seg (g2 := (120, [(5, .int 9), (0, .int 0), (6, .int 0), (1, .int 10), (2, .ref 99)], [.int 9], (q_cX (q_uA q_AX 35 (upd (upd w128 8 35) 9 48)) (q_uI q_IX 34 3 9) q_J0, 40, 26520))) 7 (fun _ _ => rfl) ?_
        exact q_Ru_ret rfl rfl
      show q_Ru _ _ _ (33, [(3, .int 10), (2, .int 9), (0, .ref 98), (1, .int 0)], [.int 9], (q_cX (q_uA q_AX 35 (upd (upd w128 8 35) 9 48)) (q_uI q_IX 34 3 9) q_J0, 40, 26520)) _
      refine q_Ru_seg (g2 := (54, [(3, .int 10), (2, .int 9), (0, .ref 98), (1, .int 0)], [.ref 98], (q_cX (q_uA q_AX 35 (upd (upd w128 8 35) 9 48)) (q_uI q_IX 34 3 10) q_J0, 40, 26520))) 6 (fun _ _ => rfl) ?_
      exact q_Ru_ret rfl rfl
    show q_Ru _ _ _ (5, [(0, .ref 98), (1, .int 0)], [.ref 98], (q_cX (q_uA q_AX 35 (upd (upd w128 8 35) 9 48)) (q_uI q_IX 34 3 10) q_J0, 40, 26520)) _
    refine q_Ru_seg (g2 := (7, [(0, .ref 98), (1, .int 0)], [.ref 98], (q_cX (q_uA q_AX 35 (upd (upd w128 8 35) 9 48)) (q_uI q_IX 34 3 10) q_J0, 40, 26520))) 2 (fun _ _ => rfl) ?_
    exact q_Ru_ret rfl rfl
  show q_Ru _ _ _ (39, [(0, .ref 98), (1, .int 0), (2, .int 0)], [.ref 98], (q_cX (q_uA q_AX 35 (upd (upd w128 8 35) 9 48)) (q_uI q_IX 34 3 10) q_J0, 40, 26520)) _
  refine q_Ru_seg (g2 := (134, [(0, .ref 98), (1, .int 0), (2, .int 0)], [], (q_cX (q_uA q_AX 35 (upd (upd w128 8 35) 9 48)) (q_uI q_IX 34 3 10) q_J0, 40, 26520))) 3 (fun _ _ => rfl) ?_
  exact q_Ru_ret rfl rfl
set_option maxHeartbeats 20000000 in
theorem q_xc103 (L : Nat) (xs : Nat → Int32) (a : Int32) (hl_a : 100 ≤ a.toInt) (hu_a : a.toInt ≤ 999) (w126 : Nat → Int32) : q_Ru (q_TBs 98 L xs) 5 195 (106, [(6, .int 0), (5, .int 0), (4, .int 2), (3, .int 0), (0, .ref 98), (1, .ref 66), (2, .int a)], [.int 0, .ref 98], (q_cX (q_uA q_AX 35 (upd (upd (upd (upd w126 3 32) 4 108) 5 100) 6 97)) (q_uI q_IX 34 3 7) q_J0, 40, 26520)) (.inl none, (q_cX (q_uA q_AX 35 (upd (upd (upd (upd (upd (upd (upd w126 3 32) 4 108) 5 100) 6 97) 7 32) 8 35) 9 48)) (q_uI q_IX 34 3 10) q_J0, 40, 26520)) := by
  refine q_Ru_seg (g2 := (108, [(6, .int 0), (5, .int 0), (4, .int 2), (3, .int 0), (0, .ref 98), (1, .ref 66), (2, .int a)], [.int 0, .int 0, .ref 98], (q_cX (q_uA q_AX 35 (upd (upd (upd (upd w126 3 32) 4 108) 5 100) 6 97)) (q_uI q_IX 34 3 7) q_J0, 40, 26520))) 1 (fun _ _ => rfl) ?_
  refine q_Ru_call (v := none) (h2 := (q_cX (q_uA q_AX 35 (upd (upd (upd (upd (upd (upd (upd w126 3 32) 4 108) 5 100) 6 97) 7 32) 8 35) 9 48)) (q_uI q_IX 34 3 10) q_J0, 40, 26520)) rfl rfl ?_ ?_
  · refine q_Ca_of (Nat.le_of_ble_eq_true rfl) ?_
    refine q_Ru_seg (g2 := (3, [(0, .ref 98), (1, .int 0), (2, .int 0)], [.int 32, .ref 98], (q_cX (q_uA q_AX 35 (upd (upd (upd (upd w126 3 32) 4 108) 5 100) 6 97)) (q_uI q_IX 34 3 7) q_J0, 40, 26520))) 2 (fun _ _ => rfl) ?_
    refine q_Ru_call (v := (some (.ref 98))) (h2 := (q_cX (q_uA q_AX 35 (upd (upd (upd (upd (upd w126 3 32) 4 108) 5 100) 6 97) 7 32)) (q_uI q_IX 34 3 8) q_J0, 40, 26520)) rfl rfl ?_ ?_
    · refine q_Ca_of (Nat.le_of_ble_eq_true rfl) ?_
      refine q_Ru_seg (g2 := (2, [(0, .ref 98), (1, .int 32)], [.int 32, .ref 98], (q_cX (q_uA q_AX 35 (upd (upd (upd (upd w126 3 32) 4 108) 5 100) 6 97)) (q_uI q_IX 34 3 7) q_J0, 40, 26520))) 2 (fun _ _ => rfl) ?_
      refine q_Ru_call (v := (some (.ref 98))) (h2 := (q_cX (q_uA q_AX 35 (upd (upd (upd (upd (upd w126 3 32) 4 108) 5 100) 6 97) 7 32)) (q_uI q_IX 34 3 8) q_J0, 40, 26520)) rfl rfl ?_ ?_
      · refine q_Ca_of (Nat.le_of_ble_eq_true rfl) ?_
        refine q_Ru_seg (g2 := (5, [(0, .ref 98), (1, .int 32)], [.int 7, .ref 98], (q_cX (q_uA q_AX 35 (upd (upd (upd (upd w126 3 32) 4 108) 5 100) 6 97)) (q_uI q_IX 34 3 7) q_J0, 40, 26520))) 3 (fun _ _ => rfl) ?_
        refine q_Ru_seg (g2 := (7, [(0, .ref 98), (1, .int 32)], [.int 8, .ref 98], (q_cX (q_uA q_AX 35 (upd (upd (upd (upd w126 3 32) 4 108) 5 100) 6 97)) (q_uI q_IX 34 3 7) q_J0, 40, 26520))) 2 (fun _ _ => rfl) ?_
        refine q_Ru_call (v := none) (h2 := (q_cX (q_uA q_AX 35 (upd (upd (upd (upd w126 3 32) 4 108) 5 100) 6 97)) (q_uI q_IX 34 3 7) q_J0, 40, 26520)) rfl rfl ?_ ?_
        · refine q_Ca_of (Nat.le_of_ble_eq_true rfl) ?_
          refine q_Ru_seg (g2 := (9, [(0, .ref 98), (1, .int 8)], [.int 0, .int 16], (q_cX (q_uA q_AX 35 (upd (upd (upd (upd w126 3 32) 4 108) 5 100) 6 97)) (q_uI q_IX 34 3 7) q_J0, 40, 26520))) 5 (fun _ _ => rfl) ?_
          refine q_Ru_seg (g2 := (38, [(2, .int 16), (0, .ref 98), (1, .int 8)], [], (q_cX (q_uA q_AX 35 (upd (upd (upd (upd w126 3 32) 4 108) 5 100) 6 97)) (q_uI q_IX 34 3 7) q_J0, 40, 26520))) 6 (fun _ _ => rfl) ?_
          exact q_Ru_ret rfl rfl
        show q_Ru _ _ _ (10, [(0, .ref 98), (1, .int 32)], [], (q_cX (q_uA q_AX 35 (upd (upd (upd (upd w126 3 32) 4 108) 5 100) 6 97)) (q_uI q_IX 34 3 7) q_J0, 40, 26520)) _
        refine q_Ru_seg (g2 := (11, [(0, .ref 98), (1, .int 32)], [.ref 98], (q_cX (q_uA q_AX 35 (upd (upd (upd (upd w126 3 32) 4 108) 5 100) 6 97)) (q_uI q_IX 34 3 7) q_J0, 40, 26520))) 1 (fun _ _ => rfl) ?_
        refine q_Ru_call (v := (some (.int 1))) (h2 := (q_cX (q_uA q_AX 35 (upd (upd (upd (upd w126 3 32) 4 108) 5 100) 6 97)) (q_uI q_IX 34 3 7) q_J0, 40, 26520)) rfl rfl ?_ ?_
        · refine q_Ca_of (Nat.le_of_ble_eq_true rfl) ?_
          refine q_Ru_seg (g2 := (10, [(0, .ref 98)], [.int 0], (q_cX (q_uA q_AX 35 (upd (upd (upd (upd w126 3 32) 4 108) 5 100) 6 97)) (q_uI q_IX 34 3 7) q_J0, 40, 26520))) 4 (fun _ _ => rfl) ?_
          refine q_Ru_seg (g2 := (18, [(0, .ref 98)], [.int 1], (q_cX (q_uA q_AX 35 (upd (upd (upd (upd w126 3 32) 4 108) 5 100) 6 97)) (q_uI q_IX 34 3 7) q_J0, 40, 26520))) 3 (fun _ _ => rfl) ?_
          exact q_Ru_ret rfl rfl
        show q_Ru _ _ _ (14, [(0, .ref 98), (1, .int 32)], [.int 1], (q_cX (q_uA q_AX 35 (upd (upd (upd (upd w126 3 32) 4 108) 5 100) 6 97)) (q_uI q_IX 34 3 7) q_J0, 40, 26520)) _
        refine q_Ru_seg (g2 := (18, [(0, .ref 98), (1, .int 32)], [.int 32], (q_cX (q_uA q_AX 35 (upd (upd (upd (upd w126 3 32) 4 108) 5 100) 6 97)) (q_uI q_IX 34 3 7) q_J0, 40, 26520))) 2 (fun _ _ => rfl) ?_
        refine q_Ru_call (v := (some (.int 1))) (h2 := (q_cX (q_uA q_AX 35 (upd (upd (upd (upd w126 3 32) 4 108) 5 100) 6 97)) (q_uI q_IX 34 3 7) q_J0, 40, 26520)) rfl rfl ?_ ?_
        · refine q_Ca_of (Nat.le_of_ble_eq_true rfl) ?_
          refine q_Ru_seg (g2 := (12, [(0, .int 32)], [.int 1], (q_cX (q_uA q_AX 35 (upd (upd (upd (upd w126 3 32) 4 108) 5 100) 6 97)) (q_uI q_IX 34 3 7) q_J0, 40, 26520))) 5 (fun _ _ => rfl) ?_
          exact q_Ru_ret rfl rfl
        show q_Ru _ _ _ (21, [(0, .ref 98), (1, .int 32)], [.int 1], (q_cX (q_uA q_AX 35 (upd (upd (upd (upd w126 3 32) 4 108) 5 100) 6 97)) (q_uI q_IX 34 3 7) q_J0, 40, 26520)) _
        refine q_Ru_seg (g2 := (33, [(0, .ref 98), (1, .int 32)], [.int 7, .ref 98, .ref 99], (q_cX (q_uA q_AX 35 (upd (upd (upd (upd w126 3 32) 4 108) 5 100) 6 97)) (q_uI q_IX 34 3 7) q_J0, 40, 26520))) 6 (fun _ _ => rfl) ?_
        refine q_Ru_seg (g2 := (76, [(0, .ref 98), (1, .int 32)], [.ref 98], (q_cX (q_uA q_AX 35 (upd (upd (upd (upd (upd w126 3 32) 4 108) 5 100) 6 97) 7 32)) (q_uI q_IX 34 3 8) q_J0, 40, 26520))) 9 (fun _ _ => rfl) ?_
        exact q_Ru_ret rfl rfl
      show q_Ru _ _ _ (5, [(0, .ref 98), (1, .int 32)], [.ref 98], (q_cX (q_uA q_AX 35 (upd (upd (upd (upd (upd w126 3 32) 4 108) 5 100) 6 97) 7 32)) (q_uI q_IX 34 3 8) q_J0, 40, 26520)) _
      generalize (upd (upd (upd (upd (upd w126 3 32) 4 108) 5 100) 6 97) 7 32) = w127
      refine q_Ru_seg (g2 := (7, [(0, .ref 98), (1, .int 32)], [.ref 98], (q_cX (q_uA q_AX 35 w127) (q_uI q_IX 34 3 8) q_J0, 40, 26520))) 2 (fun _ _ => rfl) ?_
      exact q_Ru_ret rfl rfl
    show q_Ru _ _ _ (6, [(0, .ref 98), (1, .int 0), (2, .int 0)], [.ref 98], (q_cX (q_uA q_AX 35 (upd (upd (upd (upd (upd w126 3 32) 4 108) 5 100) 6 97) 7 32)) (q_uI q_IX 34 3 8) q_J0, 40, 26520)) _
    generalize (upd (upd (upd (upd (upd w126 3 32) 4 108) 5 100) 6 97) 7 32) = w128
    refine q_Ru_seg (g2 := (14, [(0, .ref 98), (1, .int 0), (2, .int 0)], [.int 35, .ref 98], (q_cX (q_uA q_AX 35 w128) (q_uI q_IX 34 3 8) q_J0, 40, 26520))) 5 (fun _ _ => rfl) ?_
    refine q_Ru_call (v := (some (.ref 98))) (h2 := (q_cX (q_uA q_AX 35 (upd w128 8 35)) (q_uI q_IX 34 3 9) q_J0, 40, 26520)) rfl rfl ?_ ?_
    · refine q_Ca_of (Nat.le_of_ble_eq_true rfl) ?_
      refine q_Ru_seg (g2 := (2, [(0, .ref 98), (1, .int 35)], [.int 35, .ref 98], (q_cX (q_uA q_AX 35 w128) (q_uI q_IX 34 3 8) q_J0, 40, 26520))) 2 (fun _ _ => rfl) ?_
      refine q_Ru_call (v := (some (.ref 98))) (h2 := (q_cX (q_uA q_AX 35 (upd w128 8 35)) (q_uI q_IX 34 3 9) q_J0, 40, 26520)) rfl rfl ?_ ?_
      · refine q_Ca_of (Nat.le_of_ble_eq_true rfl) ?_
        refine q_Ru_seg (g2 := (5, [(0, .ref 98), (1, .int 35)], [.int 8, .ref 98], (q_cX (q_uA q_AX 35 w128) (q_uI q_IX 34 3 8) q_J0, 40, 26520))) 3 (fun _ _ => rfl) ?_
        refine q_Ru_seg (g2 := (7, [(0, .ref 98), (1, .int 35)], [.int 9, .ref 98], (q_cX (q_uA q_AX 35 w128) (q_uI q_IX 34 3 8) q_J0, 40, 26520))) 2 (fun _ _ => rfl) ?_
        refine q_Ru_call (v := none) (h2 := (q_cX (q_uA q_AX 35 w128) (q_uI q_IX 34 3 8) q_J0, 40, 26520)) rfl rfl ?_ ?_
        · refine q_Ca_of (Nat.le_of_ble_eq_true rfl) ?_
          refine q_Ru_seg (g2 := (9, [(0, .ref 98), (1, .int 9)], [.int 0, .int 16], (q_cX (q_uA q_AX 35 w128) (q_uI q_IX 34 3 8) q_J0, 40, 26520))) 5 (fun _ _ => rfl) ?_
          refine q_Ru_seg (g2 := (38, [(2, .int 16), (0, .ref 98), (1, .int 9)], [], (q_cX (q_uA q_AX 35 w128) (q_uI q_IX 34 3 8) q_J0, 40, 26520))) 6 (fun _ _ => rfl) ?_
          exact q_Ru_ret rfl rfl
        show q_Ru _ _ _ (10, [(0, .ref 98), (1, .int 35)], [], (q_cX (q_uA q_AX 35 w128) (q_uI q_IX 34 3 8) q_J0, 40, 26520)) _
        refine q_Ru_seg (g2 := (11, [(0, .ref 98), (1, .int 35)], [.ref 98], (q_cX (q_uA q_AX 35 w128) (q_uI q_IX 34 3 8) q_J0, 40, 26520))) 1 (fun _ _ => rfl) ?_
        refine q_Ru_call (v := (some (.int 1))) (h2 := (q_cX (q_uA q_AX 35 w128) (q_uI q_IX 34 3 8) q_J0, 40, 26520)) rfl rfl ?_ ?_
        · refine q_Ca_of (Nat.le_of_ble_eq_true rfl) ?_
          refine q_Ru_seg (g2 := (10, [(0, .ref 98)], [.int 0], (q_cX (q_uA q_AX 35 w128) (q_uI q_IX 34 3 8) q_J0, 40, 26520))) 4 (fun _ _ => rfl) ?_
          refine q_Ru_seg (g2 := (18, [(0, .ref 98)], [.int 1], (q_cX (q_uA q_AX 35 w128) (q_uI q_IX 34 3 8) q_J0, 40, 26520))) 3 (fun _ _ => rfl) ?_
          exact q_Ru_ret rfl rfl
        show q_Ru _ _ _ (14, [(0, .ref 98), (1, .int 35)], [.int 1], (q_cX (q_uA q_AX 35 w128) (q_uI q_IX 34 3 8) q_J0, 40, 26520)) _
        refine q_Ru_seg (g2 := (18, [(0, .ref 98), (1, .int 35)], [.int 35], (q_cX (q_uA q_AX 35 w128) (q_uI q_IX 34 3 8) q_J0, 40, 26520))) 2 (fun _ _ => rfl) ?_
        refine q_Ru_call (v := (some (.int 1))) (h2 := (q_cX (q_uA q_AX 35 w128) (q_uI q_IX 34 3 8) q_J0, 40, 26520)) rfl rfl ?_ ?_
        · refine q_Ca_of (Nat.le_of_ble_eq_true rfl) ?_
          refine q_Ru_seg (g2 := (12, [(0, .int 35)], [.int 1], (q_cX (q_uA q_AX 35 w128) (q_uI q_IX 34 3 8) q_J0, 40, 26520))) 5 (fun _ _ => rfl) ?_
          exact q_Ru_ret rfl rfl
        show q_Ru _ _ _ (21, [(0, .ref 98), (1, .int 35)], [.int 1], (q_cX (q_uA q_AX 35 w128) (q_uI q_IX 34 3 8) q_J0, 40, 26520)) _
        refine q_Ru_seg (g2 := (33, [(0, .ref 98), (1, .int 35)], [.int 8, .ref 98, .ref 99], (q_cX (q_uA q_AX 35 w128) (q_uI q_IX 34 3 8) q_J0, 40, 26520))) 6 (fun _ _ => rfl) ?_
        refine q_Ru_seg (g2 := (76, [(0, .ref 98), (1, .int 35)], [.ref 98], (q_cX (q_uA q_AX 35 (upd w128 8 35)) (q_uI q_IX 34 3 9) q_J0, 40, 26520))) 9 (fun _ _ => rfl) ?_
        exact q_Ru_ret rfl rfl
      show q_Ru _ _ _ (5, [(0, .ref 98), (1, .int 35)], [.ref 98], (q_cX (q_uA q_AX 35 (upd w128 8 35)) (q_uI q_IX 34 3 9) q_J0, 40, 26520)) _
      refine q_Ru_seg (g2 := (7, [(0, .ref 98), (1, .int 35)], [.ref 98], (q_cX (q_uA q_AX 35 (upd w128 8 35)) (q_uI q_IX 34 3 9) q_J0, 40, 26520))) 2 (fun _ _ => rfl) ?_
      exact q_Ru_ret rfl rfl
    show q_Ru _ _ _ (17, [(0, .ref 98), (1, .int 0), (2, .int 0)], [.ref 98], (q_cX (q_uA q_AX 35 (upd w128 8 35)) (q_uI q_IX 34 3 9) q_J0, 40, 26520)) _
    exact q_Ru_le (Nat.le_of_ble_eq_true rfl) (q_xc102 L xs a hl_a hu_a w128)
  show q_Ru _ _ _ (111, [(6, .int 0), (5, .int 0), (4, .int 2), (3, .int 0), (0, .ref 98), (1, .ref 66), (2, .int a)], [], (q_cX (q_uA q_AX 35 (upd (upd (upd (upd (upd (upd (upd w126 3 32) 4 108) 5 100) 6 97) 7 32) 8 35) 9 48)) (q_uI q_IX 34 3 10) q_J0, 40, 26520)) _
  generalize (upd (upd (upd (upd (upd (upd (upd w126 3 32) 4 108) 5 100) 6 97) 7 32) 8 35) 9 48) = w129
  exact q_Ru_ret rfl rfl
set_option maxHeartbeats 20000000 in
theorem q_xc104 (L : Nat) (xs : Nat → Int32) (a : Int32) (hl_a : 100 ≤ a.toInt) (hu_a : a.toInt ≤ 999) (w126 : Nat → Int32) : q_Ru (q_TBs 98 L xs) 5 195 (42, [(5, .int 0), (4, .int 2), (3, .int 0), (0, .ref 98), (1, .ref 66), (2, .int a)], [.ref 98], (q_cX (q_uA q_AX 35 (upd w126 3 32)) (q_uI q_IX 34 3 4) q_J0, 40, 26520)) (.inl none, (q_cX (q_uA q_AX 35 (upd (upd (upd (upd (upd (upd (upd w126 3 32) 4 108) 5 100) 6 97) 7 32) 8 35) 9 48)) (q_uI q_IX 34 3 10) q_J0, 40, 26520)) := by
  refine q_Ru_seg (g2 := (45, [(5, .int 0), (4, .int 2), (3, .int 0), (0, .ref 98), (1, .ref 66), (2, .int a)], [.int 0, .ref 98], (q_cX (q_uA q_AX 35 (upd w126 3 32)) (q_uI q_IX 34 3 4) q_J0, 40, 26520))) 3 (fun _ _ => rfl) ?_
  refine q_Ru_call (v := none) (h2 := (q_cX (q_uA q_AX 35 (upd (upd (upd (upd w126 3 32) 4 108) 5 100) 6 97)) (q_uI q_IX 34 3 7) q_J0, 40, 26520)) rfl rfl ?_ ?_
  · refine q_Ca_of (Nat.le_of_ble_eq_true rfl) ?_
    refine q_Ru_seg (g2 := (1, [(0, .ref 98), (1, .int 0)], [.int 0], (q_cX (q_uA q_AX 35 (upd w126 3 32)) (q_uI q_IX 34 3 4) q_J0, 40, 26520))) 1 (fun _ _ => rfl) ?_
    refine q_Ru_call (v := (some (.int 0))) (h2 := (q_cX (q_uA q_AX 35 (upd w126 3 32)) (q_uI q_IX 34 3 4) q_J0, 40, 26520)) rfl rfl ?_ ?_
    · refine q_Ca_of (Nat.le_of_ble_eq_true rfl) ?_
      refine q_Ru_seg (g2 := (11, [(0, .int 0)], [.int 0], (q_cX (q_uA q_AX 35 (upd w126 3 32)) (q_uI q_IX 34 3 4) q_J0, 40, 26520))) 6 (fun _ _ => rfl) ?_
      exact q_Ru_ret rfl rfl
    show q_Ru _ _ _ (4, [(0, .ref 98), (1, .int 0)], [.int 0], (q_cX (q_uA q_AX 35 (upd w126 3 32)) (q_uI q_IX 34 3 4) q_J0, 40, 26520)) _
    refine q_Ru_seg (g2 := (44, [(4, .int 0), (3, .ref 12), (2, .int 0), (0, .ref 98), (1, .int 0)], [.ref 12, .int 2], (q_cX (q_uA q_AX 35 (upd w126 3 32)) (q_uI q_IX 34 3 4) q_J0, 40, 26520))) 19 (fun _ _ => rfl) ?_
    refine q_Ru_call (v := (some (.int 63))) (h2 := (q_cX (q_uA q_AX 35 (upd w126 3 32)) (q_uI q_IX 34 3 4) q_J0, 40, 26520)) rfl rfl ?_ ?_
    · refine q_Ca_of (Nat.le_of_ble_eq_true rfl) ?_
      refine q_Ru_seg (g2 := (6, [(0, .ref 12)], [.ref 12, .int 63], (q_cX (q_uA q_AX 35 (upd w126 3 32)) (q_uI q_IX 34 3 4) q_J0, 40, 26520))) 4 (fun _ _ => rfl) ?_
      refine q_Ru_call (v := (some (.int 0))) (h2 := (q_cX (q_uA q_AX 35 (upd w126 3 32)) (q_uI q_IX 34 3 4) q_J0, 40, 26520)) rfl rfl ?_ ?_
      · refine q_Ca_of (Nat.le_of_ble_eq_true rfl) ?_
        refine q_Ru_seg (g2 := (14, [(0, .ref 12)], [.int 0], (q_cX (q_uA q_AX 35 (upd w126 3 32)) (q_uI q_IX 34 3 4) q_J0, 40, 26520))) 5 (fun _ _ => rfl) ?_
        exact q_Ru_ret rfl rfl
      show q_Ru _ _ _ (9, [(0, .ref 12)], [.int 0, .int 63], (q_cX (q_uA q_AX 35 (upd w126 3 32)) (q_uI q_IX 34 3 4) q_J0, 40, 26520)) _
      refine q_Ru_seg (g2 := (10, [(0, .ref 12)], [.int 63], (q_cX (q_uA q_AX 35 (upd w126 3 32)) (q_uI q_IX 34 3 4) q_J0, 40, 26520))) 1 (fun _ _ => rfl) ?_
      exact q_Ru_ret rfl rfl
    show q_Ru _ _ _ (47, [(4, .int 0), (3, .ref 12), (2, .int 0), (0, .ref 98), (1, .int 0)], [.int 63, .int 2], (q_cX (q_uA q_AX 35 (upd w126 3 32)) (q_uI q_IX 34 3 4) q_J0, 40, 26520)) _
    exact q_Ru_le (Nat.le_of_ble_eq_true rfl) (q_xc101 L xs a hl_a hu_a w126)
  show q_Ru _ _ _ (48, [(5, .int 0), (4, .int 2), (3, .int 0), (0, .ref 98), (1, .ref 66), (2, .int a)], [], (q_cX (q_uA q_AX 35 (upd (upd (upd (upd w126 3 32) 4 108) 5 100) 6 97)) (q_uI q_IX 34 3 7) q_J0, 40, 26520)) _
  refine q_Ru_seg (g2 := (56, [(5, .int 0), (4, .int 2), (3, .int 0), (0, .ref 98), (1, .ref 66), (2, .int a)], [.int 0], (q_cX (q_uA q_AX 35 (upd (upd (upd (upd w126 3 32) 4 108) 5 100) 6 97)) (q_uI q_IX 34 3 7) q_J0, 40, 26520))) 4 (fun _ _ => rfl) ?_
  refine q_Ru_call (v := (some (.int 0))) (h2 := (q_cX (q_uA q_AX 35 (upd (upd (upd (upd w126 3 32) 4 108) 5 100) 6 97)) (q_uI q_IX 34 3 7) q_J0, 40, 26520)) rfl rfl ?_ ?_
  · refine q_Ca_of (Nat.le_of_ble_eq_true rfl) ?_
    refine q_Ru_seg (g2 := (19, [(0, .int 0)], [.int 0], (q_cX (q_uA q_AX 35 (upd (upd (upd (upd w126 3 32) 4 108) 5 100) 6 97)) (q_uI q_IX 34 3 7) q_J0, 40, 26520))) 4 (fun _ _ => rfl) ?_
    exact q_Ru_ret rfl rfl
  show q_Ru _ _ _ (59, [(5, .int 0), (4, .int 2), (3, .int 0), (0, .ref 98), (1, .ref 66), (2, .int a)], [.int 0], (q_cX (q_uA q_AX 35 (upd (upd (upd (upd w126 3 32) 4 108) 5 100) 6 97)) (q_uI q_IX 34 3 7) q_J0, 40, 26520)) _
  refine q_Ru_seg (g2 := (103, [(6, .int 0), (5, .int 0), (4, .int 2), (3, .int 0), (0, .ref 98), (1, .ref 66), (2, .int a)], [.int 0, .ref 98], (q_cX (q_uA q_AX 35 (upd (upd (upd (upd w126 3 32) 4 108) 5 100) 6 97)) (q_uI q_IX 34 3 7) q_J0, 40, 26520))) 9 (fun _ _ => rfl) ?_
  refine q_Ru_call (v := (some (.int 0))) (h2 := (q_cX (q_uA q_AX 35 (upd (upd (upd (upd w126 3 32) 4 108) 5 100) 6 97)) (q_uI q_IX 34 3 7) q_J0, 40, 26520)) rfl rfl ?_ ?_
  · refine q_Ca_of (Nat.le_of_ble_eq_true rfl) ?_
    refine q_Ru_seg (g2 := (1, [(0, .int 0)], [.int 0], (q_cX (q_uA q_AX 35 (upd (upd (upd (upd w126 3 32) 4 108) 5 100) 6 97)) (q_uI q_IX 34 3 7) q_J0, 40, 26520))) 1 (fun _ _ => rfl) ?_
    refine q_Ru_call (v := (some (.int 0))) (h2 := (q_cX (q_uA q_AX 35 (upd (upd (upd (upd w126 3 32) 4 108) 5 100) 6 97)) (q_uI q_IX 34 3 7) q_J0, 40, 26520)) rfl rfl ?_ ?_
    · refine q_Ca_of (Nat.le_of_ble_eq_true rfl) ?_
      refine q_Ru_seg (g2 := (11, [(0, .int 0)], [.int 0], (q_cX (q_uA q_AX 35 (upd (upd (upd (upd w126 3 32) 4 108) 5 100) 6 97)) (q_uI q_IX 34 3 7) q_J0, 40, 26520))) 6 (fun _ _ => rfl) ?_
      exact q_Ru_ret rfl rfl
    show q_Ru _ _ _ (4, [(0, .int 0)], [.int 0], (q_cX (q_uA q_AX 35 (upd (upd (upd (upd w126 3 32) 4 108) 5 100) 6 97)) (q_uI q_IX 34 3 7) q_J0, 40, 26520)) _
    refine q_Ru_seg (g2 := (11, [(0, .int 0)], [.int 0], (q_cX (q_uA q_AX 35 (upd (upd (upd (upd w126 3 32) 4 108) 5 100) 6 97)) (q_uI q_IX 34 3 7) q_J0, 40, 26520))) 4 (fun _ _ => rfl) ?_
    exact q_Ru_ret rfl rfl
  show q_Ru _ _ _ (106, [(6, .int 0), (5, .int 0), (4, .int 2), (3, .int 0), (0, .ref 98), (1, .ref 66), (2, .int a)], [.int 0, .ref 98], (q_cX (q_uA q_AX 35 (upd (upd (upd (upd w126 3 32) 4 108) 5 100) 6 97)) (q_uI q_IX 34 3 7) q_J0, 40, 26520)) _
  exact q_Ru_le (Nat.le_of_ble_eq_true rfl) (q_xc103 L xs a hl_a hu_a w126)
set_option maxHeartbeats 20000000 in
theorem q_xc105 (L : Nat) (xs : Nat → Int32) (a : Int32) (hl_a : 100 ≤ a.toInt) (hu_a : a.toInt ≤ 999) (h179 : decide (a < 0) = false) (h181 : decide ((-10) < -a) = false) (h182 : decide ((-100) < -a) = false) (h183 : decide ((-1000) < -a) = true) (h184 : decide ((-100) < (-a) / 100) = true) (h185 : decide ((-a) / 100 < (-9)) = false) : q_Ru (q_TBs 98 L xs) 5 195 (30, [(5, .int 0), (4, .int 2), (3, .int 0), (0, .ref 98), (1, .ref 66), (2, .int a)], [], (q_cX q_AX (q_uI q_IX 34 3 0) q_J0, 40, 26520)) (.inl none, (q_cX (q_uA q_AX 35 (upd (upd (upd (upd (upd (upd (upd (upd (upd (upd (fun _ => 0) 2 (vp_nar .byte ((fun j => q_o6.getD j 0) (((((-a) / 100) * 100) - (-a)).toNatClampNeg)))) 1 (vp_nar .byte ((fun j => q_o7.getD j 0) (((((-a) / 100) * 100) - (-a)).toNatClampNeg)))) 0 (vp_nar .byte ((fun j => q_o6.getD j 0) ((-((-a) / 100)).toNatClampNeg)))) 3 32) 4 108) 5 100) 6 97) 7 32) 8 35) 9 48)) (q_uI q_IX 34 3 10) q_J0, 40, 26520)) := by
  refine q_Ru_seg (g2 := (32, [(5, .int 0), (4, .int 2), (3, .int 0), (0, .ref 98), (1, .ref 66), (2, .int a)], [.int a, .ref 98], (q_cX q_AX (q_uI q_IX 34 3 0) q_J0, 40, 26520))) 2 (fun _ _ => rfl) ?_
  refine q_Ru_call (v := (some (.ref 98))) (h2 := (q_cX (q_uA q_AX 35 (upd (upd (upd (fun _ => 0) 2 (vp_nar .byte ((fun j => q_o6.getD j 0) (((((-a) / 100) * 100) - (-a)).toNatClampNeg)))) 1 (vp_nar .byte ((fun j => q_o7.getD j 0) (((((-a) / 100) * 100) - (-a)).toNatClampNeg)))) 0 (vp_nar .byte ((fun j => q_o6.getD j 0) ((-((-a) / 100)).toNatClampNeg))))) (q_uI q_IX 34 3 3) q_J0, 40, 26520)) rfl rfl ?_ ?_
  · refine q_Ca_of (Nat.le_of_ble_eq_true rfl) ?_
    refine q_Ru_seg (g2 := (2, [(0, .ref 98), (1, .int a)], [.int a, .ref 98], (q_cX q_AX (q_uI q_IX 34 3 0) q_J0, 40, 26520))) 2 (fun _ _ => rfl) ?_
    refine q_Ru_call (v := (some (.ref 98))) (h2 := (q_cX (q_uA q_AX 35 (upd (upd (upd (fun _ => 0) 2 (vp_nar .byte ((fun j => q_o6.getD j 0) (((((-a) / 100) * 100) - (-a)).toNatClampNeg)))) 1 (vp_nar .byte ((fun j => q_o7.getD j 0) (((((-a) / 100) * 100) - (-a)).toNatClampNeg)))) 0 (vp_nar .byte ((fun j => q_o6.getD j 0) ((-((-a) / 100)).toNatClampNeg))))) (q_uI q_IX 34 3 3) q_J0, 40, 26520)) rfl rfl ?_ ?_
    · refine q_Ca_of (Nat.le_of_ble_eq_true rfl) ?_
      refine q_Ru_seg (g2 := (4, [(0, .ref 98), (1, .int a)], [.int 0], (q_cX q_AX (q_uI q_IX 34 3 0) q_J0, 40, 26520))) 2 (fun _ _ => rfl) ?_
      refine q_Ru_seg (g2 := (7, [(2, .int 0), (0, .ref 98), (1, .int a)], [.int a, .int 0], (q_cX q_AX (q_uI q_IX 34 3 0) q_J0, 40, 26520))) 3 (fun _ _ => rfl) ?_
      refine q_Ru_call (v := (some (.int 3))) (h2 := (q_cX q_AX (q_uI q_IX 34 3 0) q_J0, 40, 26520)) rfl rfl ?_ ?_
      · refine q_Ca_of (Nat.le_of_ble_eq_true rfl) ?_
        refine q_Ru_seg (g2 := (3, [(1, .int 1), (0, .int a)], [.int a], (q_cX q_AX (q_uI q_IX 34 3 0) q_J0, 40, 26520))) 3 (fun _ _ => rfl) ?_
        refine q_Ru_rsF (g2 := (6, [(1, .int 1), (0, .int a)], [], (q_cX q_AX (q_uI q_IX 34 3 0) q_J0, 40, 26520))) rfl rfl h179 ?_
        refine q_Ru_seg (g2 := (24, [(3, .int 1), (2, .int (-10)), (0, .int (-a)), (1, .int 0)], [.int (-10), .int (-a)], (q_cX q_AX (q_uI q_IX 34 3 0) q_J0, 40, 26520))) 14 (fun _ _ => rfl) ?_
        refine q_Ru_rsT (g2 := (31, [(3, .int 1), (2, .int (-10)), (0, .int (-a)), (1, .int 0)], [], (q_cX q_AX (q_uI q_IX 34 3 0) q_J0, 40, 26520))) rfl rfl (q_d_geF h181) ?_
        refine q_Ru_seg (g2 := (24, [(3, .int 2), (2, .int (-100)), (0, .int (-a)), (1, .int 0)], [.int (-100), .int (-a)], (q_cX q_AX (q_uI q_IX 34 3 0) q_J0, 40, 26520))) 11 (fun _ _ => rfl) ?_
        refine q_Ru_rsT (g2 := (31, [(3, .int 2), (2, .int (-100)), (0, .int (-a)), (1, .int 0)], [], (q_cX q_AX (q_uI q_IX 34 3 0) q_J0, 40, 26520))) rfl rfl (q_d_geF h182) ?_
        refine q_Ru_seg (g2 := (24, [(3, .int 3), (2, .int (-1000)), (0, .int (-a)), (1, .int 0)], [.int (-1000), .int (-a)], (q_cX q_AX (q_uI q_IX 34 3 0) q_J0, 40, 26520))) 11 (fun _ _ => rfl) ?_
        refine q_Ru_rsF (g2 := (27, [(3, .int 3), (2, .int (-1000)), (0, .int (-a)), (1, .int 0)], [], (q_cX q_AX (q_uI q_IX 34 3 0) q_J0, 40, 26520))) rfl rfl (q_d_geT h183) ?_
        refine q_Ru_seg (g2 := (30, [(3, .int 3), (2, .int (-1000)), (0, .int (-a)), (1, .int 0)], [.int 3], (q_cX q_AX (q_uI q_IX 34 3 0) q_J0, 40, 26520))) 3 (fun _ _ => rfl) ?_
        exact q_Ru_ret rfl rfl
      show q_Ru _ _ _ (10, [(2, .int 0), (0, .ref 98), (1, .int a)], [.int 3, .int 0], (q_cX q_AX (q_uI q_IX 34 3 0) q_J0, 40, 26520)) _
      exact q_Ru_le (Nat.le_of_ble_eq_true rfl) (q_xc98 L xs a hl_a hu_a h179 h182 h184 h185)
    show q_Ru _ _ _ (5, [(0, .ref 98), (1, .int a)], [.ref 98], (q_cX (q_uA q_AX 35 (upd (upd (upd (fun _ => 0) 2 (vp_nar .byte ((fun j => q_o6.getD j 0) (((((-a) / 100) * 100) - (-a)).toNatClampNeg)))) 1 (vp_nar .byte ((fun j => q_o7.getD j 0) (((((-a) / 100) * 100) - (-a)).toNatClampNeg)))) 0 (vp_nar .byte ((fun j => q_o6.getD j 0) ((-((-a) / 100)).toNatClampNeg))))) (q_uI q_IX 34 3 3) q_J0, 40, 26520)) _
    generalize (upd (upd (upd (fun _ => 0) 2 (vp_nar .byte ((fun j => q_o6.getD j 0) (((((-a) / 100) * 100) - (-a)).toNatClampNeg)))) 1 (vp_nar .byte ((fun j => q_o7.getD j 0) (((((-a) / 100) * 100) - (-a)).toNatClampNeg)))) 0 (vp_nar .byte ((fun j => q_o6.getD j 0) ((-((-a) / 100)).toNatClampNeg)))) = w125
    refine q_Ru_seg (g2 := (7, [(0, .ref 98), (1, .int a)], [.ref 98], (q_cX (q_uA q_AX 35 w125) (q_uI q_IX 34 3 3) q_J0, 40, 26520))) 2 (fun _ _ => rfl) ?_
    exact q_Ru_ret rfl rfl
  show q_Ru _ _ _ (35, [(5, .int 0), (4, .int 2), (3, .int 0), (0, .ref 98), (1, .ref 66), (2, .int a)], [.ref 98], (q_cX (q_uA q_AX 35 (upd (upd (upd (fun _ => 0) 2 (vp_nar .byte ((fun j => q_o6.getD j 0) (((((-a) / 100) * 100) - (-a)).toNatClampNeg)))) 1 (vp_nar .byte ((fun j => q_o7.getD j 0) (((((-a) / 100) * 100) - (-a)).toNatClampNeg)))) 0 (vp_nar .byte ((fun j => q_o6.getD j 0) ((-((-a) / 100)).toNatClampNeg))))) (q_uI q_IX 34 3 3) q_J0, 40, 26520)) _
  generalize (upd (upd (upd (fun _ => 0) 2 (vp_nar .byte ((fun j => q_o6.getD j 0) (((((-a) / 100) * 100) - (-a)).toNatClampNeg)))) 1 (vp_nar .byte ((fun j => q_o7.getD j 0) (((((-a) / 100) * 100) - (-a)).toNatClampNeg)))) 0 (vp_nar .byte ((fun j => q_o6.getD j 0) ((-((-a) / 100)).toNatClampNeg)))) = w126
  refine q_Ru_seg (g2 := (39, [(5, .int 0), (4, .int 2), (3, .int 0), (0, .ref 98), (1, .ref 66), (2, .int a)], [.int 32, .ref 98], (q_cX (q_uA q_AX 35 w126) (q_uI q_IX 34 3 3) q_J0, 40, 26520))) 3 (fun _ _ => rfl) ?_
  refine q_Ru_call (v := (some (.ref 98))) (h2 := (q_cX (q_uA q_AX 35 (upd w126 3 32)) (q_uI q_IX 34 3 4) q_J0, 40, 26520)) rfl rfl ?_ ?_
  · refine q_Ca_of (Nat.le_of_ble_eq_true rfl) ?_
    refine q_Ru_seg (g2 := (2, [(0, .ref 98), (1, .int 32)], [.int 32, .ref 98], (q_cX (q_uA q_AX 35 w126) (q_uI q_IX 34 3 3) q_J0, 40, 26520))) 2 (fun _ _ => rfl) ?_
    refine q_Ru_call (v := (some (.ref 98))) (h2 := (q_cX (q_uA q_AX 35 (upd w126 3 32)) (q_uI q_IX 34 3 4) q_J0, 40, 26520)) rfl rfl ?_ ?_
    · refine q_Ca_of (Nat.le_of_ble_eq_true rfl) ?_
      refine q_Ru_seg (g2 := (5, [(0, .ref 98), (1, .int 32)], [.int 3, .ref 98], (q_cX (q_uA q_AX 35 w126) (q_uI q_IX 34 3 3) q_J0, 40, 26520))) 3 (fun _ _ => rfl) ?_
      refine q_Ru_seg (g2 := (7, [(0, .ref 98), (1, .int 32)], [.int 4, .ref 98], (q_cX (q_uA q_AX 35 w126) (q_uI q_IX 34 3 3) q_J0, 40, 26520))) 2 (fun _ _ => rfl) ?_
      refine q_Ru_call (v := none) (h2 := (q_cX (q_uA q_AX 35 w126) (q_uI q_IX 34 3 3) q_J0, 40, 26520)) rfl rfl ?_ ?_
      · refine q_Ca_of (Nat.le_of_ble_eq_true rfl) ?_
        refine q_Ru_seg (g2 := (9, [(0, .ref 98), (1, .int 4)], [.int 0, .int 16], (q_cX (q_uA q_AX 35 w126) (q_uI q_IX 34 3 3) q_J0, 40, 26520))) 5 (fun _ _ => rfl) ?_
        refine q_Ru_seg (g2 := (38, [(2, .int 16), (0, .ref 98), (1, .int 4)], [], (q_cX (q_uA q_AX 35 w126) (q_uI q_IX 34 3 3) q_J0, 40, 26520))) 6 (fun _ _ => rfl) ?_
        exact q_Ru_ret rfl rfl
      show q_Ru _ _ _ (10, [(0, .ref 98), (1, .int 32)], [], (q_cX (q_uA q_AX 35 w126) (q_uI q_IX 34 3 3) q_J0, 40, 26520)) _
      refine q_Ru_seg (g2 := (11, [(0, .ref 98), (1, .int 32)], [.ref 98], (q_cX (q_uA q_AX 35 w126) (q_uI q_IX 34 3 3) q_J0, 40, 26520))) 1 (fun _ _ => rfl) ?_
      refine q_Ru_call (v := (some (.int 1))) (h2 := (q_cX (q_uA q_AX 35 w126) (q_uI q_IX 34 3 3) q_J0, 40, 26520)) rfl rfl ?_ ?_
      · refine q_Ca_of (Nat.le_of_ble_eq_true rfl) ?_
        refine q_Ru_seg (g2 := (10, [(0, .ref 98)], [.int 0], (q_cX (q_uA q_AX 35 w126) (q_uI q_IX 34 3 3) q_J0, 40, 26520))) 4 (fun _ _ => rfl) ?_
        refine q_Ru_seg (g2 := (18, [(0, .ref 98)], [.int 1], (q_cX (q_uA q_AX 35 w126) (q_uI q_IX 34 3 3) q_J0, 40, 26520))) 3 (fun _ _ => rfl) ?_
        exact q_Ru_ret rfl rfl
      show q_Ru _ _ _ (14, [(0, .ref 98), (1, .int 32)], [.int 1], (q_cX (q_uA q_AX 35 w126) (q_uI q_IX 34 3 3) q_J0, 40, 26520)) _
      refine q_Ru_seg (g2 := (18, [(0, .ref 98), (1, .int 32)], [.int 32], (q_cX (q_uA q_AX 35 w126) (q_uI q_IX 34 3 3) q_J0, 40, 26520))) 2 (fun _ _ => rfl) ?_
      refine q_Ru_call (v := (some (.int 1))) (h2 := (q_cX (q_uA q_AX 35 w126) (q_uI q_IX 34 3 3) q_J0, 40, 26520)) rfl rfl ?_ ?_
      · refine q_Ca_of (Nat.le_of_ble_eq_true rfl) ?_
        refine q_Ru_seg (g2 := (12, [(0, .int 32)], [.int 1], (q_cX (q_uA q_AX 35 w126) (q_uI q_IX 34 3 3) q_J0, 40, 26520))) 5 (fun _ _ => rfl) ?_
        exact q_Ru_ret rfl rfl
      show q_Ru _ _ _ (21, [(0, .ref 98), (1, .int 32)], [.int 1], (q_cX (q_uA q_AX 35 w126) (q_uI q_IX 34 3 3) q_J0, 40, 26520)) _
      refine q_Ru_seg (g2 := (33, [(0, .ref 98), (1, .int 32)], [.int 3, .ref 98, .ref 99], (q_cX (q_uA q_AX 35 w126) (q_uI q_IX 34 3 3) q_J0, 40, 26520))) 6 (fun _ _ => rfl) ?_
      refine q_Ru_seg (g2 := (76, [(0, .ref 98), (1, .int 32)], [.ref 98], (q_cX (q_uA q_AX 35 (upd w126 3 32)) (q_uI q_IX 34 3 4) q_J0, 40, 26520))) 9 (fun _ _ => rfl) ?_
      exact q_Ru_ret rfl rfl
    show q_Ru _ _ _ (5, [(0, .ref 98), (1, .int 32)], [.ref 98], (q_cX (q_uA q_AX 35 (upd w126 3 32)) (q_uI q_IX 34 3 4) q_J0, 40, 26520)) _
    refine q_Ru_seg (g2 := (7, [(0, .ref 98), (1, .int 32)], [.ref 98], (q_cX (q_uA q_AX 35 (upd w126 3 32)) (q_uI q_IX 34 3 4) q_J0, 40, 26520))) 2 (fun _ _ => rfl) ?_
    exact q_Ru_ret rfl rfl
  show q_Ru _ _ _ (42, [(5, .int 0), (4, .int 2), (3, .int 0), (0, .ref 98), (1, .ref 66), (2, .int a)], [.ref 98], (q_cX (q_uA q_AX 35 (upd w126 3 32)) (q_uI q_IX 34 3 4) q_J0, 40, 26520)) _
  exact q_Ru_le (Nat.le_of_ble_eq_true rfl) (q_xc104 L xs a hl_a hu_a w126)
set_option maxHeartbeats 20000000 in
theorem q_xc106 (L : Nat) (xs : Nat → Int32) (a : Int32) (hl_a : 100 ≤ a.toInt) (hu_a : a.toInt ≤ 999) (h179 : decide (a < 0) = false) (h181 : decide ((-10) < -a) = false) (h182 : decide ((-100) < -a) = false) (h183 : decide ((-1000) < -a) = true) (h184 : decide ((-100) < (-a) / 100) = true) (h185 : decide ((-a) / 100 < (-9)) = false) : q_Ru (q_TBs 98 L xs) 6 34 (4, [(0, .ref 64), (1, .int a)], [], (q_cX q_AX q_IX q_J0, 40, 26520)) (.inl (some (.int 10)), (q_cX (q_uA q_AX 35 (upd (upd (upd (upd (upd (upd (upd (upd (upd (upd (fun _ => 0) 2 (vp_nar .byte ((fun j => q_o6.getD j 0) (((((-a) / 100) * 100) - (-a)).toNatClampNeg)))) 1 (vp_nar .byte ((fun j => q_o7.getD j 0) (((((-a) / 100) * 100) - (-a)).toNatClampNeg)))) 0 (vp_nar .byte ((fun j => q_o6.getD j 0) ((-((-a) / 100)).toNatClampNeg)))) 3 32) 4 108) 5 100) 6 97) 7 32) 8 35) 9 48)) (q_uI q_IX 34 3 10) q_J0, 40, 26520)) := by
  refine q_Ru_seg (g2 := (16, [(0, .ref 64), (1, .int a)], [.int a, .ref 66, .ref 98], (q_cX q_AX q_IX q_J0, 40, 26520))) 6 (fun _ _ => rfl) ?_
  refine q_Ru_call (v := none) (h2 := (q_cX (q_uA q_AX 35 (upd (upd (upd (upd (upd (upd (upd (upd (upd (upd (fun _ => 0) 2 (vp_nar .byte ((fun j => q_o6.getD j 0) (((((-a) / 100) * 100) - (-a)).toNatClampNeg)))) 1 (vp_nar .byte ((fun j => q_o7.getD j 0) (((((-a) / 100) * 100) - (-a)).toNatClampNeg)))) 0 (vp_nar .byte ((fun j => q_o6.getD j 0) ((-((-a) / 100)).toNatClampNeg)))) 3 32) 4 108) 5 100) 6 97) 7 32) 8 35) 9 48)) (q_uI q_IX 34 3 10) q_J0, 40, 26520)) rfl rfl ?_ ?_
  · refine q_Ca_of (Nat.le_of_ble_eq_true rfl) ?_
    refine q_Ru_seg (g2 := (2, [(0, .ref 98), (1, .ref 66), (2, .int a)], [.int a, .ref 66], (q_cX q_AX q_IX q_J0, 40, 26520))) 2 (fun _ _ => rfl) ?_
    refine q_Ru_call (v := (some (.int 0))) (h2 := (q_cX q_AX q_IX q_J0, 40, 26520)) rfl rfl ?_ ?_
    · exact ((q_p_read0 a (Int.le_trans (by decide) hl_a) (Int.le_trans hu_a (by decide))).le (Nat.le_of_ble_eq_true rfl)).tb q_TB0_le
    show q_Ru _ _ _ (5, [(0, .ref 98), (1, .ref 66), (2, .int a)], [.int 0], (q_cX q_AX q_IX q_J0, 40, 26520)) _
    refine q_Ru_seg (g2 := (7, [(3, .int 0), (0, .ref 98), (1, .ref 66), (2, .int a)], [.int 0], (q_cX q_AX q_IX q_J0, 40, 26520))) 2 (fun _ _ => rfl) ?_
    refine q_Ru_call (v := (some (.int 2))) (h2 := (q_cX q_AX q_IX q_J0, 40, 26520)) rfl rfl ?_ ?_
    · refine q_Ca_of (Nat.le_of_ble_eq_true rfl) ?_
      refine q_Ru_seg (g2 := (1, [(0, .int 0)], [.int 0], (q_cX q_AX q_IX q_J0, 40, 26520))) 1 (fun _ _ => rfl) ?_
      refine q_Ru_call (v := (some (.int 0))) (h2 := (q_cX q_AX q_IX q_J0, 40, 26520)) rfl rfl ?_ ?_
      · refine q_Ca_of (Nat.le_of_ble_eq_true rfl) ?_
        refine q_Ru_seg (g2 := (11, [(0, .int 0)], [.int 0], (q_cX q_AX q_IX q_J0, 40, 26520))) 6 (fun _ _ => rfl) ?_
        exact q_Ru_ret rfl rfl
      show q_Ru _ _ _ (4, [(0, .int 0)], [.int 0], (q_cX q_AX q_IX q_J0, 40, 26520)) _
      refine q_Ru_seg (g2 := (27, [(1, .int 0), (0, .int 0)], [.int 2], (q_cX q_AX q_IX q_J0, 40, 26520))) 9 (fun _ _ => rfl) ?_
      exact q_Ru_ret rfl rfl
    show q_Ru _ _ _ (10, [(3, .int 0), (0, .ref 98), (1, .ref 66), (2, .int a)], [.int 2], (q_cX q_AX q_IX q_J0, 40, 26520)) _
    refine q_Ru_seg (g2 := (20, [(4, .int 2), (3, .int 0), (0, .ref 98), (1, .ref 66), (2, .int a)], [.int ((a + 1) &&& 4095), .ref 66], (q_cX q_AX q_IX q_J0, 40, 26520))) 7 (fun _ _ => rfl) ?_
    refine q_Ru_call (v := (some (.int 0))) (h2 := (q_cX q_AX q_IX q_J0, 40, 26520)) rfl rfl ?_ ?_
    · exact ((q_p_read0 ((a + 1) &&& 4095) (q_and_lo (a + 1) 4095) (q_and_hi (a + 1) 4095 4095)).le (Nat.le_of_ble_eq_true rfl)).tb q_TB0_le
    show q_Ru _ _ _ (23, [(4, .int 2), (3, .int 0), (0, .ref 98), (1, .ref 66), (2, .int a)], [.int 0], (q_cX q_AX q_IX q_J0, 40, 26520)) _
    refine q_Ru_seg (g2 := (27, [(5, .int 0), (4, .int 2), (3, .int 0), (0, .ref 98), (1, .ref 66), (2, .int a)], [.int 0, .ref 98], (q_cX q_AX q_IX q_J0, 40, 26520))) 3 (fun _ _ => rfl) ?_
    refine q_Ru_call (v := none) (h2 := (q_cX q_AX (q_uI q_IX 34 3 0) q_J0, 40, 26520)) rfl rfl ?_ ?_
    · refine q_Ca_of (Nat.le_of_ble_eq_true rfl) ?_
      refine q_Ru_seg (g2 := (2, [(0, .ref 98), (1, .int 0)], [.int 0, .ref 98], (q_cX q_AX q_IX q_J0, 40, 26520))) 2 (fun _ _ => rfl) ?_
      refine q_Ru_call (v := none) (h2 := (q_cX q_AX (q_uI q_IX 34 3 0) q_J0, 40, 26520)) rfl rfl ?_ ?_
      · refine q_Ca_of (Nat.le_of_ble_eq_true rfl) ?_
        refine q_Ru_seg (g2 := (15, [(0, .ref 98), (1, .int 0)], [.int 0, .ref 98], (q_cX q_AX q_IX q_J0, 40, 26520))) 4 (fun _ _ => rfl) ?_
        refine q_Ru_call (v := none) (h2 := (q_cX q_AX q_IX q_J0, 40, 26520)) rfl rfl ?_ ?_
        · refine q_Ca_of (Nat.le_of_ble_eq_true rfl) ?_
          refine q_Ru_seg (g2 := (9, [(0, .ref 98), (1, .int 0)], [.int 0, .int 16], (q_cX q_AX q_IX q_J0, 40, 26520))) 5 (fun _ _ => rfl) ?_
          refine q_Ru_seg (g2 := (38, [(2, .int 16), (0, .ref 98), (1, .int 0)], [], (q_cX q_AX q_IX q_J0, 40, 26520))) 6 (fun _ _ => rfl) ?_
          exact q_Ru_ret rfl rfl
        show q_Ru _ _ _ (18, [(0, .ref 98), (1, .int 0)], [], (q_cX q_AX q_IX q_J0, 40, 26520)) _
        refine q_Ru_seg (g2 := (22, [(0, .ref 98), (1, .int 0)], [.int 0], (q_cX q_AX q_IX q_J0, 40, 26520))) 2 (fun _ _ => rfl) ?_
        refine q_Ru_seg (g2 := (67, [(0, .ref 98), (1, .int 0)], [.int 0], (q_cX q_AX q_IX q_J0, 40, 26520))) 4 (fun _ _ => rfl) ?_
        refine q_Ru_seg (g2 := (81, [(0, .ref 98), (1, .int 0)], [], (q_cX q_AX (q_uI q_IX 34 3 0) q_J0, 40, 26520))) 5 (fun _ _ => rfl) ?_
        exact q_Ru_ret rfl rfl
      show q_Ru _ _ _ (5, [(0, .ref 98), (1, .int 0)], [], (q_cX q_AX (q_uI q_IX 34 3 0) q_J0, 40, 26520)) _
      exact q_Ru_ret rfl rfl
    show q_Ru _ _ _ (30, [(5, .int 0), (4, .int 2), (3, .int 0), (0, .ref 98), (1, .ref 66), (2, .int a)], [], (q_cX q_AX (q_uI q_IX 34 3 0) q_J0, 40, 26520)) _
    exact q_Ru_le (Nat.le_of_ble_eq_true rfl) (q_xc105 L xs a hl_a hu_a h179 h181 h182 h183 h184 h185)
  show q_Ru _ _ _ (19, [(0, .ref 64), (1, .int a)], [], (q_cX (q_uA q_AX 35 (upd (upd (upd (upd (upd (upd (upd (upd (upd (upd (fun _ => 0) 2 (vp_nar .byte ((fun j => q_o6.getD j 0) (((((-a) / 100) * 100) - (-a)).toNatClampNeg)))) 1 (vp_nar .byte ((fun j => q_o7.getD j 0) (((((-a) / 100) * 100) - (-a)).toNatClampNeg)))) 0 (vp_nar .byte ((fun j => q_o6.getD j 0) ((-((-a) / 100)).toNatClampNeg)))) 3 32) 4 108) 5 100) 6 97) 7 32) 8 35) 9 48)) (q_uI q_IX 34 3 10) q_J0, 40, 26520)) _
  generalize (upd (upd (upd (upd (upd (upd (upd (upd (upd (upd (fun _ => 0) 2 (vp_nar .byte ((fun j => q_o6.getD j 0) (((((-a) / 100) * 100) - (-a)).toNatClampNeg)))) 1 (vp_nar .byte ((fun j => q_o7.getD j 0) (((((-a) / 100) * 100) - (-a)).toNatClampNeg)))) 0 (vp_nar .byte ((fun j => q_o6.getD j 0) ((-((-a) / 100)).toNatClampNeg)))) 3 32) 4 108) 5 100) 6 97) 7 32) 8 35) 9 48) = w130
  refine q_Ru_seg (g2 := (23, [(0, .ref 64), (1, .int a)], [.ref 98], (q_cX (q_uA q_AX 35 w130) (q_uI q_IX 34 3 10) q_J0, 40, 26520))) 2 (fun _ _ => rfl) ?_
  refine q_Ru_call (v := (some (.int 10))) (h2 := (q_cX (q_uA q_AX 35 w130) (q_uI q_IX 34 3 10) q_J0, 40, 26520)) rfl rfl ?_ ?_
  · refine q_Ca_of (Nat.le_of_ble_eq_true rfl) ?_
    refine q_Ru_seg (g2 := (1, [(0, .ref 98)], [.ref 98], (q_cX (q_uA q_AX 35 w130) (q_uI q_IX 34 3 10) q_J0, 40, 26520))) 1 (fun _ _ => rfl) ?_
    refine q_Ru_call (v := (some (.int 10))) (h2 := (q_cX (q_uA q_AX 35 w130) (q_uI q_IX 34 3 10) q_J0, 40, 26520)) rfl rfl ?_ ?_
    · refine q_Ca_of (Nat.le_of_ble_eq_true rfl) ?_
      refine q_Ru_seg (g2 := (4, [(0, .ref 98)], [.int 10], (q_cX (q_uA q_AX 35 w130) (q_uI q_IX 34 3 10) q_J0, 40, 26520))) 2 (fun _ _ => rfl) ?_
      exact q_Ru_ret rfl rfl
    show q_Ru _ _ _ (4, [(0, .ref 98)], [.int 10], (q_cX (q_uA q_AX 35 w130) (q_uI q_IX 34 3 10) q_J0, 40, 26520)) _
    exact q_Ru_ret rfl rfl
  show q_Ru _ _ _ (26, [(0, .ref 64), (1, .int a)], [.int 10], (q_cX (q_uA q_AX 35 w130) (q_uI q_IX 34 3 10) q_J0, 40, 26520)) _
  exact q_Ru_ret rfl rfl
set_option maxHeartbeats 20000000 in
theorem q_xc107 (L : Nat) (xs : Nat → Int32) (a : Int32) (hl_a : 100 ≤ a.toInt) (hu_a : a.toInt ≤ 999) (f18 : Nat → Int32) (f19 : Nat → Int32) (p19 : q_Ca q_TB0 4 214 [.ref 64, .int ((a + 1) &&& 4095)] (q_cM (q_uA (q_uA q_AM 33 f18) 32 (upd (upd (upd (upd (upd (upd (upd (upd (upd (fun _ => 0) 0 (vp_nar .char ((((48 : Int32) + (((a / 10) / 10) - ((a / 10) / 10) / 10 * 10)).toUInt32 % 65536).toInt32))) 1 (vp_nar .char ((((48 : Int32) + ((a / 10) - (a / 10) / 10 * 10)).toUInt32 % 65536).toInt32))) 2 (vp_nar .char ((((48 : Int32) + (a - a / 10 * 10)).toUInt32 % 65536).toInt32))) 3 32) 4 108) 5 100) 6 97) 7 32) 8 35)) (q_uI (q_uI q_IM 0 39 0) 0 35 9) q_J0, 34, 31630) (.inl (some (.int 0)), (q_cM (q_uA (q_uA q_AM 33 f19) 32 (upd (upd (upd (upd (upd (upd (upd (upd (upd (fun _ => 0) 0 (vp_nar .char ((((48 : Int32) + (((a / 10) / 10) - ((a / 10) / 10) / 10 * 10)).toUInt32 % 65536).toInt32))) 1 (vp_nar .char ((((48 : Int32) + ((a / 10) - (a / 10) / 10 * 10)).toUInt32 % 65536).toInt32))) 2 (vp_nar .char ((((48 : Int32) + (a - a / 10 * 10)).toUInt32 % 65536).toInt32))) 3 32) 4 108) 5 100) 6 97) 7 32) 8 35)) (q_uI (q_uI q_IM 0 39 0) 0 35 9) q_J0, 34, 31630))) : q_Ru q_TB0 8 286 (82, [(2, .int 0), (0, .ref 64), (1, .int a)], [.int 0], (q_cM (q_uA (q_uA (q_uA q_AM 33 f18) 32 (fun _ => 0)) 32 (upd (upd (upd (upd (upd (upd (upd (fun _ => 0) 0 (vp_nar .char ((((48 : Int32) + (((a / 10) / 10) - ((a / 10) / 10) / 10 * 10)).toUInt32 % 65536).toInt32))) 1 (vp_nar .char ((((48 : Int32) + ((a / 10) - (a / 10) / 10 * 10)).toUInt32 % 65536).toInt32))) 2 (vp_nar .char ((((48 : Int32) + (a - a / 10 * 10)).toUInt32 % 65536).toInt32))) 3 32) 4 108) 5 100) 6 97)) (q_uI (q_uI q_IM 0 39 0) 0 35 7) q_J0, 34, 31630)) (.inl (some (.int 10)), (q_cM (q_uA (q_uA (q_uA q_AM 33 f19) 32 (upd (upd (upd (upd (upd (upd (upd (upd (upd (fun _ => 0) 0 (vp_nar .char ((((48 : Int32) + (((a / 10) / 10) - ((a / 10) / 10) / 10 * 10)).toUInt32 % 65536).toInt32))) 1 (vp_nar .char ((((48 : Int32) + ((a / 10) - (a / 10) / 10 * 10)).toUInt32 % 65536).toInt32))) 2 (vp_nar .char ((((48 : Int32) + (a - a / 10 * 10)).toUInt32 % 65536).toInt32))) 3 32) 4 108) 5 100) 6 97) 7 32) 8 35)) 32 (upd (upd (upd (upd (upd (upd (upd (upd (upd (upd (fun _ => 0) 0 (vp_nar .char ((((48 : Int32) + (((a / 10) / 10) - ((a / 10) / 10) / 10 * 10)).toUInt32 % 65536).toInt32))) 1 (vp_nar .char ((((48 : Int32) + ((a / 10) - (a / 10) / 10 * 10)).toUInt32 % 65536).toInt32))) 2 (vp_nar .char ((((48 : Int32) + (a - a / 10 * 10)).toUInt32 % 65536).toInt32))) 3 32) 4 108) 5 100) 6 97) 7 32) 8 35) 9 48)) (q_uI (q_uI q_IM 0 39 0) 0 35 10) q_J0, 34, 31630)) := by
  refine q_Ru_seg (g2 := (91, [(2, .int 0), (0, .ref 64), (1, .int a)], [.int a, .int 0, .ref 64], (q_cM (q_uA (q_uA (q_uA q_AM 33 f18) 32 (fun _ => 0)) 32 (upd (upd (upd (upd (upd (upd (upd (fun _ => 0) 0 (vp_nar .char ((((48 : Int32) + (((a / 10) / 10) - ((a / 10) / 10) / 10 * 10)).toUInt32 % 65536).toInt32))) 1 (vp_nar .char ((((48 : Int32) + ((a / 10) - (a / 10) / 10 * 10)).toUInt32 % 65536).toInt32))) 2 (vp_nar .char ((((48 : Int32) + (a - a / 10 * 10)).toUInt32 % 65536).toInt32))) 3 32) 4 108) 5 100) 6 97)) (q_uI (q_uI q_IM 0 39 0) 0 35 7) q_J0, 34, 31630))) 6 (fun _ _ => rfl) ?_
  refine q_Ru_call (v := none) (h2 := (q_cM (q_uA (q_uA (q_uA q_AM 33 f19) 32 (upd (upd (upd (upd (upd (upd (upd (upd (upd (fun _ => 0) 0 (vp_nar .char ((((48 : Int32) + (((a / 10) / 10) - ((a / 10) / 10) / 10 * 10)).toUInt32 % 65536).toInt32))) 1 (vp_nar .char ((((48 : Int32) + ((a / 10) - (a / 10) / 10 * 10)).toUInt32 % 65536).toInt32))) 2 (vp_nar .char ((((48 : Int32) + (a - a / 10 * 10)).toUInt32 % 65536).toInt32))) 3 32) 4 108) 5 100) 6 97) 7 32) 8 35)) 32 (upd (upd (upd (upd (upd (upd (upd (upd (upd (upd (fun _ => 0) 0 (vp_nar .char ((((48 : Int32) + (((a / 10) / 10) - ((a / 10) / 10) / 10 * 10)).toUInt32 % 65536).toInt32))) 1 (vp_nar .char ((((48 : Int32) + ((a / 10) - (a / 10) / 10 * 10)).toUInt32 % 65536).toInt32))) 2 (vp_nar .char ((((48 : Int32) + (a - a / 10 * 10)).toUInt32 % 65536).toInt32))) 3 32) 4 108) 5 100) 6 97) 7 32) 8 35) 9 48)) (q_uI (q_uI q_IM 0 39 0) 0 35 10) q_J0, 34, 31630)) rfl rfl ?_ ?_
  · refine q_Ca_of (Nat.le_of_ble_eq_true rfl) ?_
    refine q_Ru_seg (g2 := (3, [(0, .ref 64), (1, .int 0), (2, .int a)], [.int 32, .ref 64], (q_cM (q_uA (q_uA (q_uA q_AM 33 f18) 32 (fun _ => 0)) 32 (upd (upd (upd (upd (upd (upd (upd (fun _ => 0) 0 (vp_nar .char ((((48 : Int32) + (((a / 10) / 10) - ((a / 10) / 10) / 10 * 10)).toUInt32 % 65536).toInt32))) 1 (vp_nar .char ((((48 : Int32) + ((a / 10) - (a / 10) / 10 * 10)).toUInt32 % 65536).toInt32))) 2 (vp_nar .char ((((48 : Int32) + (a - a / 10 * 10)).toUInt32 % 65536).toInt32))) 3 32) 4 108) 5 100) 6 97)) (q_uI (q_uI q_IM 0 39 0) 0 35 7) q_J0, 34, 31630))) 2 (fun _ _ => rfl) ?_
    refine q_Ru_call (v := none) (h2 := (q_cM (q_uA (q_uA (q_uA q_AM 33 f18) 32 (fun _ => 0)) 32 (upd (upd (upd (upd (upd (upd (upd (upd (fun _ => 0) 0 (vp_nar .char ((((48 : Int32) + (((a / 10) / 10) - ((a / 10) / 10) / 10 * 10)).toUInt32 % 65536).toInt32))) 1 (vp_nar .char ((((48 : Int32) + ((a / 10) - (a / 10) / 10 * 10)).toUInt32 % 65536).toInt32))) 2 (vp_nar .char ((((48 : Int32) + (a - a / 10 * 10)).toUInt32 % 65536).toInt32))) 3 32) 4 108) 5 100) 6 97) 7 32)) (q_uI (q_uI q_IM 0 39 0) 0 35 8) q_J0, 34, 31630)) rfl rfl ?_ ?_
    · refine q_Ca_of (Nat.le_of_ble_eq_true rfl) ?_
      refine q_Ru_seg (g2 := (8, [(0, .ref 64), (1, .int 32)], [.int 7, .ref 96], (q_cM (q_uA (q_uA (q_uA q_AM 33 f18) 32 (fun _ => 0)) 32 (upd (upd (upd (upd (upd (upd (upd (fun _ => 0) 0 (vp_nar .char ((((48 : Int32) + (((a / 10) / 10) - ((a / 10) / 10) / 10 * 10)).toUInt32 % 65536).toInt32))) 1 (vp_nar .char ((((48 : Int32) + ((a / 10) - (a / 10) / 10 * 10)).toUInt32 % 65536).toInt32))) 2 (vp_nar .char ((((48 : Int32) + (a - a / 10 * 10)).toUInt32 % 65536).toInt32))) 3 32) 4 108) 5 100) 6 97)) (q_uI (q_uI q_IM 0 39 0) 0 35 7) q_J0, 34, 31630))) 4 (fun _ _ => rfl) ?_
      refine q_Ru_seg (g2 := (15, [(0, .ref 64), (1, .int 32)], [.int 7, .ref 64], (q_cM (q_uA (q_uA (q_uA q_AM 33 f18) 32 (fun _ => 0)) 32 (upd (upd (upd (upd (upd (upd (upd (upd (fun _ => 0) 0 (vp_nar .char ((((48 : Int32) + (((a / 10) / 10) - ((a / 10) / 10) / 10 * 10)).toUInt32 % 65536).toInt32))) 1 (vp_nar .char ((((48 : Int32) + ((a / 10) - (a / 10) / 10 * 10)).toUInt32 % 65536).toInt32))) 2 (vp_nar .char ((((48 : Int32) + (a - a / 10 * 10)).toUInt32 % 65536).toInt32))) 3 32) 4 108) 5 100) 6 97) 7 32)) (q_uI (q_uI q_IM 0 39 0) 0 35 7) q_J0, 34, 31630))) 5 (fun _ _ => rfl) ?_
      refine q_Ru_seg (g2 := (20, [(0, .ref 64), (1, .int 32)], [], (q_cM (q_uA (q_uA (q_uA q_AM 33 f18) 32 (fun _ => 0)) 32 (upd (upd (upd (upd (upd (upd (upd (upd (fun _ => 0) 0 (vp_nar .char ((((48 : Int32) + (((a / 10) / 10) - ((a / 10) / 10) / 10 * 10)).toUInt32 % 65536).toInt32))) 1 (vp_nar .char ((((48 : Int32) + ((a / 10) - (a / 10) / 10 * 10)).toUInt32 % 65536).toInt32))) 2 (vp_nar .char ((((48 : Int32) + (a - a / 10 * 10)).toUInt32 % 65536).toInt32))) 3 32) 4 108) 5 100) 6 97) 7 32)) (q_uI (q_uI q_IM 0 39 0) 0 35 8) q_J0, 34, 31630))) 3 (fun _ _ => rfl) ?_
      exact q_Ru_ret rfl rfl
    show q_Ru _ _ _ (6, [(0, .ref 64), (1, .int 0), (2, .int a)], [], (q_cM (q_uA (q_uA (q_uA q_AM 33 f18) 32 (fun _ => 0)) 32 (upd (upd (upd (upd (upd (upd (upd (upd (fun _ => 0) 0 (vp_nar .char ((((48 : Int32) + (((a / 10) / 10) - ((a / 10) / 10) / 10 * 10)).toUInt32 % 65536).toInt32))) 1 (vp_nar .char ((((48 : Int32) + ((a / 10) - (a / 10) / 10 * 10)).toUInt32 % 65536).toInt32))) 2 (vp_nar .char ((((48 : Int32) + (a - a / 10 * 10)).toUInt32 % 65536).toInt32))) 3 32) 4 108) 5 100) 6 97) 7 32)) (q_uI (q_uI q_IM 0 39 0) 0 35 8) q_J0, 34, 31630)) _
    refine q_Ru_seg (g2 := (13, [(0, .ref 64), (1, .int 0), (2, .int a)], [.int 35, .ref 64], (q_cM (q_uA (q_uA (q_uA q_AM 33 f18) 32 (fun _ => 0)) 32 (upd (upd (upd (upd (upd (upd (upd (upd (fun _ => 0) 0 (vp_nar .char ((((48 : Int32) + (((a / 10) / 10) - ((a / 10) / 10) / 10 * 10)).toUInt32 % 65536).toInt32))) 1 (vp_nar .char ((((48 : Int32) + ((a / 10) - (a / 10) / 10 * 10)).toUInt32 % 65536).toInt32))) 2 (vp_nar .char ((((48 : Int32) + (a - a / 10 * 10)).toUInt32 % 65536).toInt32))) 3 32) 4 108) 5 100) 6 97) 7 32)) (q_uI (q_uI q_IM 0 39 0) 0 35 8) q_J0, 34, 31630))) 4 (fun _ _ => rfl) ?_
    refine q_Ru_call (v := none) (h2 := (q_cM (q_uA (q_uA (q_uA q_AM 33 f18) 32 (fun _ => 0)) 32 (upd (upd (upd (upd (upd (upd (upd (upd (upd (fun _ => 0) 0 (vp_nar .char ((((48 : Int32) + (((a / 10) / 10) - ((a / 10) / 10) / 10 * 10)).toUInt32 % 65536).toInt32))) 1 (vp_nar .char ((((48 : Int32) + ((a / 10) - (a / 10) / 10 * 10)).toUInt32 % 65536).toInt32))) 2 (vp_nar .char ((((48 : Int32) + (a - a / 10 * 10)).toUInt32 % 65536).toInt32))) 3 32) 4 108) 5 100) 6 97) 7 32) 8 35)) (q_uI (q_uI q_IM 0 39 0) 0 35 9) q_J0, 34, 31630)) rfl rfl ?_ ?_
    · refine q_Ca_of (Nat.le_of_ble_eq_true rfl) ?_
      refine q_Ru_seg (g2 := (8, [(0, .ref 64), (1, .int 35)], [.int 8, .ref 96], (q_cM (q_uA (q_uA (q_uA q_AM 33 f18) 32 (fun _ => 0)) 32 (upd (upd (upd (upd (upd (upd (upd (upd (fun _ => 0) 0 (vp_nar .char ((((48 : Int32) + (((a / 10) / 10) - ((a / 10) / 10) / 10 * 10)).toUInt32 % 65536).toInt32))) 1 (vp_nar .char ((((48 : Int32) + ((a / 10) - (a / 10) / 10 * 10)).toUInt32 % 65536).toInt32))) 2 (vp_nar .char ((((48 : Int32) + (a - a / 10 * 10)).toUInt32 % 65536).toInt32))) 3 32) 4 108) 5 100) 6 97) 7 32)) (q_uI (q_uI q_IM 0 39 0) 0 35 8) q_J0, 34, 31630))) 4 (fun _ _ => rfl) ?_
      refine q_Ru_seg (g2 := (15, [(0, .ref 64), (1, .int 35)], [.int 8, .ref 64], (q_cM (q_uA (q_uA (q_uA q_AM 33 f18) 32 (fun _ => 0)) 32 (upd (upd (upd (upd (upd (upd (upd (upd (upd (fun _ => 0) 0 (vp_nar .char ((((48 : Int32) + (((a / 10) / 10) - ((a / 10) / 10) / 10 * 10)).toUInt32 % 65536).toInt32))) 1 (vp_nar .char ((((48 : Int32) + ((a / 10) - (a / 10) / 10 * 10)).toUInt32 % 65536).toInt32))) 2 (vp_nar .char ((((48 : Int32) + (a - a / 10 * 10)).toUInt32 % 65536).toInt32))) 3 32) 4 108) 5 100) 6 97) 7 32) 8 35)) (q_uI (q_uI q_IM 0 39 0) 0 35 8) q_J0, 34, 31630))) 5 (fun _ _ => rfl) ?_
      refine q_Ru_seg (g2 := (20, [(0, .ref 64), (1, .int 35)], [], (q_cM (q_uA (q_uA (q_uA q_AM 33 f18) 32 (fun _ => 0)) 32 (upd (upd (upd (upd (upd (upd (upd (upd (upd (fun _ => 0) 0 (vp_nar .char ((((48 : Int32) + (((a / 10) / 10) - ((a / 10) / 10) / 10 * 10)).toUInt32 % 65536).toInt32))) 1 (vp_nar .char ((((48 : Int32) + ((a / 10) - (a / 10) / 10 * 10)).toUInt32 % 65536).toInt32))) 2 (vp_nar .char ((((48 : Int32) + (a - a / 10 * 10)).toUInt32 % 65536).toInt32))) 3 32) 4 108) 5 100) 6 97) 7 32) 8 35)) (q_uI (q_uI q_IM 0 39 0) 0 35 9) q_J0, 34, 31630))) 3 (fun _ _ => rfl) ?_
      exact q_Ru_ret rfl rfl
    show q_Ru _ _ _ (16, [(0, .ref 64), (1, .int 0), (2, .int a)], [], (q_cM (q_uA (q_uA (q_uA q_AM 33 f18) 32 (fun _ => 0)) 32 (upd (upd (upd (upd (upd (upd (upd (upd (upd (fun _ => 0) 0 (vp_nar .char ((((48 : Int32) + (((a / 10) / 10) - ((a / 10) / 10) / 10 * 10)).toUInt32 % 65536).toInt32))) 1 (vp_nar .char ((((48 : Int32) + ((a / 10) - (a / 10) / 10 * 10)).toUInt32 % 65536).toInt32))) 2 (vp_nar .char ((((48 : Int32) + (a - a / 10 * 10)).toUInt32 % 65536).toInt32))) 3 32) 4 108) 5 100) 6 97) 7 32) 8 35)) (q_uI (q_uI q_IM 0 39 0) 0 35 9) q_J0, 34, 31630)) _
    refine q_Ru_seg (g2 := (31, [(0, .ref 64), (1, .int 0), (2, .int a)], [.int 5, .int 3, .int 0, .ref 64], (q_cM (q_uA (q_uA (q_uA q_AM 33 f18) 32 (fun _ => 0)) 32 (upd (upd (upd (upd (upd (upd (upd (upd (upd (fun _ => 0) 0 (vp_nar .char ((((48 : Int32) + (((a / 10) / 10) - ((a / 10) / 10) / 10 * 10)).toUInt32 % 65536).toInt32))) 1 (vp_nar .char ((((48 : Int32) + ((a / 10) - (a / 10) / 10 * 10)).toUInt32 % 65536).toInt32))) 2 (vp_nar .char ((((48 : Int32) + (a - a / 10 * 10)).toUInt32 % 65536).toInt32))) 3 32) 4 108) 5 100) 6 97) 7 32) 8 35)) (q_uI (q_uI q_IM 0 39 0) 0 35 9) q_J0, 34, 31630))) 7 (fun _ _ => rfl) ?_
    refine q_Ru_call (v := (some (.int 0))) (h2 := (q_cM (q_uA (q_uA (q_uA q_AM 33 f18) 32 (fun _ => 0)) 32 (upd (upd (upd (upd (upd (upd (upd (upd (upd (fun _ => 0) 0 (vp_nar .char ((((48 : Int32) + (((a / 10) / 10) - ((a / 10) / 10) / 10 * 10)).toUInt32 % 65536).toInt32))) 1 (vp_nar .char ((((48 : Int32) + ((a / 10) - (a / 10) / 10 * 10)).toUInt32 % 65536).toInt32))) 2 (vp_nar .char ((((48 : Int32) + (a - a / 10 * 10)).toUInt32 % 65536).toInt32))) 3 32) 4 108) 5 100) 6 97) 7 32) 8 35)) (q_uI (q_uI q_IM 0 39 0) 0 35 9) q_J0, 34, 31630)) rfl rfl ?_ ?_
    · refine q_Ca_of (Nat.le_of_ble_eq_true rfl) ?_
      refine q_Ru_seg (g2 := (15, [(0, .int 0), (1, .int 3), (2, .int 5)], [.int 0], (q_cM (q_uA (q_uA (q_uA q_AM 33 f18) 32 (fun _ => 0)) 32 (upd (upd (upd (upd (upd (upd (upd (upd (upd (fun _ => 0) 0 (vp_nar .char ((((48 : Int32) + (((a / 10) / 10) - ((a / 10) / 10) / 10 * 10)).toUInt32 % 65536).toInt32))) 1 (vp_nar .char ((((48 : Int32) + ((a / 10) - (a / 10) / 10 * 10)).toUInt32 % 65536).toInt32))) 2 (vp_nar .char ((((48 : Int32) + (a - a / 10 * 10)).toUInt32 % 65536).toInt32))) 3 32) 4 108) 5 100) 6 97) 7 32) 8 35)) (q_uI (q_uI q_IM 0 39 0) 0 35 9) q_J0, 34, 31630))) 4 (fun _ _ => rfl) ?_
      exact q_Ru_ret rfl rfl
    show q_Ru _ _ _ (34, [(0, .ref 64), (1, .int 0), (2, .int a)], [.int 0, .ref 64], (q_cM (q_uA (q_uA (q_uA q_AM 33 f18) 32 (fun _ => 0)) 32 (upd (upd (upd (upd (upd (upd (upd (upd (upd (fun _ => 0) 0 (vp_nar .char ((((48 : Int32) + (((a / 10) / 10) - ((a / 10) / 10) / 10 * 10)).toUInt32 % 65536).toInt32))) 1 (vp_nar .char ((((48 : Int32) + ((a / 10) - (a / 10) / 10 * 10)).toUInt32 % 65536).toInt32))) 2 (vp_nar .char ((((48 : Int32) + (a - a / 10 * 10)).toUInt32 % 65536).toInt32))) 3 32) 4 108) 5 100) 6 97) 7 32) 8 35)) (q_uI (q_uI q_IM 0 39 0) 0 35 9) q_J0, 34, 31630)) _
    refine q_Ru_seg (g2 := (51, [(0, .ref 64), (1, .int 0), (2, .int a)], [.int (a + 1), .ref 64, .ref 64], (q_cM (q_uA (q_uA (q_uA q_AM 33 f18) 32 (fun _ => 0)) 32 (upd (upd (upd (upd (upd (upd (upd (upd (upd (fun _ => 0) 0 (vp_nar .char ((((48 : Int32) + (((a / 10) / 10) - ((a / 10) / 10) / 10 * 10)).toUInt32 % 65536).toInt32))) 1 (vp_nar .char ((((48 : Int32) + ((a / 10) - (a / 10) / 10 * 10)).toUInt32 % 65536).toInt32))) 2 (vp_nar .char ((((48 : Int32) + (a - a / 10 * 10)).toUInt32 % 65536).toInt32))) 3 32) 4 108) 5 100) 6 97) 7 32) 8 35)) (q_uI (q_uI q_IM 0 39 0) 0 35 9) q_J0, 34, 31630))) 5 (fun _ _ => rfl) ?_
    refine q_Ru_call (v := (some (.int 0))) (h2 := (q_cM (q_uA (q_uA q_AM 33 f19) 32 (upd (upd (upd (upd (upd (upd (upd (upd (upd (fun _ => 0) 0 (vp_nar .char ((((48 : Int32) + (((a / 10) / 10) - ((a / 10) / 10) / 10 * 10)).toUInt32 % 65536).toInt32))) 1 (vp_nar .char ((((48 : Int32) + ((a / 10) - (a / 10) / 10 * 10)).toUInt32 % 65536).toInt32))) 2 (vp_nar .char ((((48 : Int32) + (a - a / 10 * 10)).toUInt32 % 65536).toInt32))) 3 32) 4 108) 5 100) 6 97) 7 32) 8 35)) (q_uI (q_uI q_IM 0 39 0) 0 35 9) q_J0, 34, 31630)) rfl rfl ?_ ?_
    · refine q_Ca_of (Nat.le_of_ble_eq_true rfl) ?_
      refine q_Ru_seg (g2 := (2, [(0, .ref 64), (1, .int (a + 1))], [.int (a + 1), .ref 64], (q_cM (q_uA (q_uA (q_uA q_AM 33 f18) 32 (fun _ => 0)) 32 (upd (upd (upd (upd (upd (upd (upd (upd (upd (fun _ => 0) 0 (vp_nar .char ((((48 : Int32) + (((a / 10) / 10) - ((a / 10) / 10) / 10 * 10)).toUInt32 % 65536).toInt32))) 1 (vp_nar .char ((((48 : Int32) + ((a / 10) - (a / 10) / 10 * 10)).toUInt32 % 65536).toInt32))) 2 (vp_nar .char ((((48 : Int32) + (a - a / 10 * 10)).toUInt32 % 65536).toInt32))) 3 32) 4 108) 5 100) 6 97) 7 32) 8 35)) (q_uI (q_uI q_IM 0 39 0) 0 35 9) q_J0, 34, 31630))) 2 (fun _ _ => rfl) ?_
      refine q_Ru_call (v := (some (.int ((a + 1) &&& 4095)))) (h2 := (q_cM (q_uA (q_uA (q_uA q_AM 33 f18) 32 (fun _ => 0)) 32 (upd (upd (upd (upd (upd (upd (upd (upd (upd (fun _ => 0) 0 (vp_nar .char ((((48 : Int32) + (((a / 10) / 10) - ((a / 10) / 10) / 10 * 10)).toUInt32 % 65536).toInt32))) 1 (vp_nar .char ((((48 : Int32) + ((a / 10) - (a / 10) / 10 * 10)).toUInt32 % 65536).toInt32))) 2 (vp_nar .char ((((48 : Int32) + (a - a / 10 * 10)).toUInt32 % 65536).toInt32))) 3 32) 4 108) 5 100) 6 97) 7 32) 8 35)) (q_uI (q_uI q_IM 0 39 0) 0 35 9) q_J0, 34, 31630)) rfl rfl ?_ ?_
      · refine q_Ca_of (Nat.le_of_ble_eq_true rfl) ?_
        refine q_Ru_seg (g2 := (5, [(0, .int (a + 1))], [.int ((a + 1) &&& 4095)], (q_cM (q_uA (q_uA (q_uA q_AM 33 f18) 32 (fun _ => 0)) 32 (upd (upd (upd (upd (upd (upd (upd (upd (upd (fun _ => 0) 0 (vp_nar .char ((((48 : Int32) + (((a / 10) / 10) - ((a / 10) / 10) / 10 * 10)).toUInt32 % 65536).toInt32))) 1 (vp_nar .char ((((48 : Int32) + ((a / 10) - (a / 10) / 10 * 10)).toUInt32 % 65536).toInt32))) 2 (vp_nar .char ((((48 : Int32) + (a - a / 10 * 10)).toUInt32 % 65536).toInt32))) 3 32) 4 108) 5 100) 6 97) 7 32) 8 35)) (q_uI (q_uI q_IM 0 39 0) 0 35 9) q_J0, 34, 31630))) 3 (fun _ _ => rfl) ?_
        exact q_Ru_ret rfl rfl
      show q_Ru _ _ _ (5, [(0, .ref 64), (1, .int (a + 1))], [.int ((a + 1) &&& 4095), .ref 64], (q_cM (q_uA (q_uA (q_uA q_AM 33 f18) 32 (fun _ => 0)) 32 (upd (upd (upd (upd (upd (upd (upd (upd (upd (fun _ => 0) 0 (vp_nar .char ((((48 : Int32) + (((a / 10) / 10) - ((a / 10) / 10) / 10 * 10)).toUInt32 % 65536).toInt32))) 1 (vp_nar .char ((((48 : Int32) + ((a / 10) - (a / 10) / 10 * 10)).toUInt32 % 65536).toInt32))) 2 (vp_nar .char ((((48 : Int32) + (a - a / 10 * 10)).toUInt32 % 65536).toInt32))) 3 32) 4 108) 5 100) 6 97) 7 32) 8 35)) (q_uI (q_uI q_IM 0 39 0) 0 35 9) q_J0, 34, 31630)) _
      refine q_Ru_call (v := (some (.int 0))) (h2 := (q_cM (q_uA (q_uA q_AM 33 f19) 32 (upd (upd (upd (upd (upd (upd (upd (upd (upd (fun _ => 0) 0 (vp_nar .char ((((48 : Int32) + (((a / 10) / 10) - ((a / 10) / 10) / 10 * 10)).toUInt32 % 65536).toInt32))) 1 (vp_nar .char ((((48 : Int32) + ((a / 10) - (a / 10) / 10 * 10)).toUInt32 % 65536).toInt32))) 2 (vp_nar .char ((((48 : Int32) + (a - a / 10 * 10)).toUInt32 % 65536).toInt32))) 3 32) 4 108) 5 100) 6 97) 7 32) 8 35)) (q_uI (q_uI q_IM 0 39 0) 0 35 9) q_J0, 34, 31630)) rfl rfl ?_ ?_
      · exact p19.le (Nat.le_of_ble_eq_true rfl)
      show q_Ru _ _ _ (8, [(0, .ref 64), (1, .int (a + 1))], [.int 0], (q_cM (q_uA (q_uA q_AM 33 f19) 32 (upd (upd (upd (upd (upd (upd (upd (upd (upd (fun _ => 0) 0 (vp_nar .char ((((48 : Int32) + (((a / 10) / 10) - ((a / 10) / 10) / 10 * 10)).toUInt32 % 65536).toInt32))) 1 (vp_nar .char ((((48 : Int32) + ((a / 10) - (a / 10) / 10 * 10)).toUInt32 % 65536).toInt32))) 2 (vp_nar .char ((((48 : Int32) + (a - a / 10 * 10)).toUInt32 % 65536).toInt32))) 3 32) 4 108) 5 100) 6 97) 7 32) 8 35)) (q_uI (q_uI q_IM 0 39 0) 0 35 9) q_J0, 34, 31630)) _
      exact q_Ru_ret rfl rfl
    show q_Ru _ _ _ (54, [(0, .ref 64), (1, .int 0), (2, .int a)], [.int 0, .ref 64], (q_cM (q_uA (q_uA q_AM 33 f19) 32 (upd (upd (upd (upd (upd (upd (upd (upd (upd (fun _ => 0) 0 (vp_nar .char ((((48 : Int32) + (((a / 10) / 10) - ((a / 10) / 10) / 10 * 10)).toUInt32 % 65536).toInt32))) 1 (vp_nar .char ((((48 : Int32) + ((a / 10) - (a / 10) / 10 * 10)).toUInt32 % 65536).toInt32))) 2 (vp_nar .char ((((48 : Int32) + (a - a / 10 * 10)).toUInt32 % 65536).toInt32))) 3 32) 4 108) 5 100) 6 97) 7 32) 8 35)) (q_uI (q_uI q_IM 0 39 0) 0 35 9) q_J0, 34, 31630)) _
    refine q_Ru_call (v := none) (h2 := (q_cM (q_uA (q_uA (q_uA q_AM 33 f19) 32 (upd (upd (upd (upd (upd (upd (upd (upd (upd (fun _ => 0) 0 (vp_nar .char ((((48 : Int32) + (((a / 10) / 10) - ((a / 10) / 10) / 10 * 10)).toUInt32 % 65536).toInt32))) 1 (vp_nar .char ((((48 : Int32) + ((a / 10) - (a / 10) / 10 * 10)).toUInt32 % 65536).toInt32))) 2 (vp_nar .char ((((48 : Int32) + (a - a / 10 * 10)).toUInt32 % 65536).toInt32))) 3 32) 4 108) 5 100) 6 97) 7 32) 8 35)) 32 (upd (upd (upd (upd (upd (upd (upd (upd (upd (upd (fun _ => 0) 0 (vp_nar .char ((((48 : Int32) + (((a / 10) / 10) - ((a / 10) / 10) / 10 * 10)).toUInt32 % 65536).toInt32))) 1 (vp_nar .char ((((48 : Int32) + ((a / 10) - (a / 10) / 10 * 10)).toUInt32 % 65536).toInt32))) 2 (vp_nar .char ((((48 : Int32) + (a - a / 10 * 10)).toUInt32 % 65536).toInt32))) 3 32) 4 108) 5 100) 6 97) 7 32) 8 35) 9 48)) (q_uI (q_uI q_IM 0 39 0) 0 35 10) q_J0, 34, 31630)) rfl rfl ?_ ?_
    · refine q_Ca_of (Nat.le_of_ble_eq_true rfl) ?_
      refine q_Ru_seg (g2 := (23, [(0, .ref 64), (1, .int 0)], [.int 48, .ref 64], (q_cM (q_uA (q_uA q_AM 33 f19) 32 (upd (upd (upd (upd (upd (upd (upd (upd (upd (fun _ => 0) 0 (vp_nar .char ((((48 : Int32) + (((a / 10) / 10) - ((a / 10) / 10) / 10 * 10)).toUInt32 % 65536).toInt32))) 1 (vp_nar .char ((((48 : Int32) + ((a / 10) - (a / 10) / 10 * 10)).toUInt32 % 65536).toInt32))) 2 (vp_nar .char ((((48 : Int32) + (a - a / 10 * 10)).toUInt32 % 65536).toInt32))) 3 32) 4 108) 5 100) 6 97) 7 32) 8 35)) (q_uI (q_uI q_IM 0 39 0) 0 35 9) q_J0, 34, 31630))) 10 (fun _ _ => rfl) ?_
      refine q_Ru_call (v := none) (h2 := (q_cM (q_uA (q_uA (q_uA q_AM 33 f19) 32 (upd (upd (upd (upd (upd (upd (upd (upd (upd (fun _ => 0) 0 (vp_nar .char ((((48 : Int32) + (((a / 10) / 10) - ((a / 10) / 10) / 10 * 10)).toUInt32 % 65536).toInt32))) 1 (vp_nar .char ((((48 : Int32) + ((a / 10) - (a / 10) / 10 * 10)).toUInt32 % 65536).toInt32))) 2 (vp_nar .char ((((48 : Int32) + (a - a / 10 * 10)).toUInt32 % 65536).toInt32))) 3 32) 4 108) 5 100) 6 97) 7 32) 8 35)) 32 (upd (upd (upd (upd (upd (upd (upd (upd (upd (upd (fun _ => 0) 0 (vp_nar .char ((((48 : Int32) + (((a / 10) / 10) - ((a / 10) / 10) / 10 * 10)).toUInt32 % 65536).toInt32))) 1 (vp_nar .char ((((48 : Int32) + ((a / 10) - (a / 10) / 10 * 10)).toUInt32 % 65536).toInt32))) 2 (vp_nar .char ((((48 : Int32) + (a - a / 10 * 10)).toUInt32 % 65536).toInt32))) 3 32) 4 108) 5 100) 6 97) 7 32) 8 35) 9 48)) (q_uI (q_uI q_IM 0 39 0) 0 35 10) q_J0, 34, 31630)) rfl rfl ?_ ?_
      · refine q_Ca_of (Nat.le_of_ble_eq_true rfl) ?_
        refine q_Ru_seg (g2 := (8, [(0, .ref 64), (1, .int 48)], [.int 9, .ref 96], (q_cM (q_uA (q_uA q_AM 33 f19) 32 (upd (upd (upd (upd (upd (upd (upd (upd (upd (fun _ => 0) 0 (vp_nar .char ((((48 : Int32) + (((a / 10) / 10) - ((a / 10) / 10) / 10 * 10)).toUInt32 % 65536).toInt32))) 1 (vp_nar .char ((((48 : Int32) + ((a / 10) - (a / 10) / 10 * 10)).toUInt32 % 65536).toInt32))) 2 (vp_nar .char ((((48 : Int32) + (a - a / 10 * 10)).toUInt32 % 65536).toInt32))) 3 32) 4 108) 5 100) 6 97) 7 32) 8 35)) (q_uI (q_uI q_IM 0 39 0) 0 35 9) q_J0, 34, 31630))) 4 (fun _ _ => rfl) ?_
        refine q_Ru_seg (g2 := (15, [(0, .ref 64), (1, .int 48)], [.int 9, .ref 64], (q_cM (q_uA (q_uA (q_uA q_AM 33 f19) 32 (upd (upd (upd (upd (upd (upd (upd (upd (upd (fun _ => 0) 0 (vp_nar .char ((((48 : Int32) + (((a / 10) / 10) - ((a / 10) / 10) / 10 * 10)).toUInt32 % 65536).toInt32))) 1 (vp_nar .char ((((48 : Int32) + ((a / 10) - (a / 10) / 10 * 10)).toUInt32 % 65536).toInt32))) 2 (vp_nar .char ((((48 : Int32) + (a - a / 10 * 10)).toUInt32 % 65536).toInt32))) 3 32) 4 108) 5 100) 6 97) 7 32) 8 35)) 32 (upd (upd (upd (upd (upd (upd (upd (upd (upd (upd (fun _ => 0) 0 (vp_nar .char ((((48 : Int32) + (((a / 10) / 10) - ((a / 10) / 10) / 10 * 10)).toUInt32 % 65536).toInt32))) 1 (vp_nar .char ((((48 : Int32) + ((a / 10) - (a / 10) / 10 * 10)).toUInt32 % 65536).toInt32))) 2 (vp_nar .char ((((48 : Int32) + (a - a / 10 * 10)).toUInt32 % 65536).toInt32))) 3 32) 4 108) 5 100) 6 97) 7 32) 8 35) 9 48)) (q_uI (q_uI q_IM 0 39 0) 0 35 9) q_J0, 34, 31630))) 5 (fun _ _ => rfl) ?_
        refine q_Ru_seg (g2 := (20, [(0, .ref 64), (1, .int 48)], [], (q_cM (q_uA (q_uA (q_uA q_AM 33 f19) 32 (upd (upd (upd (upd (upd (upd (upd (upd (upd (fun _ => 0) 0 (vp_nar .char ((((48 : Int32) + (((a / 10) / 10) - ((a / 10) / 10) / 10 * 10)).toUInt32 % 65536).toInt32))) 1 (vp_nar .char ((((48 : Int32) + ((a / 10) - (a / 10) / 10 * 10)).toUInt32 % 65536).toInt32))) 2 (vp_nar .char ((((48 : Int32) + (a - a / 10 * 10)).toUInt32 % 65536).toInt32))) 3 32) 4 108) 5 100) 6 97) 7 32) 8 35)) 32 (upd (upd (upd (upd (upd (upd (upd (upd (upd (upd (fun _ => 0) 0 (vp_nar .char ((((48 : Int32) + (((a / 10) / 10) - ((a / 10) / 10) / 10 * 10)).toUInt32 % 65536).toInt32))) 1 (vp_nar .char ((((48 : Int32) + ((a / 10) - (a / 10) / 10 * 10)).toUInt32 % 65536).toInt32))) 2 (vp_nar .char ((((48 : Int32) + (a - a / 10 * 10)).toUInt32 % 65536).toInt32))) 3 32) 4 108) 5 100) 6 97) 7 32) 8 35) 9 48)) (q_uI (q_uI q_IM 0 39 0) 0 35 10) q_J0, 34, 31630))) 3 (fun _ _ => rfl) ?_
        exact q_Ru_ret rfl rfl
      show q_Ru _ _ _ (26, [(0, .ref 64), (1, .int 0)], [], (q_cM (q_uA (q_uA (q_uA q_AM 33 f19) 32 (upd (upd (upd (upd (upd (upd (upd (upd (upd (fun _ => 0) 0 (vp_nar .char ((((48 : Int32) + (((a / 10) / 10) - ((a / 10) / 10) / 10 * 10)).toUInt32 % 65536).toInt32))) 1 (vp_nar .char ((((48 : Int32) + ((a / 10) - (a / 10) / 10 * 10)).toUInt32 % 65536).toInt32))) 2 (vp_nar .char ((((48 : Int32) + (a - a / 10 * 10)).toUInt32 % 65536).toInt32))) 3 32) 4 108) 5 100) 6 97) 7 32) 8 35)) 32 (upd (upd (upd (upd (upd (upd (upd (upd (upd (upd (fun _ => 0) 0 (vp_nar .char ((((48 : Int32) + (((a / 10) / 10) - ((a / 10) / 10) / 10 * 10)).toUInt32 % 65536).toInt32))) 1 (vp_nar .char ((((48 : Int32) + ((a / 10) - (a / 10) / 10 * 10)).toUInt32 % 65536).toInt32))) 2 (vp_nar .char ((((48 : Int32) + (a - a / 10 * 10)).toUInt32 % 65536).toInt32))) 3 32) 4 108) 5 100) 6 97) 7 32) 8 35) 9 48)) (q_uI (q_uI q_IM 0 39 0) 0 35 10) q_J0, 34, 31630)) _
      exact q_Ru_ret rfl rfl
    show q_Ru _ _ _ (57, [(0, .ref 64), (1, .int 0), (2, .int a)], [], (q_cM (q_uA (q_uA (q_uA q_AM 33 f19) 32 (upd (upd (upd (upd (upd (upd (upd (upd (upd (fun _ => 0) 0 (vp_nar .char ((((48 : Int32) + (((a / 10) / 10) - ((a / 10) / 10) / 10 * 10)).toUInt32 % 65536).toInt32))) 1 (vp_nar .char ((((48 : Int32) + ((a / 10) - (a / 10) / 10 * 10)).toUInt32 % 65536).toInt32))) 2 (vp_nar .char ((((48 : Int32) + (a - a / 10 * 10)).toUInt32 % 65536).toInt32))) 3 32) 4 108) 5 100) 6 97) 7 32) 8 35)) 32 (upd (upd (upd (upd (upd (upd (upd (upd (upd (upd (fun _ => 0) 0 (vp_nar .char ((((48 : Int32) + (((a / 10) / 10) - ((a / 10) / 10) / 10 * 10)).toUInt32 % 65536).toInt32))) 1 (vp_nar .char ((((48 : Int32) + ((a / 10) - (a / 10) / 10 * 10)).toUInt32 % 65536).toInt32))) 2 (vp_nar .char ((((48 : Int32) + (a - a / 10 * 10)).toUInt32 % 65536).toInt32))) 3 32) 4 108) 5 100) 6 97) 7 32) 8 35) 9 48)) (q_uI (q_uI q_IM 0 39 0) 0 35 10) q_J0, 34, 31630)) _
    refine q_Ru_seg (g2 := (136, [(0, .ref 64), (1, .int 0), (2, .int a)], [], (q_cM (q_uA (q_uA (q_uA q_AM 33 f19) 32 (upd (upd (upd (upd (upd (upd (upd (upd (upd (fun _ => 0) 0 (vp_nar .char ((((48 : Int32) + (((a / 10) / 10) - ((a / 10) / 10) / 10 * 10)).toUInt32 % 65536).toInt32))) 1 (vp_nar .char ((((48 : Int32) + ((a / 10) - (a / 10) / 10 * 10)).toUInt32 % 65536).toInt32))) 2 (vp_nar .char ((((48 : Int32) + (a - a / 10 * 10)).toUInt32 % 65536).toInt32))) 3 32) 4 108) 5 100) 6 97) 7 32) 8 35)) 32 (upd (upd (upd (upd (upd (upd (upd (upd (upd (upd (fun _ => 0) 0 (vp_nar .char ((((48 : Int32) + (((a / 10) / 10) - ((a / 10) / 10) / 10 * 10)).toUInt32 % 65536).toInt32))) 1 (vp_nar .char ((((48 : Int32) + ((a / 10) - (a / 10) / 10 * 10)).toUInt32 % 65536).toInt32))) 2 (vp_nar .char ((((48 : Int32) + (a - a / 10 * 10)).toUInt32 % 65536).toInt32))) 3 32) 4 108) 5 100) 6 97) 7 32) 8 35) 9 48)) (q_uI (q_uI q_IM 0 39 0) 0 35 10) q_J0, 34, 31630))) 27 (fun _ _ => rfl) ?_
    exact q_Ru_ret rfl rfl
  show q_Ru _ _ _ (94, [(2, .int 0), (0, .ref 64), (1, .int a)], [], (q_cM (q_uA (q_uA (q_uA q_AM 33 f19) 32 (upd (upd (upd (upd (upd (upd (upd (upd (upd (fun _ => 0) 0 (vp_nar .char ((((48 : Int32) + (((a / 10) / 10) - ((a / 10) / 10) / 10 * 10)).toUInt32 % 65536).toInt32))) 1 (vp_nar .char ((((48 : Int32) + ((a / 10) - (a / 10) / 10 * 10)).toUInt32 % 65536).toInt32))) 2 (vp_nar .char ((((48 : Int32) + (a - a / 10 * 10)).toUInt32 % 65536).toInt32))) 3 32) 4 108) 5 100) 6 97) 7 32) 8 35)) 32 (upd (upd (upd (upd (upd (upd (upd (upd (upd (upd (fun _ => 0) 0 (vp_nar .char ((((48 : Int32) + (((a / 10) / 10) - ((a / 10) / 10) / 10 * 10)).toUInt32 % 65536).toInt32))) 1 (vp_nar .char ((((48 : Int32) + ((a / 10) - (a / 10) / 10 * 10)).toUInt32 % 65536).toInt32))) 2 (vp_nar .char ((((48 : Int32) + (a - a / 10 * 10)).toUInt32 % 65536).toInt32))) 3 32) 4 108) 5 100) 6 97) 7 32) 8 35) 9 48)) (q_uI (q_uI q_IM 0 39 0) 0 35 10) q_J0, 34, 31630)) _
  refine q_Ru_seg (g2 := (107, [(2, .int 0), (0, .ref 64), (1, .int a)], [.int 10], (q_cM (q_uA (q_uA (q_uA q_AM 33 f19) 32 (upd (upd (upd (upd (upd (upd (upd (upd (upd (fun _ => 0) 0 (vp_nar .char ((((48 : Int32) + (((a / 10) / 10) - ((a / 10) / 10) / 10 * 10)).toUInt32 % 65536).toInt32))) 1 (vp_nar .char ((((48 : Int32) + ((a / 10) - (a / 10) / 10 * 10)).toUInt32 % 65536).toInt32))) 2 (vp_nar .char ((((48 : Int32) + (a - a / 10 * 10)).toUInt32 % 65536).toInt32))) 3 32) 4 108) 5 100) 6 97) 7 32) 8 35)) 32 (upd (upd (upd (upd (upd (upd (upd (upd (upd (upd (fun _ => 0) 0 (vp_nar .char ((((48 : Int32) + (((a / 10) / 10) - ((a / 10) / 10) / 10 * 10)).toUInt32 % 65536).toInt32))) 1 (vp_nar .char ((((48 : Int32) + ((a / 10) - (a / 10) / 10 * 10)).toUInt32 % 65536).toInt32))) 2 (vp_nar .char ((((48 : Int32) + (a - a / 10 * 10)).toUInt32 % 65536).toInt32))) 3 32) 4 108) 5 100) 6 97) 7 32) 8 35) 9 48)) (q_uI (q_uI q_IM 0 39 0) 0 35 10) q_J0, 34, 31630))) 3 (fun _ _ => rfl) ?_
  exact q_Ru_ret rfl rfl
set_option maxHeartbeats 20000000 in
theorem q_xc108 (L : Nat) (xs : Nat → Int32) (a : Int32) (hl_a : 100 ≤ a.toInt) (hu_a : a.toInt ≤ 999) (f18 : Nat → Int32) (f19 : Nat → Int32) (p19 : q_Ca q_TB0 4 214 [.ref 64, .int ((a + 1) &&& 4095)] (q_cM (q_uA (q_uA q_AM 33 f18) 32 (upd (upd (upd (upd (upd (upd (upd (upd (upd (fun _ => 0) 0 (vp_nar .char ((((48 : Int32) + (((a / 10) / 10) - ((a / 10) / 10) / 10 * 10)).toUInt32 % 65536).toInt32))) 1 (vp_nar .char ((((48 : Int32) + ((a / 10) - (a / 10) / 10 * 10)).toUInt32 % 65536).toInt32))) 2 (vp_nar .char ((((48 : Int32) + (a - a / 10 * 10)).toUInt32 % 65536).toInt32))) 3 32) 4 108) 5 100) 6 97) 7 32) 8 35)) (q_uI (q_uI q_IM 0 39 0) 0 35 9) q_J0, 34, 31630) (.inl (some (.int 0)), (q_cM (q_uA (q_uA q_AM 33 f19) 32 (upd (upd (upd (upd (upd (upd (upd (upd (upd (fun _ => 0) 0 (vp_nar .char ((((48 : Int32) + (((a / 10) / 10) - ((a / 10) / 10) / 10 * 10)).toUInt32 % 65536).toInt32))) 1 (vp_nar .char ((((48 : Int32) + ((a / 10) - (a / 10) / 10 * 10)).toUInt32 % 65536).toInt32))) 2 (vp_nar .char ((((48 : Int32) + (a - a / 10 * 10)).toUInt32 % 65536).toInt32))) 3 32) 4 108) 5 100) 6 97) 7 32) 8 35)) (q_uI (q_uI q_IM 0 39 0) 0 35 9) q_J0, 34, 31630))) : q_Ru q_TB0 8 286 (47, [(2, .int 0), (0, .ref 64), (1, .int a)], [.int 0], (q_cM (q_uA (q_uA (q_uA q_AM 33 f18) 32 (fun _ => 0)) 32 (upd (upd (upd (upd (fun _ => 0) 0 (vp_nar .char ((((48 : Int32) + (((a / 10) / 10) - ((a / 10) / 10) / 10 * 10)).toUInt32 % 65536).toInt32))) 1 (vp_nar .char ((((48 : Int32) + ((a / 10) - (a / 10) / 10 * 10)).toUInt32 % 65536).toInt32))) 2 (vp_nar .char ((((48 : Int32) + (a - a / 10 * 10)).toUInt32 % 65536).toInt32))) 3 32)) (q_uI (q_uI q_IM 0 39 0) 0 35 4) q_J0, 34, 31630)) (.inl (some (.int 10)), (q_cM (q_uA (q_uA (q_uA q_AM 33 f19) 32 (upd (upd (upd (upd (upd (upd (upd (upd (upd (fun _ => 0) 0 (vp_nar .char ((((48 : Int32) + (((a / 10) / 10) - ((a / 10) / 10) / 10 * 10)).toUInt32 % 65536).toInt32))) 1 (vp_nar .char ((((48 : Int32) + ((a / 10) - (a / 10) / 10 * 10)).toUInt32 % 65536).toInt32))) 2 (vp_nar .char ((((48 : Int32) + (a - a / 10 * 10)).toUInt32 % 65536).toInt32))) 3 32) 4 108) 5 100) 6 97) 7 32) 8 35)) 32 (upd (upd (upd (upd (upd (upd (upd (upd (upd (upd (fun _ => 0) 0 (vp_nar .char ((((48 : Int32) + (((a / 10) / 10) - ((a / 10) / 10) / 10 * 10)).toUInt32 % 65536).toInt32))) 1 (vp_nar .char ((((48 : Int32) + ((a / 10) - (a / 10) / 10 * 10)).toUInt32 % 65536).toInt32))) 2 (vp_nar .char ((((48 : Int32) + (a - a / 10 * 10)).toUInt32 % 65536).toInt32))) 3 32) 4 108) 5 100) 6 97) 7 32) 8 35) 9 48)) (q_uI (q_uI q_IM 0 39 0) 0 35 10) q_J0, 34, 31630)) := by
  refine q_Ru_seg (g2 := (75, [(2, .int 0), (0, .ref 64), (1, .int a)], [.int 0, .ref 64], (q_cM (q_uA (q_uA (q_uA q_AM 33 f18) 32 (fun _ => 0)) 32 (upd (upd (upd (upd (fun _ => 0) 0 (vp_nar .char ((((48 : Int32) + (((a / 10) / 10) - ((a / 10) / 10) / 10 * 10)).toUInt32 % 65536).toInt32))) 1 (vp_nar .char ((((48 : Int32) + ((a / 10) - (a / 10) / 10 * 10)).toUInt32 % 65536).toInt32))) 2 (vp_nar .char ((((48 : Int32) + (a - a / 10 * 10)).toUInt32 % 65536).toInt32))) 3 32)) (q_uI (q_uI q_IM 0 39 0) 0 35 4) q_J0, 34, 31630))) 3 (fun _ _ => rfl) ?_
  refine q_Ru_call (v := none) (h2 := (q_cM (q_uA (q_uA (q_uA q_AM 33 f18) 32 (fun _ => 0)) 32 (upd (upd (upd (upd (upd (upd (upd (fun _ => 0) 0 (vp_nar .char ((((48 : Int32) + (((a / 10) / 10) - ((a / 10) / 10) / 10 * 10)).toUInt32 % 65536).toInt32))) 1 (vp_nar .char ((((48 : Int32) + ((a / 10) - (a / 10) / 10 * 10)).toUInt32 % 65536).toInt32))) 2 (vp_nar .char ((((48 : Int32) + (a - a / 10 * 10)).toUInt32 % 65536).toInt32))) 3 32) 4 108) 5 100) 6 97)) (q_uI (q_uI q_IM 0 39 0) 0 35 7) q_J0, 34, 31630)) rfl rfl ?_ ?_
  · refine q_Ca_of (Nat.le_of_ble_eq_true rfl) ?_
    refine q_Ru_seg (g2 := (1, [(0, .ref 64), (1, .int 0)], [.int 0], (q_cM (q_uA (q_uA (q_uA q_AM 33 f18) 32 (fun _ => 0)) 32 (upd (upd (upd (upd (fun _ => 0) 0 (vp_nar .char ((((48 : Int32) + (((a / 10) / 10) - ((a / 10) / 10) / 10 * 10)).toUInt32 % 65536).toInt32))) 1 (vp_nar .char ((((48 : Int32) + ((a / 10) - (a / 10) / 10 * 10)).toUInt32 % 65536).toInt32))) 2 (vp_nar .char ((((48 : Int32) + (a - a / 10 * 10)).toUInt32 % 65536).toInt32))) 3 32)) (q_uI (q_uI q_IM 0 39 0) 0 35 4) q_J0, 34, 31630))) 1 (fun _ _ => rfl) ?_
    refine q_Ru_call (v := (some (.int 0))) (h2 := (q_cM (q_uA (q_uA (q_uA q_AM 33 f18) 32 (fun _ => 0)) 32 (upd (upd (upd (upd (fun _ => 0) 0 (vp_nar .char ((((48 : Int32) + (((a / 10) / 10) - ((a / 10) / 10) / 10 * 10)).toUInt32 % 65536).toInt32))) 1 (vp_nar .char ((((48 : Int32) + ((a / 10) - (a / 10) / 10 * 10)).toUInt32 % 65536).toInt32))) 2 (vp_nar .char ((((48 : Int32) + (a - a / 10 * 10)).toUInt32 % 65536).toInt32))) 3 32)) (q_uI (q_uI q_IM 0 39 0) 0 35 4) q_J0, 34, 31630)) rfl rfl ?_ ?_
    · refine q_Ca_of (Nat.le_of_ble_eq_true rfl) ?_
      refine q_Ru_seg (g2 := (42, [(0, .int 0)], [.int 0], (q_cM (q_uA (q_uA (q_uA q_AM 33 f18) 32 (fun _ => 0)) 32 (upd (upd (upd (upd (fun _ => 0) 0 (vp_nar .char ((((48 : Int32) + (((a / 10) / 10) - ((a / 10) / 10) / 10 * 10)).toUInt32 % 65536).toInt32))) 1 (vp_nar .char ((((48 : Int32) + ((a / 10) - (a / 10) / 10 * 10)).toUInt32 % 65536).toInt32))) 2 (vp_nar .char ((((48 : Int32) + (a - a / 10 * 10)).toUInt32 % 65536).toInt32))) 3 32)) (q_uI (q_uI q_IM 0 39 0) 0 35 4) q_J0, 34, 31630))) 7 (fun _ _ => rfl) ?_
      exact q_Ru_ret rfl rfl
    show q_Ru _ _ _ (4, [(0, .ref 64), (1, .int 0)], [.int 0], (q_cM (q_uA (q_uA (q_uA q_AM 33 f18) 32 (fun _ => 0)) 32 (upd (upd (upd (upd (fun _ => 0) 0 (vp_nar .char ((((48 : Int32) + (((a / 10) / 10) - ((a / 10) / 10) / 10 * 10)).toUInt32 % 65536).toInt32))) 1 (vp_nar .char ((((48 : Int32) + ((a / 10) - (a / 10) / 10 * 10)).toUInt32 % 65536).toInt32))) 2 (vp_nar .char ((((48 : Int32) + (a - a / 10 * 10)).toUInt32 % 65536).toInt32))) 3 32)) (q_uI (q_uI q_IM 0 39 0) 0 35 4) q_J0, 34, 31630)) _
    refine q_Ru_seg (g2 := (26, [(3, .int 0), (2, .int 0), (0, .ref 64), (1, .int 0)], [.int 108, .ref 64], (q_cM (q_uA (q_uA (q_uA q_AM 33 f18) 32 (fun _ => 0)) 32 (upd (upd (upd (upd (fun _ => 0) 0 (vp_nar .char ((((48 : Int32) + (((a / 10) / 10) - ((a / 10) / 10) / 10 * 10)).toUInt32 % 65536).toInt32))) 1 (vp_nar .char ((((48 : Int32) + ((a / 10) - (a / 10) / 10 * 10)).toUInt32 % 65536).toInt32))) 2 (vp_nar .char ((((48 : Int32) + (a - a / 10 * 10)).toUInt32 % 65536).toInt32))) 3 32)) (q_uI (q_uI q_IM 0 39 0) 0 35 4) q_J0, 34, 31630))) 16 (fun _ _ => rfl) ?_
    refine q_Ru_seg (g2 := (42, [(3, .int 0), (2, .int 0), (0, .ref 64), (1, .int 0)], [.int 108, .ref 64], (q_cM (q_uA (q_uA (q_uA q_AM 33 f18) 32 (fun _ => 0)) 32 (upd (upd (upd (upd (fun _ => 0) 0 (vp_nar .char ((((48 : Int32) + (((a / 10) / 10) - ((a / 10) / 10) / 10 * 10)).toUInt32 % 65536).toInt32))) 1 (vp_nar .char ((((48 : Int32) + ((a / 10) - (a / 10) / 10 * 10)).toUInt32 % 65536).toInt32))) 2 (vp_nar .char ((((48 : Int32) + (a - a / 10 * 10)).toUInt32 % 65536).toInt32))) 3 32)) (q_uI (q_uI q_IM 0 39 0) 0 35 4) q_J0, 34, 31630))) 1 (fun _ _ => rfl) ?_
    refine q_Ru_call (v := none) (h2 := (q_cM (q_uA (q_uA (q_uA q_AM 33 f18) 32 (fun _ => 0)) 32 (upd (upd (upd (upd (upd (fun _ => 0) 0 (vp_nar .char ((((48 : Int32) + (((a / 10) / 10) - ((a / 10) / 10) / 10 * 10)).toUInt32 % 65536).toInt32))) 1 (vp_nar .char ((((48 : Int32) + ((a / 10) - (a / 10) / 10 * 10)).toUInt32 % 65536).toInt32))) 2 (vp_nar .char ((((48 : Int32) + (a - a / 10 * 10)).toUInt32 % 65536).toInt32))) 3 32) 4 108)) (q_uI (q_uI q_IM 0 39 0) 0 35 5) q_J0, 34, 31630)) rfl rfl ?_ ?_
    · refine q_Ca_of (Nat.le_of_ble_eq_true rfl) ?_
      refine q_Ru_seg (g2 := (8, [(0, .ref 64), (1, .int 108)], [.int 4, .ref 96], (q_cM (q_uA (q_uA (q_uA q_AM 33 f18) 32 (fun _ => 0)) 32 (upd (upd (upd (upd (fun _ => 0) 0 (vp_nar .char ((((48 : Int32) + (((a / 10) / 10) - ((a / 10) / 10) / 10 * 10)).toUInt32 % 65536).toInt32))) 1 (vp_nar .char ((((48 : Int32) + ((a / 10) - (a / 10) / 10 * 10)).toUInt32 % 65536).toInt32))) 2 (vp_nar .char ((((48 : Int32) + (a - a / 10 * 10)).toUInt32 % 65536).toInt32))) 3 32)) (q_uI (q_uI q_IM 0 39 0) 0 35 4) q_J0, 34, 31630))) 4 (fun _ _ => rfl) ?_
      refine q_Ru_seg (g2 := (15, [(0, .ref 64), (1, .int 108)], [.int 4, .ref 64], (q_cM (q_uA (q_uA (q_uA q_AM 33 f18) 32 (fun _ => 0)) 32 (upd (upd (upd (upd (upd (fun _ => 0) 0 (vp_nar .char ((((48 : Int32) + (((a / 10) / 10) - ((a / 10) / 10) / 10 * 10)).toUInt32 % 65536).toInt32))) 1 (vp_nar .char ((((48 : Int32) + ((a / 10) - (a / 10) / 10 * 10)).toUInt32 % 65536).toInt32))) 2 (vp_nar .char ((((48 : Int32) + (a - a / 10 * 10)).toUInt32 % 65536).toInt32))) 3 32) 4 108)) (q_uI (q_uI q_IM 0 39 0) 0 35 4) q_J0, 34, 31630))) 5 (fun _ _ => rfl) ?_
      refine q_Ru_seg (g2 := (20, [(0, .ref 64), (1, .int 108)], [], (q_cM (q_uA (q_uA (q_uA q_AM 33 f18) 32 (fun _ => 0)) 32 (upd (upd (upd (upd (upd (fun _ => 0) 0 (vp_nar .char ((((48 : Int32) + (((a / 10) / 10) - ((a / 10) / 10) / 10 * 10)).toUInt32 % 65536).toInt32))) 1 (vp_nar .char ((((48 : Int32) + ((a / 10) - (a / 10) / 10 * 10)).toUInt32 % 65536).toInt32))) 2 (vp_nar .char ((((48 : Int32) + (a - a / 10 * 10)).toUInt32 % 65536).toInt32))) 3 32) 4 108)) (q_uI (q_uI q_IM 0 39 0) 0 35 5) q_J0, 34, 31630))) 3 (fun _ _ => rfl) ?_
      exact q_Ru_ret rfl rfl
    show q_Ru _ _ _ (45, [(3, .int 0), (2, .int 0), (0, .ref 64), (1, .int 0)], [], (q_cM (q_uA (q_uA (q_uA q_AM 33 f18) 32 (fun _ => 0)) 32 (upd (upd (upd (upd (upd (fun _ => 0) 0 (vp_nar .char ((((48 : Int32) + (((a / 10) / 10) - ((a / 10) / 10) / 10 * 10)).toUInt32 % 65536).toInt32))) 1 (vp_nar .char ((((48 : Int32) + ((a / 10) - (a / 10) / 10 * 10)).toUInt32 % 65536).toInt32))) 2 (vp_nar .char ((((48 : Int32) + (a - a / 10 * 10)).toUInt32 % 65536).toInt32))) 3 32) 4 108)) (q_uI (q_uI q_IM 0 39 0) 0 35 5) q_J0, 34, 31630)) _
    refine q_Ru_seg (g2 := (26, [(3, .int 1), (2, .int 0), (0, .ref 64), (1, .int 0)], [.int 100, .ref 64], (q_cM (q_uA (q_uA (q_uA q_AM 33 f18) 32 (fun _ => 0)) 32 (upd (upd (upd (upd (upd (fun _ => 0) 0 (vp_nar .char ((((48 : Int32) + (((a / 10) / 10) - ((a / 10) / 10) / 10 * 10)).toUInt32 % 65536).toInt32))) 1 (vp_nar .char ((((48 : Int32) + ((a / 10) - (a / 10) / 10 * 10)).toUInt32 % 65536).toInt32))) 2 (vp_nar .char ((((48 : Int32) + (a - a / 10 * 10)).toUInt32 % 65536).toInt32))) 3 32) 4 108)) (q_uI (q_uI q_IM 0 39 0) 0 35 5) q_J0, 34, 31630))) 15 (fun _ _ => rfl) ?_
    refine q_Ru_seg (g2 := (42, [(3, .int 1), (2, .int 0), (0, .ref 64), (1, .int 0)], [.int 100, .ref 64], (q_cM (q_uA (q_uA (q_uA q_AM 33 f18) 32 (fun _ => 0)) 32 (upd (upd (upd (upd (upd (fun _ => 0) 0 (vp_nar .char ((((48 : Int32) + (((a / 10) / 10) - ((a / 10) / 10) / 10 * 10)).toUInt32 % 65536).toInt32))) 1 (vp_nar .char ((((48 : Int32) + ((a / 10) - (a / 10) / 10 * 10)).toUInt32 % 65536).toInt32))) 2 (vp_nar .char ((((48 : Int32) + (a - a / 10 * 10)).toUInt32 % 65536).toInt32))) 3 32) 4 108)) (q_uI (q_uI q_IM 0 39 0) 0 35 5) q_J0, 34, 31630))) 1 (fun _ _ => rfl) ?_
    refine q_Ru_call (v := none) (h2 := (q_cM (q_uA (q_uA (q_uA q_AM 33 f18) 32 (fun _ => 0)) 32 (upd (upd (upd (upd (upd (upd (fun _ => 0) 0 (vp_nar .char ((((48 : Int32) + (((a / 10) / 10) - ((a / 10) / 10) / 10 * 10)).toUInt32 % 65536).toInt32))) 1 (vp_nar .char ((((48 : Int32) + ((a / 10) - (a / 10) / 10 * 10)).toUInt32 % 65536).toInt32))) 2 (vp_nar .char ((((48 : Int32) + (a - a / 10 * 10)).toUInt32 % 65536).toInt32))) 3 32) 4 108) 5 100)) (q_uI (q_uI q_IM 0 39 0) 0 35 6) q_J0, 34, 31630)) rfl rfl ?_ ?_
    · refine q_Ca_of (Nat.le_of_ble_eq_true rfl) ?_
      refine q_Ru_seg (g2 := (8, [(0, .ref 64), (1, .int 100)], [.int 5, .ref 96], (q_cM (q_uA (q_uA (q_uA q_AM 33 f18) 32 (fun _ => 0)) 32 (upd (upd (upd (upd (upd (fun _ => 0) 0 (vp_nar .char ((((48 : Int32) + (((a / 10) / 10) - ((a / 10) / 10) / 10 * 10)).toUInt32 % 65536).toInt32))) 1 (vp_nar .char ((((48 : Int32) + ((a / 10) - (a / 10) / 10 * 10)).toUInt32 % 65536).toInt32))) 2 (vp_nar .char ((((48 : Int32) + (a - a / 10 * 10)).toUInt32 % 65536).toInt32))) 3 32) 4 108)) (q_uI (q_uI q_IM 0 39 0) 0 35 5) q_J0, 34, 31630))) 4 (fun _ _ => rfl) ?_
      refine q_Ru_seg (g2 := (15, [(0, .ref 64), (1, .int 100)], [.int 5, .ref 64], (q_cM (q_uA (q_uA (q_uA q_AM 33 f18) 32 (fun _ => 0)) 32 (upd (upd (upd (upd (upd (upd (fun _ => 0) 0 (vp_nar .char ((((48 : Int32) + (((a / 10) / 10) - ((a / 10) / 10) / 10 * 10)).toUInt32 % 65536).toInt32))) 1 (vp_nar .char ((((48 : Int32) + ((a / 10) - (a / 10) / 10 * 10)).toUInt32 % 65536).toInt32))) 2 (vp_nar .char ((((48 : Int32) + (a - a / 10 * 10)).toUInt32 % 65536).toInt32))) 3 32) 4 108) 5 100)) (q_uI (q_uI q_IM 0 39 0) 0 35 5) q_J0, 34, 31630))) 5 (fun _ _ => rfl) ?_
      refine q_Ru_seg (g2 := (20, [(0, .ref 64), (1, .int 100)], [], (q_cM (q_uA (q_uA (q_uA q_AM 33 f18) 32 (fun _ => 0)) 32 (upd (upd (upd (upd (upd (upd (fun _ => 0) 0 (vp_nar .char ((((48 : Int32) + (((a / 10) / 10) - ((a / 10) / 10) / 10 * 10)).toUInt32 % 65536).toInt32))) 1 (vp_nar .char ((((48 : Int32) + ((a / 10) - (a / 10) / 10 * 10)).toUInt32 % 65536).toInt32))) 2 (vp_nar .char ((((48 : Int32) + (a - a / 10 * 10)).toUInt32 % 65536).toInt32))) 3 32) 4 108) 5 100)) (q_uI (q_uI q_IM 0 39 0) 0 35 6) q_J0, 34, 31630))) 3 (fun _ _ => rfl) ?_
      exact q_Ru_ret rfl rfl
    show q_Ru _ _ _ (45, [(3, .int 1), (2, .int 0), (0, .ref 64), (1, .int 0)], [], (q_cM (q_uA (q_uA (q_uA q_AM 33 f18) 32 (fun _ => 0)) 32 (upd (upd (upd (upd (upd (upd (fun _ => 0) 0 (vp_nar .char ((((48 : Int32) + (((a / 10) / 10) - ((a / 10) / 10) / 10 * 10)).toUInt32 % 65536).toInt32))) 1 (vp_nar .char ((((48 : Int32) + ((a / 10) - (a / 10) / 10 * 10)).toUInt32 % 65536).toInt32))) 2 (vp_nar .char ((((48 : Int32) + (a - a / 10 * 10)).toUInt32 % 65536).toInt32))) 3 32) 4 108) 5 100)) (q_uI (q_uI q_IM 0 39 0) 0 35 6) q_J0, 34, 31630)) _
    refine q_Ru_seg (g2 := (26, [(3, .int 2), (2, .int 0), (0, .ref 64), (1, .int 0)], [.int 97, .ref 64], (q_cM (q_uA (q_uA (q_uA q_AM 33 f18) 32 (fun _ => 0)) 32 (upd (upd (upd (upd (upd (upd (fun _ => 0) 0 (vp_nar .char ((((48 : Int32) + (((a / 10) / 10) - ((a / 10) / 10) / 10 * 10)).toUInt32 % 65536).toInt32))) 1 (vp_nar .char ((((48 : Int32) + ((a / 10) - (a / 10) / 10 * 10)).toUInt32 % 65536).toInt32))) 2 (vp_nar .char ((((48 : Int32) + (a - a / 10 * 10)).toUInt32 % 65536).toInt32))) 3 32) 4 108) 5 100)) (q_uI (q_uI q_IM 0 39 0) 0 35 6) q_J0, 34, 31630))) 15 (fun _ _ => rfl) ?_
    refine q_Ru_seg (g2 := (42, [(3, .int 2), (2, .int 0), (0, .ref 64), (1, .int 0)], [.int 97, .ref 64], (q_cM (q_uA (q_uA (q_uA q_AM 33 f18) 32 (fun _ => 0)) 32 (upd (upd (upd (upd (upd (upd (fun _ => 0) 0 (vp_nar .char ((((48 : Int32) + (((a / 10) / 10) - ((a / 10) / 10) / 10 * 10)).toUInt32 % 65536).toInt32))) 1 (vp_nar .char ((((48 : Int32) + ((a / 10) - (a / 10) / 10 * 10)).toUInt32 % 65536).toInt32))) 2 (vp_nar .char ((((48 : Int32) + (a - a / 10 * 10)).toUInt32 % 65536).toInt32))) 3 32) 4 108) 5 100)) (q_uI (q_uI q_IM 0 39 0) 0 35 6) q_J0, 34, 31630))) 1 (fun _ _ => rfl) ?_
    refine q_Ru_call (v := none) (h2 := (q_cM (q_uA (q_uA (q_uA q_AM 33 f18) 32 (fun _ => 0)) 32 (upd (upd (upd (upd (upd (upd (upd (fun _ => 0) 0 (vp_nar .char ((((48 : Int32) + (((a / 10) / 10) - ((a / 10) / 10) / 10 * 10)).toUInt32 % 65536).toInt32))) 1 (vp_nar .char ((((48 : Int32) + ((a / 10) - (a / 10) / 10 * 10)).toUInt32 % 65536).toInt32))) 2 (vp_nar .char ((((48 : Int32) + (a - a / 10 * 10)).toUInt32 % 65536).toInt32))) 3 32) 4 108) 5 100) 6 97)) (q_uI (q_uI q_IM 0 39 0) 0 35 7) q_J0, 34, 31630)) rfl rfl ?_ ?_
    · refine q_Ca_of (Nat.le_of_ble_eq_true rfl) ?_
      refine q_Ru_seg (g2 := (8, [(0, .ref 64), (1, .int 97)], [.int 6, .ref 96], (q_cM (q_uA (q_uA (q_uA q_AM 33 f18) 32 (fun _ => 0)) 32 (upd (upd (upd (upd (upd (upd (fun _ => 0) 0 (vp_nar .char ((((48 : Int32) + (((a / 10) / 10) - ((a / 10) / 10) / 10 * 10)).toUInt32 % 65536).toInt32))) 1 (vp_nar .char ((((48 : Int32) + ((a / 10) - (a / 10) / 10 * 10)).toUInt32 % 65536).toInt32))) 2 (vp_nar .char ((((48 : Int32) + (a - a / 10 * 10)).toUInt32 % 65536).toInt32))) 3 32) 4 108) 5 100)) (q_uI (q_uI q_IM 0 39 0) 0 35 6) q_J0, 34, 31630))) 4 (fun _ _ => rfl) ?_
      refine q_Ru_seg (g2 := (15, [(0, .ref 64), (1, .int 97)], [.int 6, .ref 64], (q_cM (q_uA (q_uA (q_uA q_AM 33 f18) 32 (fun _ => 0)) 32 (upd (upd (upd (upd (upd (upd (upd (fun _ => 0) 0 (vp_nar .char ((((48 : Int32) + (((a / 10) / 10) - ((a / 10) / 10) / 10 * 10)).toUInt32 % 65536).toInt32))) 1 (vp_nar .char ((((48 : Int32) + ((a / 10) - (a / 10) / 10 * 10)).toUInt32 % 65536).toInt32))) 2 (vp_nar .char ((((48 : Int32) + (a - a / 10 * 10)).toUInt32 % 65536).toInt32))) 3 32) 4 108) 5 100) 6 97)) (q_uI (q_uI q_IM 0 39 0) 0 35 6) q_J0, 34, 31630))) 5 (fun _ _ => rfl) ?_
      refine q_Ru_seg (g2 := (20, [(0, .ref 64), (1, .int 97)], [], (q_cM (q_uA (q_uA (q_uA q_AM 33 f18) 32 (fun _ => 0)) 32 (upd (upd (upd (upd (upd (upd (upd (fun _ => 0) 0 (vp_nar .char ((((48 : Int32) + (((a / 10) / 10) - ((a / 10) / 10) / 10 * 10)).toUInt32 % 65536).toInt32))) 1 (vp_nar .char ((((48 : Int32) + ((a / 10) - (a / 10) / 10 * 10)).toUInt32 % 65536).toInt32))) 2 (vp_nar .char ((((48 : Int32) + (a - a / 10 * 10)).toUInt32 % 65536).toInt32))) 3 32) 4 108) 5 100) 6 97)) (q_uI (q_uI q_IM 0 39 0) 0 35 7) q_J0, 34, 31630))) 3 (fun _ _ => rfl) ?_
      exact q_Ru_ret rfl rfl
    show q_Ru _ _ _ (45, [(3, .int 2), (2, .int 0), (0, .ref 64), (1, .int 0)], [], (q_cM (q_uA (q_uA (q_uA q_AM 33 f18) 32 (fun _ => 0)) 32 (upd (upd (upd (upd (upd (upd (upd (fun _ => 0) 0 (vp_nar .char ((((48 : Int32) + (((a / 10) / 10) - ((a / 10) / 10) / 10 * 10)).toUInt32 % 65536).toInt32))) 1 (vp_nar .char ((((48 : Int32) + ((a / 10) - (a / 10) / 10 * 10)).toUInt32 % 65536).toInt32))) 2 (vp_nar .char ((((48 : Int32) + (a - a / 10 * 10)).toUInt32 % 65536).toInt32))) 3 32) 4 108) 5 100) 6 97)) (q_uI (q_uI q_IM 0 39 0) 0 35 7) q_J0, 34, 31630)) _
    refine q_Ru_seg (g2 := (51, [(3, .int 3), (2, .int 0), (0, .ref 64), (1, .int 0)], [], (q_cM (q_uA (q_uA (q_uA q_AM 33 f18) 32 (fun _ => 0)) 32 (upd (upd (upd (upd (upd (upd (upd (fun _ => 0) 0 (vp_nar .char ((((48 : Int32) + (((a / 10) / 10) - ((a / 10) / 10) / 10 * 10)).toUInt32 % 65536).toInt32))) 1 (vp_nar .char ((((48 : Int32) + ((a / 10) - (a / 10) / 10 * 10)).toUInt32 % 65536).toInt32))) 2 (vp_nar .char ((((48 : Int32) + (a - a / 10 * 10)).toUInt32 % 65536).toInt32))) 3 32) 4 108) 5 100) 6 97)) (q_uI (q_uI q_IM 0 39 0) 0 35 7) q_J0, 34, 31630))) 5 (fun _ _ => rfl) ?_
    exact q_Ru_ret rfl rfl
  show q_Ru _ _ _ (78, [(2, .int 0), (0, .ref 64), (1, .int a)], [], (q_cM (q_uA (q_uA (q_uA q_AM 33 f18) 32 (fun _ => 0)) 32 (upd (upd (upd (upd (upd (upd (upd (fun _ => 0) 0 (vp_nar .char ((((48 : Int32) + (((a / 10) / 10) - ((a / 10) / 10) / 10 * 10)).toUInt32 % 65536).toInt32))) 1 (vp_nar .char ((((48 : Int32) + ((a / 10) - (a / 10) / 10 * 10)).toUInt32 % 65536).toInt32))) 2 (vp_nar .char ((((48 : Int32) + (a - a / 10 * 10)).toUInt32 % 65536).toInt32))) 3 32) 4 108) 5 100) 6 97)) (q_uI (q_uI q_IM 0 39 0) 0 35 7) q_J0, 34, 31630)) _
  refine q_Ru_seg (g2 := (79, [(2, .int 0), (0, .ref 64), (1, .int a)], [.int 0], (q_cM (q_uA (q_uA (q_uA q_AM 33 f18) 32 (fun _ => 0)) 32 (upd (upd (upd (upd (upd (upd (upd (fun _ => 0) 0 (vp_nar .char ((((48 : Int32) + (((a / 10) / 10) - ((a / 10) / 10) / 10 * 10)).toUInt32 % 65536).toInt32))) 1 (vp_nar .char ((((48 : Int32) + ((a / 10) - (a / 10) / 10 * 10)).toUInt32 % 65536).toInt32))) 2 (vp_nar .char ((((48 : Int32) + (a - a / 10 * 10)).toUInt32 % 65536).toInt32))) 3 32) 4 108) 5 100) 6 97)) (q_uI (q_uI q_IM 0 39 0) 0 35 7) q_J0, 34, 31630))) 1 (fun _ _ => rfl) ?_
  refine q_Ru_call (v := (some (.int 0))) (h2 := (q_cM (q_uA (q_uA (q_uA q_AM 33 f18) 32 (fun _ => 0)) 32 (upd (upd (upd (upd (upd (upd (upd (fun _ => 0) 0 (vp_nar .char ((((48 : Int32) + (((a / 10) / 10) - ((a / 10) / 10) / 10 * 10)).toUInt32 % 65536).toInt32))) 1 (vp_nar .char ((((48 : Int32) + ((a / 10) - (a / 10) / 10 * 10)).toUInt32 % 65536).toInt32))) 2 (vp_nar .char ((((48 : Int32) + (a - a / 10 * 10)).toUInt32 % 65536).toInt32))) 3 32) 4 108) 5 100) 6 97)) (q_uI (q_uI q_IM 0 39 0) 0 35 7) q_J0, 34, 31630)) rfl rfl ?_ ?_
  · refine q_Ca_of (Nat.le_of_ble_eq_true rfl) ?_
    refine q_Ru_seg (g2 := (42, [(0, .int 0)], [.int 0], (q_cM (q_uA (q_uA (q_uA q_AM 33 f18) 32 (fun _ => 0)) 32 (upd (upd (upd (upd (upd (upd (upd (fun _ => 0) 0 (vp_nar .char ((((48 : Int32) + (((a / 10) / 10) - ((a / 10) / 10) / 10 * 10)).toUInt32 % 65536).toInt32))) 1 (vp_nar .char ((((48 : Int32) + ((a / 10) - (a / 10) / 10 * 10)).toUInt32 % 65536).toInt32))) 2 (vp_nar .char ((((48 : Int32) + (a - a / 10 * 10)).toUInt32 % 65536).toInt32))) 3 32) 4 108) 5 100) 6 97)) (q_uI (q_uI q_IM 0 39 0) 0 35 7) q_J0, 34, 31630))) 7 (fun _ _ => rfl) ?_
    exact q_Ru_ret rfl rfl
  show q_Ru _ _ _ (82, [(2, .int 0), (0, .ref 64), (1, .int a)], [.int 0], (q_cM (q_uA (q_uA (q_uA q_AM 33 f18) 32 (fun _ => 0)) 32 (upd (upd (upd (upd (upd (upd (upd (fun _ => 0) 0 (vp_nar .char ((((48 : Int32) + (((a / 10) / 10) - ((a / 10) / 10) / 10 * 10)).toUInt32 % 65536).toInt32))) 1 (vp_nar .char ((((48 : Int32) + ((a / 10) - (a / 10) / 10 * 10)).toUInt32 % 65536).toInt32))) 2 (vp_nar .char ((((48 : Int32) + (a - a / 10 * 10)).toUInt32 % 65536).toInt32))) 3 32) 4 108) 5 100) 6 97)) (q_uI (q_uI q_IM 0 39 0) 0 35 7) q_J0, 34, 31630)) _
  exact q_Ru_le (Nat.le_of_ble_eq_true rfl) (q_xc107 L xs a hl_a hu_a f18 f19 p19)
set_option maxHeartbeats 20000000 in
theorem q_xc109 (L : Nat) (xs : Nat → Int32) (a : Int32) (hl_a : 100 ≤ a.toInt) (hu_a : a.toInt ≤ 999) (f18 : Nat → Int32) (f19 : Nat → Int32) (h187 : decide (a < 10) = false) (h188 : decide (a / 10 < 10) = false) (h189 : decide ((a / 10) / 10 < 10) = true) (p19 : q_Ca q_TB0 4 214 [.ref 64, .int ((a + 1) &&& 4095)] (q_cM (q_uA (q_uA q_AM 33 f18) 32 (upd (upd (upd (upd (upd (upd (upd (upd (upd (fun _ => 0) 0 (vp_nar .char ((((48 : Int32) + (((a / 10) / 10) - ((a / 10) / 10) / 10 * 10)).toUInt32 % 65536).toInt32))) 1 (vp_nar .char ((((48 : Int32) + ((a / 10) - (a / 10) / 10 * 10)).toUInt32 % 65536).toInt32))) 2 (vp_nar .char ((((48 : Int32) + (a - a / 10 * 10)).toUInt32 % 65536).toInt32))) 3 32) 4 108) 5 100) 6 97) 7 32) 8 35)) (q_uI (q_uI q_IM 0 39 0) 0 35 9) q_J0, 34, 31630) (.inl (some (.int 0)), (q_cM (q_uA (q_uA q_AM 33 f19) 32 (upd (upd (upd (upd (upd (upd (upd (upd (upd (fun _ => 0) 0 (vp_nar .char ((((48 : Int32) + (((a / 10) / 10) - ((a / 10) / 10) / 10 * 10)).toUInt32 % 65536).toInt32))) 1 (vp_nar .char ((((48 : Int32) + ((a / 10) - (a / 10) / 10 * 10)).toUInt32 % 65536).toInt32))) 2 (vp_nar .char ((((48 : Int32) + (a - a / 10 * 10)).toUInt32 % 65536).toInt32))) 3 32) 4 108) 5 100) 6 97) 7 32) 8 35)) (q_uI (q_uI q_IM 0 39 0) 0 35 9) q_J0, 34, 31630))) : q_Ru q_TB0 8 286 (26, [(0, .ref 64), (1, .int a)], [.int 0], (q_cM (q_uA (q_uA q_AM 33 f18) 32 (fun _ => 0)) (q_uI q_IM 0 39 0) q_J0, 34, 31630)) (.inl (some (.int 10)), (q_cM (q_uA (q_uA (q_uA q_AM 33 f19) 32 (upd (upd (upd (upd (upd (upd (upd (upd (upd (fun _ => 0) 0 (vp_nar .char ((((48 : Int32) + (((a / 10) / 10) - ((a / 10) / 10) / 10 * 10)).toUInt32 % 65536).toInt32))) 1 (vp_nar .char ((((48 : Int32) + ((a / 10) - (a / 10) / 10 * 10)).toUInt32 % 65536).toInt32))) 2 (vp_nar .char ((((48 : Int32) + (a - a / 10 * 10)).toUInt32 % 65536).toInt32))) 3 32) 4 108) 5 100) 6 97) 7 32) 8 35)) 32 (upd (upd (upd (upd (upd (upd (upd (upd (upd (upd (fun _ => 0) 0 (vp_nar .char ((((48 : Int32) + (((a / 10) / 10) - ((a / 10) / 10) / 10 * 10)).toUInt32 % 65536).toInt32))) 1 (vp_nar .char ((((48 : Int32) + ((a / 10) - (a / 10) / 10 * 10)).toUInt32 % 65536).toInt32))) 2 (vp_nar .char ((((48 : Int32) + (a - a / 10 * 10)).toUInt32 % 65536).toInt32))) 3 32) 4 108) 5 100) 6 97) 7 32) 8 35) 9 48)) (q_uI (q_uI q_IM 0 39 0) 0 35 10) q_J0, 34, 31630)) := by
  refine q_Ru_seg (g2 := (34, [(2, .int 0), (0, .ref 64), (1, .int a)], [.int a, .ref 64], (q_cM (q_uA (q_uA q_AM 33 f18) 32 (fun _ => 0)) (q_uI (q_uI q_IM 0 39 0) 0 35 0) q_J0, 34, 31630))) 6 (fun _ _ => rfl) ?_
  refine q_Ru_call (v := none) (h2 := (q_cM (q_uA (q_uA (q_uA q_AM 33 f18) 32 (fun _ => 0)) 32 (upd (upd (upd (fun _ => 0) 0 (vp_nar .char ((((48 : Int32) + (((a / 10) / 10) - ((a / 10) / 10) / 10 * 10)).toUInt32 % 65536).toInt32))) 1 (vp_nar .char ((((48 : Int32) + ((a / 10) - (a / 10) / 10 * 10)).toUInt32 % 65536).toInt32))) 2 (vp_nar .char ((((48 : Int32) + (a - a / 10 * 10)).toUInt32 % 65536).toInt32)))) (q_uI (q_uI q_IM 0 39 0) 0 35 3) q_J0, 34, 31630)) rfl rfl ?_ ?_
  · refine q_Ca_of (Nat.le_of_ble_eq_true rfl) ?_
    refine q_Ru_seg (g2 := (3, [(0, .ref 64), (1, .int a)], [.int 10, .int a], (q_cM (q_uA (q_uA q_AM 33 f18) 32 (fun _ => 0)) (q_uI (q_uI q_IM 0 39 0) 0 35 0) q_J0, 34, 31630))) 2 (fun _ _ => rfl) ?_
    refine q_Ru_rsF (g2 := (6, [(0, .ref 64), (1, .int a)], [], (q_cM (q_uA (q_uA q_AM 33 f18) 32 (fun _ => 0)) (q_uI (q_uI q_IM 0 39 0) 0 35 0) q_J0, 34, 31630))) rfl rfl h187 ?_
    refine q_Ru_seg (g2 := (11, [(0, .ref 64), (1, .int a)], [.int (a / 10), .ref 64], (q_cM (q_uA (q_uA q_AM 33 f18) 32 (fun _ => 0)) (q_uI (q_uI q_IM 0 39 0) 0 35 0) q_J0, 34, 31630))) 4 (fun _ _ => rfl) ?_
    refine q_Ru_call (v := none) (h2 := (q_cM (q_uA (q_uA (q_uA q_AM 33 f18) 32 (fun _ => 0)) 32 (upd (upd (fun _ => 0) 0 (vp_nar .char ((((48 : Int32) + (((a / 10) / 10) - ((a / 10) / 10) / 10 * 10)).toUInt32 % 65536).toInt32))) 1 (vp_nar .char ((((48 : Int32) + ((a / 10) - (a / 10) / 10 * 10)).toUInt32 % 65536).toInt32)))) (q_uI (q_uI q_IM 0 39 0) 0 35 2) q_J0, 34, 31630)) rfl rfl ?_ ?_
    · refine q_Ca_of (Nat.le_of_ble_eq_true rfl) ?_
      refine q_Ru_seg (g2 := (3, [(0, .ref 64), (1, .int (a / 10))], [.int 10, .int (a / 10)], (q_cM (q_uA (q_uA q_AM 33 f18) 32 (fun _ => 0)) (q_uI (q_uI q_IM 0 39 0) 0 35 0) q_J0, 34, 31630))) 2 (fun _ _ => rfl) ?_
      refine q_Ru_rsF (g2 := (6, [(0, .ref 64), (1, .int (a / 10))], [], (q_cM (q_uA (q_uA q_AM 33 f18) 32 (fun _ => 0)) (q_uI (q_uI q_IM 0 39 0) 0 35 0) q_J0, 34, 31630))) rfl rfl h188 ?_
      refine q_Ru_seg (g2 := (11, [(0, .ref 64), (1, .int (a / 10))], [.int ((a / 10) / 10), .ref 64], (q_cM (q_uA (q_uA q_AM 33 f18) 32 (fun _ => 0)) (q_uI (q_uI q_IM 0 39 0) 0 35 0) q_J0, 34, 31630))) 4 (fun _ _ => rfl) ?_
      refine q_Ru_call (v := none) (h2 := (q_cM (q_uA (q_uA (q_uA q_AM 33 f18) 32 (fun _ => 0)) 32 (upd (fun _ => 0) 0 (vp_nar .char ((((48 : Int32) + (((a / 10) / 10) - ((a / 10) / 10) / 10 * 10)).toUInt32 % 65536).toInt32)))) (q_uI (q_uI q_IM 0 39 0) 0 35 1) q_J0, 34, 31630)) rfl rfl ?_ ?_
      · refine q_Ca_of (Nat.le_of_ble_eq_true rfl) ?_
        refine q_Ru_seg (g2 := (3, [(0, .ref 64), (1, .int ((a / 10) / 10))], [.int 10, .int ((a / 10) / 10)], (q_cM (q_uA (q_uA q_AM 33 f18) 32 (fun _ => 0)) (q_uI (q_uI q_IM 0 39 0) 0 35 0) q_J0, 34, 31630))) 2 (fun _ _ => rfl) ?_
        refine q_Ru_rsT (g2 := (14, [(0, .ref 64), (1, .int ((a / 10) / 10))], [], (q_cM (q_uA (q_uA q_AM 33 f18) 32 (fun _ => 0)) (q_uI (q_uI q_IM 0 39 0) 0 35 0) q_J0, 34, 31630))) rfl rfl h189 ?_
        refine q_Ru_seg (g2 := (23, [(0, .ref 64), (1, .int ((a / 10) / 10))], [.int ((((48 : Int32) + (((a / 10) / 10) - ((a / 10) / 10) / 10 * 10)).toUInt32 % 65536).toInt32), .ref 64], (q_cM (q_uA (q_uA q_AM 33 f18) 32 (fun _ => 0)) (q_uI (q_uI q_IM 0 39 0) 0 35 0) q_J0, 34, 31630))) 7 (fun _ _ => rfl) ?_
        refine q_Ru_call (v := none) (h2 := (q_cM (q_uA (q_uA (q_uA q_AM 33 f18) 32 (fun _ => 0)) 32 (upd (fun _ => 0) 0 (vp_nar .char ((((48 : Int32) + (((a / 10) / 10) - ((a / 10) / 10) / 10 * 10)).toUInt32 % 65536).toInt32)))) (q_uI (q_uI q_IM 0 39 0) 0 35 1) q_J0, 34, 31630)) rfl rfl ?_ ?_
        · refine q_Ca_of (Nat.le_of_ble_eq_true rfl) ?_
          refine q_Ru_seg (g2 := (8, [(0, .ref 64), (1, .int ((((48 : Int32) + (((a / 10) / 10) - ((a / 10) / 10) / 10 * 10)).toUInt32 % 65536).toInt32))], [.int 0, .ref 96], (q_cM (q_uA (q_uA q_AM 33 f18) 32 (fun _ => 0)) (q_uI (q_uI q_IM 0 39 0) 0 35 0) q_J0, 34, 31630))) 4 (fun _ _ => rfl) ?_
          refine q_Ru_seg (g2 := (15, [(0, .ref 64), (1, .int ((((48 : Int32) + (((a / 10) / 10) - ((a / 10) / 10) / 10 * 10)).toUInt32 % 65536).toInt32))], [.int 0, .ref 64], (q_cM (q_uA (q_uA (q_uA q_AM 33 f18) 32 (fun _ => 0)) 32 (upd (fun _ => 0) 0 (vp_nar .char ((((48 : Int32) + (((a / 10) / 10) - ((a / 10) / 10) / 10 * 10)).toUInt32 % 65536).toInt32)))) (q_uI (q_uI q_IM 0 39 0) 0 35 0) q_J0, 34, 31630))) 5 (fun _ _ => rfl) ?_
          refine q_Ru_seg (g2 := (20, [(0, .ref 64), (1, .int ((((48 : Int32) + (((a / 10) / 10) - ((a / 10) / 10) / 10 * 10)).toUInt32 % 65536).toInt32))], [], (q_cM (q_uA (q_uA (q_uA q_AM 33 f18) 32 (fun _ => 0)) 32 (upd (fun _ => 0) 0 (vp_nar .char ((((48 : Int32) + (((a / 10) / 10) - ((a / 10) / 10) / 10 * 10)).toUInt32 % 65536).toInt32)))) (q_uI (q_uI q_IM 0 39 0) 0 35 1) q_J0, 34, 31630))) 3 (fun _ _ => rfl) ?_
          exact q_Ru_ret rfl rfl
        show q_Ru _ _ _ (26, [(0, .ref 64), (1, .int ((a / 10) / 10))], [], (q_cM (q_uA (q_uA (q_uA q_AM 33 f18) 32 (fun _ => 0)) 32 (upd (fun _ => 0) 0 (vp_nar .char ((((48 : Int32) + (((a / 10) / 10) - ((a / 10) / 10) / 10 * 10)).toUInt32 % 65536).toInt32)))) (q_uI (q_uI q_IM 0 39 0) 0 35 1) q_J0, 34, 31630)) _
        exact q_Ru_ret rfl rfl
      show q_Ru _ _ _ (14, [(0, .ref 64), (1, .int (a / 10))], [], (q_cM (q_uA (q_uA (q_uA q_AM 33 f18) 32 (fun _ => 0)) 32 (upd (fun _ => 0) 0 (vp_nar .char ((((48 : Int32) + (((a / 10) / 10) - ((a / 10) / 10) / 10 * 10)).toUInt32 % 65536).toInt32)))) (q_uI (q_uI q_IM 0 39 0) 0 35 1) q_J0, 34, 31630)) _
      refine q_Ru_seg (g2 := (23, [(0, .ref 64), (1, .int (a / 10))], [.int ((((48 : Int32) + ((a / 10) - (a / 10) / 10 * 10)).toUInt32 % 65536).toInt32), .ref 64], (q_cM (q_uA (q_uA (q_uA q_AM 33 f18) 32 (fun _ => 0)) 32 (upd (fun _ => 0) 0 (vp_nar .char ((((48 : Int32) + (((a / 10) / 10) - ((a / 10) / 10) / 10 * 10)).toUInt32 % 65536).toInt32)))) (q_uI (q_uI q_IM 0 39 0) 0 35 1) q_J0, 34, 31630))) 7 (fun _ _ => rfl) ?_
      refine q_Ru_call (v := none) (h2 := (q_cM (q_uA (q_uA (q_uA q_AM 33 f18) 32 (fun _ => 0)) 32 (upd (upd (fun _ => 0) 0 (vp_nar .char ((((48 : Int32) + (((a / 10) / 10) - ((a / 10) / 10) / 10 * 10)).toUInt32 % 65536).toInt32))) 1 (vp_nar .char ((((48 : Int32) + ((a / 10) - (a / 10) / 10 * 10)).toUInt32 % 65536).toInt32)))) (q_uI (q_uI q_IM 0 39 0) 0 35 2) q_J0, 34, 31630)) rfl rfl ?_ ?_
      · refine q_Ca_of (Nat.le_of_ble_eq_true rfl) ?_
        refine q_Ru_seg (g2 := (8, [(0, .ref 64), (1, .int ((((48 : Int32) + ((a / 10) - (a / 10) / 10 * 10)).toUInt32 % 65536).toInt32))], [.int 1, .ref 96], (q_cM (q_uA (q_uA (q_uA q_AM 33 f18) 32 (fun _ => 0)) 32 (upd (fun _ => 0) 0 (vp_nar .char ((((48 : Int32) + (((a / 10) / 10) - ((a / 10) / 10) / 10 * 10)).toUInt32 % 65536).toInt32)))) (q_uI (q_uI q_IM 0 39 0) 0 35 1) q_J0, 34, 31630))) 4 (fun _ _ => rfl) ?_
        refine q_Ru_seg (g2 := (15, [(0, .ref 64), (1, .int ((((48 : Int32) + ((a / 10) - (a / 10) / 10 * 10)).toUInt32 % 65536).toInt32))], [.int 1, .ref 64], (q_cM (q_uA (q_uA (q_uA q_AM 33 f18) 32 (fun _ => 0)) 32 (upd (upd (fun _ => 0) 0 (vp_nar .char ((((48 : Int32) + (((a / 10) / 10) - ((a / 10) / 10) / 10 * 10)).toUInt32 % 65536).toInt32))) 1 (vp_nar .char ((((48 : Int32) + ((a / 10) - (a / 10) / 10 * 10)).toUInt32 % 65536).toInt32)))) (q_uI (q_uI q_IM 0 39 0) 0 35 1) q_J0, 34, 31630))) 5 (fun _ _ => rfl) ?_
        refine q_Ru_seg (g2 := (20, [(0, .ref 64), (1, .int ((((48 : Int32) + ((a / 10) - (a / 10) / 10 * 10)).toUInt32 % 65536).toInt32))], [], (q_cM (q_uA (q_uA (q_uA q_AM 33 f18) 32 (fun _ => 0)) 32 (upd (upd (fun _ => 0) 0 (vp_nar .char ((((48 : Int32) + (((a / 10) / 10) - ((a / 10) / 10) / 10 * 10)).toUInt32 % 65536).toInt32))) 1 (vp_nar .char ((((48 : Int32) + ((a / 10) - (a / 10) / 10 * 10)).toUInt32 % 65536).toInt32)))) (q_uI (q_uI q_IM 0 39 0) 0 35 2) q_J0, 34, 31630))) 3 (fun _ _ => rfl) ?_
        exact q_Ru_ret rfl rfl
      show q_Ru _ _ _ (26, [(0, .ref 64), (1, .int (a / 10))], [], (q_cM (q_uA (q_uA (q_uA q_AM 33 f18) 32 (fun _ => 0)) 32 (upd (upd (fun _ => 0) 0 (vp_nar .char ((((48 : Int32) + (((a / 10) / 10) - ((a / 10) / 10) / 10 * 10)).toUInt32 % 65536).toInt32))) 1 (vp_nar .char ((((48 : Int32) + ((a / 10) - (a / 10) / 10 * 10)).toUInt32 % 65536).toInt32)))) (q_uI (q_uI q_IM 0 39 0) 0 35 2) q_J0, 34, 31630)) _
      exact q_Ru_ret rfl rfl
    show q_Ru _ _ _ (14, [(0, .ref 64), (1, .int a)], [], (q_cM (q_uA (q_uA (q_uA q_AM 33 f18) 32 (fun _ => 0)) 32 (upd (upd (fun _ => 0) 0 (vp_nar .char ((((48 : Int32) + (((a / 10) / 10) - ((a / 10) / 10) / 10 * 10)).toUInt32 % 65536).toInt32))) 1 (vp_nar .char ((((48 : Int32) + ((a / 10) - (a / 10) / 10 * 10)).toUInt32 % 65536).toInt32)))) (q_uI (q_uI q_IM 0 39 0) 0 35 2) q_J0, 34, 31630)) _
    refine q_Ru_seg (g2 := (23, [(0, .ref 64), (1, .int a)], [.int ((((48 : Int32) + (a - a / 10 * 10)).toUInt32 % 65536).toInt32), .ref 64], (q_cM (q_uA (q_uA (q_uA q_AM 33 f18) 32 (fun _ => 0)) 32 (upd (upd (fun _ => 0) 0 (vp_nar .char ((((48 : Int32) + (((a / 10) / 10) - ((a / 10) / 10) / 10 * 10)).toUInt32 % 65536).toInt32))) 1 (vp_nar .char ((((48 : Int32) + ((a / 10) - (a / 10) / 10 * 10)).toUInt32 % 65536).toInt32)))) (q_uI (q_uI q_IM 0 39 0) 0 35 2) q_J0, 34, 31630))) 7 (fun _ _ => rfl) ?_
    refine q_Ru_call (v := none) (h2 := (q_cM (q_uA (q_uA (q_uA q_AM 33 f18) 32 (fun _ => 0)) 32 (upd (upd (upd (fun _ => 0) 0 (vp_nar .char ((((48 : Int32) + (((a / 10) / 10) - ((a / 10) / 10) / 10 * 10)).toUInt32 % 65536).toInt32))) 1 (vp_nar .char ((((48 : Int32) + ((a / 10) - (a / 10) / 10 * 10)).toUInt32 % 65536).toInt32))) 2 (vp_nar .char ((((48 : Int32) + (a - a / 10 * 10)).toUInt32 % 65536).toInt32)))) (q_uI (q_uI q_IM 0 39 0) 0 35 3) q_J0, 34, 31630)) rfl rfl ?_ ?_
    · refine q_Ca_of (Nat.le_of_ble_eq_true rfl) ?_
      refine q_Ru_seg (g2 := (8, [(0, .ref 64), (1, .int ((((48 : Int32) + (a - a / 10 * 10)).toUInt32 % 65536).toInt32))], [.int 2, .ref 96], (q_cM (q_uA (q_uA (q_uA q_AM 33 f18) 32 (fun _ => 0)) 32 (upd (upd (fun _ => 0) 0 (vp_nar .char ((((48 : Int32) + (((a / 10) / 10) - ((a / 10) / 10) / 10 * 10)).toUInt32 % 65536).toInt32))) 1 (vp_nar .char ((((48 : Int32) + ((a / 10) - (a / 10) / 10 * 10)).toUInt32 % 65536).toInt32)))) (q_uI (q_uI q_IM 0 39 0) 0 35 2) q_J0, 34, 31630))) 4 (fun _ _ => rfl) ?_
      refine q_Ru_seg (g2 := (15, [(0, .ref 64), (1, .int ((((48 : Int32) + (a - a / 10 * 10)).toUInt32 % 65536).toInt32))], [.int 2, .ref 64], (q_cM (q_uA (q_uA (q_uA q_AM 33 f18) 32 (fun _ => 0)) 32 (upd (upd (upd (fun _ => 0) 0 (vp_nar .char ((((48 : Int32) + (((a / 10) / 10) - ((a / 10) / 10) / 10 * 10)).toUInt32 % 65536).toInt32))) 1 (vp_nar .char ((((48 : Int32) + ((a / 10) - (a / 10) / 10 * 10)).toUInt32 % 65536).toInt32))) 2 (vp_nar .char ((((48 : Int32) + (a - a / 10 * 10)).toUInt32 % 65536).toInt32)))) (q_uI (q_uI q_IM 0 39 0) 0 35 2) q_J0, 34, 31630))) 5 (fun _ _ => rfl) ?_
      refine q_Ru_seg (g2 := (20, [(0, .ref 64), (1, .int ((((48 : Int32) + (a - a / 10 * 10)).toUInt32 % 65536).toInt32))], [], (q_cM (q_uA (q_uA (q_uA q_AM 33 f18) 32 (fun _ => 0)) 32 (upd (upd (upd (fun _ => 0) 0 (vp_nar .char ((((48 : Int32) + (((a / 10) / 10) - ((a / 10) / 10) / 10 * 10)).toUInt32 % 65536).toInt32))) 1 (vp_nar .char ((((48 : Int32) + ((a / 10) - (a / 10) / 10 * 10)).toUInt32 % 65536).toInt32))) 2 (vp_nar .char ((((48 : Int32) + (a - a / 10 * 10)).toUInt32 % 65536).toInt32)))) (q_uI (q_uI q_IM 0 39 0) 0 35 3) q_J0, 34, 31630))) 3 (fun _ _ => rfl) ?_
      exact q_Ru_ret rfl rfl
    show q_Ru _ _ _ (26, [(0, .ref 64), (1, .int a)], [], (q_cM (q_uA (q_uA (q_uA q_AM 33 f18) 32 (fun _ => 0)) 32 (upd (upd (upd (fun _ => 0) 0 (vp_nar .char ((((48 : Int32) + (((a / 10) / 10) - ((a / 10) / 10) / 10 * 10)).toUInt32 % 65536).toInt32))) 1 (vp_nar .char ((((48 : Int32) + ((a / 10) - (a / 10) / 10 * 10)).toUInt32 % 65536).toInt32))) 2 (vp_nar .char ((((48 : Int32) + (a - a / 10 * 10)).toUInt32 % 65536).toInt32)))) (q_uI (q_uI q_IM 0 39 0) 0 35 3) q_J0, 34, 31630)) _
    exact q_Ru_ret rfl rfl
  show q_Ru _ _ _ (37, [(2, .int 0), (0, .ref 64), (1, .int a)], [], (q_cM (q_uA (q_uA (q_uA q_AM 33 f18) 32 (fun _ => 0)) 32 (upd (upd (upd (fun _ => 0) 0 (vp_nar .char ((((48 : Int32) + (((a / 10) / 10) - ((a / 10) / 10) / 10 * 10)).toUInt32 % 65536).toInt32))) 1 (vp_nar .char ((((48 : Int32) + ((a / 10) - (a / 10) / 10 * 10)).toUInt32 % 65536).toInt32))) 2 (vp_nar .char ((((48 : Int32) + (a - a / 10 * 10)).toUInt32 % 65536).toInt32)))) (q_uI (q_uI q_IM 0 39 0) 0 35 3) q_J0, 34, 31630)) _
  refine q_Ru_seg (g2 := (40, [(2, .int 0), (0, .ref 64), (1, .int a)], [.int 32, .ref 64], (q_cM (q_uA (q_uA (q_uA q_AM 33 f18) 32 (fun _ => 0)) 32 (upd (upd (upd (fun _ => 0) 0 (vp_nar .char ((((48 : Int32) + (((a / 10) / 10) - ((a / 10) / 10) / 10 * 10)).toUInt32 % 65536).toInt32))) 1 (vp_nar .char ((((48 : Int32) + ((a / 10) - (a / 10) / 10 * 10)).toUInt32 % 65536).toInt32))) 2 (vp_nar .char ((((48 : Int32) + (a - a / 10 * 10)).toUInt32 % 65536).toInt32)))) (q_uI (q_uI q_IM 0 39 0) 0 35 3) q_J0, 34, 31630))) 2 (fun _ _ => rfl) ?_
  refine q_Ru_call (v := none) (h2 := (q_cM (q_uA (q_uA (q_uA q_AM 33 f18) 32 (fun _ => 0)) 32 (upd (upd (upd (upd (fun _ => 0) 0 (vp_nar .char ((((48 : Int32) + (((a / 10) / 10) - ((a / 10) / 10) / 10 * 10)).toUInt32 % 65536).toInt32))) 1 (vp_nar .char ((((48 : Int32) + ((a / 10) - (a / 10) / 10 * 10)).toUInt32 % 65536).toInt32))) 2 (vp_nar .char ((((48 : Int32) + (a - a / 10 * 10)).toUInt32 % 65536).toInt32))) 3 32)) (q_uI (q_uI q_IM 0 39 0) 0 35 4) q_J0, 34, 31630)) rfl rfl ?_ ?_
  · refine q_Ca_of (Nat.le_of_ble_eq_true rfl) ?_
    refine q_Ru_seg (g2 := (8, [(0, .ref 64), (1, .int 32)], [.int 3, .ref 96], (q_cM (q_uA (q_uA (q_uA q_AM 33 f18) 32 (fun _ => 0)) 32 (upd (upd (upd (fun _ => 0) 0 (vp_nar .char ((((48 : Int32) + (((a / 10) / 10) - ((a / 10) / 10) / 10 * 10)).toUInt32 % 65536).toInt32))) 1 (vp_nar .char ((((48 : Int32) + ((a / 10) - (a / 10) / 10 * 10)).toUInt32 % 65536).toInt32))) 2 (vp_nar .char ((((48 : Int32) + (a - a / 10 * 10)).toUInt32 % 65536).toInt32)))) (q_uI (q_uI q_IM 0 39 0) 0 35 3) q_J0, 34, 31630))) 4 (fun _ _ => rfl) ?_
    refine q_Ru_seg (g2 := (15, [(0, .ref 64), (1, .int 32)], [.int 3, .ref 64], (q_cM (q_uA (q_uA (q_uA q_AM 33 f18) 32 (fun _ => 0)) 32 (upd (upd (upd (upd (fun _ => 0) 0 (vp_nar .char ((((48 : Int32) + (((a / 10) / 10) - ((a / 10) / 10) / 10 * 10)).toUInt32 % 65536).toInt32))) 1 (vp_nar .char ((((48 : Int32) + ((a / 10) - (a / 10) / 10 * 10)).toUInt32 % 65536).toInt32))) 2 (vp_nar .char ((((48 : Int32) + (a - a / 10 * 10)).toUInt32 % 65536).toInt32))) 3 32)) (q_uI (q_uI q_IM 0 39 0) 0 35 3) q_J0, 34, 31630))) 5 (fun _ _ => rfl) ?_
    refine q_Ru_seg (g2 := (20, [(0, .ref 64), (1, .int 32)], [], (q_cM (q_uA (q_uA (q_uA q_AM 33 f18) 32 (fun _ => 0)) 32 (upd (upd (upd (upd (fun _ => 0) 0 (vp_nar .char ((((48 : Int32) + (((a / 10) / 10) - ((a / 10) / 10) / 10 * 10)).toUInt32 % 65536).toInt32))) 1 (vp_nar .char ((((48 : Int32) + ((a / 10) - (a / 10) / 10 * 10)).toUInt32 % 65536).toInt32))) 2 (vp_nar .char ((((48 : Int32) + (a - a / 10 * 10)).toUInt32 % 65536).toInt32))) 3 32)) (q_uI (q_uI q_IM 0 39 0) 0 35 4) q_J0, 34, 31630))) 3 (fun _ _ => rfl) ?_
    exact q_Ru_ret rfl rfl
  show q_Ru _ _ _ (43, [(2, .int 0), (0, .ref 64), (1, .int a)], [], (q_cM (q_uA (q_uA (q_uA q_AM 33 f18) 32 (fun _ => 0)) 32 (upd (upd (upd (upd (fun _ => 0) 0 (vp_nar .char ((((48 : Int32) + (((a / 10) / 10) - ((a / 10) / 10) / 10 * 10)).toUInt32 % 65536).toInt32))) 1 (vp_nar .char ((((48 : Int32) + ((a / 10) - (a / 10) / 10 * 10)).toUInt32 % 65536).toInt32))) 2 (vp_nar .char ((((48 : Int32) + (a - a / 10 * 10)).toUInt32 % 65536).toInt32))) 3 32)) (q_uI (q_uI q_IM 0 39 0) 0 35 4) q_J0, 34, 31630)) _
  refine q_Ru_seg (g2 := (44, [(2, .int 0), (0, .ref 64), (1, .int a)], [.int 0], (q_cM (q_uA (q_uA (q_uA q_AM 33 f18) 32 (fun _ => 0)) 32 (upd (upd (upd (upd (fun _ => 0) 0 (vp_nar .char ((((48 : Int32) + (((a / 10) / 10) - ((a / 10) / 10) / 10 * 10)).toUInt32 % 65536).toInt32))) 1 (vp_nar .char ((((48 : Int32) + ((a / 10) - (a / 10) / 10 * 10)).toUInt32 % 65536).toInt32))) 2 (vp_nar .char ((((48 : Int32) + (a - a / 10 * 10)).toUInt32 % 65536).toInt32))) 3 32)) (q_uI (q_uI q_IM 0 39 0) 0 35 4) q_J0, 34, 31630))) 1 (fun _ _ => rfl) ?_
  refine q_Ru_call (v := (some (.int 0))) (h2 := (q_cM (q_uA (q_uA (q_uA q_AM 33 f18) 32 (fun _ => 0)) 32 (upd (upd (upd (upd (fun _ => 0) 0 (vp_nar .char ((((48 : Int32) + (((a / 10) / 10) - ((a / 10) / 10) / 10 * 10)).toUInt32 % 65536).toInt32))) 1 (vp_nar .char ((((48 : Int32) + ((a / 10) - (a / 10) / 10 * 10)).toUInt32 % 65536).toInt32))) 2 (vp_nar .char ((((48 : Int32) + (a - a / 10 * 10)).toUInt32 % 65536).toInt32))) 3 32)) (q_uI (q_uI q_IM 0 39 0) 0 35 4) q_J0, 34, 31630)) rfl rfl ?_ ?_
  · refine q_Ca_of (Nat.le_of_ble_eq_true rfl) ?_
    refine q_Ru_seg (g2 := (1, [(0, .int 0)], [.int 0], (q_cM (q_uA (q_uA (q_uA q_AM 33 f18) 32 (fun _ => 0)) 32 (upd (upd (upd (upd (fun _ => 0) 0 (vp_nar .char ((((48 : Int32) + (((a / 10) / 10) - ((a / 10) / 10) / 10 * 10)).toUInt32 % 65536).toInt32))) 1 (vp_nar .char ((((48 : Int32) + ((a / 10) - (a / 10) / 10 * 10)).toUInt32 % 65536).toInt32))) 2 (vp_nar .char ((((48 : Int32) + (a - a / 10 * 10)).toUInt32 % 65536).toInt32))) 3 32)) (q_uI (q_uI q_IM 0 39 0) 0 35 4) q_J0, 34, 31630))) 1 (fun _ _ => rfl) ?_
    refine q_Ru_call (v := (some (.int 0))) (h2 := (q_cM (q_uA (q_uA (q_uA q_AM 33 f18) 32 (fun _ => 0)) 32 (upd (upd (upd (upd (fun _ => 0) 0 (vp_nar .char ((((48 : Int32) + (((a / 10) / 10) - ((a / 10) / 10) / 10 * 10)).toUInt32 % 65536).toInt32))) 1 (vp_nar .char ((((48 : Int32) + ((a / 10) - (a / 10) / 10 * 10)).toUInt32 % 65536).toInt32))) 2 (vp_nar .char ((((48 : Int32) + (a - a / 10 * 10)).toUInt32 % 65536).toInt32))) 3 32)) (q_uI (q_uI q_IM 0 39 0) 0 35 4) q_J0, 34, 31630)) rfl rfl ?_ ?_
    · refine q_Ca_of (Nat.le_of_ble_eq_true rfl) ?_
      refine q_Ru_seg (g2 := (42, [(0, .int 0)], [.int 0], (q_cM (q_uA (q_uA (q_uA q_AM 33 f18) 32 (fun _ => 0)) 32 (upd (upd (upd (upd (fun _ => 0) 0 (vp_nar .char ((((48 : Int32) + (((a / 10) / 10) - ((a / 10) / 10) / 10 * 10)).toUInt32 % 65536).toInt32))) 1 (vp_nar .char ((((48 : Int32) + ((a / 10) - (a / 10) / 10 * 10)).toUInt32 % 65536).toInt32))) 2 (vp_nar .char ((((48 : Int32) + (a - a / 10 * 10)).toUInt32 % 65536).toInt32))) 3 32)) (q_uI (q_uI q_IM 0 39 0) 0 35 4) q_J0, 34, 31630))) 7 (fun _ _ => rfl) ?_
      exact q_Ru_ret rfl rfl
    show q_Ru _ _ _ (4, [(0, .int 0)], [.int 0], (q_cM (q_uA (q_uA (q_uA q_AM 33 f18) 32 (fun _ => 0)) 32 (upd (upd (upd (upd (fun _ => 0) 0 (vp_nar .char ((((48 : Int32) + (((a / 10) / 10) - ((a / 10) / 10) / 10 * 10)).toUInt32 % 65536).toInt32))) 1 (vp_nar .char ((((48 : Int32) + ((a / 10) - (a / 10) / 10 * 10)).toUInt32 % 65536).toInt32))) 2 (vp_nar .char ((((48 : Int32) + (a - a / 10 * 10)).toUInt32 % 65536).toInt32))) 3 32)) (q_uI (q_uI q_IM 0 39 0) 0 35 4) q_J0, 34, 31630)) _
    refine q_Ru_seg (g2 := (25, [(0, .int 0)], [.int 0], (q_cM (q_uA (q_uA (q_uA q_AM 33 f18) 32 (fun _ => 0)) 32 (upd (upd (upd (upd (fun _ => 0) 0 (vp_nar .char ((((48 : Int32) + (((a / 10) / 10) - ((a / 10) / 10) / 10 * 10)).toUInt32 % 65536).toInt32))) 1 (vp_nar .char ((((48 : Int32) + ((a / 10) - (a / 10) / 10 * 10)).toUInt32 % 65536).toInt32))) 2 (vp_nar .char ((((48 : Int32) + (a - a / 10 * 10)).toUInt32 % 65536).toInt32))) 3 32)) (q_uI (q_uI q_IM 0 39 0) 0 35 4) q_J0, 34, 31630))) 2 (fun _ _ => rfl) ?_
    exact q_Ru_ret rfl rfl
  show q_Ru _ _ _ (47, [(2, .int 0), (0, .ref 64), (1, .int a)], [.int 0], (q_cM (q_uA (q_uA (q_uA q_AM 33 f18) 32 (fun _ => 0)) 32 (upd (upd (upd (upd (fun _ => 0) 0 (vp_nar .char ((((48 : Int32) + (((a / 10) / 10) - ((a / 10) / 10) / 10 * 10)).toUInt32 % 65536).toInt32))) 1 (vp_nar .char ((((48 : Int32) + ((a / 10) - (a / 10) / 10 * 10)).toUInt32 % 65536).toInt32))) 2 (vp_nar .char ((((48 : Int32) + (a - a / 10 * 10)).toUInt32 % 65536).toInt32))) 3 32)) (q_uI (q_uI q_IM 0 39 0) 0 35 4) q_J0, 34, 31630)) _
  exact q_Ru_le (Nat.le_of_ble_eq_true rfl) (q_xc108 L xs a hl_a hu_a f18 f19 p19)
set_option maxHeartbeats 20000000 in
theorem q_op_writeLine98_2 (L : Nat) (xs : Nat → Int32) (a : Int32) (hl_a : 100 ≤ a.toInt) (hu_a : a.toInt ≤ 999) : ∃ (r b : Int32) (w : Int64), q_opXT (q_TBs 98 L xs) 6 [.int a] r w ∧ q_opM 286 [.int a] r (.int b) ∧ (r = 0 → w = b.toInt64) := by
  have h179 : decide (a < 0) = false := q_not_tr (q_tbl1 (fun a => !decide (a < 0)) (l := 100) (n := 899) (by decide +kernel) hl_a hu_a)
  have h180 : decide (a < 4096) = true := q_tbl1 (fun a => decide (a < 4096)) (l := 100) (n := 899) (by decide +kernel) hl_a hu_a
  have h181 : decide ((-10) < -a) = false := q_not_tr (q_tbl1 (fun a => !decide ((-10) < -a)) (l := 100) (n := 899) (by decide +kernel) hl_a hu_a)
  have h182 : decide ((-100) < -a) = false := q_not_tr (q_tbl1 (fun a => !decide ((-100) < -a)) (l := 100) (n := 899) (by decide +kernel) hl_a hu_a)
  have h183 : decide ((-1000) < -a) = true := q_tbl1 (fun a => decide ((-1000) < -a)) (l := 100) (n := 899) (by decide +kernel) hl_a hu_a
  have h184 : decide ((-100) < (-a) / 100) = true := q_tbl1 (fun a => decide ((-100) < (-a) / 100)) (l := 100) (n := 899) (by decide +kernel) hl_a hu_a
  have h185 : decide ((-a) / 100 < (-9)) = false := q_not_tr (q_tbl1 (fun a => !decide ((-a) / 100 < (-9))) (l := 100) (n := 899) (by decide +kernel) hl_a hu_a)
  have h186 : decide (4095 < a) = false := q_not_tr (q_tbl1 (fun a => !decide (4095 < a)) (l := 100) (n := 899) (by decide +kernel) hl_a hu_a)
  have h187 : decide (a < 10) = false := q_not_tr (q_tbl1 (fun a => !decide (a < 10)) (l := 100) (n := 899) (by decide +kernel) hl_a hu_a)
  have h188 : decide (a / 10 < 10) = false := q_not_tr (q_tbl1 (fun a => !decide (a / 10 < 10)) (l := 100) (n := 899) (by decide +kernel) hl_a hu_a)
  have h189 : decide ((a / 10) / 10 < 10) = true := q_tbl1 (fun a => decide ((a / 10) / 10 < 10)) (l := 100) (n := 899) (by decide +kernel) hl_a hu_a
  obtain ⟨f18, p18⟩ := q_p_reads1 (fun _ => 0) (fun _ => 0) (q_uI q_IM 0 39 0) (a &&& 4095) (q_and_lo a 4095) (q_and_hi a 4095 4095)
  obtain ⟨f19, p19⟩ := q_p_reads1 f18 (upd (upd (upd (upd (upd (upd (upd (upd (upd (fun _ => 0) 0 (vp_nar .char ((((48 : Int32) + (((a / 10) / 10) - ((a / 10) / 10) / 10 * 10)).toUInt32 % 65536).toInt32))) 1 (vp_nar .char ((((48 : Int32) + ((a / 10) - (a / 10) / 10 * 10)).toUInt32 % 65536).toInt32))) 2 (vp_nar .char ((((48 : Int32) + (a - a / 10 * 10)).toUInt32 % 65536).toInt32))) 3 32) 4 108) 5 100) 6 97) 7 32) 8 35) (q_uI (q_uI q_IM 0 39 0) 0 35 9) ((a + 1) &&& 4095) (q_and_lo (a + 1) 4095) (q_and_hi (a + 1) 4095 4095)
  refine ⟨0, 10, 10, ⟨(q_cX (q_uA q_AX 35 (upd (upd (upd (upd (upd (upd (upd (upd (upd (upd (fun _ => 0) 2 (vp_nar .byte ((fun j => q_o6.getD j 0) (((((-a) / 100) * 100) - (-a)).toNatClampNeg)))) 1 (vp_nar .byte ((fun j => q_o7.getD j 0) (((((-a) / 100) * 100) - (-a)).toNatClampNeg)))) 0 (vp_nar .byte ((fun j => q_o6.getD j 0) ((-((-a) / 100)).toNatClampNeg)))) 3 32) 4 108) 5 100) 6 97) 7 32) 8 35) 9 48)) (q_uI q_IX 34 3 10) (q_uA q_J0 39 (vp_updL (fun _ => 0) 0 10)), 40, 26520), (q_uA q_J0 39 (vp_updL (fun _ => 0) 0 10)) 39, ?_, rfl, fun _ => rfl, Nat.le_of_ble_eq_true rfl, Nat.le_of_ble_eq_true rfl⟩, ⟨(q_cM (q_uA (q_uA (q_uA q_AM 33 f19) 32 (upd (upd (upd (upd (upd (upd (upd (upd (upd (fun _ => 0) 0 (vp_nar .char ((((48 : Int32) + (((a / 10) / 10) - ((a / 10) / 10) / 10 * 10)).toUInt32 % 65536).toInt32))) 1 (vp_nar .char ((((48 : Int32) + ((a / 10) - (a / 10) / 10 * 10)).toUInt32 % 65536).toInt32))) 2 (vp_nar .char ((((48 : Int32) + (a - a / 10 * 10)).toUInt32 % 65536).toInt32))) 3 32) 4 108) 5 100) 6 97) 7 32) 8 35)) 32 (upd (upd (upd (upd (upd (upd (upd (upd (upd (upd (fun _ => 0) 0 (vp_nar .char ((((48 : Int32) + (((a / 10) / 10) - ((a / 10) / 10) / 10 * 10)).toUInt32 % 65536).toInt32))) 1 (vp_nar .char ((((48 : Int32) + ((a / 10) - (a / 10) / 10 * 10)).toUInt32 % 65536).toInt32))) 2 (vp_nar .char ((((48 : Int32) + (a - a / 10 * 10)).toUInt32 % 65536).toInt32))) 3 32) 4 108) 5 100) 6 97) 7 32) 8 35) 9 48)) (q_uI (q_uI q_IM 0 39 0) 0 35 10) q_J0, 34, 31630), _, ?_, rfl, rfl, Nat.le_of_ble_eq_true rfl, Nat.le_of_ble_eq_true rfl⟩, fun _ => rfl⟩
  · refine q_Ca_of (Nat.le_of_ble_eq_true rfl) ?_
    refine q_Ru_seg (g2 := (4, [(0, .ref 64), (1, .int a), (2, .ref 103)], [.int a, .ref 64, .int 0, .ref 103], (q_cX q_AX q_IX q_J0, 40, 26520))) 4 (fun _ _ => rfl) ?_
    refine q_Ru_call (v := (some (.int 10))) (h2 := (q_cX (q_uA q_AX 35 (upd (upd (upd (upd (upd (upd (upd (upd (upd (upd (fun _ => 0) 2 (vp_nar .byte ((fun j => q_o6.getD j 0) (((((-a) / 100) * 100) - (-a)).toNatClampNeg)))) 1 (vp_nar .byte ((fun j => q_o7.getD j 0) (((((-a) / 100) * 100) - (-a)).toNatClampNeg)))) 0 (vp_nar .byte ((fun j => q_o6.getD j 0) ((-((-a) / 100)).toNatClampNeg)))) 3 32) 4 108) 5 100) 6 97) 7 32) 8 35) 9 48)) (q_uI q_IX 34 3 10) q_J0, 40, 26520)) rfl rfl ?_ ?_
    · refine q_Ca_of (Nat.le_of_ble_eq_true rfl) ?_
      refine q_Ru_seg (g2 := (1, [(0, .ref 64), (1, .int a)], [.int a], (q_cX q_AX q_IX q_J0, 40, 26520))) 1 (fun _ _ => rfl) ?_
      refine q_Ru_call (v := none) (h2 := (q_cX q_AX q_IX q_J0, 40, 26520)) rfl rfl ?_ ?_
      · refine q_Ca_of (Nat.le_of_ble_eq_true rfl) ?_
        refine q_Ru_seg (g2 := (4, [(0, .int a)], [.int 4096, .int a], (q_cX q_AX q_IX q_J0, 40, 26520))) 2 (fun _ _ => rfl) ?_
        refine q_Ru_call (v := none) (h2 := (q_cX q_AX q_IX q_J0, 40, 26520)) rfl rfl ?_ ?_
        · refine q_Ca_of (Nat.le_of_ble_eq_true rfl) ?_
          refine q_Ru_seg (g2 := (1, [(0, .int a), (1, .int 4096)], [.int a], (q_cX q_AX q_IX q_J0, 40, 26520))) 1 (fun _ _ => rfl) ?_
          refine q_Ru_rsF (g2 := (4, [(0, .int a), (1, .int 4096)], [], (q_cX q_AX q_IX q_J0, 40, 26520))) rfl rfl h179 ?_
          refine q_Ru_seg (g2 := (6, [(0, .int a), (1, .int 4096)], [.int 4096, .int a], (q_cX q_AX q_IX q_J0, 40, 26520))) 2 (fun _ _ => rfl) ?_
          refine q_Ru_rsT (g2 := (19, [(0, .int a), (1, .int 4096)], [], (q_cX q_AX q_IX q_J0, 40, 26520))) rfl rfl h180 ?_
          exact q_Ru_ret rfl rfl
        show q_Ru _ _ _ (7, [(0, .int a)], [], (q_cX q_AX q_IX q_J0, 40, 26520)) _
        exact q_Ru_ret rfl rfl
      show q_Ru _ _ _ (4, [(0, .ref 64), (1, .int a)], [], (q_cX q_AX q_IX q_J0, 40, 26520)) _
      exact q_Ru_le (Nat.le_of_ble_eq_true rfl) (q_xc106 L xs a hl_a hu_a h179 h181 h182 h183 h184 h185)
    show q_Ru _ _ _ (7, [(0, .ref 64), (1, .int a), (2, .ref 103)], [.int 10, .int 0, .ref 103], (q_cX (q_uA q_AX 35 (upd (upd (upd (upd (upd (upd (upd (upd (upd (upd (fun _ => 0) 2 (vp_nar .byte ((fun j => q_o6.getD j 0) (((((-a) / 100) * 100) - (-a)).toNatClampNeg)))) 1 (vp_nar .byte ((fun j => q_o7.getD j 0) (((((-a) / 100) * 100) - (-a)).toNatClampNeg)))) 0 (vp_nar .byte ((fun j => q_o6.getD j 0) ((-((-a) / 100)).toNatClampNeg)))) 3 32) 4 108) 5 100) 6 97) 7 32) 8 35) 9 48)) (q_uI q_IX 34 3 10) q_J0, 40, 26520)) _
    generalize (upd (upd (upd (upd (upd (upd (upd (upd (upd (upd (fun _ => 0) 2 (vp_nar .byte ((fun j => q_o6.getD j 0) (((((-a) / 100) * 100) - (-a)).toNatClampNeg)))) 1 (vp_nar .byte ((fun j => q_o7.getD j 0) (((((-a) / 100) * 100) - (-a)).toNatClampNeg)))) 0 (vp_nar .byte ((fun j => q_o6.getD j 0) ((-((-a) / 100)).toNatClampNeg)))) 3 32) 4 108) 5 100) 6 97) 7 32) 8 35) 9 48) = w131
    refine q_Ru_seg (g2 := (16, [(0, .ref 64), (1, .int a), (2, .ref 103)], [.int 0], (q_cX (q_uA q_AX 35 w131) (q_uI q_IX 34 3 10) (q_uA q_J0 39 (vp_updL (fun _ => 0) 0 10)), 40, 26520))) 4 (fun _ _ => rfl) ?_
    exact q_Ru_ret rfl rfl
  · refine q_Ca_of (Nat.le_of_ble_eq_true rfl) ?_
    refine q_Ru_seg (g2 := (2, [(0, .ref 64), (1, .int a)], [.int a, .ref 64], (q_cM q_AM q_IM q_J0, 34, 31630))) 2 (fun _ _ => rfl) ?_
    refine q_Ru_call (v := (some (.int 0))) (h2 := (q_cM q_AM q_IM q_J0, 34, 31630)) rfl rfl ?_ ?_
    · refine q_Ca_of (Nat.le_of_ble_eq_true rfl) ?_
      refine q_Ru_seg (g2 := (5, [(0, .int a)], [.int 4095, .int 0, .int a], (q_cM q_AM q_IM q_J0, 34, 31630))) 3 (fun _ _ => rfl) ?_
      refine q_Ru_call (v := (some (.int 1))) (h2 := (q_cM q_AM q_IM q_J0, 34, 31630)) rfl rfl ?_ ?_
      · refine q_Ca_of (Nat.le_of_ble_eq_true rfl) ?_
        refine q_Ru_seg (g2 := (2, [(0, .int a), (1, .int 0), (2, .int 4095)], [.int 0, .int a], (q_cM q_AM q_IM q_J0, 34, 31630))) 2 (fun _ _ => rfl) ?_
        refine q_Ru_rsF (g2 := (5, [(0, .int a), (1, .int 0), (2, .int 4095)], [], (q_cM q_AM q_IM q_J0, 34, 31630))) rfl rfl h179 ?_
        refine q_Ru_seg (g2 := (7, [(0, .int a), (1, .int 0), (2, .int 4095)], [.int 4095, .int a], (q_cM q_AM q_IM q_J0, 34, 31630))) 2 (fun _ _ => rfl) ?_
        refine q_Ru_rsF (g2 := (10, [(0, .int a), (1, .int 0), (2, .int 4095)], [], (q_cM q_AM q_IM q_J0, 34, 31630))) rfl rfl h186 ?_
        refine q_Ru_seg (g2 := (15, [(0, .int a), (1, .int 0), (2, .int 4095)], [.int 1], (q_cM q_AM q_IM q_J0, 34, 31630))) 2 (fun _ _ => rfl) ?_
        exact q_Ru_ret rfl rfl
      show q_Ru _ _ _ (8, [(0, .int a)], [.int 1], (q_cM q_AM q_IM q_J0, 34, 31630)) _
      refine q_Ru_seg (g2 := (16, [(0, .int a)], [.int 0], (q_cM q_AM q_IM q_J0, 34, 31630))) 2 (fun _ _ => rfl) ?_
      exact q_Ru_ret rfl rfl
    show q_Ru _ _ _ (5, [(0, .ref 64), (1, .int a)], [.int 0, .ref 64], (q_cM q_AM q_IM q_J0, 34, 31630)) _
    refine q_Ru_seg (g2 := (13, [(0, .ref 64), (1, .int a)], [.int 0, .ref 64], (q_cM q_AM q_IM q_J0, 34, 31630))) 2 (fun _ _ => rfl) ?_
    refine q_Ru_call (v := (some (.int 0))) (h2 := (q_cM q_AM (q_uI q_IM 0 39 0) q_J0, 34, 31630)) rfl rfl ?_ ?_
    · refine q_Ca_of (Nat.le_of_ble_eq_true rfl) ?_
      refine q_Ru_seg (g2 := (14, [(0, .ref 64), (1, .int 0)], [.int 0], (q_cM q_AM (q_uI q_IM 0 39 0) q_J0, 34, 31630))) 6 (fun _ _ => rfl) ?_
      exact q_Ru_ret rfl rfl
    show q_Ru _ _ _ (16, [(0, .ref 64), (1, .int a)], [.int 0], (q_cM q_AM (q_uI q_IM 0 39 0) q_J0, 34, 31630)) _
    refine q_Ru_seg (g2 := (23, [(0, .ref 64), (1, .int a)], [.int a, .ref 64], (q_cM q_AM (q_uI q_IM 0 39 0) q_J0, 34, 31630))) 3 (fun _ _ => rfl) ?_
    refine q_Ru_call (v := (some (.int 0))) (h2 := (q_cM (q_uA (q_uA q_AM 33 f18) 32 (fun _ => 0)) (q_uI q_IM 0 39 0) q_J0, 34, 31630)) rfl rfl ?_ ?_
    · refine q_Ca_of (Nat.le_of_ble_eq_true rfl) ?_
      refine q_Ru_seg (g2 := (2, [(0, .ref 64), (1, .int a)], [.int a, .ref 64], (q_cM q_AM (q_uI q_IM 0 39 0) q_J0, 34, 31630))) 2 (fun _ _ => rfl) ?_
      refine q_Ru_call (v := (some (.int (a &&& 4095)))) (h2 := (q_cM q_AM (q_uI q_IM 0 39 0) q_J0, 34, 31630)) rfl rfl ?_ ?_
      · refine q_Ca_of (Nat.le_of_ble_eq_true rfl) ?_
        refine q_Ru_seg (g2 := (5, [(0, .int a)], [.int (a &&& 4095)], (q_cM q_AM (q_uI q_IM 0 39 0) q_J0, 34, 31630))) 3 (fun _ _ => rfl) ?_
        exact q_Ru_ret rfl rfl
      show q_Ru _ _ _ (5, [(0, .ref 64), (1, .int a)], [.int (a &&& 4095), .ref 64], (q_cM q_AM (q_uI q_IM 0 39 0) q_J0, 34, 31630)) _
      refine q_Ru_call (v := (some (.int 0))) (h2 := (q_cM (q_uA (q_uA q_AM 33 f18) 32 (fun _ => 0)) (q_uI q_IM 0 39 0) q_J0, 34, 31630)) rfl rfl ?_ ?_
      · exact p18.le (Nat.le_of_ble_eq_true rfl)
      show q_Ru _ _ _ (8, [(0, .ref 64), (1, .int a)], [.int 0], (q_cM (q_uA (q_uA q_AM 33 f18) 32 (fun _ => 0)) (q_uI q_IM 0 39 0) q_J0, 34, 31630)) _
      exact q_Ru_ret rfl rfl
    show q_Ru _ _ _ (26, [(0, .ref 64), (1, .int a)], [.int 0], (q_cM (q_uA (q_uA q_AM 33 f18) 32 (fun _ => 0)) (q_uI q_IM 0 39 0) q_J0, 34, 31630)) _
    exact q_Ru_le (Nat.le_of_ble_eq_true rfl) (q_xc109 L xs a hl_a hu_a f18 f19 h187 h188 h189 p19)
set_option maxHeartbeats 20000000 in
theorem q_xc155 (L : Nat) (xs : Nat → Int32) (a : Int32) (hl_a : 1000 ≤ a.toInt) (hu_a : a.toInt ≤ 4095) (h190 : decide (a < 0) = false) (h193 : decide ((-100) < -a) = false) (h196 : decide ((-100) < (-a) / 100) = true) (h197 : decide ((-a) / 100 < (-9)) = true) : q_Ru (q_TBs 98 L xs) 1 341 (10, [(2, .int 0), (0, .ref 98), (1, .int a)], [.int 4, .int 0], (q_cX q_AX (q_uI q_IX 34 3 0) q_J0, 40, 26520)) (.inl (some (.ref 98)), (q_cX (q_uA q_AX 35 (upd (upd (upd (upd (fun _ => 0) 3 (vp_nar .byte ((fun j => q_o6.getD j 0) (((((-a) / 100) * 100) - (-a)).toNatClampNeg)))) 2 (vp_nar .byte ((fun j => q_o7.getD j 0) (((((-a) / 100) * 100) - (-a)).toNatClampNeg)))) 1 (vp_nar .byte ((fun j => q_o6.getD j 0) ((-((-a) / 100)).toNatClampNeg)))) 0 (vp_nar .byte ((fun j => q_o7.getD j 0) ((-((-a) / 100)).toNatClampNeg))))) (q_uI q_IX 34 3 4) q_J0, 40, 26520)) := by
  refine q_Ru_seg (g2 := (14, [(3, .int 4), (2, .int 0), (0, .ref 98), (1, .int a)], [.int 4, .ref 98], (q_cX q_AX (q_uI q_IX 34 3 0) q_J0, 40, 26520))) 4 (fun _ _ => rfl) ?_
  refine q_Ru_call (v := none) (h2 := (q_cX q_AX (q_uI q_IX 34 3 0) q_J0, 40, 26520)) rfl rfl ?_ ?_
  · refine q_Ca_of (Nat.le_of_ble_eq_true rfl) ?_
    refine q_Ru_seg (g2 := (9, [(0, .ref 98), (1, .int 4)], [.int 0, .int 16], (q_cX q_AX (q_uI q_IX 34 3 0) q_J0, 40, 26520))) 5 (fun _ _ => rfl) ?_
    refine q_Ru_seg (g2 := (38, [(2, .int 16), (0, .ref 98), (1, .int 4)], [], (q_cX q_AX (q_uI q_IX 34 3 0) q_J0, 40, 26520))) 6 (fun _ _ => rfl) ?_
    exact q_Ru_ret rfl rfl
  show q_Ru _ _ _ (17, [(3, .int 4), (2, .int 0), (0, .ref 98), (1, .int a)], [], (q_cX q_AX (q_uI q_IX 34 3 0) q_J0, 40, 26520)) _
  refine q_Ru_seg (g2 := (18, [(3, .int 4), (2, .int 0), (0, .ref 98), (1, .int a)], [.ref 98], (q_cX q_AX (q_uI q_IX 34 3 0) q_J0, 40, 26520))) 1 (fun _ _ => rfl) ?_
  refine q_Ru_call (v := (some (.int 1))) (h2 := (q_cX q_AX (q_uI q_IX 34 3 0) q_J0, 40, 26520)) rfl rfl ?_ ?_
  · refine q_Ca_of (Nat.le_of_ble_eq_true rfl) ?_
    refine q_Ru_seg (g2 := (10, [(0, .ref 98)], [.int 0], (q_cX q_AX (q_uI q_IX 34 3 0) q_J0, 40, 26520))) 4 (fun _ _ => rfl) ?_
    refine q_Ru_seg (g2 := (18, [(0, .ref 98)], [.int 1], (q_cX q_AX (q_uI q_IX 34 3 0) q_J0, 40, 26520))) 3 (fun _ _ => rfl) ?_
    exact q_Ru_ret rfl rfl
  show q_Ru _ _ _ (21, [(3, .int 4), (2, .int 0), (0, .ref 98), (1, .int a)], [.int 1], (q_cX q_AX (q_uI q_IX 34 3 0) q_J0, 40, 26520)) _
  refine q_Ru_seg (g2 := (30, [(3, .int 4), (2, .int 0), (0, .ref 98), (1, .int a)], [.ref 99, .int 4, .int a], (q_cX q_AX (q_uI q_IX 34 3 0) q_J0, 40, 26520))) 5 (fun _ _ => rfl) ?_
  refine q_Ru_call (v := (some (.int 0))) (h2 := (q_cX (q_uA q_AX 35 (upd (upd (upd (upd (fun _ => 0) 3 (vp_nar .byte ((fun j => q_o6.getD j 0) (((((-a) / 100) * 100) - (-a)).toNatClampNeg)))) 2 (vp_nar .byte ((fun j => q_o7.getD j 0) (((((-a) / 100) * 100) - (-a)).toNatClampNeg)))) 1 (vp_nar .byte ((fun j => q_o6.getD j 0) ((-((-a) / 100)).toNatClampNeg)))) 0 (vp_nar .byte ((fun j => q_o7.getD j 0) ((-((-a) / 100)).toNatClampNeg))))) (q_uI q_IX 34 3 0) q_J0, 40, 26520)) rfl rfl ?_ ?_
  · refine q_Ca_of (Nat.le_of_ble_eq_true rfl) ?_
    refine q_Ru_seg (g2 := (4, [(5, .int 4), (0, .int a), (1, .int 4), (2, .ref 99)], [.int a], (q_cX q_AX (q_uI q_IX 34 3 0) q_J0, 40, 26520))) 3 (fun _ _ => rfl) ?_
    refine q_Ru_rsT (g2 := (11, [(5, .int 4), (0, .int a), (1, .int 4), (2, .ref 99)], [], (q_cX q_AX (q_uI q_IX 34 3 0) q_J0, 40, 26520))) rfl rfl (q_d_geF h190) ?_
    refine q_Ru_seg (g2 := (25, [(0, .int (-a)), (6, .int 0), (5, .int 4), (1, .int 4), (2, .ref 99)], [.int (-100), .int (-a)], (q_cX q_AX (q_uI q_IX 34 3 0) q_J0, 40, 26520))) 9 (fun _ _ => rfl) ?_
    refine q_Ru_rsF (g2 := (28, [(0, .int (-a)), (6, .int 0), (5, .int 4), (1, .int 4), (2, .ref 99)], [], (q_cX q_AX (q_uI q_IX 34 3 0) q_J0, 40, 26520))) rfl rfl h193 ?_
    refine q_Ru_seg (g2 := (54, [(5, .int 3), (0, .int ((-a) / 100)), (4, .int ((((-a) / 100) * 100) - (-a))), (3, .int ((-a) / 100)), (6, .int 0), (1, .int 4), (2, .ref 99)], [.int ((((-a) / 100) * 100) - (-a)), .ref 6, .int 3, .ref 99], (q_cX q_AX (q_uI q_IX 34 3 0) q_J0, 40, 26520))) 17 (fun _ _ => rfl) ?_
    refine q_Ru_rsT (g2 := (55, [(5, .int 3), (0, .int ((-a) / 100)), (4, .int ((((-a) / 100) * 100) - (-a))), (3, .int ((-a) / 100)), (6, .int 0), (1, .int 4), (2, .ref 99)], [.int ((fun j => q_o6.getD j 0) (((((-a) / 100) * 100) - (-a)).toNatClampNeg)), .int 3, .ref 99], (q_cX q_AX (q_uI q_IX 34 3 0) q_J0, 40, 26520))) rfl rfl (q_tbl1 (fun a => q_in ((((-a) / 100) * 100) - (-a)) 100) (l := 1000) (n := 3095) (by decide +kernel) hl_a hu_a) ?_
    generalize ((fun j => q_o6.getD j 0) (((((-a) / 100) * 100) - (-a)).toNatClampNeg)) = y199
    refine q_Ru_seg (g2 := (67, [(5, .int 2), (0, .int ((-a) / 100)), (4, .int ((((-a) / 100) * 100) - (-a))), (3, .int ((-a) / 100)), (6, .int 0), (1, .int 4), (2, .ref 99)], [.int ((((-a) / 100) * 100) - (-a)), .ref 7, .int 2, .ref 99], (q_cX (q_uA q_AX 35 (upd (fun _ => 0) 3 (vp_nar .byte y199))) (q_uI q_IX 34 3 0) q_J0, 40, 26520))) 6 (fun _ _ => rfl) ?_
    refine q_Ru_rsT (g2 := (68, [(5, .int 2), (0, .int ((-a) / 100)), (4, .int ((((-a) / 100) * 100) - (-a))), (3, .int ((-a) / 100)), (6, .int 0), (1, .int 4), (2, .ref 99)], [.int ((fun j => q_o7.getD j 0) (((((-a) / 100) * 100) - (-a)).toNatClampNeg)), .int 2, .ref 99], (q_cX (q_uA q_AX 35 (upd (fun _ => 0) 3 (vp_nar .byte y199))) (q_uI q_IX 34 3 0) q_J0, 40, 26520))) rfl rfl (q_tbl1 (fun a => q_in ((((-a) / 100) * 100) - (-a)) 100) (l := 1000) (n := 3095) (by decide +kernel) hl_a hu_a) ?_
    generalize ((fun j => q_o7.getD j 0) (((((-a) / 100) * 100) - (-a)).toNatClampNeg)) = y200
    refine q_Ru_seg (g2 := (25, [(5, .int 2), (0, .int ((-a) / 100)), (4, .int ((((-a) / 100) * 100) - (-a))), (3, .int ((-a) / 100)), (6, .int 0), (1, .int 4), (2, .ref 99)], [.int (-100), .int ((-a) / 100)], (q_cX (q_uA q_AX 35 (upd (upd (fun _ => 0) 3 (vp_nar .byte y199)) 2 (vp_nar .byte y200))) (q_uI q_IX 34 3 0) q_J0, 40, 26520))) 4 (fun _ _ => rfl) ?_
    refine q_Ru_rsT (g2 := (72, [(5, .int 2), (0, .int ((-a) / 100)), (4, .int ((((-a) / 100) * 100) - (-a))), (3, .int ((-a) / 100)), (6, .int 0), (1, .int 4), (2, .ref 99)], [], (q_cX (q_uA q_AX 35 (upd (upd (fun _ => 0) 3 (vp_nar .byte y199)) 2 (vp_nar .byte y200))) (q_uI q_IX 34 3 0) q_J0, 40, 26520))) rfl rfl h196 ?_
    refine q_Ru_seg (g2 := (83, [(5, .int 1), (0, .int ((-a) / 100)), (4, .int ((((-a) / 100) * 100) - (-a))), (3, .int ((-a) / 100)), (6, .int 0), (1, .int 4), (2, .ref 99)], [.int (-((-a) / 100)), .ref 6, .int 1, .ref 99], (q_cX (q_uA q_AX 35 (upd (upd (fun _ => 0) 3 (vp_nar .byte y199)) 2 (vp_nar .byte y200))) (q_uI q_IX 34 3 0) q_J0, 40, 26520))) 6 (fun _ _ => rfl) ?_
    refine q_Ru_rsT (g2 := (84, [(5, .int 1), (0, .int ((-a) / 100)), (4, .int ((((-a) / 100) * 100) - (-a))), (3, .int ((-a) / 100)), (6, .int 0), (1, .int 4), (2, .ref 99)], [.int ((fun j => q_o6.getD j 0) ((-((-a) / 100)).toNatClampNeg)), .int 1, .ref 99], (q_cX (q_uA q_AX 35 (upd (upd (fun _ => 0) 3 (vp_nar .byte y199)) 2 (vp_nar .byte y200))) (q_uI q_IX 34 3 0) q_J0, 40, 26520))) rfl rfl (q_tbl1 (fun a => q_in (-((-a) / 100)) 100) (l := 1000) (n := 3095) (by decide +kernel) hl_a hu_a) ?_
    generalize ((fun j => q_o6.getD j 0) ((-((-a) / 100)).toNatClampNeg)) = y201
    refine q_Ru_seg (g2 := (88, [(5, .int 1), (0, .int ((-a) / 100)), (4, .int ((((-a) / 100) * 100) - (-a))), (3, .int ((-a) / 100)), (6, .int 0), (1, .int 4), (2, .ref 99)], [.int (-9), .int ((-a) / 100)], (q_cX (q_uA q_AX 35 (upd (upd (upd (fun _ => 0) 3 (vp_nar .byte y199)) 2 (vp_nar .byte y200)) 1 (vp_nar .byte y201))) (q_uI q_IX 34 3 0) q_J0, 40, 26520))) 3 (fun _ _ => rfl) ?_
    refine q_Ru_rsF (g2 := (91, [(5, .int 1), (0, .int ((-a) / 100)), (4, .int ((((-a) / 100) * 100) - (-a))), (3, .int ((-a) / 100)), (6, .int 0), (1, .int 4), (2, .ref 99)], [], (q_cX (q_uA q_AX 35 (upd (upd (upd (fun _ => 0) 3 (vp_nar .byte y199)) 2 (vp_nar .byte y200)) 1 (vp_nar .byte y201))) (q_uI q_IX 34 3 0) q_J0, 40, 26520))) rfl rfl (q_d_geT h197) ?_
    refine q_Ru_seg (g2 := (102, [(5, .int 0), (0, .int ((-a) / 100)), (4, .int ((((-a) / 100) * 100) - (-a))), (3, .int ((-a) / 100)), (6, .int 0), (1, .int 4), (2, .ref 99)], [.int (-((-a) / 100)), .ref 7, .int 0, .ref 99], (q_cX (q_uA q_AX 35 (upd (upd (upd (fun _ => 0) 3 (vp_nar .byte y199)) 2 (vp_nar .byte y200)) 1 (vp_nar .byte y201))) (q_uI q_IX 34 3 0) q_J0, 40, 26520))) 6 (fun _ _ => rfl) ?_
    refine q_Ru_rsT (g2 := (103, [(5, .int 0), (0, .int ((-a) / 100)), (4, .int ((((-a) / 100) * 100) - (-a))), (3, .int ((-a) / 100)), (6, .int 0), (1, .int 4), (2, .ref 99)], [.int ((fun j => q_o7.getD j 0) ((-((-a) / 100)).toNatClampNeg)), .int 0, .ref 99], (q_cX (q_uA q_AX 35 (upd (upd (upd (fun _ => 0) 3 (vp_nar .byte y199)) 2 (vp_nar .byte y200)) 1 (vp_nar .byte y201))) (q_uI q_IX 34 3 0) q_J0, 40, 26520))) rfl rfl (q_tbl1 (fun a => q_in (-((-a) / 100)) 100) (l := 1000) (n := 3095) (by decide +kernel) hl_a hu_a) ?_
    generalize ((fun j => q_o7.getD j 0) ((-((-a) / 100)).toNatClampNeg)) = y202
    refine q_Ru_seg (g2 := (120, [(5, .int 0), (0, .int ((-a) / 100)), (4, .int ((((-a) / 100) * 100) - (-a))), (3, .int ((-a) / 100)), (6, .int 0), (1, .int 4), (2, .ref 99)], [.int 0], (q_cX (q_uA q_AX 35 (upd (upd (upd (upd (fun _ => 0) 3 (vp_nar .byte y199)) 2 (vp_nar .byte y200)) 1 (vp_nar .byte y201)) 0 (vp_nar .byte y202))) (q_uI q_IX 34 3 0) q_J0, 40, 26520))) 4 (fun _ _ => rfl) ?_
    exact q_Ru_ret rfl rfl
  show q_Ru _ _ _ (33, [(3, .int 4), (2, .int 0), (0, .ref 98), (1, .int a)], [.int 0], (q_cX (q_uA q_AX 35 (upd (upd (upd (upd (fun _ => 0) 3 (vp_nar .byte ((fun j => q_o6.getD j 0) (((((-a) / 100) * 100) - (-a)).toNatClampNeg)))) 2 (vp_nar .byte ((fun j => q_o7.getD j 0) (((((-a) / 100) * 100) - (-a)).toNatClampNeg)))) 1 (vp_nar .byte ((fun j => q_o6.getD j 0) ((-((-a) / 100)).toNatClampNeg)))) 0 (vp_nar .byte ((fun j => q_o7.getD j 0) ((-((-a) / 100)).toNatClampNeg))))) (q_uI q_IX 34 3 0) q_J0, 40, 26520)) _
  generalize (upd (upd (upd (upd (fun _ => 0) 3 (vp_nar .byte ((fun j => q_o6.getD j 0) (((((-a) / 100) * 100) - (-a)).toNatClampNeg)))) 2 (vp_nar .byte ((fun j => q_o7.getD j 0) (((((-a) / 100) * 100) - (-a)).toNatClampNeg)))) 1 (vp_nar .byte ((fun j => q_o6.getD j 0) ((-((-a) / 100)).toNatClampNeg)))) 0 (vp_nar .byte ((fun j => q_o7.getD j 0) ((-((-a) / 100)).toNatClampNeg)))) = w203
  refine q_Ru_seg (g2 := (54, [(3, .int 4), (2, .int 0), (0, .ref 98), (1, .int a)], [.ref 98], (q_cX (q_uA q_AX 35 w203) (q_uI q_IX 34 3 4) q_J0, 40, 26520))) 6 (fun _ _ => rfl) ?_
  exact q_Ru_ret rfl rfl
set_option maxHeartbeats 20000000 in
theorem q_xc156 (L : Nat) (xs : Nat → Int32) (a : Int32) (hl_a : 1000 ≤ a.toInt) (hu_a : a.toInt ≤ 4095) (w205 : Nat → Int32) : q_Ru (q_TBs 98 L xs) 4 194 (81, [(5, .int 1), (4, .int 0), (3, .ref 12), (2, .int 0), (0, .ref 98), (1, .int 0)], [.ref 98], (q_cX (q_uA q_AX 35 (upd (upd (upd w205 4 32) 5 108) 6 100)) (q_uI q_IX 34 3 7) q_J0, 40, 26520)) (.inl none, (q_cX (q_uA q_AX 35 (upd (upd (upd (upd w205 4 32) 5 108) 6 100) 7 97)) (q_uI q_IX 34 3 8) q_J0, 40, 26520)) := by
  refine q_Ru_seg (g2 := (75, [(5, .int 2), (4, .int 0), (3, .ref 12), (2, .int 0), (0, .ref 98), (1, .int 0)], [.int 2, .ref 12, .ref 98], (q_cX (q_uA q_AX 35 (upd (upd (upd w205 4 32) 5 108) 6 100)) (q_uI q_IX 34 3 7) q_J0, 40, 26520))) 11 (fun _ _ => rfl) ?_
  refine q_Ru_call (v := (some (.int 97))) (h2 := (q_cX (q_uA q_AX 35 (upd (upd (upd w205 4 32) 5 108) 6 100)) (q_uI q_IX 34 3 7) q_J0, 40, 26520)) rfl rfl ?_ ?_
  · refine q_Ca_of (Nat.le_of_ble_eq_true rfl) ?_
    refine q_Ru_seg (g2 := (1, [(0, .ref 12), (1, .int 2)], [.ref 12], (q_cX (q_uA q_AX 35 (upd (upd (upd w205 4 32) 5 108) 6 100)) (q_uI q_IX 34 3 7) q_J0, 40, 26520))) 1 (fun _ _ => rfl) ?_
    refine q_Ru_call (v := (some (.int 1))) (h2 := (q_cX (q_uA q_AX 35 (upd (upd (upd w205 4 32) 5 108) 6 100)) (q_uI q_IX 34 3 7) q_J0, 40, 26520)) rfl rfl ?_ ?_
    · refine q_Ca_of (Nat.le_of_ble_eq_true rfl) ?_
      refine q_Ru_seg (g2 := (18, [(0, .ref 12)], [.int 1], (q_cX (q_uA q_AX 35 (upd (upd (upd w205 4 32) 5 108) 6 100)) (q_uI q_IX 34 3 7) q_J0, 40, 26520))) 7 (fun _ _ => rfl) ?_
      exact q_Ru_ret rfl rfl
    show q_Ru _ _ _ (4, [(0, .ref 12), (1, .int 2)], [.int 1], (q_cX (q_uA q_AX 35 (upd (upd (upd w205 4 32) 5 108) 6 100)) (q_uI q_IX 34 3 7) q_J0, 40, 26520)) _
    refine q_Ru_seg (g2 := (12, [(0, .ref 12), (1, .int 2)], [.int 2, .ref 40], (q_cX (q_uA q_AX 35 (upd (upd (upd w205 4 32) 5 108) 6 100)) (q_uI q_IX 34 3 7) q_J0, 40, 26520))) 4 (fun _ _ => rfl) ?_
    refine q_Ru_call (v := (some (.int 97))) (h2 := (q_cX (q_uA q_AX 35 (upd (upd (upd w205 4 32) 5 108) 6 100)) (q_uI q_IX 34 3 7) q_J0, 40, 26520)) rfl rfl ?_ ?_
    · refine q_Ca_of (Nat.le_of_ble_eq_true rfl) ?_
      refine q_Ru_seg (g2 := (3, [(0, .ref 40), (1, .int 2)], [.int 63, .int 2], (q_cX (q_uA q_AX 35 (upd (upd (upd w205 4 32) 5 108) 6 100)) (q_uI q_IX 34 3 7) q_J0, 40, 26520))) 3 (fun _ _ => rfl) ?_
      refine q_Ru_call (v := none) (h2 := (q_cX (q_uA q_AX 35 (upd (upd (upd w205 4 32) 5 108) 6 100)) (q_uI q_IX 34 3 7) q_J0, 40, 26520)) rfl rfl ?_ ?_
      · refine q_Ca_of (Nat.le_of_ble_eq_true rfl) ?_
        refine q_Ru_seg (g2 := (5, [(0, .int 2), (1, .int 63)], [.null, .int 63, .int 2], (q_cX (q_uA q_AX 35 (upd (upd (upd w205 4 32) 5 108) 6 100)) (q_uI q_IX 34 3 7) q_J0, 40, 26520))) 3 (fun _ _ => rfl) ?_
        refine q_Ru_call (v := (some (.int 2))) (h2 := (q_cX (q_uA q_AX 35 (upd (upd (upd w205 4 32) 5 108) 6 100)) (q_uI q_IX 34 3 7) q_J0, 40, 26520)) rfl rfl ?_ ?_
        · refine q_Ca_of (Nat.le_of_ble_eq_true rfl) ?_
          refine q_Ru_seg (g2 := (17, [(0, .int 2), (1, .int 63), (2, .null)], [.int 2], (q_cX (q_uA q_AX 35 (upd (upd (upd w205 4 32) 5 108) 6 100)) (q_uI q_IX 34 3 7) q_J0, 40, 26520))) 6 (fun _ _ => rfl) ?_
          exact q_Ru_ret rfl rfl
        show q_Ru _ _ _ (8, [(0, .int 2), (1, .int 63)], [.int 2], (q_cX (q_uA q_AX 35 (upd (upd (upd w205 4 32) 5 108) 6 100)) (q_uI q_IX 34 3 7) q_J0, 40, 26520)) _
        refine q_Ru_seg (g2 := (9, [(0, .int 2), (1, .int 63)], [], (q_cX (q_uA q_AX 35 (upd (upd (upd w205 4 32) 5 108) 6 100)) (q_uI q_IX 34 3 7) q_J0, 40, 26520))) 1 (fun _ _ => rfl) ?_
        exact q_Ru_ret rfl rfl
      show q_Ru _ _ _ (6, [(0, .ref 40), (1, .int 2)], [], (q_cX (q_uA q_AX 35 (upd (upd (upd w205 4 32) 5 108) 6 100)) (q_uI q_IX 34 3 7) q_J0, 40, 26520)) _
      refine q_Ru_seg (g2 := (9, [(0, .ref 40), (1, .int 2)], [.int 97], (q_cX (q_uA q_AX 35 (upd (upd (upd w205 4 32) 5 108) 6 100)) (q_uI q_IX 34 3 7) q_J0, 40, 26520))) 3 (fun _ _ => rfl) ?_
      refine q_Ru_seg (g2 := (14, [(0, .ref 40), (1, .int 2)], [.int 97], (q_cX (q_uA q_AX 35 (upd (upd (upd w205 4 32) 5 108) 6 100)) (q_uI q_IX 34 3 7) q_J0, 40, 26520))) 3 (fun _ _ => rfl) ?_
      exact q_Ru_ret rfl rfl
    show q_Ru _ _ _ (15, [(0, .ref 12), (1, .int 2)], [.int 97], (q_cX (q_uA q_AX 35 (upd (upd (upd w205 4 32) 5 108) 6 100)) (q_uI q_IX 34 3 7) q_J0, 40, 26520)) _
    exact q_Ru_ret rfl rfl
  show q_Ru _ _ _ (78, [(5, .int 2), (4, .int 0), (3, .ref 12), (2, .int 0), (0, .ref 98), (1, .int 0)], [.int 97, .ref 98], (q_cX (q_uA q_AX 35 (upd (upd (upd w205 4 32) 5 108) 6 100)) (q_uI q_IX 34 3 7) q_J0, 40, 26520)) _
  refine q_Ru_call (v := (some (.ref 98))) (h2 := (q_cX (q_uA q_AX 35 (upd (upd (upd (upd w205 4 32) 5 108) 6 100) 7 97)) (q_uI q_IX 34 3 8) q_J0, 40, 26520)) rfl rfl ?_ ?_
  · refine q_Ca_of (Nat.le_of_ble_eq_true rfl) ?_
    refine q_Ru_seg (g2 := (2, [(0, .ref 98), (1, .int 97)], [.int 97, .ref 98], (q_cX (q_uA q_AX 35 (upd (upd (upd w205 4 32) 5 108) 6 100)) (q_uI q_IX 34 3 7) q_J0, 40, 26520))) 2 (fun _ _ => rfl) ?_
    refine q_Ru_call (v := (some (.ref 98))) (h2 := (q_cX (q_uA q_AX 35 (upd (upd (upd (upd w205 4 32) 5 108) 6 100) 7 97)) (q_uI q_IX 34 3 8) q_J0, 40, 26520)) rfl rfl ?_ ?_
    · refine q_Ca_of (Nat.le_of_ble_eq_true rfl) ?_
      refine q_Ru_seg (g2 := (5, [(0, .ref 98), (1, .int 97)], [.int 7, .ref 98], (q_cX (q_uA q_AX 35 (upd (upd (upd w205 4 32) 5 108) 6 100)) (q_uI q_IX 34 3 7) q_J0, 40, 26520))) 3 (fun _ _ => rfl) ?_
      refine q_Ru_seg (g2 := (7, [(0, .ref 98), (1, .int 97)], [.int 8, .ref 98], (q_cX (q_uA q_AX 35 (upd (upd (upd w205 4 32) 5 108) 6 100)) (q_uI q_IX 34 3 7) q_J0, 40, 26520))) 2 (fun _ _ => rfl) ?_
      refine q_Ru_call (v := none) (h2 := (q_cX (q_uA q_AX 35 (upd (upd (upd w205 4 32) 5 108) 6 100)) (q_uI q_IX 34 3 7) q_J0, 40, 26520)) rfl rfl ?_ ?_
      · refine q_Ca_of (Nat.le_of_ble_eq_true rfl) ?_
        refine q_Ru_seg (g2 := (9, [(0, .ref 98), (1, .int 8)], [.int 0, .int 16], (q_cX (q_uA q_AX 35 (upd (upd (upd w205 4 32) 5 108) 6 100)) (q_uI q_IX 34 3 7) q_J0, 40, 26520))) 5 (fun _ _ => rfl) ?_
        refine q_Ru_seg (g2 := (38, [(2, .int 16), (0, .ref 98), (1, .int 8)], [], (q_cX (q_uA q_AX 35 (upd (upd (upd w205 4 32) 5 108) 6 100)) (q_uI q_IX 34 3 7) q_J0, 40, 26520))) 6 (fun _ _ => rfl) ?_
        exact q_Ru_ret rfl rfl
      show q_Ru _ _ _ (10, [(0, .ref 98), (1, .int 97)], [], (q_cX (q_uA q_AX 35 (upd (upd (upd w205 4 32) 5 108) 6 100)) (q_uI q_IX 34 3 7) q_J0, 40, 26520)) _
      refine q_Ru_seg (g2 := (11, [(0, .ref 98), (1, .int 97)], [.ref 98], (q_cX (q_uA q_AX 35 (upd (upd (upd w205 4 32) 5 108) 6 100)) (q_uI q_IX 34 3 7) q_J0, 40, 26520))) 1 (fun _ _ => rfl) ?_
      refine q_Ru_call (v := (some (.int 1))) (h2 := (q_cX (q_uA q_AX 35 (upd (upd (upd w205 4 32) 5 108) 6 100)) (q_uI q_IX 34 3 7) q_J0, 40, 26520)) rfl rfl ?_ ?_
      · refine q_Ca_of (Nat.le_of_ble_eq_true rfl) ?_
        refine q_Ru_seg (g2 := (10, [(0, .ref 98)], [.int 0], (q_cX (q_uA q_AX 35 (upd (upd (upd w205 4 32) 5 108) 6 100)) (q_uI q_IX 34 3 7) q_J0, 40, 26520))) 4 (fun _ _ => rfl) ?_
        refine q_Ru_seg (g2 := (18, [(0, .ref 98)], [.int 1], (q_cX (q_uA q_AX 35 (upd (upd (upd w205 4 32) 5 108) 6 100)) (q_uI q_IX 34 3 7) q_J0, 40, 26520))) 3 (fun _ _ => rfl) ?_
        exact q_Ru_ret rfl rfl
      show q_Ru _ _ _ (14, [(0, .ref 98), (1, .int 97)], [.int 1], (q_cX (q_uA q_AX 35 (upd (upd (upd w205 4 32) 5 108) 6 100)) (q_uI q_IX 34 3 7) q_J0, 40, 26520)) _
      refine q_Ru_seg (g2 := (18, [(0, .ref 98), (1, .int 97)], [.int 97], (q_cX (q_uA q_AX 35 (upd (upd (upd w205 4 32) 5 108) 6 100)) (q_uI q_IX 34 3 7) q_J0, 40, 26520))) 2 (fun _ _ => rfl) ?_
      refine q_Ru_call (v := (some (.int 1))) (h2 := (q_cX (q_uA q_AX 35 (upd (upd (upd w205 4 32) 5 108) 6 100)) (q_uI q_IX 34 3 7) q_J0, 40, 26520)) rfl rfl ?_ ?_
      · refine q_Ca_of (Nat.le_of_ble_eq_true rfl) ?_
        refine q_Ru_seg (g2 := (12, [(0, .int 97)], [.int 1], (q_cX (q_uA q_AX 35 (upd (upd (upd w205 4 32) 5 108) 6 100)) (q_uI q_IX 34 3 7) q_J0, 40, 26520))) 5 (fun _ _ => rfl) ?_
        exact q_Ru_ret rfl rfl
      show q_Ru _ _ _ (21, [(0, .ref 98), (1, .int 97)], [.int 1], (q_cX (q_uA q_AX 35 (upd (upd (upd w205 4 32) 5 108) 6 100)) (q_uI q_IX 34 3 7) q_J0, 40, 26520)) _
      refine q_Ru_seg (g2 := (33, [(0, .ref 98), (1, .int 97)], [.int 7, .ref 98, .ref 99], (q_cX (q_uA q_AX 35 (upd (upd (upd w205 4 32) 5 108) 6 100)) (q_uI q_IX 34 3 7) q_J0, 40, 26520))) 6 (fun _ _ => rfl) ?_
      refine q_Ru_seg (g2 := (76, [(0, .ref 98), (1, .int 97)], [.ref 98], (q_cX (q_uA q_AX 35 (upd (upd (upd (upd w205 4 32) 5 108) 6 100) 7 97)) (q_uI q_IX 34 3 8) q_J0, 40, 26520))) 9 (fun _ _ => rfl) ?_
      exact q_Ru_ret rfl rfl
    show q_Ru _ _ _ (5, [(0, .ref 98), (1, .int 97)], [.ref 98], (q_cX (q_uA q_AX 35 (upd (upd (upd (upd w205 4 32) 5 108) 6 100) 7 97)) (q_uI q_IX 34 3 8) q_J0, 40, 26520)) _
    refine q_Ru_seg (g2 := (7, [(0, .ref 98), (1, .int 97)], [.ref 98], (q_cX (q_uA q_AX 35 (upd (upd (upd (upd w205 4 32) 5 108) 6 100) 7 97)) (q_uI q_IX 34 3 8) q_J0, 40, 26520))) 2 (fun _ _ => rfl) ?_
    exact q_Ru_ret rfl rfl
  show q_Ru _ _ _ (81, [(5, .int 2), (4, .int 0), (3, .ref 12), (2, .int 0), (0, .ref 98), (1, .int 0)], [.ref 98], (q_cX (q_uA q_AX 35 (upd (upd (upd (upd w205 4 32) 5 108) 6 100) 7 97)) (q_uI q_IX 34 3 8) q_J0, 40, 26520)) _
  refine q_Ru_seg (g2 := (88, [(5, .int 3), (4, .int 0), (3, .ref 12), (2, .int 0), (0, .ref 98), (1, .int 0)], [], (q_cX (q_uA q_AX 35 (upd (upd (upd (upd w205 4 32) 5 108) 6 100) 7 97)) (q_uI q_IX 34 3 8) q_J0, 40, 26520))) 8 (fun _ _ => rfl) ?_
  exact q_Ru_ret rfl rfl
set_option maxHeartbeats 20000000 in
theorem q_xc157 (L : Nat) (xs : Nat → Int32) (a : Int32) (hl_a : 1000 ≤ a.toInt) (hu_a : a.toInt ≤ 4095) (w205 : Nat → Int32) : q_Ru (q_TBs 98 L xs) 4 194 (81, [(5, .int 0), (4, .int 0), (3, .ref 12), (2, .int 0), (0, .ref 98), (1, .int 0)], [.ref 98], (q_cX (q_uA q_AX 35 (upd (upd w205 4 32) 5 108)) (q_uI q_IX 34 3 6) q_J0, 40, 26520)) (.inl none, (q_cX (q_uA q_AX 35 (upd (upd (upd (upd w205 4 32) 5 108) 6 100) 7 97)) (q_uI q_IX 34 3 8) q_J0, 40, 26520)) := by
  refine q_Ru_seg (g2 := (75, [(5, .int 1), (4, .int 0), (3, .ref 12), (2, .int 0), (0, .ref 98), (1, .int 0)], [.int 1, .ref 12, .ref 98], (q_cX (q_uA q_AX 35 (upd (upd w205 4 32) 5 108)) (q_uI q_IX 34 3 6) q_J0, 40, 26520))) 11 (fun _ _ => rfl) ?_
  refine q_Ru_call (v := (some (.int 100))) (h2 := (q_cX (q_uA q_AX 35 (upd (upd w205 4 32) 5 108)) (q_uI q_IX 34 3 6) q_J0, 40, 26520)) rfl rfl ?_ ?_
  · refine q_Ca_of (Nat.le_of_ble_eq_true rfl) ?_
    refine q_Ru_seg (g2 := (1, [(0, .ref 12), (1, .int 1)], [.ref 12], (q_cX (q_uA q_AX 35 (upd (upd w205 4 32) 5 108)) (q_uI q_IX 34 3 6) q_J0, 40, 26520))) 1 (fun _ _ => rfl) ?_
    refine q_Ru_call (v := (some (.int 1))) (h2 := (q_cX (q_uA q_AX 35 (upd (upd w205 4 32) 5 108)) (q_uI q_IX 34 3 6) q_J0, 40, 26520)) rfl rfl ?_ ?_
    · refine q_Ca_of (Nat.le_of_ble_eq_true rfl) ?_
      refine q_Ru_seg (g2 := (18, [(0, .ref 12)], [.int 1], (q_cX (q_uA q_AX 35 (upd (upd w205 4 32) 5 108)) (q_uI q_IX 34 3 6) q_J0, 40, 26520))) 7 (fun _ _ => rfl) ?_
      exact q_Ru_ret rfl rfl
    show q_Ru _ _ _ (4, [(0, .ref 12), (1, .int 1)], [.int 1], (q_cX (q_uA q_AX 35 (upd (upd w205 4 32) 5 108)) (q_uI q_IX 34 3 6) q_J0, 40, 26520)) _
    refine q_Ru_seg (g2 := (12, [(0, .ref 12), (1, .int 1)], [.int 1, .ref 40], (q_cX (q_uA q_AX 35 (upd (upd w205 4 32) 5 108)) (q_uI q_IX 34 3 6) q_J0, 40, 26520))) 4 (fun _ _ => rfl) ?_
    refine q_Ru_call (v := (some (.int 100))) (h2 := (q_cX (q_uA q_AX 35 (upd (upd w205 4 32) 5 108)) (q_uI q_IX 34 3 6) q_J0, 40, 26520)) rfl rfl ?_ ?_
    · refine q_Ca_of (Nat.le_of_ble_eq_true rfl) ?_
      refine q_Ru_seg (g2 := (3, [(0, .ref 40), (1, .int 1)], [.int 63, .int 1], (q_cX (q_uA q_AX 35 (upd (upd w205 4 32) 5 108)) (q_uI q_IX 34 3 6) q_J0, 40, 26520))) 3 (fun _ _ => rfl) ?_
      refine q_Ru_call (v := none) (h2 := (q_cX (q_uA q_AX 35 (upd (upd w205 4 32) 5 108)) (q_uI q_IX 34 3 6) q_J0, 40, 26520)) rfl rfl ?_ ?_
      · refine q_Ca_of (Nat.le_of_ble_eq_true rfl) ?_
        refine q_Ru_seg (g2 := (5, [(0, .int 1), (1, .int 63)], [.null, .int 63, .int 1], (q_cX (q_uA q_AX 35 (upd (upd w205 4 32) 5 108)) (q_uI q_IX 34 3 6) q_J0, 40, 26520))) 3 (fun _ _ => rfl) ?_
        refine q_Ru_call (v := (some (.int 1))) (h2 := (q_cX (q_uA q_AX 35 (upd (upd w205 4 32) 5 108)) (q_uI q_IX 34 3 6) q_J0, 40, 26520)) rfl rfl ?_ ?_
        · refine q_Ca_of (Nat.le_of_ble_eq_true rfl) ?_
          refine q_Ru_seg (g2 := (17, [(0, .int 1), (1, .int 63), (2, .null)], [.int 1], (q_cX (q_uA q_AX 35 (upd (upd w205 4 32) 5 108)) (q_uI q_IX 34 3 6) q_J0, 40, 26520))) 6 (fun _ _ => rfl) ?_
          exact q_Ru_ret rfl rfl
        show q_Ru _ _ _ (8, [(0, .int 1), (1, .int 63)], [.int 1], (q_cX (q_uA q_AX 35 (upd (upd w205 4 32) 5 108)) (q_uI q_IX 34 3 6) q_J0, 40, 26520)) _
        refine q_Ru_seg (g2 := (9, [(0, .int 1), (1, .int 63)], [], (q_cX (q_uA q_AX 35 (upd (upd w205 4 32) 5 108)) (q_uI q_IX 34 3 6) q_J0, 40, 26520))) 1 (fun _ _ => rfl) ?_
        exact q_Ru_ret rfl rfl
      show q_Ru _ _ _ (6, [(0, .ref 40), (1, .int 1)], [], (q_cX (q_uA q_AX 35 (upd (upd w205 4 32) 5 108)) (q_uI q_IX 34 3 6) q_J0, 40, 26520)) _
      refine q_Ru_seg (g2 := (9, [(0, .ref 40), (1, .int 1)], [.int 100], (q_cX (q_uA q_AX 35 (upd (upd w205 4 32) 5 108)) (q_uI q_IX 34 3 6) q_J0, 40, 26520))) 3 (fun _ _ => rfl) ?_
      refine q_Ru_seg (g2 := (14, [(0, .ref 40), (1, .int 1)], [.int 100], (q_cX (q_uA q_AX 35 (upd (upd w205 4 32) 5 108)) (q_uI q_IX 34 3 6) q_J0, 40, 26520))) 3 (fun _ _ => rfl) ?_
      exact q_Ru_ret rfl rfl
    show q_Ru _ _ _ (15, [(0, .ref 12), (1, .int 1)], [.int 100], (q_cX (q_uA q_AX 35 (upd (upd w205 4 32) 5 108)) (q_uI q_IX 34 3 6) q_J0, 40, 26520)) _
    exact q_Ru_ret rfl rfl
  show q_Ru _ _ _ (78, [(5, .int 1), (4, .int 0), (3, .ref 12), (2, .int 0), (0, .ref 98), (1, .int 0)], [.int 100, .ref 98], (q_cX (q_uA q_AX 35 (upd (upd w205 4 32) 5 108)) (q_uI q_IX 34 3 6) q_J0, 40, 26520)) _
  refine q_Ru_call (v := (some (.ref 98))) (h2 := (q_cX (q_uA q_AX 35 (upd (upd (upd w205 4 32) 5 108) 6 100)) (q_uI q_IX 34 3 7) q_J0, 40, 26520)) rfl rfl ?_ ?_
  · refine q_Ca_of (Nat.le_of_ble_eq_true rfl) ?_
    refine q_Ru_seg (g2 := (2, [(0, .ref 98), (1, .int 100)], [.int 100, .ref 98], (q_cX (q_uA q_AX 35 (upd (upd w205 4 32) 5 108)) (q_uI q_IX 34 3 6) q_J0, 40, 26520))) 2 (fun _ _ => rfl) ?_
    refine q_Ru_call (v := (some (.ref 98))) (h2 := (q_cX (q_uA q_AX 35 (upd (upd (upd w205 4 32) 5 108) 6 100)) (q_uI q_IX 34 3 7) q_J0, 40, 26520)) rfl rfl ?_ ?_
    · refine q_Ca_of (Nat.le_of_ble_eq_true rfl) ?_
      refine q_Ru_seg (g2 := (5, [(0, .ref 98), (1, .int 100)], [.int 6, .ref 98], (q_cX (q_uA q_AX 35 (upd (upd w205 4 32) 5 108)) (q_uI q_IX 34 3 6) q_J0, 40, 26520))) 3 (fun _ _ => rfl) ?_
      refine q_Ru_seg (g2 := (7, [(0, .ref 98), (1, .int 100)], [.int 7, .ref 98], (q_cX (q_uA q_AX 35 (upd (upd w205 4 32) 5 108)) (q_uI q_IX 34 3 6) q_J0, 40, 26520))) 2 (fun _ _ => rfl) ?_
      refine q_Ru_call (v := none) (h2 := (q_cX (q_uA q_AX 35 (upd (upd w205 4 32) 5 108)) (q_uI q_IX 34 3 6) q_J0, 40, 26520)) rfl rfl ?_ ?_
      · refine q_Ca_of (Nat.le_of_ble_eq_true rfl) ?_
        refine q_Ru_seg (g2 := (9, [(0, .ref 98), (1, .int 7)], [.int 0, .int 16], (q_cX (q_uA q_AX 35 (upd (upd w205 4 32) 5 108)) (q_uI q_IX 34 3 6) q_J0, 40, 26520))) 5 (fun _ _ => rfl) ?_
        refine q_Ru_seg (g2 := (38, [(2, .int 16), (0, .ref 98), (1, .int 7)], [], (q_cX (q_uA q_AX 35 (upd (upd w205 4 32) 5 108)) (q_uI q_IX 34 3 6) q_J0, 40, 26520))) 6 (fun _ _ => rfl) ?_
        exact q_Ru_ret rfl rfl
      show q_Ru _ _ _ (10, [(0, .ref 98), (1, .int 100)], [], (q_cX (q_uA q_AX 35 (upd (upd w205 4 32) 5 108)) (q_uI q_IX 34 3 6) q_J0, 40, 26520)) _
      refine q_Ru_seg (g2 := (11, [(0, .ref 98), (1, .int 100)], [.ref 98], (q_cX (q_uA q_AX 35 (upd (upd w205 4 32) 5 108)) (q_uI q_IX 34 3 6) q_J0, 40, 26520))) 1 (fun _ _ => rfl) ?_
      refine q_Ru_call (v := (some (.int 1))) (h2 := (q_cX (q_uA q_AX 35 (upd (upd w205 4 32) 5 108)) (q_uI q_IX 34 3 6) q_J0, 40, 26520)) rfl rfl ?_ ?_
      · refine q_Ca_of (Nat.le_of_ble_eq_true rfl) ?_
        refine q_Ru_seg (g2 := (10, [(0, .ref 98)], [.int 0], (q_cX (q_uA q_AX 35 (upd (upd w205 4 32) 5 108)) (q_uI q_IX 34 3 6) q_J0, 40, 26520))) 4 (fun _ _ => rfl) ?_
        refine q_Ru_seg (g2 := (18, [(0, .ref 98)], [.int 1], (q_cX (q_uA q_AX 35 (upd (upd w205 4 32) 5 108)) (q_uI q_IX 34 3 6) q_J0, 40, 26520))) 3 (fun _ _ => rfl) ?_
        exact q_Ru_ret rfl rfl
      show q_Ru _ _ _ (14, [(0, .ref 98), (1, .int 100)], [.int 1], (q_cX (q_uA q_AX 35 (upd (upd w205 4 32) 5 108)) (q_uI q_IX 34 3 6) q_J0, 40, 26520)) _
      refine q_Ru_seg (g2 := (18, [(0, .ref 98), (1, .int 100)], [.int 100], (q_cX (q_uA q_AX 35 (upd (upd w205 4 32) 5 108)) (q_uI q_IX 34 3 6) q_J0, 40, 26520))) 2 (fun _ _ => rfl) ?_
      refine q_Ru_call (v := (some (.int 1))) (h2 := (q_cX (q_uA q_AX 35 (upd (upd w205 4 32) 5 108)) (q_uI q_IX 34 3 6) q_J0, 40, 26520)) rfl rfl ?_ ?_
      · refine q_Ca_of (Nat.le_of_ble_eq_true rfl) ?_
        refine q_Ru_seg (g2 := (12, [(0, .int 100)], [.int 1], (q_cX (q_uA q_AX 35 (upd (upd w205 4 32) 5 108)) (q_uI q_IX 34 3 6) q_J0, 40, 26520))) 5 (fun _ _ => rfl) ?_
        exact q_Ru_ret rfl rfl
      show q_Ru _ _ _ (21, [(0, .ref 98), (1, .int 100)], [.int 1], (q_cX (q_uA q_AX 35 (upd (upd w205 4 32) 5 108)) (q_uI q_IX 34 3 6) q_J0, 40, 26520)) _
      refine q_Ru_seg (g2 := (33, [(0, .ref 98), (1, .int 100)], [.int 6, .ref 98, .ref 99], (q_cX (q_uA q_AX 35 (upd (upd w205 4 32) 5 108)) (q_uI q_IX 34 3 6) q_J0, 40, 26520))) 6 (fun _ _ => rfl) ?_
      refine q_Ru_seg (g2 := (76, [(0, .ref 98), (1, .int 100)], [.ref 98], (q_cX (q_uA q_AX 35 (upd (upd (upd w205 4 32) 5 108) 6 100)) (q_uI q_IX 34 3 7) q_J0, 40, 26520))) 9 (fun _ _ => rfl) ?_
      exact q_Ru_ret rfl rfl
    show q_Ru _ _ _ (5, [(0, .ref 98), (1, .int 100)], [.ref 98], (q_cX (q_uA q_AX 35 (upd (upd (upd w205 4 32) 5 108) 6 100)) (q_uI q_IX 34 3 7) q_J0, 40, 26520)) _
    refine q_Ru_seg (g2 := (7, [(0, .ref 98), (1, .int 100)], [.ref 98], (q_cX (q_uA q_AX 35 (upd (upd (upd w205 4 32) 5 108) 6 100)) (q_uI q_IX 34 3 7) q_J0, 40, 26520))) 2 (fun _ _ => rfl) ?_
    exact q_Ru_ret rfl rfl
  show q_Ru _ _ _ (81, [(5, .int 1), (4, .int 0), (3, .ref 12), (2, .int 0), (0, .ref 98), (1, .int 0)], [.ref 98], (q_cX (q_uA q_AX 35 (upd (upd (upd w205 4 32) 5 108) 6 100)) (q_uI q_IX 34 3 7) q_J0, 40, 26520)) _
  exact q_Ru_le (Nat.le_of_ble_eq_true rfl) (q_xc156 L xs a hl_a hu_a w205)
set_option maxHeartbeats 20000000 in
theorem q_xc158 (L : Nat) (xs : Nat → Int32) (a : Int32) (hl_a : 1000 ≤ a.toInt) (hu_a : a.toInt ≤ 4095) (w205 : Nat → Int32) : q_Ru (q_TBs 98 L xs) 4 194 (47, [(4, .int 0), (3, .ref 12), (2, .int 0), (0, .ref 98), (1, .int 0)], [.int 63, .int 2], (q_cX (q_uA q_AX 35 (upd w205 4 32)) (q_uI q_IX 34 3 5) q_J0, 40, 26520)) (.inl none, (q_cX (q_uA q_AX 35 (upd (upd (upd (upd w205 4 32) 5 108) 6 100) 7 97)) (q_uI q_IX 34 3 8) q_J0, 40, 26520)) := by
  refine q_Ru_seg (g2 := (75, [(5, .int 0), (4, .int 0), (3, .ref 12), (2, .int 0), (0, .ref 98), (1, .int 0)], [.int 0, .ref 12, .ref 98], (q_cX (q_uA q_AX 35 (upd w205 4 32)) (q_uI q_IX 34 3 5) q_J0, 40, 26520))) 11 (fun _ _ => rfl) ?_
  refine q_Ru_call (v := (some (.int 108))) (h2 := (q_cX (q_uA q_AX 35 (upd w205 4 32)) (q_uI q_IX 34 3 5) q_J0, 40, 26520)) rfl rfl ?_ ?_
  · refine q_Ca_of (Nat.le_of_ble_eq_true rfl) ?_
    refine q_Ru_seg (g2 := (1, [(0, .ref 12), (1, .int 0)], [.ref 12], (q_cX (q_uA q_AX 35 (upd w205 4 32)) (q_uI q_IX 34 3 5) q_J0, 40, 26520))) 1 (fun _ _ => rfl) ?_
    refine q_Ru_call (v := (some (.int 1))) (h2 := (q_cX (q_uA q_AX 35 (upd w205 4 32)) (q_uI q_IX 34 3 5) q_J0, 40, 26520)) rfl rfl ?_ ?_
    · refine q_Ca_of (Nat.le_of_ble_eq_true rfl) ?_
      refine q_Ru_seg (g2 := (18, [(0, .ref 12)], [.int 1], (q_cX (q_uA q_AX 35 (upd w205 4 32)) (q_uI q_IX 34 3 5) q_J0, 40, 26520))) 7 (fun _ _ => rfl) ?_
      exact q_Ru_ret rfl rfl
    show q_Ru _ _ _ (4, [(0, .ref 12), (1, .int 0)], [.int 1], (q_cX (q_uA q_AX 35 (upd w205 4 32)) (q_uI q_IX 34 3 5) q_J0, 40, 26520)) _
    refine q_Ru_seg (g2 := (12, [(0, .ref 12), (1, .int 0)], [.int 0, .ref 40], (q_cX (q_uA q_AX 35 (upd w205 4 32)) (q_uI q_IX 34 3 5) q_J0, 40, 26520))) 4 (fun _ _ => rfl) ?_
    refine q_Ru_call (v := (some (.int 108))) (h2 := (q_cX (q_uA q_AX 35 (upd w205 4 32)) (q_uI q_IX 34 3 5) q_J0, 40, 26520)) rfl rfl ?_ ?_
    · refine q_Ca_of (Nat.le_of_ble_eq_true rfl) ?_
      refine q_Ru_seg (g2 := (3, [(0, .ref 40), (1, .int 0)], [.int 63, .int 0], (q_cX (q_uA q_AX 35 (upd w205 4 32)) (q_uI q_IX 34 3 5) q_J0, 40, 26520))) 3 (fun _ _ => rfl) ?_
      refine q_Ru_call (v := none) (h2 := (q_cX (q_uA q_AX 35 (upd w205 4 32)) (q_uI q_IX 34 3 5) q_J0, 40, 26520)) rfl rfl ?_ ?_
      · refine q_Ca_of (Nat.le_of_ble_eq_true rfl) ?_
        refine q_Ru_seg (g2 := (5, [(0, .int 0), (1, .int 63)], [.null, .int 63, .int 0], (q_cX (q_uA q_AX 35 (upd w205 4 32)) (q_uI q_IX 34 3 5) q_J0, 40, 26520))) 3 (fun _ _ => rfl) ?_
        refine q_Ru_call (v := (some (.int 0))) (h2 := (q_cX (q_uA q_AX 35 (upd w205 4 32)) (q_uI q_IX 34 3 5) q_J0, 40, 26520)) rfl rfl ?_ ?_
        · refine q_Ca_of (Nat.le_of_ble_eq_true rfl) ?_
          refine q_Ru_seg (g2 := (17, [(0, .int 0), (1, .int 63), (2, .null)], [.int 0], (q_cX (q_uA q_AX 35 (upd w205 4 32)) (q_uI q_IX 34 3 5) q_J0, 40, 26520))) 6 (fun _ _ => rfl) ?_
          exact q_Ru_ret rfl rfl
        show q_Ru _ _ _ (8, [(0, .int 0), (1, .int 63)], [.int 0], (q_cX (q_uA q_AX 35 (upd w205 4 32)) (q_uI q_IX 34 3 5) q_J0, 40, 26520)) _
        refine q_Ru_seg (g2 := (9, [(0, .int 0), (1, .int 63)], [], (q_cX (q_uA q_AX 35 (upd w205 4 32)) (q_uI q_IX 34 3 5) q_J0, 40, 26520))) 1 (fun _ _ => rfl) ?_
        exact q_Ru_ret rfl rfl
      show q_Ru _ _ _ (6, [(0, .ref 40), (1, .int 0)], [], (q_cX (q_uA q_AX 35 (upd w205 4 32)) (q_uI q_IX 34 3 5) q_J0, 40, 26520)) _
      refine q_Ru_seg (g2 := (9, [(0, .ref 40), (1, .int 0)], [.int 108], (q_cX (q_uA q_AX 35 (upd w205 4 32)) (q_uI q_IX 34 3 5) q_J0, 40, 26520))) 3 (fun _ _ => rfl) ?_
      refine q_Ru_seg (g2 := (14, [(0, .ref 40), (1, .int 0)], [.int 108], (q_cX (q_uA q_AX 35 (upd w205 4 32)) (q_uI q_IX 34 3 5) q_J0, 40, 26520))) 3 (fun _ _ => rfl) ?_
      exact q_Ru_ret rfl rfl
    show q_Ru _ _ _ (15, [(0, .ref 12), (1, .int 0)], [.int 108], (q_cX (q_uA q_AX 35 (upd w205 4 32)) (q_uI q_IX 34 3 5) q_J0, 40, 26520)) _
    exact q_Ru_ret rfl rfl
  show q_Ru _ _ _ (78, [(5, .int 0), (4, .int 0), (3, .ref 12), (2, .int 0), (0, .ref 98), (1, .int 0)], [.int 108, .ref 98], (q_cX (q_uA q_AX 35 (upd w205 4 32)) (q_uI q_IX 34 3 5) q_J0, 40, 26520)) _
  refine q_Ru_call (v := (some (.ref 98))) (h2 := (q_cX (q_uA q_AX 35 (upd (upd w205 4 32) 5 108)) (q_uI q_IX 34 3 6) q_J0, 40, 26520)) rfl rfl ?_ ?_
  · refine q_Ca_of (Nat.le_of_ble_eq_true rfl) ?_
    refine q_Ru_seg (g2 := (2, [(0, .ref 98), (1, .int 108)], [.int 108, .ref 98], (q_cX (q_uA q_AX 35 (upd w205 4 32)) (q_uI q_IX 34 3 5) q_J0, 40, 26520))) 2 (fun _ _ => rfl) ?_
    refine q_Ru_call (v := (some (.ref 98))) (h2 := (q_cX (q_uA q_AX 35 (upd (upd w205 4 32) 5 108)) (q_uI q_IX 34 3 6) q_J0, 40, 26520)) rfl rfl ?_ ?_
    · refine q_Ca_of (Nat.le_of_ble_eq_true rfl) ?_
      refine q_Ru_seg (g2 := (5, [(0, .ref 98), (1, .int 108)], [.int 5, .ref 98], (q_cX (q_uA q_AX 35 (upd w205 4 32)) (q_uI q_IX 34 3 5) q_J0, 40, 26520))) 3 (fun _ _ => rfl) ?_
      refine q_Ru_seg (g2 := (7, [(0, .ref 98), (1, .int 108)], [.int 6, .ref 98], (q_cX (q_uA q_AX 35 (upd w205 4 32)) (q_uI q_IX 34 3 5) q_J0, 40, 26520))) 2 (fun _ _ => rfl) ?_
      refine q_Ru_call (v := none) (h2 := (q_cX (q_uA q_AX 35 (upd w205 4 32)) (q_uI q_IX 34 3 5) q_J0, 40, 26520)) rfl rfl ?_ ?_
      · refine q_Ca_of (Nat.le_of_ble_eq_true rfl) ?_
        refine q_Ru_seg (g2 := (9, [(0, .ref 98), (1, .int 6)], [.int 0, .int 16], (q_cX (q_uA q_AX 35 (upd w205 4 32)) (q_uI q_IX 34 3 5) q_J0, 40, 26520))) 5 (fun _ _ => rfl) ?_
        refine q_Ru_seg (g2 := (38, [(2, .int 16), (0, .ref 98), (1, .int 6)], [], (q_cX (q_uA q_AX 35 (upd w205 4 32)) (q_uI q_IX 34 3 5) q_J0, 40, 26520))) 6 (fun _ _ => rfl) ?_
        exact q_Ru_ret rfl rfl
      show q_Ru _ _ _ (10, [(0, .ref 98), (1, .int 108)], [], (q_cX (q_uA q_AX 35 (upd w205 4 32)) (q_uI q_IX 34 3 5) q_J0, 40, 26520)) _
      refine q_Ru_seg (g2 := (11, [(0, .ref 98), (1, .int 108)], [.ref 98], (q_cX (q_uA q_AX 35 (upd w205 4 32)) (q_uI q_IX 34 3 5) q_J0, 40, 26520))) 1 (fun _ _ => rfl) ?_
      refine q_Ru_call (v := (some (.int 1))) (h2 := (q_cX (q_uA q_AX 35 (upd w205 4 32)) (q_uI q_IX 34 3 5) q_J0, 40, 26520)) rfl rfl ?_ ?_
      · refine q_Ca_of (Nat.le_of_ble_eq_true rfl) ?_
        refine q_Ru_seg (g2 := (10, [(0, .ref 98)], [.int 0], (q_cX (q_uA q_AX 35 (upd w205 4 32)) (q_uI q_IX 34 3 5) q_J0, 40, 26520))) 4 (fun _ _ => rfl) ?_
        refine q_Ru_seg (g2 := (18, [(0, .ref 98)], [.int 1], (q_cX (q_uA q_AX 35 (upd w205 4 32)) (q_uI q_IX 34 3 5) q_J0, 40, 26520))) 3 (fun _ _ => rfl) ?_
        exact q_Ru_ret rfl rfl
      show q_Ru _ _ _ (14, [(0, .ref 98), (1, .int 108)], [.int 1], (q_cX (q_uA q_AX 35 (upd w205 4 32)) (q_uI q_IX 34 3 5) q_J0, 40, 26520)) _
      refine q_Ru_seg (g2 := (18, [(0, .ref 98), (1, .int 108)], [.int 108], (q_cX (q_uA q_AX 35 (upd w205 4 32)) (q_uI q_IX 34 3 5) q_J0, 40, 26520))) 2 (fun _ _ => rfl) ?_
      refine q_Ru_call (v := (some (.int 1))) (h2 := (q_cX (q_uA q_AX 35 (upd w205 4 32)) (q_uI q_IX 34 3 5) q_J0, 40, 26520)) rfl rfl ?_ ?_
      · refine q_Ca_of (Nat.le_of_ble_eq_true rfl) ?_
        refine q_Ru_seg (g2 := (12, [(0, .int 108)], [.int 1], (q_cX (q_uA q_AX 35 (upd w205 4 32)) (q_uI q_IX 34 3 5) q_J0, 40, 26520))) 5 (fun _ _ => rfl) ?_
        exact q_Ru_ret rfl rfl
      show q_Ru _ _ _ (21, [(0, .ref 98), (1, .int 108)], [.int 1], (q_cX (q_uA q_AX 35 (upd w205 4 32)) (q_uI q_IX 34 3 5) q_J0, 40, 26520)) _
      refine q_Ru_seg (g2 := (33, [(0, .ref 98), (1, .int 108)], [.int 5, .ref 98, .ref 99], (q_cX (q_uA q_AX 35 (upd w205 4 32)) (q_uI q_IX 34 3 5) q_J0, 40, 26520))) 6 (fun _ _ => rfl) ?_
      refine q_Ru_seg (g2 := (76, [(0, .ref 98), (1, .int 108)], [.ref 98], (q_cX (q_uA q_AX 35 (upd (upd w205 4 32) 5 108)) (q_uI q_IX 34 3 6) q_J0, 40, 26520))) 9 (fun _ _ => rfl) ?_
      exact q_Ru_ret rfl rfl
    show q_Ru _ _ _ (5, [(0, .ref 98), (1, .int 108)], [.ref 98], (q_cX (q_uA q_AX 35 (upd (upd w205 4 32) 5 108)) (q_uI q_IX 34 3 6) q_J0, 40, 26520)) _
    refine q_Ru_seg (g2 := (7, [(0, .ref 98), (1, .int 108)], [.ref 98], (q_cX (q_uA q_AX 35 (upd (upd w205 4 32) 5 108)) (q_uI q_IX 34 3 6) q_J0, 40, 26520))) 2 (fun _ _ => rfl) ?_
    exact q_Ru_ret rfl rfl
  show q_Ru _ _ _ (81, [(5, .int 0), (4, .int 0), (3, .ref 12), (2, .int 0), (0, .ref 98), (1, .int 0)], [.ref 98], (q_cX (q_uA q_AX 35 (upd (upd w205 4 32) 5 108)) (q_uI q_IX 34 3 6) q_J0, 40, 26520)) _
  exact q_Ru_le (Nat.le_of_ble_eq_true rfl) (q_xc157 L xs a hl_a hu_a w205)
set_option maxHeartbeats 20000000 in
theorem q_xc159 (L : Nat) (xs : Nat → Int32) (a : Int32) (hl_a : 1000 ≤ a.toInt) (hu_a : a.toInt ≤ 4095) (w207 : Nat → Int32) : q_Ru (q_TBs 98 L xs) 3 197 (17, [(0, .ref 98), (1, .int 0), (2, .int 0)], [.ref 98], (q_cX (q_uA q_AX 35 (upd w207 9 35)) (q_uI q_IX 34 3 10) q_J0, 40, 26520)) (.inl none, (q_cX (q_uA q_AX 35 (upd (upd w207 9 35) 10 48)) (q_uI q_IX 34 3 11) q_J0, 40, 26520)) := by
  refine q_Ru_seg (g2 := (36, [(0, .ref 98), (1, .int 0), (2, .int 0)], [.int 0, .ref 98], (q_cX (q_uA q_AX 35 (upd w207 9 35)) (q_uI q_IX 34 3 10) q_J0, 40, 26520))) 4 (fun _ _ => rfl) ?_
  refine q_Ru_call (v := (some (.ref 98))) (h2 := (q_cX (q_uA q_AX 35 (upd (upd w207 9 35) 10 48)) (q_uI q_IX 34 3 11) q_J0, 40, 26520)) rfl rfl ?_ ?_
  · refine q_Ca_of (Nat.le_of_ble_eq_true rfl) ?_
    refine q_Ru_seg (g2 := (2, [(0, .ref 98), (1, .int 0)], [.int 0, .ref 98], (q_cX (q_uA q_AX 35 (upd w207 9 35)) (q_uI q_IX 34 3 10) q_J0, 40, 26520))) 2 (fun _ _ => rfl) ?_
    refine q_Ru_call (v := (some (.ref 98))) (h2 := (q_cX (q_uA q_AX 35 (upd (upd w207 9 35) 10 48)) (q_uI q_IX 34 3 11) q_J0, 40, 26520)) rfl rfl ?_ ?_
    · refine q_Ca_of (Nat.le_of_ble_eq_true rfl) ?_
      refine q_Ru_seg (g2 := (4, [(0, .ref 98), (1, .int 0)], [.int 10], (q_cX (q_uA q_AX 35 (upd w207 9 35)) (q_uI q_IX 34 3 10) q_J0, 40, 26520))) 2 (fun _ _ => rfl) ?_
      refine q_Ru_seg (g2 := (7, [(2, .int 10), (0, .ref 98), (1, .int 0)], [.int 0, .int 10], (q_cX (q_uA q_AX 35 (upd w207 9 35)) (q_uI q_IX 34 3 10) q_J0, 40, 26520))) 3 (fun _ _ => rfl) ?_
      refine q_Ru_call (v := (some (.int 1))) (h2 := (q_cX (q_uA q_AX 35 (upd w207 9 35)) (q_uI q_IX 34 3 10) q_J0, 40, 26520)) rfl rfl ?_ ?_
      · refine q_Ca_of (Nat.le_of_ble_eq_true rfl) ?_
        refine q_Ru_seg (g2 := (30, [(3, .int 1), (2, .int (-10)), (0, .int 0), (1, .int 0)], [.int 1], (q_cX (q_uA q_AX 35 (upd w207 9 35)) (q_uI q_IX 34 3 10) q_J0, 40, 26520))) 22 (fun _ _ => rfl) ?_
        exact q_Ru_ret rfl rfl
      show q_Ru _ _ _ (10, [(2, .int 10), (0, .ref 98), (1, .int 0)], [.int 1, .int 10], (q_cX (q_uA q_AX 35 (upd w207 9 35)) (q_uI q_IX 34 3 10) q_J0, 40, 26520)) _
      refine q_Ru_seg (g2 := (14, [(3, .int 11), (2, .int 10), (0, .ref 98), (1, .int 0)], [.int 11, .ref 98], (q_cX (q_uA q_AX 35 (upd w207 9 35)) (q_uI q_IX 34 3 10) q_J0, 40, 26520))) 4 (fun _ _ => rfl) ?_
      refine q_Ru_call (v := none) (h2 := (q_cX (q_uA q_AX 35 (upd w207 9 35)) (q_uI q_IX 34 3 10) q_J0, 40, 26520)) rfl rfl ?_ ?_
      · refine q_Ca_of (Nat.le_of_ble_eq_true rfl) ?_
        refine q_Ru_seg (g2 := (9, [(0, .ref 98), (1, .int 11)], [.int 0, .int 16], (q_cX (q_uA q_AX 35 (upd w207 9 35)) (q_uI q_IX 34 3 10) q_J0, 40, 26520))) 5 (fun _ _ => rfl) ?_
        refine q_Ru_seg (g2 := (38, [(2, .int 16), (0, .ref 98), (1, .int 11)], [], (q_cX (q_uA q_AX 35 (upd w207 9 35)) (q_uI q_IX 34 3 10) q_J0, 40, 26520))) 6 (fun _ _ => rfl) ?_
        exact q_Ru_ret rfl rfl
      show q_Ru _ _ _ (17, [(3, .int 11), (2, .int 10), (0, .ref 98), (1, .int 0)], [], (q_cX (q_uA q_AX 35 (upd w207 9 35)) (q_uI q_IX 34 3 10) q_J0, 40, 26520)) _
      refine q_Ru_seg (g2 := (18, [(3, .int 11), (2, .int 10), (0, .ref 98), (1, .int 0)], [.ref 98], (q_cX (q_uA q_AX 35 (upd w207 9 35)) (q_uI q_IX 34 3 10) q_J0, 40, 26520))) 1 (fun _ _ => rfl) ?_
      refine q_Ru_call (v := (some (.int 1))) (h2 := (q_cX (q_uA q_AX 35 (upd w207 9 35)) (q_uI q_IX 34 3 10) q_J0, 40, 26520)) rfl rfl ?_ ?_
      · refine q_Ca_of (Nat.le_of_ble_eq_true rfl) ?_
        refine q_Ru_seg (g2 := (10, [(0, .ref 98)], [.int 0], (q_cX (q_uA q_AX 35 (upd w207 9 35)) (q_uI q_IX 34 3 10) q_J0, 40, 26520))) 4 (fun _ _ => rfl) ?_
        refine q_Ru_seg (g2 := (18, [(0, .ref 98)], [.int 1], (q_cX (q_uA q_AX 35 (upd w207 9 35)) (q_uI q_IX 34 3 10) q_J0, 40, 26520))) 3 (fun _ _ => rfl) ?_
        exact q_Ru_ret rfl rfl
      show q_Ru _ _ _ (21, [(3, .int 11), (2, .int 10), (0, .ref 98), (1, .int 0)], [.int 1], (q_cX (q_uA q_AX 35 (upd w207 9 35)) (q_uI q_IX 34 3 10) q_J0, 40, 26520)) _
      refine q_Ru_seg (g2 := (30, [(3, .int 11), (2, .int 10), (0, .ref 98), (1, .int 0)], [.ref 99, .int 11, .int 0], (q_cX (q_uA q_AX 35 (upd w207 9 35)) (q_uI q_IX 34 3 10) q_J0, 40, 26520))) 5 (fun _ _ => rfl) ?_
      refine q_Ru_call (v := (some (.int 10))) (h2 := (q_cX (q_uA q_AX 35 (upd (upd w207 9 35) 10 48)) (q_uI q_IX 34 3 10) q_J0, 40, 26520)) rfl rfl ?_ ?_
      · refine q_Ca_of (Nat.le_of_ble_eq_true rfl) ?_
        refine q_Ru_seg (g2 := (84, [(5, .int 10), (0, .int 0), (6, .int 0), (1, .int 11), (2, .ref 99)], [.int 48, .int 10, .ref 99], (q_cX (q_uA q_AX 35 (upd w207 9 35)) (q_uI q_IX 34 3 10) q_J0, 40, 26520))) 21 (fun _ _ => rfl) ?_
        refine q_Ru_seg (g2 := (120, [(5, .int 10), (0, .int 0), (6, .int 0), (1, .int 11), (2, .ref 99)], [.int 10], (q_cX (q_uA q_AX 35 (upd (upd w207 9 35) 10 48)) (q_uI q_IX 34 3 10) q_J0, 40, 26520))) 7 (fun _ _ => rfl) ?_
        exact q_Ru_ret rfl rfl
      show q_Ru _ _ _ (33, [(3, .int 11), (2, .int 10), (0, .ref 98), (1, .int 0)], [.int 10], (q_cX (q_uA q_AX 35 (upd (upd w207 9 35) 10 48)) (q_uI q_IX 34 3 10) q_J0, 40, 26520)) _
      refine q_Ru_seg (g2 := (54, [(3, .int 11), (2, .int 10), (0, .ref 98), (1, .int 0)], [.ref 98], (q_cX (q_uA q_AX 35 (upd (upd w207 9 35) 10 48)) (q_uI q_IX 34 3 11) q_J0, 40, 26520))) 6 (fun _ _ => rfl) ?_
      exact q_Ru_ret rfl rfl
    show q_Ru _ _ _ (5, [(0, .ref 98), (1, .int 0)], [.ref 98], (q_cX (q_uA q_AX 35 (upd (upd w207 9 35) 10 48)) (q_uI q_IX 34 3 11) q_J0, 40, 26520)) _
    refine q_Ru_seg (g2 := (7, [(0, .ref 98), (1, .int 0)], [.ref 98], (q_cX (q_uA q_AX 35 (upd (upd w207 9 35) 10 48)) (q_uI q_IX 34 3 11) q_J0, 40, 26520))) 2 (fun _ _ => rfl) ?_
    exact q_Ru_ret rfl rfl
  show q_Ru _ _ _ (39, [(0, .ref 98), (1, .int 0), (2, .int 0)], [.ref 98], (q_cX (q_uA q_AX 35 (upd (upd w207 9 35) 10 48)) (q_uI q_IX 34 3 11) q_J0, 40, 26520)) _
  refine q_Ru_seg (g2 := (134, [(0, .ref 98), (1, .int 0), (2, .int 0)], [], (q_cX (q_uA q_AX 35 (upd (upd w207 9 35) 10 48)) (q_uI q_IX 34 3 11) q_J0, 40, 26520))) 3 (fun _ _ => rfl) ?_
  exact q_Ru_ret rfl rfl
set_option maxHeartbeats 20000000 in
theorem q_xc160 (L : Nat) (xs : Nat → Int32) (a : Int32) (hl_a : 1000 ≤ a.toInt) (hu_a : a.toInt ≤ 4095) (w205 : Nat → Int32) : q_Ru (q_TBs 98 L xs) 5 195 (106, [(6, .int 0), (5, .int 0), (4, .int 2), (3, .int 0), (0, .ref 98), (1, .ref 66), (2, .int a)], [.int 0, .ref 98], (q_cX (q_uA q_AX 35 (upd (upd (upd (upd w205 4 32) 5 108) 6 100) 7 97)) (q_uI q_IX 34 3 8) q_J0, 40, 26520)) (.inl none, (q_cX (q_uA q_AX 35 (upd (upd (upd (upd (upd (upd (upd w205 4 32) 5 108) 6 100) 7 97) 8 32) 9 35) 10 48)) (q_uI q_IX 34 3 11) q_J0, 40, 26520)) := by
  refine q_Ru_seg (g2 := (108, [(6, .int 0), (5, .int 0), (4, .int 2), (3, .int 0), (0, .ref 98), (1, .ref 66), (2, .int a)], [.int 0, .int 0, .ref 98], (q_cX (q_uA q_AX 35 (upd (upd (upd (upd w205 4 32) 5 108) 6 100) 7 97)) (q_uI q_IX 34 3 8) q_J0, 40, 26520))) 1 (fun _ _ => rfl) ?_
  refine q_Ru_call (v := none) (h2 := (q_cX (q_uA q_AX 35 (upd (upd (upd (upd (upd (upd (upd w205 4 32) 5 108) 6 100) 7 97) 8 32) 9 35) 10 48)) (q_uI q_IX 34 3 11) q_J0, 40, 26520)) rfl rfl ?_ ?_
  · refine q_Ca_of (Nat.le_of_ble_eq_true rfl) ?_
    refine q_Ru_seg (g2 := (3, [(0, .ref 98), (1, .int 0), (2, .int 0)], [.int 32, .ref 98], (q_cX (q_uA q_AX 35 (upd (upd (upd (upd w205 4 32) 5 108) 6 100) 7 97)) (q_uI q_IX 34 3 8) q_J0, 40, 26520))) 2 (fun _ _ => rfl) ?_
    refine q_Ru_call (v := (some (.ref 98))) (h2 := (q_cX (q_uA q_AX 35 (upd (upd (upd (upd (upd w205 4 32) 5 108) 6 100) 7 97) 8 32)) (q_uI q_IX 34 3 9) q_J0, 40, 26520)) rfl rfl ?_ ?_
    · refine q_Ca_of (Nat.le_of_ble_eq_true rfl) ?_
      refine q_Ru_seg (g2 := (2, [(0, .ref 98), (1, .int 32)], [.int 32, .ref 98], (q_cX (q_uA q_AX 35 (upd (upd (upd (upd w205 4 32) 5 108) 6 100) 7 97)) (q_uI q_IX 34 3 8) q_J0, 40, 26520))) 2 (fun _ _ => rfl) ?_
      refine q_Ru_call (v := (some (.ref 98))) (h2 := (q_cX (q_uA q_AX 35 (upd (upd (upd (upd (upd w205 4 32) 5 108) 6 100) 7 97) 8 32)) (q_uI q_IX 34 3 9) q_J0, 40, 26520)) rfl rfl ?_ ?_
      · refine q_Ca_of (Nat.le_of_ble_eq_true rfl) ?_
        refine q_Ru_seg (g2 := (5, [(0, .ref 98), (1, .int 32)], [.int 8, .ref 98], (q_cX (q_uA q_AX 35 (upd (upd (upd (upd w205 4 32) 5 108) 6 100) 7 97)) (q_uI q_IX 34 3 8) q_J0, 40, 26520))) 3 (fun _ _ => rfl) ?_
        refine q_Ru_seg (g2 := (7, [(0, .ref 98), (1, .int 32)], [.int 9, .ref 98], (q_cX (q_uA q_AX 35 (upd (upd (upd (upd w205 4 32) 5 108) 6 100) 7 97)) (q_uI q_IX 34 3 8) q_J0, 40, 26520))) 2 (fun _ _ => rfl) ?_
        refine q_Ru_call (v := none) (h2 := (q_cX (q_uA q_AX 35 (upd (upd (upd (upd w205 4 32) 5 108) 6 100) 7 97)) (q_uI q_IX 34 3 8) q_J0, 40, 26520)) rfl rfl ?_ ?_
        · refine q_Ca_of (Nat.le_of_ble_eq_true rfl) ?_
          refine q_Ru_seg (g2 := (9, [(0, .ref 98), (1, .int 9)], [.int 0, .int 16], (q_cX (q_uA q_AX 35 (upd (upd (upd (upd w205 4 32) 5 108) 6 100) 7 97)) (q_uI q_IX 34 3 8) q_J0, 40, 26520))) 5 (fun _ _ => rfl) ?_
          refine q_Ru_seg (g2 := (38, [(2, .int 16), (0, .ref 98), (1, .int 9)], [], (q_cX (q_uA q_AX 35 (upd (upd (upd (upd w205 4 32) 5 108) 6 100) 7 97)) (q_uI q_IX 34 3 8) q_J0, 40, 26520))) 6 (fun _ _ => rfl) ?_
          exact q_Ru_ret rfl rfl
        show q_Ru _ _ _ (10, [(0, .ref 98), (1, .int 32)], [], (q_cX (q_uA q_AX 35 (upd (upd (upd (upd w205 4 32) 5 108) 6 100) 7 97)) (q_uI q_IX 34 3 8) q_J0, 40, 26520)) _
        refine q_Ru_seg (g2 := (11, [(0, .ref 98), (1, .int 32)], [.ref 98], (q_cX (q_uA q_AX 35 (upd (upd (upd (upd w205 4 32) 5 108) 6 100) 7 97)) (q_uI q_IX 34 3 8) q_J0, 40, 26520))) 1 (fun _ _ => rfl) ?_
        refine q_Ru_call (v := (some (.int 1))) (h2 := (q_cX (q_uA q_AX 35 (upd (upd (upd (upd w205 4 32) 5 108) 6 100) 7 97)) (q_uI q_IX 34 3 8) q_J0, 40, 26520)) rfl rfl ?_ ?_
        · refine q_Ca_of (Nat.le_of_ble_eq_true rfl) ?_
          refine q_Ru_seg (g2 := (10, [(0, .ref 98)], [.int 0], (q_cX (q_uA q_AX 35 (upd (upd (upd (upd w205 4 32) 5 108) 6 100) 7 97)) (q_uI q_IX 34 3 8) q_J0, 40, 26520))) 4 (fun _ _ => rfl) ?_
          refine q_Ru_seg (g2 := (18, [(0, .ref 98)], [.int 1], (q_cX (q_uA q_AX 35 (upd (upd (upd (upd w205 4 32) 5 108) 6 100) 7 97)) (q_uI q_IX 34 3 8) q_J0, 40, 26520))) 3 (fun _ _ => rfl) ?_
          exact q_Ru_ret rfl rfl
        show q_Ru _ _ _ (14, [(0, .ref 98), (1, .int 32)], [.int 1], (q_cX (q_uA q_AX 35 (upd (upd (upd (upd w205 4 32) 5 108) 6 100) 7 97)) (q_uI q_IX 34 3 8) q_J0, 40, 26520)) _
        refine q_Ru_seg (g2 := (18, [(0, .ref 98), (1, .int 32)], [.int 32], (q_cX (q_uA q_AX 35 (upd (upd (upd (upd w205 4 32) 5 108) 6 100) 7 97)) (q_uI q_IX 34 3 8) q_J0, 40, 26520))) 2 (fun _ _ => rfl) ?_
        refine q_Ru_call (v := (some (.int 1))) (h2 := (q_cX (q_uA q_AX 35 (upd (upd (upd (upd w205 4 32) 5 108) 6 100) 7 97)) (q_uI q_IX 34 3 8) q_J0, 40, 26520)) rfl rfl ?_ ?_
        · refine q_Ca_of (Nat.le_of_ble_eq_true rfl) ?_
          refine q_Ru_seg (g2 := (12, [(0, .int 32)], [.int 1], (q_cX (q_uA q_AX 35 (upd (upd (upd (upd w205 4 32) 5 108) 6 100) 7 97)) (q_uI q_IX 34 3 8) q_J0, 40, 26520))) 5 (fun _ _ => rfl) ?_
          exact q_Ru_ret rfl rfl
        show q_Ru _ _ _ (21, [(0, .ref 98), (1, .int 32)], [.int 1], (q_cX (q_uA q_AX 35 (upd (upd (upd (upd w205 4 32) 5 108) 6 100) 7 97)) (q_uI q_IX 34 3 8) q_J0, 40, 26520)) _
        refine q_Ru_seg (g2 := (33, [(0, .ref 98), (1, .int 32)], [.int 8, .ref 98, .ref 99], (q_cX (q_uA q_AX 35 (upd (upd (upd (upd w205 4 32) 5 108) 6 100) 7 97)) (q_uI q_IX 34 3 8) q_J0, 40, 26520))) 6 (fun _ _ => rfl) ?_
        refine q_Ru_seg (g2 := (76, [(0, .ref 98), (1, .int 32)], [.ref 98], (q_cX (q_uA q_AX 35 (upd (upd (upd (upd (upd w205 4 32) 5 108) 6 100) 7 97) 8 32)) (q_uI q_IX 34 3 9) q_J0, 40, 26520))) 9 (fun _ _ => rfl) ?_
        exact q_Ru_ret rfl rfl
      show q_Ru _ _ _ (5, [(0, .ref 98), (1, .int 32)], [.ref 98], (q_cX (q_uA q_AX 35 (upd (upd (upd (upd (upd w205 4 32) 5 108) 6 100) 7 97) 8 32)) (q_uI q_IX 34 3 9) q_J0, 40, 26520)) _
      generalize (upd (upd (upd (upd (upd w205 4 32) 5 108) 6 100) 7 97) 8 32) = w206
      refine q_Ru_seg (g2 := (7, [(0, .ref 98), (1, .int 32)], [.ref 98], (q_cX (q_uA q_AX 35 w206) (q_uI q_IX 34 3 9) q_J0, 40, 26520))) 2 (fun _ _ => rfl) ?_
      exact q_Ru_ret rfl rfl
    show q_Ru _ _ _ (6, [(0, .ref 98), (1, .int 0), (2, .int 0)], [.ref 98], (q_cX (q_uA q_AX 35 (upd (upd (upd (upd (upd w205 4 32) 5 108) 6 100) 7 97) 8 32)) (q_uI q_IX 34 3 9) q_J0, 40, 26520)) _
    generalize (upd (upd (upd (upd (upd w205 4 32) 5 108) 6 100) 7 97) 8 32) = w207
    refine q_Ru_seg (g2 := (14, [(0, .ref 98), (1, .int 0), (2, .int 0)], [.int 35, .ref 98], (q_cX (q_uA q_AX 35 w207) (q_uI q_IX 34 3 9) q_J0, 40, 26520))) 5 (fun _ _ => rfl) ?_
    refine q_Ru_call (v := (some (.ref 98))) (h2 := (q_cX (q_uA q_AX 35 (upd w207 9 35)) (q_uI q_IX 34 3 10) q_J0, 40, 26520)) rfl rfl ?_ ?_
    · refine q_Ca_of (Nat.le_of_ble_eq_true rfl) ?_
      refine q_Ru_seg (g2 := (2, [(0, .ref 98), (1, .int 35)], [.int 35, .ref 98], (q_cX (q_uA q_AX 35 w207) (q_uI q_IX 34 3 9) q_J0, 40, 26520))) 2 (fun _ _ => rfl) ?_
      refine q_Ru_call (v := (some (.ref 98))) (h2 := (q_cX (q_uA q_AX 35 (upd w207 9 35)) (q_uI q_IX 34 3 10) q_J0, 40, 26520)) rfl rfl ?_ ?_
      · refine q_Ca_of (Nat.le_of_ble_eq_true rfl) ?_
        refine q_Ru_seg (g2 := (5, [(0, .ref 98), (1, .int 35)], [.int 9, .ref 98], (q_cX (q_uA q_AX 35 w207) (q_uI q_IX 34 3 9) q_J0, 40, 26520))) 3 (fun _ _ => rfl) ?_
        refine q_Ru_seg (g2 := (7, [(0, .ref 98), (1, .int 35)], [.int 10, .ref 98], (q_cX (q_uA q_AX 35 w207) (q_uI q_IX 34 3 9) q_J0, 40, 26520))) 2 (fun _ _ => rfl) ?_
        refine q_Ru_call (v := none) (h2 := (q_cX (q_uA q_AX 35 w207) (q_uI q_IX 34 3 9) q_J0, 40, 26520)) rfl rfl ?_ ?_
        · refine q_Ca_of (Nat.le_of_ble_eq_true rfl) ?_
          refine q_Ru_seg (g2 := (9, [(0, .ref 98), (1, .int 10)], [.int 0, .int 16], (q_cX (q_uA q_AX 35 w207) (q_uI q_IX 34 3 9) q_J0, 40, 26520))) 5 (fun _ _ => rfl) ?_
          refine q_Ru_seg (g2 := (38, [(2, .int 16), (0, .ref 98), (1, .int 10)], [], (q_cX (q_uA q_AX 35 w207) (q_uI q_IX 34 3 9) q_J0, 40, 26520))) 6 (fun _ _ => rfl) ?_
          exact q_Ru_ret rfl rfl
        show q_Ru _ _ _ (10, [(0, .ref 98), (1, .int 35)], [], (q_cX (q_uA q_AX 35 w207) (q_uI q_IX 34 3 9) q_J0, 40, 26520)) _
        refine q_Ru_seg (g2 := (11, [(0, .ref 98), (1, .int 35)], [.ref 98], (q_cX (q_uA q_AX 35 w207) (q_uI q_IX 34 3 9) q_J0, 40, 26520))) 1 (fun _ _ => rfl) ?_
        refine q_Ru_call (v := (some (.int 1))) (h2 := (q_cX (q_uA q_AX 35 w207) (q_uI q_IX 34 3 9) q_J0, 40, 26520)) rfl rfl ?_ ?_
        · refine q_Ca_of (Nat.le_of_ble_eq_true rfl) ?_
          refine q_Ru_seg (g2 := (10, [(0, .ref 98)], [.int 0], (q_cX (q_uA q_AX 35 w207) (q_uI q_IX 34 3 9) q_J0, 40, 26520))) 4 (fun _ _ => rfl) ?_
          refine q_Ru_seg (g2 := (18, [(0, .ref 98)], [.int 1], (q_cX (q_uA q_AX 35 w207) (q_uI q_IX 34 3 9) q_J0, 40, 26520))) 3 (fun _ _ => rfl) ?_
          exact q_Ru_ret rfl rfl
        show q_Ru _ _ _ (14, [(0, .ref 98), (1, .int 35)], [.int 1], (q_cX (q_uA q_AX 35 w207) (q_uI q_IX 34 3 9) q_J0, 40, 26520)) _
        refine q_Ru_seg (g2 := (18, [(0, .ref 98), (1, .int 35)], [.int 35], (q_cX (q_uA q_AX 35 w207) (q_uI q_IX 34 3 9) q_J0, 40, 26520))) 2 (fun _ _ => rfl) ?_
        refine q_Ru_call (v := (some (.int 1))) (h2 := (q_cX (q_uA q_AX 35 w207) (q_uI q_IX 34 3 9) q_J0, 40, 26520)) rfl rfl ?_ ?_
        · refine q_Ca_of (Nat.le_of_ble_eq_true rfl) ?_
          refine q_Ru_seg (g2 := (12, [(0, .int 35)], [.int 1], (q_cX (q_uA q_AX 35 w207) (q_uI q_IX 34 3 9) q_J0, 40, 26520))) 5 (fun _ _ => rfl) ?_
          exact q_Ru_ret rfl rfl
        show q_Ru _ _ _ (21, [(0, .ref 98), (1, .int 35)], [.int 1], (q_cX (q_uA q_AX 35 w207) (q_uI q_IX 34 3 9) q_J0, 40, 26520)) _
        refine q_Ru_seg (g2 := (33, [(0, .ref 98), (1, .int 35)], [.int 9, .ref 98, .ref 99], (q_cX (q_uA q_AX 35 w207) (q_uI q_IX 34 3 9) q_J0, 40, 26520))) 6 (fun _ _ => rfl) ?_
        refine q_Ru_seg (g2 := (76, [(0, .ref 98), (1, .int 35)], [.ref 98], (q_cX (q_uA q_AX 35 (upd w207 9 35)) (q_uI q_IX 34 3 10) q_J0, 40, 26520))) 9 (fun _ _ => rfl) ?_
        exact q_Ru_ret rfl rfl
      show q_Ru _ _ _ (5, [(0, .ref 98), (1, .int 35)], [.ref 98], (q_cX (q_uA q_AX 35 (upd w207 9 35)) (q_uI q_IX 34 3 10) q_J0, 40, 26520)) _
      refine q_Ru_seg (g2 := (7, [(0, .ref 98), (1, .int 35)], [.ref 98], (q_cX (q_uA q_AX 35 (upd w207 9 35)) (q_uI q_IX 34 3 10) q_J0, 40, 26520))) 2 (fun _ _ => rfl) ?_
      exact q_Ru_ret rfl rfl
    show q_Ru _ _ _ (17, [(0, .ref 98), (1, .int 0), (2, .int 0)], [.ref 98], (q_cX (q_uA q_AX 35 (upd w207 9 35)) (q_uI q_IX 34 3 10) q_J0, 40, 26520)) _
    exact q_Ru_le (Nat.le_of_ble_eq_true rfl) (q_xc159 L xs a hl_a hu_a w207)
  show q_Ru _ _ _ (111, [(6, .int 0), (5, .int 0), (4, .int 2), (3, .int 0), (0, .ref 98), (1, .ref 66), (2, .int a)], [], (q_cX (q_uA q_AX 35 (upd (upd (upd (upd (upd (upd (upd w205 4 32) 5 108) 6 100) 7 97) 8 32) 9 35) 10 48)) (q_uI q_IX 34 3 11) q_J0, 40, 26520)) _
  generalize (upd (upd (upd (upd (upd (upd (upd w205 4 32) 5 108) 6 100) 7 97) 8 32) 9 35) 10 48) = w208
  exact q_Ru_ret rfl rfl
set_option maxHeartbeats 20000000 in
theorem q_xc161 (L : Nat) (xs : Nat → Int32) (a : Int32) (hl_a : 1000 ≤ a.toInt) (hu_a : a.toInt ≤ 4095) (w205 : Nat → Int32) : q_Ru (q_TBs 98 L xs) 5 195 (42, [(5, .int 0), (4, .int 2), (3, .int 0), (0, .ref 98), (1, .ref 66), (2, .int a)], [.ref 98], (q_cX (q_uA q_AX 35 (upd w205 4 32)) (q_uI q_IX 34 3 5) q_J0, 40, 26520)) (.inl none, (q_cX (q_uA q_AX 35 (upd (upd (upd (upd (upd (upd (upd w205 4 32) 5 108) 6 100) 7 97) 8 32) 9 35) 10 48)) (q_uI q_IX 34 3 11) q_J0, 40, 26520)) := by
  refine q_Ru_seg (g2 := (45, [(5, .int 0), (4, .int 2), (3, .int 0), (0, .ref 98), (1, .ref 66), (2, .int a)], [.int 0, .ref 98], (q_cX (q_uA q_AX 35 (upd w205 4 32)) (q_uI q_IX 34 3 5) q_J0, 40, 26520))) 3 (fun _ _ => rfl) ?_
  refine q_Ru_call (v := none) (h2 := (q_cX (q_uA q_AX 35 (upd (upd (upd (upd w205 4 32) 5 108) 6 100) 7 97)) (q_uI q_IX 34 3 8) q_J0, 40, 26520)) rfl rfl ?_ ?_
  · refine q_Ca_of (Nat.le_of_ble_eq_true rfl) ?_
    refine q_Ru_seg (g2 := (1, [(0, .ref 98), (1, .int 0)], [.int 0], (q_cX (q_uA q_AX 35 (upd w205 4 32)) (q_uI q_IX 34 3 5) q_J0, 40, 26520))) 1 (fun _ _ => rfl) ?_
    refine q_Ru_call (v := (some (.int 0))) (h2 := (q_cX (q_uA q_AX 35 (upd w205 4 32)) (q_uI q_IX 34 3 5) q_J0, 40, 26520)) rfl rfl ?_ ?_
    · refine q_Ca_of (Nat.le_of_ble_eq_true rfl) ?_
      refine q_Ru_seg (g2 := (11, [(0, .int 0)], [.int 0], (q_cX (q_uA q_AX 35 (upd w205 4 32)) (q_uI q_IX 34 3 5) q_J0, 40, 26520))) 6 (fun _ _ => rfl) ?_
      exact q_Ru_ret rfl rfl
    show q_Ru _ _ _ (4, [(0, .ref 98), (1, .int 0)], [.int 0], (q_cX (q_uA q_AX 35 (upd w205 4 32)) (q_uI q_IX 34 3 5) q_J0, 40, 26520)) _
    refine q_Ru_seg (g2 := (44, [(4, .int 0), (3, .ref 12), (2, .int 0), (0, .ref 98), (1, .int 0)], [.ref 12, .int 2], (q_cX (q_uA q_AX 35 (upd w205 4 32)) (q_uI q_IX 34 3 5) q_J0, 40, 26520))) 19 (fun _ _ => rfl) ?_
    refine q_Ru_call (v := (some (.int 63))) (h2 := (q_cX (q_uA q_AX 35 (upd w205 4 32)) (q_uI q_IX 34 3 5) q_J0, 40, 26520)) rfl rfl ?_ ?_
    · refine q_Ca_of (Nat.le_of_ble_eq_true rfl) ?_
      refine q_Ru_seg (g2 := (6, [(0, .ref 12)], [.ref 12, .int 63], (q_cX (q_uA q_AX 35 (upd w205 4 32)) (q_uI q_IX 34 3 5) q_J0, 40, 26520))) 4 (fun _ _ => rfl) ?_
      refine q_Ru_call (v := (some (.int 0))) (h2 := (q_cX (q_uA q_AX 35 (upd w205 4 32)) (q_uI q_IX 34 3 5) q_J0, 40, 26520)) rfl rfl ?_ ?_
      · refine q_Ca_of (Nat.le_of_ble_eq_true rfl) ?_
        refine q_Ru_seg (g2 := (14, [(0, .ref 12)], [.int 0], (q_cX (q_uA q_AX 35 (upd w205 4 32)) (q_uI q_IX 34 3 5) q_J0, 40, 26520))) 5 (fun _ _ => rfl) ?_
        exact q_Ru_ret rfl rfl
      show q_Ru _ _ _ (9, [(0, .ref 12)], [.int 0, .int 63], (q_cX (q_uA q_AX 35 (upd w205 4 32)) (q_uI q_IX 34 3 5) q_J0, 40, 26520)) _
      refine q_Ru_seg (g2 := (10, [(0, .ref 12)], [.int 63], (q_cX (q_uA q_AX 35 (upd w205 4 32)) (q_uI q_IX 34 3 5) q_J0, 40, 26520))) 1 (fun _ _ => rfl) ?_
      exact q_Ru_ret rfl rfl
    show q_Ru _ _ _ (47, [(4, .int 0), (3, .ref 12), (2, .int 0), (0, .ref 98), (1, .int 0)], [.int 63, .int 2], (q_cX (q_uA q_AX 35 (upd w205 4 32)) (q_uI q_IX 34 3 5) q_J0, 40, 26520)) _
    exact q_Ru_le (Nat.le_of_ble_eq_true rfl) (q_xc158 L xs a hl_a hu_a w205)
  show q_Ru _ _ _ (48, [(5, .int 0), (4, .int 2), (3, .int 0), (0, .ref 98), (1, .ref 66), (2, .int a)], [], (q_cX (q_uA q_AX 35 (upd (upd (upd (upd w205 4 32) 5 108) 6 100) 7 97)) (q_uI q_IX 34 3 8) q_J0, 40, 26520)) _
  refine q_Ru_seg (g2 := (56, [(5, .int 0), (4, .int 2), (3, .int 0), (0, .ref 98), (1, .ref 66), (2, .int a)], [.int 0], (q_cX (q_uA q_AX 35 (upd (upd (upd (upd w205 4 32) 5 108) 6 100) 7 97)) (q_uI q_IX 34 3 8) q_J0, 40, 26520))) 4 (fun _ _ => rfl) ?_
  refine q_Ru_call (v := (some (.int 0))) (h2 := (q_cX (q_uA q_AX 35 (upd (upd (upd (upd w205 4 32) 5 108) 6 100) 7 97)) (q_uI q_IX 34 3 8) q_J0, 40, 26520)) rfl rfl ?_ ?_
  · refine q_Ca_of (Nat.le_of_ble_eq_true rfl) ?_
    refine q_Ru_seg (g2 := (19, [(0, .int 0)], [.int 0], (q_cX (q_uA q_AX 35 (upd (upd (upd (upd w205 4 32) 5 108) 6 100) 7 97)) (q_uI q_IX 34 3 8) q_J0, 40, 26520))) 4 (fun _ _ => rfl) ?_
    exact q_Ru_ret rfl rfl
  show q_Ru _ _ _ (59, [(5, .int 0), (4, .int 2), (3, .int 0), (0, .ref 98), (1, .ref 66), (2, .int a)], [.int 0], (q_cX (q_uA q_AX 35 (upd (upd (upd (upd w205 4 32) 5 108) 6 100) 7 97)) (q_uI q_IX 34 3 8) q_J0, 40, 26520)) _
  refine q_Ru_seg (g2 := (103, [(6, .int 0), (5, .int 0), (4, .int 2), (3, .int 0), (0, .ref 98), (1, .ref 66), (2, .int a)], [.int 0, .ref 98], (q_cX (q_uA q_AX 35 (upd (upd (upd (upd w205 4 32) 5 108) 6 100) 7 97)) (q_uI q_IX 34 3 8) q_J0, 40, 26520))) 9 (fun _ _ => rfl) ?_
  refine q_Ru_call (v := (some (.int 0))) (h2 := (q_cX (q_uA q_AX 35 (upd (upd (upd (upd w205 4 32) 5 108) 6 100) 7 97)) (q_uI q_IX 34 3 8) q_J0, 40, 26520)) rfl rfl ?_ ?_
  · refine q_Ca_of (Nat.le_of_ble_eq_true rfl) ?_
    refine q_Ru_seg (g2 := (1, [(0, .int 0)], [.int 0], (q_cX (q_uA q_AX 35 (upd (upd (upd (upd w205 4 32) 5 108) 6 100) 7 97)) (q_uI q_IX 34 3 8) q_J0, 40, 26520))) 1 (fun _ _ => rfl) ?_
    refine q_Ru_call (v := (some (.int 0))) (h2 := (q_cX (q_uA q_AX 35 (upd (upd (upd (upd w205 4 32) 5 108) 6 100) 7 97)) (q_uI q_IX 34 3 8) q_J0, 40, 26520)) rfl rfl ?_ ?_
    · refine q_Ca_of (Nat.le_of_ble_eq_true rfl) ?_
      refine q_Ru_seg (g2 := (11, [(0, .int 0)], [.int 0], (q_cX (q_uA q_AX 35 (upd (upd (upd (upd w205 4 32) 5 108) 6 100) 7 97)) (q_uI q_IX 34 3 8) q_J0, 40, 26520))) 6 (fun _ _ => rfl) ?_
      exact q_Ru_ret rfl rfl
    show q_Ru _ _ _ (4, [(0, .int 0)], [.int 0], (q_cX (q_uA q_AX 35 (upd (upd (upd (upd w205 4 32) 5 108) 6 100) 7 97)) (q_uI q_IX 34 3 8) q_J0, 40, 26520)) _
    refine q_Ru_seg (g2 := (11, [(0, .int 0)], [.int 0], (q_cX (q_uA q_AX 35 (upd (upd (upd (upd w205 4 32) 5 108) 6 100) 7 97)) (q_uI q_IX 34 3 8) q_J0, 40, 26520))) 4 (fun _ _ => rfl) ?_
    exact q_Ru_ret rfl rfl
  show q_Ru _ _ _ (106, [(6, .int 0), (5, .int 0), (4, .int 2), (3, .int 0), (0, .ref 98), (1, .ref 66), (2, .int a)], [.int 0, .ref 98], (q_cX (q_uA q_AX 35 (upd (upd (upd (upd w205 4 32) 5 108) 6 100) 7 97)) (q_uI q_IX 34 3 8) q_J0, 40, 26520)) _
  exact q_Ru_le (Nat.le_of_ble_eq_true rfl) (q_xc160 L xs a hl_a hu_a w205)
set_option maxHeartbeats 20000000 in
theorem q_xc162 (L : Nat) (xs : Nat → Int32) (a : Int32) (hl_a : 1000 ≤ a.toInt) (hu_a : a.toInt ≤ 4095) (h190 : decide (a < 0) = false) (h192 : decide ((-10) < -a) = false) (h193 : decide ((-100) < -a) = false) (h194 : decide ((-1000) < -a) = false) (h195 : decide ((-10000) < -a) = true) (h196 : decide ((-100) < (-a) / 100) = true) (h197 : decide ((-a) / 100 < (-9)) = true) : q_Ru (q_TBs 98 L xs) 5 195 (30, [(5, .int 0), (4, .int 2), (3, .int 0), (0, .ref 98), (1, .ref 66), (2, .int a)], [], (q_cX q_AX (q_uI q_IX 34 3 0) q_J0, 40, 26520)) (.inl none, (q_cX (q_uA q_AX 35 (upd (upd (upd (upd (upd (upd (upd (upd (upd (upd (upd (fun _ => 0) 3 (vp_nar .byte ((fun j => q_o6.getD j 0) (((((-a) / 100) * 100) - (-a)).toNatClampNeg)))) 2 (vp_nar .byte ((fun j => q_o7.getD j 0) (((((-a) / 100) * 100) - (-a)).toNatClampNeg)))) 1 (vp_nar .byte ((fun j => q_o6.getD j 0) ((-((-a) / 100)).toNatClampNeg)))) 0 (vp_nar .byte ((fun j => q_o7.getD j 0) ((-((-a) / 100)).toNatClampNeg)))) 4 32) 5 108) 6 100) 7 97) 8 32) 9 35) 10 48)) (q_uI q_IX 34 3 11) q_J0, 40, 26520)) := by
  refine q_Ru_seg (g2 := (32, [(5, .int 0), (4, .int 2), (3, .int 0), (0, .ref 98), (1, .ref 66), (2, .int a)], [.int a, .ref 98], (q_cX q_AX (q_uI q_IX 34 3 0) q_J0, 40, 26520))) 2 (fun _ _ => rfl) ?_
  refine q_Ru_call (v := (some (.ref 98))) (h2 := (q_cX (q_uA q_AX 35 (upd (upd (upd (upd (fun _ => 0) 3 (vp_nar .byte ((fun j => q_o6.getD j 0) (((((-a) / 100) * 100) - (-a)).toNatClampNeg)))) 2 (vp_nar .byte ((fun j => q_o7.getD j 0) (((((-a) / 100) * 100) - (-a)).toNatClampNeg)))) 1 (vp_nar .byte ((fun j => q_o6.getD j 0) ((-((-a) / 100)).toNatClampNeg)))) 0 (vp_nar .byte ((fun j => q_o7.getD j 0) ((-((-a) / 100)).toNatClampNeg))))) (q_uI q_IX 34 3 4) q_J0, 40, 26520)) rfl rfl ?_ ?_
  · refine q_Ca_of (Nat.le_of_ble_eq_true rfl) ?_
    refine q_Ru_seg (g2 := (2, [(0, .ref 98), (1, .int a)], [.int a, .ref 98], (q_cX q_AX (q_uI q_IX 34 3 0) q_J0, 40, 26520))) 2 (fun _ _ => rfl) ?_
    refine q_Ru_call (v := (some (.ref 98))) (h2 := (q_cX (q_uA q_AX 35 (upd (upd (upd (upd (fun _ => 0) 3 (vp_nar .byte ((fun j => q_o6.getD j 0) (((((-a) / 100) * 100) - (-a)).toNatClampNeg)))) 2 (vp_nar .byte ((fun j => q_o7.getD j 0) (((((-a) / 100) * 100) - (-a)).toNatClampNeg)))) 1 (vp_nar .byte ((fun j => q_o6.getD j 0) ((-((-a) / 100)).toNatClampNeg)))) 0 (vp_nar .byte ((fun j => q_o7.getD j 0) ((-((-a) / 100)).toNatClampNeg))))) (q_uI q_IX 34 3 4) q_J0, 40, 26520)) rfl rfl ?_ ?_
    · refine q_Ca_of (Nat.le_of_ble_eq_true rfl) ?_
      refine q_Ru_seg (g2 := (4, [(0, .ref 98), (1, .int a)], [.int 0], (q_cX q_AX (q_uI q_IX 34 3 0) q_J0, 40, 26520))) 2 (fun _ _ => rfl) ?_
      refine q_Ru_seg (g2 := (7, [(2, .int 0), (0, .ref 98), (1, .int a)], [.int a, .int 0], (q_cX q_AX (q_uI q_IX 34 3 0) q_J0, 40, 26520))) 3 (fun _ _ => rfl) ?_
      refine q_Ru_call (v := (some (.int 4))) (h2 := (q_cX q_AX (q_uI q_IX 34 3 0) q_J0, 40, 26520)) rfl rfl ?_ ?_
      · refine q_Ca_of (Nat.le_of_ble_eq_true rfl) ?_
        refine q_Ru_seg (g2 := (3, [(1, .int 1), (0, .int a)], [.int a], (q_cX q_AX (q_uI q_IX 34 3 0) q_J0, 40, 26520))) 3 (fun _ _ => rfl) ?_
        refine q_Ru_rsF (g2 := (6, [(1, .int 1), (0, .int a)], [], (q_cX q_AX (q_uI q_IX 34 3 0) q_J0, 40, 26520))) rfl rfl h190 ?_
        refine q_Ru_seg (g2 := (24, [(3, .int 1), (2, .int (-10)), (0, .int (-a)), (1, .int 0)], [.int (-10), .int (-a)], (q_cX q_AX (q_uI q_IX 34 3 0) q_J0, 40, 26520))) 14 (fun _ _ => rfl) ?_
        refine q_Ru_rsT (g2 := (31, [(3, .int 1), (2, .int (-10)), (0, .int (-a)), (1, .int 0)], [], (q_cX q_AX (q_uI q_IX 34 3 0) q_J0, 40, 26520))) rfl rfl (q_d_geF h192) ?_
        refine q_Ru_seg (g2 := (24, [(3, .int 2), (2, .int (-100)), (0, .int (-a)), (1, .int 0)], [.int (-100), .int (-a)], (q_cX q_AX (q_uI q_IX 34 3 0) q_J0, 40, 26520))) 11 (fun _ _ => rfl) ?_
        refine q_Ru_rsT (g2 := (31, [(3, .int 2), (2, .int (-100)), (0, .int (-a)), (1, .int 0)], [], (q_cX q_AX (q_uI q_IX 34 3 0) q_J0, 40, 26520))) rfl rfl (q_d_geF h193) ?_
        refine q_Ru_seg (g2 := (24, [(3, .int 3), (2, .int (-1000)), (0, .int (-a)), (1, .int 0)], [.int (-1000), .int (-a)], (q_cX q_AX (q_uI q_IX 34 3 0) q_J0, 40, 26520))) 11 (fun _ _ => rfl) ?_
        refine q_Ru_rsT (g2 := (31, [(3, .int 3), (2, .int (-1000)), (0, .int (-a)), (1, .int 0)], [], (q_cX q_AX (q_uI q_IX 34 3 0) q_J0, 40, 26520))) rfl rfl (q_d_geF h194) ?_
        refine q_Ru_seg (g2 := (24, [(3, .int 4), (2, .int (-10000)), (0, .int (-a)), (1, .int 0)], [.int (-10000), .int (-a)], (q_cX q_AX (q_uI q_IX 34 3 0) q_J0, 40, 26520))) 11 (fun _ _ => rfl) ?_
        refine q_Ru_rsF (g2 := (27, [(3, .int 4), (2, .int (-10000)), (0, .int (-a)), (1, .int 0)], [], (q_cX q_AX (q_uI q_IX 34 3 0) q_J0, 40, 26520))) rfl rfl (q_d_geT h195) ?_
        refine q_Ru_seg (g2 := (30, [(3, .int 4), (2, .int (-10000)), (0, .int (-a)), (1, .int 0)], [.int 4], (q_cX q_AX (q_uI q_IX 34 3 0) q_J0, 40, 26520))) 3 (fun _ _ => rfl) ?_
        exact q_Ru_ret rfl rfl
      show q_Ru _ _ _ (10, [(2, .int 0), (0, .ref 98), (1, .int a)], [.int 4, .int 0], (q_cX q_AX (q_uI q_IX 34 3 0) q_J0, 40, 26520)) _
      exact q_Ru_le (Nat.le_of_ble_eq_true rfl) (q_xc155 L xs a hl_a hu_a h190 h193 h196 h197)
    show q_Ru _ _ _ (5, [(0, .ref 98), (1, .int a)], [.ref 98], (q_cX (q_uA q_AX 35 (upd (upd (upd (upd (fun _ => 0) 3 (vp_nar .byte ((fun j => q_o6.getD j 0) (((((-a) / 100) * 100) - (-a)).toNatClampNeg)))) 2 (vp_nar .byte ((fun j => q_o7.getD j 0) (((((-a) / 100) * 100) - (-a)).toNatClampNeg)))) 1 (vp_nar .byte ((fun j => q_o6.getD j 0) ((-((-a) / 100)).toNatClampNeg)))) 0 (vp_nar .byte ((fun j => q_o7.getD j 0) ((-((-a) / 100)).toNatClampNeg))))) (q_uI q_IX 34 3 4) q_J0, 40, 26520)) _
    generalize (upd (upd (upd (upd (fun _ => 0) 3 (vp_nar .byte ((fun j => q_o6.getD j 0) (((((-a) / 100) * 100) - (-a)).toNatClampNeg)))) 2 (vp_nar .byte ((fun j => q_o7.getD j 0) (((((-a) / 100) * 100) - (-a)).toNatClampNeg)))) 1 (vp_nar .byte ((fun j => q_o6.getD j 0) ((-((-a) / 100)).toNatClampNeg)))) 0 (vp_nar .byte ((fun j => q_o7.getD j 0) ((-((-a) / 100)).toNatClampNeg)))) = w204
    refine q_Ru_seg (g2 := (7, [(0, .ref 98), (1, .int a)], [.ref 98], (q_cX (q_uA q_AX 35 w204) (q_uI q_IX 34 3 4) q_J0, 40, 26520))) 2 (fun _ _ => rfl) ?_
    exact q_Ru_ret rfl rfl
  show q_Ru _ _ _ (35, [(5, .int 0), (4, .int 2), (3, .int 0), (0, .ref 98), (1, .ref 66), (2, .int a)], [.ref 98], (q_cX (q_uA q_AX 35 (upd (upd (upd (upd (fun _ => 0) 3 (vp_nar .byte ((fun j => q_o6.getD j 0) (((((-a) / 100) * 100) - (-a)).toNatClampNeg)))) 2 (vp_nar .byte ((fun j => q_o7.getD j 0) (((((-a) / 100) * 100) - (-a)).toNatClampNeg)))) 1 (vp_nar .byte ((fun j => q_o6.getD j 0) ((-((-a) / 100)).toNatClampNeg)))) 0 (vp_nar .byte ((fun j => q_o7.getD j 0) ((-((-a) / 100)).toNatClampNeg))))) (q_uI q_IX 34 3 4) q_J0, 40, 26520)) _
  generalize (upd (upd (upd (upd (fun _ => 0) 3 (vp_nar .byte ((fun j => q_o6.getD j 0) (((((-a) / 100) * 100) - (-a)).toNatClampNeg)))) 2 (vp_nar .byte ((fun j => q_o7.getD j 0) (((((-a) / 100) * 100) - (-a)).toNatClampNeg)))) 1 (vp_nar .byte ((fun j => q_o6.getD j 0) ((-((-a) / 100)).toNatClampNeg)))) 0 (vp_nar .byte ((fun j => q_o7.getD j 0) ((-((-a) / 100)).toNatClampNeg)))) = w205
  refine q_Ru_seg (g2 := (39, [(5, .int 0), (4, .int 2), (3, .int 0), (0, .ref 98), (1, .ref 66), (2, .int a)], [.int 32, .ref 98], (q_cX (q_uA q_AX 35 w205) (q_uI q_IX 34 3 4) q_J0, 40, 26520))) 3 (fun _ _ => rfl) ?_
  refine q_Ru_call (v := (some (.ref 98))) (h2 := (q_cX (q_uA q_AX 35 (upd w205 4 32)) (q_uI q_IX 34 3 5) q_J0, 40, 26520)) rfl rfl ?_ ?_
  · refine q_Ca_of (Nat.le_of_ble_eq_true rfl) ?_
    refine q_Ru_seg (g2 := (2, [(0, .ref 98), (1, .int 32)], [.int 32, .ref 98], (q_cX (q_uA q_AX 35 w205) (q_uI q_IX 34 3 4) q_J0, 40, 26520))) 2 (fun _ _ => rfl) ?_
    refine q_Ru_call (v := (some (.ref 98))) (h2 := (q_cX (q_uA q_AX 35 (upd w205 4 32)) (q_uI q_IX 34 3 5) q_J0, 40, 26520)) rfl rfl ?_ ?_
    · refine q_Ca_of (Nat.le_of_ble_eq_true rfl) ?_
      refine q_Ru_seg (g2 := (5, [(0, .ref 98), (1, .int 32)], [.int 4, .ref 98], (q_cX (q_uA q_AX 35 w205) (q_uI q_IX 34 3 4) q_J0, 40, 26520))) 3 (fun _ _ => rfl) ?_
      refine q_Ru_seg (g2 := (7, [(0, .ref 98), (1, .int 32)], [.int 5, .ref 98], (q_cX (q_uA q_AX 35 w205) (q_uI q_IX 34 3 4) q_J0, 40, 26520))) 2 (fun _ _ => rfl) ?_
      refine q_Ru_call (v := none) (h2 := (q_cX (q_uA q_AX 35 w205) (q_uI q_IX 34 3 4) q_J0, 40, 26520)) rfl rfl ?_ ?_
      · refine q_Ca_of (Nat.le_of_ble_eq_true rfl) ?_
        refine q_Ru_seg (g2 := (9, [(0, .ref 98), (1, .int 5)], [.int 0, .int 16], (q_cX (q_uA q_AX 35 w205) (q_uI q_IX 34 3 4) q_J0, 40, 26520))) 5 (fun _ _ => rfl) ?_
        refine q_Ru_seg (g2 := (38, [(2, .int 16), (0, .ref 98), (1, .int 5)], [], (q_cX (q_uA q_AX 35 w205) (q_uI q_IX 34 3 4) q_J0, 40, 26520))) 6 (fun _ _ => rfl) ?_
        exact q_Ru_ret rfl rfl
      show q_Ru _ _ _ (10, [(0, .ref 98), (1, .int 32)], [], (q_cX (q_uA q_AX 35 w205) (q_uI q_IX 34 3 4) q_J0, 40, 26520)) _
      refine q_Ru_seg (g2 := (11, [(0, .ref 98), (1, .int 32)], [.ref 98], (q_cX (q_uA q_AX 35 w205) (q_uI q_IX 34 3 4) q_J0, 40, 26520))) 1 (fun _ _ => rfl) ?_
      refine q_Ru_call (v := (some (.int 1))) (h2 := (q_cX (q_uA q_AX 35 w205) (q_uI q_IX 34 3 4) q_J0, 40, 26520)) rfl rfl ?_ ?_
      · refine q_Ca_of (Nat.le_of_ble_eq_true rfl) ?_
        refine q_Ru_seg (g2 := (10, [(0, .ref 98)], [.int 0], (q_cX (q_uA q_AX 35 w205) (q_uI q_IX 34 3 4) q_J0, 40, 26520))) 4 (fun _ _ => rfl) ?_
        refine q_Ru_seg (g2 := (18, [(0, .ref 98)], [.int 1], (q_cX (q_uA q_AX 35 w205) (q_uI q_IX 34 3 4) q_J0, 40, 26520))) 3 (fun _ _ => rfl) ?_
        exact q_Ru_ret rfl rfl
      show q_Ru _ _ _ (14, [(0, .ref 98), (1, .int 32)], [.int 1], (q_cX (q_uA q_AX 35 w205) (q_uI q_IX 34 3 4) q_J0, 40, 26520)) _
      refine q_Ru_seg (g2 := (18, [(0, .ref 98), (1, .int 32)], [.int 32], (q_cX (q_uA q_AX 35 w205) (q_uI q_IX 34 3 4) q_J0, 40, 26520))) 2 (fun _ _ => rfl) ?_
      refine q_Ru_call (v := (some (.int 1))) (h2 := (q_cX (q_uA q_AX 35 w205) (q_uI q_IX 34 3 4) q_J0, 40, 26520)) rfl rfl ?_ ?_
      · refine q_Ca_of (Nat.le_of_ble_eq_true rfl) ?_
        refine q_Ru_seg (g2 := (12, [(0, .int 32)], [.int 1], (q_cX (q_uA q_AX 35 w205) (q_uI q_IX 34 3 4) q_J0, 40, 26520))) 5 (fun _ _ => rfl) ?_
        exact q_Ru_ret rfl rfl
      show q_Ru _ _ _ (21, [(0, .ref 98), (1, .int 32)], [.int 1], (q_cX (q_uA q_AX 35 w205) (q_uI q_IX 34 3 4) q_J0, 40, 26520)) _
      refine q_Ru_seg (g2 := (33, [(0, .ref 98), (1, .int 32)], [.int 4, .ref 98, .ref 99], (q_cX (q_uA q_AX 35 w205) (q_uI q_IX 34 3 4) q_J0, 40, 26520))) 6 (fun _ _ => rfl) ?_
      refine q_Ru_seg (g2 := (76, [(0, .ref 98), (1, .int 32)], [.ref 98], (q_cX (q_uA q_AX 35 (upd w205 4 32)) (q_uI q_IX 34 3 5) q_J0, 40, 26520))) 9 (fun _ _ => rfl) ?_
      exact q_Ru_ret rfl rfl
    show q_Ru _ _ _ (5, [(0, .ref 98), (1, .int 32)], [.ref 98], (q_cX (q_uA q_AX 35 (upd w205 4 32)) (q_uI q_IX 34 3 5) q_J0, 40, 26520)) _
    refine q_Ru_seg (g2 := (7, [(0, .ref 98), (1, .int 32)], [.ref 98], (q_cX (q_uA q_AX 35 (upd w205 4 32)) (q_uI q_IX 34 3 5) q_J0, 40, 26520))) 2 (fun _ _ => rfl) ?_
    exact q_Ru_ret rfl rfl
  show q_Ru _ _ _ (42, [(5, .int 0), (4, .int 2), (3, .int 0), (0, .ref 98), (1, .ref 66), (2, .int a)], [.ref 98], (q_cX (q_uA q_AX 35 (upd w205 4 32)) (q_uI q_IX 34 3 5) q_J0, 40, 26520)) _
  exact q_Ru_le (Nat.le_of_ble_eq_true rfl) (q_xc161 L xs a hl_a hu_a w205)
set_option maxHeartbeats 20000000 in
theorem q_xc163 (L : Nat) (xs : Nat → Int32) (a : Int32) (hl_a : 1000 ≤ a.toInt) (hu_a : a.toInt ≤ 4095) (h190 : decide (a < 0) = false) (h192 : decide ((-10) < -a) = false) (h193 : decide ((-100) < -a) = false) (h194 : decide ((-1000) < -a) = false) (h195 : decide ((-10000) < -a) = true) (h196 : decide ((-100) < (-a) / 100) = true) (h197 : decide ((-a) / 100 < (-9)) = true) : q_Ru (q_TBs 98 L xs) 6 34 (4, [(0, .ref 64), (1, .int a)], [], (q_cX q_AX q_IX q_J0, 40, 26520)) (.inl (some (.int 11)), (q_cX (q_uA q_AX 35 (upd (upd (upd (upd (upd (upd (upd (upd (upd (upd (upd (fun _ => 0) 3 (vp_nar .byte ((fun j => q_o6.getD j 0) (((((-a) / 100) * 100) - (-a)).toNatClampNeg)))) 2 (vp_nar .byte ((fun j => q_o7.getD j 0) (((((-a) / 100) * 100) - (-a)).toNatClampNeg)))) 1 (vp_nar .byte ((fun j => q_o6.getD j 0) ((-((-a) / 100)).toNatClampNeg)))) 0 (vp_nar .byte ((fun j => q_o7.getD j 0) ((-((-a) / 100)).toNatClampNeg)))) 4 32) 5 108) 6 100) 7 97) 8 32) 9 35) 10 48)) (q_uI q_IX 34 3 11) q_J0, 40, 26520)) := by
  refine q_Ru_seg (g2 := (16, [(0, .ref 64), (1, .int a)], [.int a, .ref 66, .ref 98], (q_cX q_AX q_IX q_J0, 40, 26520))) 6 (fun _ _ => rfl) ?_
  refine q_Ru_call (v := none) (h2 := (q_cX (q_uA q_AX 35 (upd (upd (upd (upd (upd (upd (upd (upd (upd (upd (upd (fun _ => 0) 3 (vp_nar .byte ((fun j => q_o6.getD j 0) (((((-a) / 100) * 100) - (-a)).toNatClampNeg)))) 2 (vp_nar .byte ((fun j => q_o7.getD j 0) (((((-a) / 100) * 100) - (-a)).toNatClampNeg)))) 1 (vp_nar .byte ((fun j => q_o6.getD j 0) ((-((-a) / 100)).toNatClampNeg)))) 0 (vp_nar .byte ((fun j => q_o7.getD j 0) ((-((-a) / 100)).toNatClampNeg)))) 4 32) 5 108) 6 100) 7 97) 8 32) 9 35) 10 48)) (q_uI q_IX 34 3 11) q_J0, 40, 26520)) rfl rfl ?_ ?_
  · refine q_Ca_of (Nat.le_of_ble_eq_true rfl) ?_
    refine q_Ru_seg (g2 := (2, [(0, .ref 98), (1, .ref 66), (2, .int a)], [.int a, .ref 66], (q_cX q_AX q_IX q_J0, 40, 26520))) 2 (fun _ _ => rfl) ?_
    refine q_Ru_call (v := (some (.int 0))) (h2 := (q_cX q_AX q_IX q_J0, 40, 26520)) rfl rfl ?_ ?_
    · exact ((q_p_read0 a (Int.le_trans (by decide) hl_a) hu_a).le (Nat.le_of_ble_eq_true rfl)).tb q_TB0_le
    show q_Ru _ _ _ (5, [(0, .ref 98), (1, .ref 66), (2, .int a)], [.int 0], (q_cX q_AX q_IX q_J0, 40, 26520)) _
    refine q_Ru_seg (g2 := (7, [(3, .int 0), (0, .ref 98), (1, .ref 66), (2, .int a)], [.int 0], (q_cX q_AX q_IX q_J0, 40, 26520))) 2 (fun _ _ => rfl) ?_
    refine q_Ru_call (v := (some (.int 2))) (h2 := (q_cX q_AX q_IX q_J0, 40, 26520)) rfl rfl ?_ ?_
    · refine q_Ca_of (Nat.le_of_ble_eq_true rfl) ?_
      refine q_Ru_seg (g2 := (1, [(0, .int 0)], [.int 0], (q_cX q_AX q_IX q_J0, 40, 26520))) 1 (fun _ _ => rfl) ?_
      refine q_Ru_call (v := (some (.int 0))) (h2 := (q_cX q_AX q_IX q_J0, 40, 26520)) rfl rfl ?_ ?_
      · refine q_Ca_of (Nat.le_of_ble_eq_true rfl) ?_
        refine q_Ru_seg (g2 := (11, [(0, .int 0)], [.int 0], (q_cX q_AX q_IX q_J0, 40, 26520))) 6 (fun _ _ => rfl) ?_
        exact q_Ru_ret rfl rfl
      show q_Ru _ _ _ (4, [(0, .int 0)], [.int 0], (q_cX q_AX q_IX q_J0, 40, 26520)) _
      refine q_Ru_seg (g2 := (27, [(1, .int 0), (0, .int 0)], [.int 2], (q_cX q_AX q_IX q_J0, 40, 26520))) 9 (fun _ _ => rfl) ?_
      exact q_Ru_ret rfl rfl
    show q_Ru _ _ _ (10, [(3, .int 0), (0, .ref 98), (1, .ref 66), (2, .int a)], [.int 2], (q_cX q_AX q_IX q_J0, 40, 26520)) _
    refine q_Ru_seg (g2 := (20, [(4, .int 2), (3, .int 0), (0, .ref 98), (1, .ref 66), (2, .int a)], [.int ((a + 1) &&& 4095), .ref 66], (q_cX q_AX q_IX q_J0, 40, 26520))) 7 (fun _ _ => rfl) ?_
    refine q_Ru_call (v := (some (.int 0))) (h2 := (q_cX q_AX q_IX q_J0, 40, 26520)) rfl rfl ?_ ?_
    · exact ((q_p_read0 ((a + 1) &&& 4095) (q_and_lo (a + 1) 4095) (q_and_hi (a + 1) 4095 4095)).le (Nat.le_of_ble_eq_true rfl)).tb q_TB0_le
    show q_Ru _ _ _ (23, [(4, .int 2), (3, .int 0), (0, .ref 98), (1, .ref 66), (2, .int a)], [.int 0], (q_cX q_AX q_IX q_J0, 40, 26520)) _
    refine q_Ru_seg (g2 := (27, [(5, .int 0), (4, .int 2), (3, .int 0), (0, .ref 98), (1, .ref 66), (2, .int a)], [.int 0, .ref 98], (q_cX q_AX q_IX q_J0, 40, 26520))) 3 (fun _ _ => rfl) ?_
    refine q_Ru_call (v := none) (h2 := (q_cX q_AX (q_uI q_IX 34 3 0) q_J0, 40, 26520)) rfl rfl ?_ ?_
    · refine q_Ca_of (Nat.le_of_ble_eq_true rfl) ?_
      refine q_Ru_seg (g2 := (2, [(0, .ref 98), (1, .int 0)], [.int 0, .ref 98], (q_cX q_AX q_IX q_J0, 40, 26520))) 2 (fun _ _ => rfl) ?_
      refine q_Ru_call (v := none) (h2 := (q_cX q_AX (q_uI q_IX 34 3 0) q_J0, 40, 26520)) rfl rfl ?_ ?_
      · refine q_Ca_of (Nat.le_of_ble_eq_true rfl) ?_
        refine q_Ru_seg (g2 := (15, [(0, .ref 98), (1, .int 0)], [.int 0, .ref 98], (q_cX q_AX q_IX q_J0, 40, 26520))) 4 (fun _ _ => rfl) ?_
        refine q_Ru_call (v := none) (h2 := (q_cX q_AX q_IX q_J0, 40, 26520)) rfl rfl ?_ ?_
        · refine q_Ca_of (Nat.le_of_ble_eq_true rfl) ?_
          refine q_Ru_seg (g2 := (9, [(0, .ref 98), (1, .int 0)], [.int 0, .int 16], (q_cX q_AX q_IX q_J0, 40, 26520))) 5 (fun _ _ => rfl) ?_
          refine q_Ru_seg (g2 := (38, [(2, .int 16), (0, .ref 98), (1, .int 0)], [], (q_cX q_AX q_IX q_J0, 40, 26520))) 6 (fun _ _ => rfl) ?_
          exact q_Ru_ret rfl rfl
        show q_Ru _ _ _ (18, [(0, .ref 98), (1, .int 0)], [], (q_cX q_AX q_IX q_J0, 40, 26520)) _
        refine q_Ru_seg (g2 := (22, [(0, .ref 98), (1, .int 0)], [.int 0], (q_cX q_AX q_IX q_J0, 40, 26520))) 2 (fun _ _ => rfl) ?_
        refine q_Ru_seg (g2 := (67, [(0, .ref 98), (1, .int 0)], [.int 0], (q_cX q_AX q_IX q_J0, 40, 26520))) 4 (fun _ _ => rfl) ?_
        refine q_Ru_seg (g2 := (81, [(0, .ref 98), (1, .int 0)], [], (q_cX q_AX (q_uI q_IX 34 3 0) q_J0, 40, 26520))) 5 (fun _ _ => rfl) ?_
        exact q_Ru_ret rfl rfl
      show q_Ru _ _ _ (5, [(0, .ref 98), (1, .int 0)], [], (q_cX q_AX (q_uI q_IX 34 3 0) q_J0, 40, 26520)) _
      exact q_Ru_ret rfl rfl
    show q_Ru _ _ _ (30, [(5, .int 0), (4, .int 2), (3, .int 0), (0, .ref 98), (1, .ref 66), (2, .int a)], [], (q_cX q_AX (q_uI q_IX 34 3 0) q_J0, 40, 26520)) _
    exact q_Ru_le (Nat.le_of_ble_eq_true rfl) (q_xc162 L xs a hl_a hu_a h190 h192 h193 h194 h195 h196 h197)
  show q_Ru _ _ _ (19, [(0, .ref 64), (1, .int a)], [], (q_cX (q_uA q_AX 35 (upd (upd (upd (upd (upd (upd (upd (upd (upd (upd (upd (fun _ => 0) 3 (vp_nar .byte ((fun j => q_o6.getD j 0) (((((-a) / 100) * 100) - (-a)).toNatClampNeg)))) 2 (vp_nar .byte ((fun j => q_o7.getD j 0) (((((-a) / 100) * 100) - (-a)).toNatClampNeg)))) 1 (vp_nar .byte ((fun j => q_o6.getD j 0) ((-((-a) / 100)).toNatClampNeg)))) 0 (vp_nar .byte ((fun j => q_o7.getD j 0) ((-((-a) / 100)).toNatClampNeg)))) 4 32) 5 108) 6 100) 7 97) 8 32) 9 35) 10 48)) (q_uI q_IX 34 3 11) q_J0, 40, 26520)) _
  generalize (upd (upd (upd (upd (upd (upd (upd (upd (upd (upd (upd (fun _ => 0) 3 (vp_nar .byte ((fun j => q_o6.getD j 0) (((((-a) / 100) * 100) - (-a)).toNatClampNeg)))) 2 (vp_nar .byte ((fun j => q_o7.getD j 0) (((((-a) / 100) * 100) - (-a)).toNatClampNeg)))) 1 (vp_nar .byte ((fun j => q_o6.getD j 0) ((-((-a) / 100)).toNatClampNeg)))) 0 (vp_nar .byte ((fun j => q_o7.getD j 0) ((-((-a) / 100)).toNatClampNeg)))) 4 32) 5 108) 6 100) 7 97) 8 32) 9 35) 10 48) = w209
  refine q_Ru_seg (g2 := (23, [(0, .ref 64), (1, .int a)], [.ref 98], (q_cX (q_uA q_AX 35 w209) (q_uI q_IX 34 3 11) q_J0, 40, 26520))) 2 (fun _ _ => rfl) ?_
  refine q_Ru_call (v := (some (.int 11))) (h2 := (q_cX (q_uA q_AX 35 w209) (q_uI q_IX 34 3 11) q_J0, 40, 26520)) rfl rfl ?_ ?_
  · refine q_Ca_of (Nat.le_of_ble_eq_true rfl) ?_
    refine q_Ru_seg (g2 := (1, [(0, .ref 98)], [.ref 98], (q_cX (q_uA q_AX 35 w209) (q_uI q_IX 34 3 11) q_J0, 40, 26520))) 1 (fun _ _ => rfl) ?_
    refine q_Ru_call (v := (some (.int 11))) (h2 := (q_cX (q_uA q_AX 35 w209) (q_uI q_IX 34 3 11) q_J0, 40, 26520)) rfl rfl ?_ ?_
    · refine q_Ca_of (Nat.le_of_ble_eq_true rfl) ?_
      refine q_Ru_seg (g2 := (4, [(0, .ref 98)], [.int 11], (q_cX (q_uA q_AX 35 w209) (q_uI q_IX 34 3 11) q_J0, 40, 26520))) 2 (fun _ _ => rfl) ?_
      exact q_Ru_ret rfl rfl
    show q_Ru _ _ _ (4, [(0, .ref 98)], [.int 11], (q_cX (q_uA q_AX 35 w209) (q_uI q_IX 34 3 11) q_J0, 40, 26520)) _
    exact q_Ru_ret rfl rfl
  show q_Ru _ _ _ (26, [(0, .ref 64), (1, .int a)], [.int 11], (q_cX (q_uA q_AX 35 w209) (q_uI q_IX 34 3 11) q_J0, 40, 26520)) _
  exact q_Ru_ret rfl rfl
set_option maxHeartbeats 20000000 in
theorem q_xc164 (L : Nat) (xs : Nat → Int32) (a : Int32) (hl_a : 1000 ≤ a.toInt) (hu_a : a.toInt ≤ 4095) (f24 : Nat → Int32) (f25 : Nat → Int32) (p25 : q_Ca q_TB0 4 214 [.ref 64, .int ((a + 1) &&& 4095)] (q_cM (q_uA (q_uA q_AM 33 f24) 32 (upd (upd (upd (upd (upd (upd (upd (upd (upd (upd (fun _ => 0) 0 (vp_nar .char ((((48 : Int32) + ((((a / 10) / 10) / 10) - (((a / 10) / 10) / 10) / 10 * 10)).toUInt32 % 65536).toInt32))) 1 (vp_nar .char ((((48 : Int32) + (((a / 10) / 10) - ((a / 10) / 10) / 10 * 10)).toUInt32 % 65536).toInt32))) 2 (vp_nar .char ((((48 : Int32) + ((a / 10) - (a / 10) / 10 * 10)).toUInt32 % 65536).toInt32))) 3 (vp_nar .char ((((48 : Int32) + (a - a / 10 * 10)).toUInt32 % 65536).toInt32))) 4 32) 5 108) 6 100) 7 97) 8 32) 9 35)) (q_uI (q_uI q_IM 0 39 0) 0 35 10) q_J0, 34, 31630) (.inl (some (.int 0)), (q_cM (q_uA (q_uA q_AM 33 f25) 32 (upd (upd (upd (upd (upd (upd (upd (upd (upd (upd (fun _ => 0) 0 (vp_nar .char ((((48 : Int32) + ((((a / 10) / 10) / 10) - (((a / 10) / 10) / 10) / 10 * 10)).toUInt32 % 65536).toInt32))) 1 (vp_nar .char ((((48 : Int32) + (((a / 10) / 10) - ((a / 10) / 10) / 10 * 10)).toUInt32 % 65536).toInt32))) 2 (vp_nar .char ((((48 : Int32) + ((a / 10) - (a / 10) / 10 * 10)).toUInt32 % 65536).toInt32))) 3 (vp_nar .char ((((48 : Int32) + (a - a / 10 * 10)).toUInt32 % 65536).toInt32))) 4 32) 5 108) 6 100) 7 97) 8 32) 9 35)) (q_uI (q_uI q_IM 0 39 0) 0 35 10) q_J0, 34, 31630))) : q_Ru q_TB0 8 286 (82, [(2, .int 0), (0, .ref 64), (1, .int a)], [.int 0], (q_cM (q_uA (q_uA (q_uA q_AM 33 f24) 32 (fun _ => 0)) 32 (upd (upd (upd (upd (upd (upd (upd (upd (fun _ => 0) 0 (vp_nar .char ((((48 : Int32) + ((((a / 10) / 10) / 10) - (((a / 10) / 10) / 10) / 10 * 10)).toUInt32 % 65536).toInt32))) 1 (vp_nar .char ((((48 : Int32) + (((a / 10) / 10) - ((a / 10) / 10) / 10 * 10)).toUInt32 % 65536).toInt32))) 2 (vp_nar .char ((((48 : Int32) + ((a / 10) - (a / 10) / 10 * 10)).toUInt32 % 65536).toInt32))) 3 (vp_nar .char ((((48 : Int32) + (a - a / 10 * 10)).toUInt32 % 65536).toInt32))) 4 32) 5 108) 6 100) 7 97)) (q_uI (q_uI q_IM 0 39 0) 0 35 8) q_J0, 34, 31630)) (.inl (some (.int 11)), (q_cM (q_uA (q_uA (q_uA q_AM 33 f25) 32 (upd (upd (upd (upd (upd (upd (upd (upd (upd (upd (fun _ => 0) 0 (vp_nar .char ((((48 : Int32) + ((((a / 10) / 10) / 10) - (((a / 10) / 10) / 10) / 10 * 10)).toUInt32 % 65536).toInt32))) 1 (vp_nar .char ((((48 : Int32) + (((a / 10) / 10) - ((a / 10) / 10) / 10 * 10)).toUInt32 % 65536).toInt32))) 2 (vp_nar .char ((((48 : Int32) + ((a / 10) - (a / 10) / 10 * 10)).toUInt32 % 65536).toInt32))) 3 (vp_nar .char ((((48 : Int32) + (a - a / 10 * 10)).toUInt32 % 65536).toInt32))) 4 32) 5 108) 6 100) 7 97) 8 32) 9 35)) 32 (upd (upd (upd (upd (upd (upd (upd (upd (upd (upd (upd (fun _ => 0) 0 (vp_nar .char ((((48 : Int32) + ((((a / 10) / 10) / 10) - (((a / 10) / 10) / 10) / 10 * 10)).toUInt32 % 65536).toInt32))) 1 (vp_nar .char ((((48 : Int32) + (((a / 10) / 10) - ((a / 10) / 10) / 10 * 10)).toUInt32 % 65536).toInt32))) 2 (vp_nar .char ((((48 : Int32) + ((a / 10) - (a / 10) / 10 * 10)).toUInt32 % 65536).toInt32))) 3 (vp_nar .char ((((48 : Int32) + (a - a / 10 * 10)).toUInt32 % 65536).toInt32))) 4 32) 5 108) 6 100) 7 97) 8 32) 9 35) 10 48)) (q_uI (q_uI q_IM 0 39 0) 0 35 11) q_J0, 34, 31630)) := by
  refine q_Ru_seg (g2 := (91, [(2, .int 0), (0, .ref 64), (1, .int a)], [.int a, .int 0, .ref 64], (q_cM (q_uA (q_uA (q_uA q_AM 33 f24) 32 (fun _ => 0)) 32 (upd (upd (upd (upd (upd (upd (upd (upd (fun _ => 0) 0 (vp_nar .char ((((48 : Int32) + ((((a / 10) / 10) / 10) - (((a / 10) / 10) / 10) / 10 * 10)).toUInt32 % 65536).toInt32))) 1 (vp_nar .char ((((48 : Int32) + (((a / 10) / 10) - ((a / 10) / 10) / 10 * 10)).toUInt32 % 65536).toInt32))) 2 (vp_nar .char ((((48 : Int32) + ((a / 10) - (a / 10) / 10 * 10)).toUInt32 % 65536).toInt32))) 3 (vp_nar .char ((((48 : Int32) + (a - a / 10 * 10)).toUInt32 % 65536).toInt32))) 4 32) 5 108) 6 100) 7 97)) (q_uI (q_uI q_IM 0 39 0) 0 35 8) q_J0, 34, 31630))) 6 (fun _ _ => rfl) ?_
  refine q_Ru_call (v := none) (h2 := (q_cM (q_uA (q_uA (q_uA q_AM 33 f25) 32 (upd (upd (upd (upd (upd (upd (upd (upd (upd (upd (fun _ => 0) 0 (vp_nar .char ((((48 : Int32) + ((((a / 10) / 10) / 10) - (((a / 10) / 10) / 10) / 10 * 10)).toUInt32 % 65536).toInt32))) 1 (vp_nar .char ((((48 : Int32) + (((a / 10) / 10) - ((a / 10) / 10) / 10 * 10)).toUInt32 % 65536).toInt32))) 2 (vp_nar .char ((((48 : Int32) + ((a / 10) - (a / 10) / 10 * 10)).toUInt32 % 65536).toInt32))) 3 (vp_nar .char ((((48 : Int32) + (a - a / 10 * 10)).toUInt32 % 65536).toInt32))) 4 32) 5 108) 6 100) 7 97) 8 32) 9 35)) 32 (upd (upd (upd (upd (upd (upd (upd (upd (upd (upd (upd (fun _ => 0) 0 (vp_nar .char ((((48 : Int32) + ((((a / 10) / 10) / 10) - (((a / 10) / 10) / 10) / 10 * 10)).toUInt32 % 65536).toInt32))) 1 (vp_nar .char ((((48 : Int32) + (((a / 10) / 10) - ((a / 10) / 10) / 10 * 10)).toUInt32 % 65536).toInt32))) 2 (vp_nar .char ((((48 : Int32) + ((a / 10) - (a / 10) / 10 * 10)).toUInt32 % 65536).toInt32))) 3 (vp_nar .char ((((48 : Int32) + (a - a / 10 * 10)).toUInt32 % 65536).toInt32))) 4 32) 5 108) 6 100) 7 97) 8 32) 9 35) 10 48)) (q_uI (q_uI q_IM 0 39 0) 0 35 11) q_J0, 34, 31630)) rfl rfl ?_ ?_
  · refine q_Ca_of (Nat.le_of_ble_eq_true rfl) ?_
    refine q_Ru_seg (g2 := (3, [(0, .ref 64), (1, .int 0), (2, .int a)], [.int 32, .ref 64], (q_cM (q_uA (q_uA (q_uA q_AM 33 f24) 32 (fun _ => 0)) 32 (upd (upd (upd (upd (upd (upd (upd (upd (fun _ => 0) 0 (vp_nar .char ((((48 : Int32) + ((((a / 10) / 10) / 10) - (((a / 10) / 10) / 10) / 10 * 10)).toUInt32 % 65536).toInt32))) 1 (vp_nar .char ((((48 : Int32) + (((a / 10) / 10) - ((a / 10) / 10) / 10 * 10)).toUInt32 % 65536).toInt32))) 2 (vp_nar .char ((((48 : Int32) + ((a / 10) - (a / 10) / 10 * 10)).toUInt32 % 65536).toInt32))) 3 (vp_nar .char ((((48 : Int32) + (a - a / 10 * 10)).toUInt32 % 65536).toInt32))) 4 32) 5 108) 6 100) 7 97)) (q_uI (q_uI q_IM 0 39 0) 0 35 8) q_J0, 34, 31630))) 2 (fun _ _ => rfl) ?_
    refine q_Ru_call (v := none) (h2 := (q_cM (q_uA (q_uA (q_uA q_AM 33 f24) 32 (fun _ => 0)) 32 (upd (upd (upd (upd (upd (upd (upd (upd (upd (fun _ => 0) 0 (vp_nar .char ((((48 : Int32) + ((((a / 10) / 10) / 10) - (((a / 10) / 10) / 10) / 10 * 10)).toUInt32 % 65536).toInt32))) 1 (vp_nar .char ((((48 : Int32) + (((a / 10) / 10) - ((a / 10) / 10) / 10 * 10)).toUInt32 % 65536).toInt32))) 2 (vp_nar .char ((((48 : Int32) + ((a / 10) - (a / 10) / 10 * 10)).toUInt32 % 65536).toInt32))) 3 (vp_nar .char ((((48 : Int32) + (a - a / 10 * 10)).toUInt32 % 65536).toInt32))) 4 32) 5 108) 6 100) 7 97) 8 32)) (q_uI (q_uI q_IM 0 39 0) 0 35 9) q_J0, 34, 31630)) rfl rfl ?_ ?_
    · refine q_Ca_of (Nat.le_of_ble_eq_true rfl) ?_
      refine q_Ru_seg (g2 := (8, [(0, .ref 64), (1, .int 32)], [.int 8, .ref 96], (q_cM (q_uA (q_uA (q_uA q_AM 33 f24) 32 (fun _ => 0)) 32 (upd (upd (upd (upd (upd (upd (upd (upd (fun _ => 0) 0 (vp_nar .char ((((48 : Int32) + ((((a / 10) / 10) / 10) - (((a / 10) / 10) / 10) / 10 * 10)).toUInt32 % 65536).toInt32))) 1 (vp_nar .char ((((48 : Int32) + (((a / 10) / 10) - ((a / 10) / 10) / 10 * 10)).toUInt32 % 65536).toInt32))) 2 (vp_nar .char ((((48 : Int32) + ((a / 10) - (a / 10) / 10 * 10)).toUInt32 % 65536).toInt32))) 3 (vp_nar .char ((((48 : Int32) + (a - a / 10 * 10)).toUInt32 % 65536).toInt32))) 4 32) 5 108) 6 100) 7 97)) (q_uI (q_uI q_IM 0 39 0) 0 35 8) q_J0, 34, 31630))) 4 (fun _ _ => rfl) ?_
      refine q_Ru_seg (g2 := (15, [(0, .ref 64), (1, .int 32)], [.int 8, .ref 64], (q_cM (q_uA (q_uA (q_uA q_AM 33 f24) 32 (fun _ => 0)) 32 (upd (upd (upd (upd (upd (upd (upd (upd (upd (fun _ => 0) 0 (vp_nar .char ((((48 : Int32) + ((((a / 10) / 10) / 10) - (((a / 10) / 10) / 10) / 10 * 10)).toUInt32 % 65536).toInt32))) 1 (vp_nar .char ((((48 : Int32) + (((a / 10) / 10) - ((a / 10) / 10) / 10 * 10)).toUInt32 % 65536).toInt32))) 2 (vp_nar .char ((((48 : Int32) + ((a / 10) - (a / 10) / 10 * 10)).toUInt32 % 65536).toInt32))) 3 (vp_nar .char ((((48 : Int32) + (a - a / 10 * 10)).toUInt32 % 65536).toInt32))) 4 32) 5 108) 6 100) 7 97) 8 32)) (q_uI (q_uI q_IM 0 39 0) 0 35 8) q_J0, 34, 31630))) 5 (fun _ _ => rfl) ?_
      refine q_Ru_seg (g2 := (20, [(0, .ref 64), (1, .int 32)], [], (q_cM (q_uA (q_uA (q_uA q_AM 33 f24) 32 (fun _ => 0)) 32 (upd (upd (upd (upd (upd (upd (upd (upd (upd (fun _ => 0) 0 (vp_nar .char ((((48 : Int32) + ((((a / 10) / 10) / 10) - (((a / 10) / 10) / 10) / 10 * 10)).toUInt32 % 65536).toInt32))) 1 (vp_nar .char ((((48 : Int32) + (((a / 10) / 10) - ((a / 10) / 10) / 10 * 10)).toUInt32 % 65536).toInt32))) 2 (vp_nar .char ((((48 : Int32) + ((a / 10) - (a / 10) / 10 * 10)).toUInt32 % 65536).toInt32))) 3 (vp_nar .char ((((48 : Int32) + (a - a / 10 * 10)).toUInt32 % 65536).toInt32))) 4 32) 5 108) 6 100) 7 97) 8 32)) (q_uI (q_uI q_IM 0 39 0) 0 35 9) q_J0, 34, 31630))) 3 (fun _ _ => rfl) ?_
      exact q_Ru_ret rfl rfl
    show q_Ru _ _ _ (6, [(0, .ref 64), (1, .int 0), (2, .int a)], [], (q_cM (q_uA (q_uA (q_uA q_AM 33 f24) 32 (fun _ => 0)) 32 (upd (upd (upd (upd (upd (upd (upd (upd (upd (fun _ => 0) 0 (vp_nar .char ((((48 : Int32) + ((((a / 10) / 10) / 10) - (((a / 10) / 10) / 10) / 10 * 10)).toUInt32 % 65536).toInt32))) 1 (vp_nar .char ((((48 : Int32) + (((a / 10) / 10) - ((a / 10) / 10) / 10 * 10)).toUInt32 % 65536).toInt32))) 2 (vp_nar .char ((((48 : Int32) + ((a / 10) - (a / 10) / 10 * 10)).toUInt32 % 65536).toInt32))) 3 (vp_nar .char ((((48 : Int32) + (a - a / 10 * 10)).toUInt32 % 65536).toInt32))) 4 32) 5 108) 6 100) 7 97) 8 32)) (q_uI (q_uI q_IM 0 39 0) 0 35 9) q_J0, 34, 31630)) _
    refine q_Ru_seg (g2 := (13, [(0, .ref 64), (1, .int 0), (2, .int a)], [.int 35, .ref 64], (q_cM (q_uA (q_uA (q_uA q_AM 33 f24) 32 (fun _ => 0)) 32 (upd (upd (upd (upd (upd (upd (upd (upd (upd (fun _ => 0) 0 (vp_nar .char ((((48 : Int32) + ((((a / 10) / 10) / 10) - (((a / 10) / 10) / 10) / 10 * 10)).toUInt32 % 65536).toInt32))) 1 (vp_nar .char ((((48 : Int32) + (((a / 10) / 10) - ((a / 10) / 10) / 10 * 10)).toUInt32 % 65536).toInt32))) 2 (vp_nar .char ((((48 : Int32) + ((a / 10) - (a / 10) / 10 * 10)).toUInt32 % 65536).toInt32))) 3 (vp_nar .char ((((48 : Int32) + (a - a / 10 * 10)).toUInt32 % 65536).toInt32))) 4 32) 5 108) 6 100) 7 97) 8 32)) (q_uI (q_uI q_IM 0 39 0) 0 35 9) q_J0, 34, 31630))) 4 (fun _ _ => rfl) ?_
    refine q_Ru_call (v := none) (h2 := (q_cM (q_uA (q_uA (q_uA q_AM 33 f24) 32 (fun _ => 0)) 32 (upd (upd (upd (upd (upd (upd (upd (upd (upd (upd (fun _ => 0) 0 (vp_nar .char ((((48 : Int32) + ((((a / 10) / 10) / 10) - (((a / 10) / 10) / 10) / 10 * 10)).toUInt32 % 65536).toInt32))) 1 (vp_nar .char ((((48 : Int32) + (((a / 10) / 10) - ((a / 10) / 10) / 10 * 10)).toUInt32 % 65536).toInt32))) 2 (vp_nar .char ((((48 : Int32) + ((a / 10) - (a / 10) / 10 * 10)).toUInt32 % 65536).toInt32))) 3 (vp_nar .char ((((48 : Int32) + (a - a / 10 * 10)).toUInt32 % 65536).toInt32))) 4 32) 5 108) 6 100) 7 97) 8 32) 9 35)) (q_uI (q_uI q_IM 0 39 0) 0 35 10) q_J0, 34, 31630)) rfl rfl ?_ ?_
    · refine q_Ca_of (Nat.le_of_ble_eq_true rfl) ?_
      refine q_Ru_seg (g2 := (8, [(0, .ref 64), (1, .int 35)], [.int 9, .ref 96], (q_cM (q_uA (q_uA (q_uA q_AM 33 f24) 32 (fun _ => 0)) 32 (upd (upd (upd (upd (upd (upd (upd (upd (upd (fun _ => 0) 0 (vp_nar .char ((((48 : Int32) + ((((a / 10) / 10) / 10) - (((a / 10) / 10) / 10) / 10 * 10)).toUInt32 % 65536).toInt32))) 1 (vp_nar .char ((((48 : Int32) + (((a / 10) / 10) - ((a / 10) / 10) / 10 * 10)).toUInt32 % 65536).toInt32))) 2 (vp_nar .char ((((48 : Int32) + ((a / 10) - (a / 10) / 10 * 10)).toUInt32 % 65536).toInt32))) 3 (vp_nar .char ((((48 : Int32) + (a - a / 10 * 10)).toUInt32 % 65536).toInt32))) 4 32) 5 108) 6 100) 7 97) 8 32)) (q_uI (q_uI q_IM 0 39 0) 0 35 9) q_J0, 34, 31630))) 4 (fun _ _ => rfl) ?_
      refine q_Ru_seg (g2 := (15, [(0, .ref 64), (1, .int 35)], [.int 9, .ref 64], (q_cM (q_uA (q_uA (q_uA q_AM 33 f24) 32 (fun _ => 0)) 32 (upd (upd (upd (upd (upd (upd (upd (upd (upd (upd (fun _ => 0) 0 (vp_nar .char ((((48 : Int32) + ((((a / 10) / 10) / 10) - (((a / 10) / 10) / 10) / 10 * 10)).toUInt32 % 65536).toInt32))) 1 (vp_nar .char ((((48 : Int32) + (((a / 10) / 10) - ((a / 10) / 10) / 10 * 10)).toUInt32 % 65536).toInt32))) 2 (vp_nar .char ((((48 : Int32) + ((a / 10) - (a / 10) / 10 * 10)).toUInt32 % 65536).toInt32))) 3 (vp_nar .char ((((48 : Int32) + (a - a / 10 * 10)).toUInt32 % 65536).toInt32))) 4 32) 5 108) 6 100) 7 97) 8 32) 9 35)) (q_uI (q_uI q_IM 0 39 0) 0 35 9) q_J0, 34, 31630))) 5 (fun _ _ => rfl) ?_
      refine q_Ru_seg (g2 := (20, [(0, .ref 64), (1, .int 35)], [], (q_cM (q_uA (q_uA (q_uA q_AM 33 f24) 32 (fun _ => 0)) 32 (upd (upd (upd (upd (upd (upd (upd (upd (upd (upd (fun _ => 0) 0 (vp_nar .char ((((48 : Int32) + ((((a / 10) / 10) / 10) - (((a / 10) / 10) / 10) / 10 * 10)).toUInt32 % 65536).toInt32))) 1 (vp_nar .char ((((48 : Int32) + (((a / 10) / 10) - ((a / 10) / 10) / 10 * 10)).toUInt32 % 65536).toInt32))) 2 (vp_nar .char ((((48 : Int32) + ((a / 10) - (a / 10) / 10 * 10)).toUInt32 % 65536).toInt32))) 3 (vp_nar .char ((((48 : Int32) + (a - a / 10 * 10)).toUInt32 % 65536).toInt32))) 4 32) 5 108) 6 100) 7 97) 8 32) 9 35)) (q_uI (q_uI q_IM 0 39 0) 0 35 10) q_J0, 34, 31630))) 3 (fun _ _ => rfl) ?_
      exact q_Ru_ret rfl rfl
    show q_Ru _ _ _ (16, [(0, .ref 64), (1, .int 0), (2, .int a)], [], (q_cM (q_uA (q_uA (q_uA q_AM 33 f24) 32 (fun _ => 0)) 32 (upd (upd (upd (upd (upd (upd (upd (upd (upd (upd (fun _ => 0) 0 (vp_nar .char ((((48 : Int32) + ((((a / 10) / 10) / 10) - (((a / 10) / 10) / 10) / 10 * 10)).toUInt32 % 65536).toInt32))) 1 (vp_nar .char ((((48 : Int32) + (((a / 10) / 10) - ((a / 10) / 10) / 10 * 10)).toUInt32 % 65536).toInt32))) 2 (vp_nar .char ((((48 : Int32) + ((a / 10) - (a / 10) / 10 * 10)).toUInt32 % 65536).toInt32))) 3 (vp_nar .char ((((48 : Int32) + (a - a / 10 * 10)).toUInt32 % 65536).toInt32))) 4 32) 5 108) 6 100) 7 97) 8 32) 9 35)) (q_uI (q_uI q_IM 0 39 0) 0 35 10) q_J0, 34, 31630)) _
    refine q_Ru_seg (g2 := (31, [(0, .ref 64), (1, .int 0), (2, .int a)], [.int 5, .int 3, .int 0, .ref 64], (q_cM (q_uA (q_uA (q_uA q_AM 33 f24) 32 (fun _ => 0)) 32 (upd (upd (upd (upd (upd (upd (upd (upd (upd (upd (fun _ => 0) 0 (vp_nar .char ((((48 : Int32) + ((((a / 10) / 10) / 10) - (((a / 10) / 10) / 10) / 10 * 10)).toUInt32 % 65536).toInt32))) 1 (vp_nar .char ((((48 : Int32) + (((a / 10) / 10) - ((a / 10) / 10) / 10 * 10)).toUInt32 % 65536).toInt32))) 2 (vp_nar .char ((((48 : Int32) + ((a / 10) - (a / 10) / 10 * 10)).toUInt32 % 65536).toInt32))) 3 (vp_nar .char ((((48 : Int32) + (a - a / 10 * 10)).toUInt32 % 65536).toInt32))) 4 32) 5 108) 6 100) 7 97) 8 32) 9 35)) (q_uI (q_uI q_IM 0 39 0) 0 35 10) q_J0, 34, 31630))) 7 (fun _ _ => rfl) ?_
    refine q_Ru_call (v := (some (.int 0))) (h2 := (q_cM (q_uA (q_uA (q_uA q_AM 33 f24) 32 (fun _ => 0)) 32 (upd (upd (upd (upd (upd (upd (upd (upd (upd (upd (fun _ => 0) 0 (vp_nar .char ((((48 : Int32) + ((((a / 10) / 10) / 10) - (((a / 10) / 10) / 10) / 10 * 10)).toUInt32 % 65536).toInt32))) 1 (vp_nar .char ((((48 : Int32) + (((a / 10) / 10) - ((a / 10) / 10) / 10 * 10)).toUInt32 % 65536).toInt32))) 2 (vp_nar .char ((((48 : Int32) + ((a / 10) - (a / 10) / 10 * 10)).toUInt32 % 65536).toInt32))) 3 (vp_nar .char ((((48 : Int32) + (a - a / 10 * 10)).toUInt32 % 65536).toInt32))) 4 32) 5 108) 6 100) 7 97) 8 32) 9 35)) (q_uI (q_uI q_IM 0 39 0) 0 35 10) q_J0, 34, 31630)) rfl rfl ?_ ?_
    · refine q_Ca_of (Nat.le_of_ble_eq_true rfl) ?_
      refine q_Ru_seg (g2 := (15, [(0, .int 0), (1, .int 3), (2, .int 5)], [.int 0], (q_cM (q_uA (q_uA (q_uA q_AM 33 f24) 32 (fun _ => 0)) 32 (upd (upd (upd (upd (upd (upd (upd (upd (upd (upd (fun _ => 0) 0 (vp_nar .char ((((48 : Int32) + ((((a / 10) / 10) / 10) - (((a / 10) / 10) / 10) / 10 * 10)).toUInt32 % 65536).toInt32))) 1 (vp_nar .char ((((48 : Int32) + (((a / 10) / 10) - ((a / 10) / 10) / 10 * 10)).toUInt32 % 65536).toInt32))) 2 (vp_nar .char ((((48 : Int32) + ((a / 10) - (a / 10) / 10 * 10)).toUInt32 % 65536).toInt32))) 3 (vp_nar .char ((((48 : Int32) + (a - a / 10 * 10)).toUInt32 % 65536).toInt32))) 4 32) 5 108) 6 100) 7 97) 8 32) 9 35)) (q_uI (q_uI q_IM 0 39 0) 0 35 10) q_J0, 34, 31630))) 4 (fun _ _ => rfl) ?_
      exact q_Ru_ret rfl rfl
    show q_Ru _ _ _ (34, [(0, .ref 64), (1, .int 0), (2, .int a)], [.int 0, .ref 64], (q_cM (q_uA (q_uA (q_uA q_AM 33 f24) 32 (fun _ => 0)) 32 (upd (upd (upd (upd (upd (upd (upd (upd (upd (upd (fun _ => 0) 0 (vp_nar .char ((((48 : Int32) + ((((a / 10) / 10) / 10) - (((a / 10) / 10) / 10) / 10 * 10)).toUInt32 % 65536).toInt32))) 1 (vp_nar .char ((((48 : Int32) + (((a / 10) / 10) - ((a / 10) / 10) / 10 * 10)).toUInt32 % 65536).toInt32))) 2 (vp_nar .char ((((48 : Int32) + ((a / 10) - (a / 10) / 10 * 10)).toUInt32 % 65536).toInt32))) 3 (vp_nar .char ((((48 : Int32) + (a - a / 10 * 10)).toUInt32 % 65536).toInt32))) 4 32) 5 108) 6 100) 7 97) 8 32) 9 35)) (q_uI (q_uI q_IM 0 39 0) 0 35 10) q_J0, 34, 31630)) _
    refine q_Ru_seg (g2 := (51, [(0, .ref 64), (1, .int 0), (2, .int a)], [.int (a + 1), .ref 64, .ref 64], (q_cM (q_uA (q_uA (q_uA q_AM 33 f24) 32 (fun _ => 0)) 32 (upd (upd (upd (upd (upd (upd (upd (upd (upd (upd (fun _ => 0) 0 (vp_nar .char ((((48 : Int32) + ((((a / 10) / 10) / 10) - (((a / 10) / 10) / 10) / 10 * 10)).toUInt32 % 65536).toInt32))) 1 (vp_nar .char ((((48 : Int32) + (((a / 10) / 10) - ((a / 10) / 10) / 10 * 10)).toUInt32 % 65536).toInt32))) 2 (vp_nar .char ((((48 : Int32) + ((a / 10) - (a / 10) / 10 * 10)).toUInt32 % 65536).toInt32))) 3 (vp_nar .char ((((48 : Int32) + (a - a / 10 * 10)).toUInt32 % 65536).toInt32))) 4 32) 5 108) 6 100) 7 97) 8 32) 9 35)) (q_uI (q_uI q_IM 0 39 0) 0 35 10) q_J0, 34, 31630))) 5 (fun _ _ => rfl) ?_
    refine q_Ru_call (v := (some (.int 0))) (h2 := (q_cM (q_uA (q_uA q_AM 33 f25) 32 (upd (upd (upd (upd (upd (upd (upd (upd (upd (upd (fun _ => 0) 0 (vp_nar .char ((((48 : Int32) + ((((a / 10) / 10) / 10) - (((a / 10) / 10) / 10) / 10 * 10)).toUInt32 % 65536).toInt32))) 1 (vp_nar .char ((((48 : Int32) + (((a / 10) / 10) - ((a / 10) / 10) / 10 * 10)).toUInt32 % 65536).toInt32))) 2 (vp_nar .char ((((48 : Int32) + ((a / 10) - (a / 10) / 10 * 10)).toUInt32 % 65536).toInt32))) 3 (vp_nar .char ((((48 : Int32) + (a - a / 10 * 10)).toUInt32 % 65536).toInt32))) 4 32) 5 108) 6 100) 7 97) 8 32) 9 35)) (q_uI (q_uI q_IM 0 39 0) 0 35 10) q_J0, 34, 31630)) rfl rfl ?_ ?_
    · refine q_Ca_of (Nat.le_of_ble_eq_true rfl) ?_
      refine q_Ru_seg (g2 := (2, [(0, .ref 64), (1, .int (a + 1))], [.int (a + 1), .ref 64], (q_cM (q_uA (q_uA (q_uA q_AM 33 f24) 32 (fun _ => 0)) 32 (upd (upd (upd (upd (upd (upd (upd (upd (upd (upd (fun _ => 0) 0 (vp_nar .char ((((48 : Int32) + ((((a / 10) / 10) / 10) - (((a / 10) / 10) / 10) / 10 * 10)).toUInt32 % 65536).toInt32))) 1 (vp_nar .char ((((48 : Int32) + (((a / 10) / 10) - ((a / 10) / 10) / 10 * 10)).toUInt32 % 65536).toInt32))) 2 (vp_nar .char ((((48 : Int32) + ((a / 10) - (a / 10) / 10 * 10)).toUInt32 % 65536).toInt32))) 3 (vp_nar .char ((((48 : Int32) + (a - a / 10 * 10)).toUInt32 % 65536).toInt32))) 4 32) 5 108) 6 100) 7 97) 8 32) 9 35)) (q_uI (q_uI q_IM 0 39 0) 0 35 10) q_J0, 34, 31630))) 2 (fun _ _ => rfl) ?_
      refine q_Ru_call (v := (some (.int ((a + 1) &&& 4095)))) (h2 := (q_cM (q_uA (q_uA (q_uA q_AM 33 f24) 32 (fun _ => 0)) 32 (upd (upd (upd (upd (upd (upd (upd (upd (upd (upd (fun _ => 0) 0 (vp_nar .char ((((48 : Int32) + ((((a / 10) / 10) / 10) - (((a / 10) / 10) / 10) / 10 * 10)).toUInt32 % 65536).toInt32))) 1 (vp_nar .char ((((48 : Int32) + (((a / 10) / 10) - ((a / 10) / 10) / 10 * 10)).toUInt32 % 65536).toInt32))) 2 (vp_nar .char ((((48 : Int32) + ((a / 10) - (a / 10) / 10 * 10)).toUInt32 % 65536).toInt32))) 3 (vp_nar .char ((((48 : Int32) + (a - a / 10 * 10)).toUInt32 % 65536).toInt32))) 4 32) 5 108) 6 100) 7 97) 8 32) 9 35)) (q_uI (q_uI q_IM 0 39 0) 0 35 10) q_J0, 34, 31630)) rfl rfl ?_ ?_
      · refine q_Ca_of (Nat.le_of_ble_eq_true rfl) ?_
        refine q_Ru_seg (g2 := (5, [(0, .int (a + 1))], [.int ((a + 1) &&& 4095)], (q_cM (q_uA (q_uA (q_uA q_AM 33 f24) 32 (fun _ => 0)) 32 (upd (upd (upd (upd (upd (upd (upd (upd (upd (upd (fun _ => 0) 0 (vp_nar .char ((((48 : Int32) + ((((a / 10) / 10) / 10) - (((a / 10) / 10) / 10) / 10 * 10)).toUInt32 % 65536).toInt32))) 1 (vp_nar .char ((((48 : Int32) + (((a / 10) / 10) - ((a / 10) / 10) / 10 * 10)).toUInt32 % 65536).toInt32))) 2 (vp_nar .char ((((48 : Int32) + ((a / 10) - (a / 10) / 10 * 10)).toUInt32 % 65536).toInt32))) 3 (vp_nar .char ((((48 : Int32) + (a - a / 10 * 10)).toUInt32 % 65536).toInt32))) 4 32) 5 108) 6 100) 7 97) 8 32) 9 35)) (q_uI (q_uI q_IM 0 39 0) 0 35 10) q_J0, 34, 31630))) 3 (fun _ _ => rfl) ?_
        exact q_Ru_ret rfl rfl
      show q_Ru _ _ _ (5, [(0, .ref 64), (1, .int (a + 1))], [.int ((a + 1) &&& 4095), .ref 64], (q_cM (q_uA (q_uA (q_uA q_AM 33 f24) 32 (fun _ => 0)) 32 (upd (upd (upd (upd (upd (upd (upd (upd (upd (upd (fun _ => 0) 0 (vp_nar .char ((((48 : Int32) + ((((a / 10) / 10) / 10) - (((a / 10) / 10) / 10) / 10 * 10)).toUInt32 % 65536).toInt32))) 1 (vp_nar .char ((((48 : Int32) + (((a / 10) / 10) - ((a / 10) / 10) / 10 * 10)).toUInt32 % 65536).toInt32))) 2 (vp_nar .char ((((48 : Int32) + ((a / 10) - (a / 10) / 10 * 10)).toUInt32 % 65536).toInt32))) 3 (vp_nar .char ((((48 : Int32) + (a - a / 10 * 10)).toUInt32 % 65536).toInt32))) 4 32) 5 108) 6 100) 7 97) 8 32) 9 35)) (q_uI (q_uI q_IM 0 39 0) 0 35 10) q_J0, 34, 31630)) _
      refine q_Ru_call (v := (some (.int 0))) (h2 := (q_cM (q_uA (q_uA q_AM 33 f25) 32 (upd (upd (upd (upd (upd (upd (upd (upd (upd (upd (fun _ => 0) 0 (vp_nar .char ((((48 : Int32) + ((((a / 10) / 10) / 10) - (((a / 10) / 10) / 10) / 10 * 10)).toUInt32 % 65536).toInt32))) 1 (vp_nar .char ((((48 : Int32) + (((a / 10) / 10) - ((a / 10) / 10) / 10 * 10)).toUInt32 % 65536).toInt32))) 2 (vp_nar .char ((((48 : Int32) + ((a / 10) - (a / 10) / 10 * 10)).toUInt32 % 65536).toInt32))) 3 (vp_nar .char ((((48 : Int32) + (a - a / 10 * 10)).toUInt32 % 65536).toInt32))) 4 32) 5 108) 6 100) 7 97) 8 32) 9 35)) (q_uI (q_uI q_IM 0 39 0) 0 35 10) q_J0, 34, 31630)) rfl rfl ?_ ?_
      · exact p25.le (Nat.le_of_ble_eq_true rfl)
      show q_Ru _ _ _ (8, [(0, .ref 64), (1, .int (a + 1))], [.int 0], (q_cM (q_uA (q_uA q_AM 33 f25) 32 (upd (upd (upd (upd (upd (upd (upd (upd (upd (upd (fun _ => 0) 0 (vp_nar .char ((((48 : Int32) + ((((a / 10) / 10) / 10) - (((a / 10) / 10) / 10) / 10 * 10)).toUInt32 % 65536).toInt32))) 1 (vp_nar .char ((((48 : Int32) + (((a / 10) / 10) - ((a / 10) / 10) / 10 * 10)).toUInt32 % 65536).toInt32))) 2 (vp_nar .char ((((48 : Int32) + ((a / 10) - (a / 10) / 10 * 10)).toUInt32 % 65536).toInt32))) 3 (vp_nar .char ((((48 : Int32) + (a - a / 10 * 10)).toUInt32 % 65536).toInt32))) 4 32) 5 108) 6 100) 7 97) 8 32) 9 35)) (q_uI (q_uI q_IM 0 39 0) 0 35 10) q_J0, 34, 31630)) _
      exact q_Ru_ret rfl rfl
    show q_Ru _ _ _ (54, [(0, .ref 64), (1, .int 0), (2, .int a)], [.int 0, .ref 64], (q_cM (q_uA (q_uA q_AM 33 f25) 32 (upd (upd (upd (upd (upd (upd (upd (upd (upd (upd (fun _ => 0) 0 (vp_nar .char ((((48 : Int32) + ((((a / 10) / 10) / 10) - (((a / 10) / 10) / 10) / 10 * 10)).toUInt32 % 65536).toInt32))) 1 (vp_nar .char ((((48 : Int32) + (((a / 10) / 10) - ((a / 10) / 10) / 10 * 10)).toUInt32 % 65536).toInt32))) 2 (vp_nar .char ((((48 : Int32) + ((a / 10) - (a / 10) / 10 * 10)).toUInt32 % 65536).toInt32))) 3 (vp_nar .char ((((48 : Int32) + (a - a / 10 * 10)).toUInt32 % 65536).toInt32))) 4 32) 5 108) 6 100) 7 97) 8 32) 9 35)) (q_uI (q_uI q_IM 0 39 0) 0 35 10) q_J0, 34, 31630)) _
    refine q_Ru_call (v := none) (h2 := (q_cM (q_uA (q_uA (q_uA q_AM 33 f25) 32 (upd (upd (upd (upd (upd (upd (upd (upd (upd (upd (fun _ => 0) 0 (vp_nar .char ((((48 : Int32) + ((((a / 10) / 10) / 10) - (((a / 10) / 10) / 10) / 10 * 10)).toUInt32 % 65536).toInt32))) 1 (vp_nar .char ((((48 : Int32) + (((a / 10) / 10) - ((a / 10) / 10) / 10 * 10)).toUInt32 % 65536).toInt32))) 2 (vp_nar .char ((((48 : Int32) + ((a / 10) - (a / 10) / 10 * 10)).toUInt32 % 65536).toInt32))) 3 (vp_nar .char ((((48 : Int32) + (a - a / 10 * 10)).toUInt32 % 65536).toInt32))) 4 32) 5 108) 6 100) 7 97) 8 32) 9 35)) 32 (upd (upd (upd (upd (upd (upd (upd (upd (upd (upd (upd (fun _ => 0) 0 (vp_nar .char ((((48 : Int32) + ((((a / 10) / 10) / 10) - (((a / 10) / 10) / 10) / 10 * 10)).toUInt32 % 65536).toInt32))) 1 (vp_nar .char ((((48 : Int32) + (((a / 10) / 10) - ((a / 10) / 10) / 10 * 10)).toUInt32 % 65536).toInt32))) 2 (vp_nar .char ((((48 : Int32) + ((a / 10) - (a / 10) / 10 * 10)).toUInt32 % 65536).toInt32))) 3 (vp_nar .char ((((48 : Int32) + (a - a / 10 * 10)).toUInt32 % 65536).toInt32))) 4 32) 5 108) 6 100) 7 97) 8 32) 9 35) 10 48)) (q_uI (q_uI q_IM 0 39 0) 0 35 11) q_J0, 34, 31630)) rfl rfl ?_ ?_
    · refine q_Ca_of (Nat.le_of_ble_eq_true rfl) ?_
      refine q_Ru_seg (g2 := (23, [(0, .ref 64), (1, .int 0)], [.int 48, .ref 64], (q_cM (q_uA (q_uA q_AM 33 f25) 32 (upd (upd (upd (upd (upd (upd (upd (upd (upd (upd (fun _ => 0) 0 (vp_nar .char ((((48 : Int32) + ((((a / 10) / 10) / 10) - (((a / 10) / 10) / 10) / 10 * 10)).toUInt32 % 65536).toInt32))) 1 (vp_nar .char ((((48 : Int32) + (((a / 10) / 10) - ((a / 10) / 10) / 10 * 10)).toUInt32 % 65536).toInt32))) 2 (vp_nar .char ((((48 : Int32) + ((a / 10) - (a / 10) / 10 * 10)).toUInt32 % 65536).toInt32))) 3 (vp_nar .char ((((48 : Int32) + (a - a / 10 * 10)).toUInt32 % 65536).toInt32))) 4 32) 5 108) 6 100) 7 97) 8 32) 9 35)) (q_uI (q_uI q_IM 0 39 0) 0 35 10) q_J0, 34, 31630))) 10 (fun _ _ => rfl) ?_
      refine q_Ru_call (v := none) (h2 := (q_cM (q_uA (q_uA (q_uA q_AM 33 f25) 32 (upd (upd (upd (upd (upd (upd (upd (upd (upd (upd (fun _ => 0) 0 (vp_nar .char ((((48 : Int32) + ((((a / 10) / 10) / 10) - (((a / 10) / 10) / 10) / 10 * 10)).toUInt32 % 65536).toInt32))) 1 (vp_nar .char ((((48 : Int32) + (((a / 10) / 10) - ((a / 10) / 10) / 10 * 10)).toUInt32 % 65536).toInt32))) 2 (vp_nar .char ((((48 : Int32) + ((a / 10) - (a / 10) / 10 * 10)).toUInt32 % 65536).toInt32))) 3 (vp_nar .char ((((48 : Int32) + (a - a / 10 * 10)).toUInt32 % 65536).toInt32))) 4 32) 5 108) 6 100) 7 97) 8 32) 9 35)) 32 (upd (upd (upd (upd (upd (upd (upd (upd (upd (upd (upd (fun _ => 0) 0 (vp_nar .char ((((48 : Int32) + ((((a / 10) / 10) / 10) - (((a / 10) / 10) / 10) / 10 * 10)).toUInt32 % 65536).toInt32))) 1 (vp_nar .char ((((48 : Int32) + (((a / 10) / 10) - ((a / 10) / 10) / 10 * 10)).toUInt32 % 65536).toInt32))) 2 (vp_nar .char ((((48 : Int32) + ((a / 10) - (a / 10) / 10 * 10)).toUInt32 % 65536).toInt32))) 3 (vp_nar .char ((((48 : Int32) + (a - a / 10 * 10)).toUInt32 % 65536).toInt32))) 4 32) 5 108) 6 100) 7 97) 8 32) 9 35) 10 48)) (q_uI (q_uI q_IM 0 39 0) 0 35 11) q_J0, 34, 31630)) rfl rfl ?_ ?_
      · refine q_Ca_of (Nat.le_of_ble_eq_true rfl) ?_
        refine q_Ru_seg (g2 := (8, [(0, .ref 64), (1, .int 48)], [.int 10, .ref 96], (q_cM (q_uA (q_uA q_AM 33 f25) 32 (upd (upd (upd (upd (upd (upd (upd (upd (upd (upd (fun _ => 0) 0 (vp_nar .char ((((48 : Int32) + ((((a / 10) / 10) / 10) - (((a / 10) / 10) / 10) / 10 * 10)).toUInt32 % 65536).toInt32))) 1 (vp_nar .char ((((48 : Int32) + (((a / 10) / 10) - ((a / 10) / 10) / 10 * 10)).toUInt32 % 65536).toInt32))) 2 (vp_nar .char ((((48 : Int32) + ((a / 10) - (a / 10) / 10 * 10)).toUInt32 % 65536).toInt32))) 3 (vp_nar .char ((((48 : Int32) + (a - a / 10 * 10)).toUInt32 % 65536).toInt32))) 4 32) 5 108) 6 100) 7 97) 8 32) 9 35)) (q_uI (q_uI q_IM 0 39 0) 0 35 10) q_J0, 34, 31630))) 4 (fun _ _ => rfl) ?_
        refine q_Ru_seg (g2 := (15, [(0, .ref 64), (1, .int 48)], [.int 10, .ref 64], (q_cM (q_uA (q_uA (q_uA q_AM 33 f25) 32 (upd (upd (upd (upd (upd (upd (upd (upd (upd (upd (fun _ => 0) 0 (vp_nar .char ((((48 : Int32) + ((((a / 10) / 10) / 10) - (((a / 10) / 10) / 10) / 10 * 10)).toUInt32 % 65536).toInt32))) 1 (vp_nar .char ((((48 : Int32) + (((a / 10) / 10) - ((a / 10) / 10) / 10 * 10)).toUInt32 % 65536).toInt32))) 2 (vp_nar .char ((((48 : Int32) + ((a / 10) - (a / 10) / 10 * 10)).toUInt32 % 65536).toInt32))) 3 (vp_nar .char ((((48 : Int32) + (a - a / 10 * 10)).toUInt32 % 65536).toInt32))) 4 32) 5 108) 6 100) 7 97) 8 32) 9 35)) 32 (upd (upd (upd (upd (upd (upd (upd (upd (upd (upd (upd (fun _ => 0) 0 (vp_nar .char ((((48 : Int32) + ((((a / 10) / 10) / 10) - (((a / 10) / 10) / 10) / 10 * 10)).toUInt32 % 65536).toInt32))) 1 (vp_nar .char ((((48 : Int32) + (((a / 10) / 10) - ((a / 10) / 10) / 10 * 10)).toUInt32 % 65536).toInt32))) 2 (vp_nar .char ((((48 : Int32) + ((a / 10) - (a / 10) / 10 * 10)).toUInt32 % 65536).toInt32))) 3 (vp_nar .char ((((48 : Int32) + (a - a / 10 * 10)).toUInt32 % 65536).toInt32))) 4 32) 5 108) 6 100) 7 97) 8 32) 9 35) 10 48)) (q_uI (q_uI q_IM 0 39 0) 0 35 10) q_J0, 34, 31630))) 5 (fun _ _ => rfl) ?_
        refine q_Ru_seg (g2 := (20, [(0, .ref 64), (1, .int 48)], [], (q_cM (q_uA (q_uA (q_uA q_AM 33 f25) 32 (upd (upd (upd (upd (upd (upd (upd (upd (upd (upd (fun _ => 0) 0 (vp_nar .char ((((48 : Int32) + ((((a / 10) / 10) / 10) - (((a / 10) / 10) / 10) / 10 * 10)).toUInt32 % 65536).toInt32))) 1 (vp_nar .char ((((48 : Int32) + (((a / 10) / 10) - ((a / 10) / 10) / 10 * 10)).toUInt32 % 65536).toInt32))) 2 (vp_nar .char ((((48 : Int32) + ((a / 10) - (a / 10) / 10 * 10)).toUInt32 % 65536).toInt32))) 3 (vp_nar .char ((((48 : Int32) + (a - a / 10 * 10)).toUInt32 % 65536).toInt32))) 4 32) 5 108) 6 100) 7 97) 8 32) 9 35)) 32 (upd (upd (upd (upd (upd (upd (upd (upd (upd (upd (upd (fun _ => 0) 0 (vp_nar .char ((((48 : Int32) + ((((a / 10) / 10) / 10) - (((a / 10) / 10) / 10) / 10 * 10)).toUInt32 % 65536).toInt32))) 1 (vp_nar .char ((((48 : Int32) + (((a / 10) / 10) - ((a / 10) / 10) / 10 * 10)).toUInt32 % 65536).toInt32))) 2 (vp_nar .char ((((48 : Int32) + ((a / 10) - (a / 10) / 10 * 10)).toUInt32 % 65536).toInt32))) 3 (vp_nar .char ((((48 : Int32) + (a - a / 10 * 10)).toUInt32 % 65536).toInt32))) 4 32) 5 108) 6 100) 7 97) 8 32) 9 35) 10 48)) (q_uI (q_uI q_IM 0 39 0) 0 35 11) q_J0, 34, 31630))) 3 (fun _ _ => rfl) ?_
        exact q_Ru_ret rfl rfl
      show q_Ru _ _ _ (26, [(0, .ref 64), (1, .int 0)], [], (q_cM (q_uA (q_uA (q_uA q_AM 33 f25) 32 (upd (upd (upd (upd (upd (upd (upd (upd (upd (upd (fun _ => 0) 0 (vp_nar .char ((((48 : Int32) + ((((a / 10) / 10) / 10) - (((a / 10) / 10) / 10) / 10 * 10)).toUInt32 % 65536).toInt32))) 1 (vp_nar .char ((((48 : Int32) + (((a / 10) / 10) - ((a / 10) / 10) / 10 * 10)).toUInt32 % 65536).toInt32))) 2 (vp_nar .char ((((48 : Int32) + ((a / 10) - (a / 10) / 10 * 10)).toUInt32 % 65536).toInt32))) 3 (vp_nar .char ((((48 : Int32) + (a - a / 10 * 10)).toUInt32 % 65536).toInt32))) 4 32) 5 108) 6 100) 7 97) 8 32) 9 35)) 32 (upd (upd (upd (upd (upd (upd (upd (upd (upd (upd (upd (fun _ => 0) 0 (vp_nar .char ((((48 : Int32) + ((((a / 10) / 10) / 10) - (((a / 10) / 10) / 10) / 10 * 10)).toUInt32 % 65536).toInt32))) 1 (vp_nar .char ((((48 : Int32) + (((a / 10) / 10) - ((a / 10) / 10) / 10 * 10)).toUInt32 % 65536).toInt32))) 2 (vp_nar .char ((((48 : Int32) + ((a / 10) - (a / 10) / 10 * 10)).toUInt32 % 65536).toInt32))) 3 (vp_nar .char ((((48 : Int32) + (a - a / 10 * 10)).toUInt32 % 65536).toInt32))) 4 32) 5 108) 6 100) 7 97) 8 32) 9 35) 10 48)) (q_uI (q_uI q_IM 0 39 0) 0 35 11) q_J0, 34, 31630)) _
      exact q_Ru_ret rfl rfl
    show q_Ru _ _ _ (57, [(0, .ref 64), (1, .int 0), (2, .int a)], [], (q_cM (q_uA (q_uA (q_uA q_AM 33 f25) 32 (upd (upd (upd (upd (upd (upd (upd (upd (upd (upd (fun _ => 0) 0 (vp_nar .char ((((48 : Int32) + ((((a / 10) / 10) / 10) - (((a / 10) / 10) / 10) / 10 * 10)).toUInt32 % 65536).toInt32))) 1 (vp_nar .char ((((48 : Int32) + (((a / 10) / 10) - ((a / 10) / 10) / 10 * 10)).toUInt32 % 65536).toInt32))) 2 (vp_nar .char ((((48 : Int32) + ((a / 10) - (a / 10) / 10 * 10)).toUInt32 % 65536).toInt32))) 3 (vp_nar .char ((((48 : Int32) + (a - a / 10 * 10)).toUInt32 % 65536).toInt32))) 4 32) 5 108) 6 100) 7 97) 8 32) 9 35)) 32 (upd (upd (upd (upd (upd (upd (upd (upd (upd (upd (upd (fun _ => 0) 0 (vp_nar .char ((((48 : Int32) + ((((a / 10) / 10) / 10) - (((a / 10) / 10) / 10) / 10 * 10)).toUInt32 % 65536).toInt32))) 1 (vp_nar .char ((((48 : Int32) + (((a / 10) / 10) - ((a / 10) / 10) / 10 * 10)).toUInt32 % 65536).toInt32))) 2 (vp_nar .char ((((48 : Int32) + ((a / 10) - (a / 10) / 10 * 10)).toUInt32 % 65536).toInt32))) 3 (vp_nar .char ((((48 : Int32) + (a - a / 10 * 10)).toUInt32 % 65536).toInt32))) 4 32) 5 108) 6 100) 7 97) 8 32) 9 35) 10 48)) (q_uI (q_uI q_IM 0 39 0) 0 35 11) q_J0, 34, 31630)) _
    refine q_Ru_seg (g2 := (136, [(0, .ref 64), (1, .int 0), (2, .int a)], [], (q_cM (q_uA (q_uA (q_uA q_AM 33 f25) 32 (upd (upd (upd (upd (upd (upd (upd (upd (upd (upd (fun _ => 0) 0 (vp_nar .char ((((48 : Int32) + ((((a / 10) / 10) / 10) - (((a / 10) / 10) / 10) / 10 * 10)).toUInt32 % 65536).toInt32))) 1 (vp_nar .char ((((48 : Int32) + (((a / 10) / 10) - ((a / 10) / 10) / 10 * 10)).toUInt32 % 65536).toInt32))) 2 (vp_nar .char ((((48 : Int32) + ((a / 10) - (a / 10) / 10 * 10)).toUInt32 % 65536).toInt32))) 3 (vp_nar .char ((((48 : Int32) + (a - a / 10 * 10)).toUInt32 % 65536).toInt32))) 4 32) 5 108) 6 100) 7 97) 8 32) 9 35)) 32 (upd (upd (upd (upd (upd (upd (upd (upd (upd (upd (upd (fun _ => 0) 0 (vp_nar .char ((((48 : Int32) + ((((a / 10) / 10) / 10) - (((a / 10) / 10) / 10) / 10 * 10)).toUInt32 % 65536).toInt32))) 1 (vp_nar .char ((((48 : Int32) + (((a / 10) / 10) - ((a / 10) / 10) / 10 * 10)).toUInt32 % 65536).toInt32))) 2 (vp_nar .char ((((48 : Int32) + ((a / 10) - (a / 10) / 10 * 10)).toUInt32 % 65536).toInt32))) 3 (vp_nar .char ((((48 : Int32) + (a - a / 10 * 10)).toUInt32 % 65536).toInt32))) 4 32) 5 108) 6 100) 7 97) 8 32) 9 35) 10 48)) (q_uI (q_uI q_IM 0 39 0) 0 35 11) q_J0, 34, 31630))) 27 (fun _ _ => rfl) ?_
    exact q_Ru_ret rfl rfl
  show q_Ru _ _ _ (94, [(2, .int 0), (0, .ref 64), (1, .int a)], [], (q_cM (q_uA (q_uA (q_uA q_AM 33 f25) 32 (upd (upd (upd (upd (upd (upd (upd (upd (upd (upd (fun _ => 0) 0 (vp_nar .char ((((48 : Int32) + ((((a / 10) / 10) / 10) - (((a / 10) / 10) / 10) / 10 * 10)).toUInt32 % 65536).toInt32))) 1 (vp_nar .char ((((48 : Int32) + (((a / 10) / 10) - ((a / 10) / 10) / 10 * 10)).toUInt32 % 65536).toInt32))) 2 (vp_nar .char ((((48 : Int32) + ((a / 10) - (a / 10) / 10 * 10)).toUInt32 % 65536).toInt32))) 3 (vp_nar .char ((((48 : Int32) + (a - a / 10 * 10)).toUInt32 % 65536).toInt32))) 4 32) 5 108) 6 100) 7 97) 8 32) 9 35)) 32 (upd (upd (upd (upd (upd (upd (upd (upd (upd (upd (upd (fun _ => 0) 0 (vp_nar .char ((((48 : Int32) + ((((a / 10) / 10) / 10) - (((a / 10) / 10) / 10) / 10 * 10)).toUInt32 % 65536).toInt32))) 1 (vp_nar .char ((((48 : Int32) + (((a / 10) / 10) - ((a / 10) / 10) / 10 * 10)).toUInt32 % 65536).toInt32))) 2 (vp_nar .char ((((48 : Int32) + ((a / 10) - (a / 10) / 10 * 10)).toUInt32 % 65536).toInt32))) 3 (vp_nar .char ((((48 : Int32) + (a - a / 10 * 10)).toUInt32 % 65536).toInt32))) 4 32) 5 108) 6 100) 7 97) 8 32) 9 35) 10 48)) (q_uI (q_uI q_IM 0 39 0) 0 35 11) q_J0, 34, 31630)) _
  refine q_Ru_seg (g2 := (107, [(2, .int 0), (0, .ref 64), (1, .int a)], [.int 11], (q_cM (q_uA (q_uA (q_uA q_AM 33 f25) 32 (upd (upd (upd (upd (upd (upd (upd (upd (upd (upd (fun _ => 0) 0 (vp_nar .char ((((48 : Int32) + ((((a / 10) / 10) / 10) - (((a / 10) / 10) / 10) / 10 * 10)).toUInt32 % 65536).toInt32))) 1 (vp_nar .char ((((48 : Int32) + (((a / 10) / 10) - ((a / 10) / 10) / 10 * 10)).toUInt32 % 65536).toInt32))) 2 (vp_nar .char ((((48 : Int32) + ((a / 10) - (a / 10) / 10 * 10)).toUInt32 % 65536).toInt32))) 3 (vp_nar .char ((((48 : Int32) + (a - a / 10 * 10)).toUInt32 % 65536).toInt32))) 4 32) 5 108) 6 100) 7 97) 8 32) 9 35)) 32 (upd (upd (upd (upd (upd (upd (upd (upd (upd (upd (upd (fun _ => 0) 0 (vp_nar .char ((((48 : Int32) + ((((a / 10) / 10) / 10) - (((a / 10) / 10) / 10) / 10 * 10)).toUInt32 % 65536).toInt32))) 1 (vp_nar .char ((((48 : Int32) + (((a / 10) / 10) - ((a / 10) / 10) / 10 * 10)).toUInt32 % 65536).toInt32))) 2 (vp_nar .char ((((48 : Int32) + ((a / 10) - (a / 10) / 10 * 10)).toUInt32 % 65536).toInt32))) 3 (vp_nar .char ((((48 : Int32) + (a - a / 10 * 10)).toUInt32 % 65536).toInt32))) 4 32) 5 108) 6 100) 7 97) 8 32) 9 35) 10 48)) (q_uI (q_uI q_IM 0 39 0) 0 35 11) q_J0, 34, 31630))) 3 (fun _ _ => rfl) ?_
  exact q_Ru_ret rfl rfl
set_option maxHeartbeats 20000000 in
theorem q_xc165 (L : Nat) (xs : Nat → Int32) (a : Int32) (hl_a : 1000 ≤ a.toInt) (hu_a : a.toInt ≤ 4095) (f24 : Nat → Int32) (f25 : Nat → Int32) (p25 : q_Ca q_TB0 4 214 [.ref 64, .int ((a + 1) &&& 4095)] (q_cM (q_uA (q_uA q_AM 33 f24) 32 (upd (upd (upd (upd (upd (upd (upd (upd (upd (upd (fun _ => 0) 0 (vp_nar .char ((((48 : Int32) + ((((a / 10) / 10) / 10) - (((a / 10) / 10) / 10) / 10 * 10)).toUInt32 % 65536).toInt32))) 1 (vp_nar .char ((((48 : Int32) + (((a / 10) / 10) - ((a / 10) / 10) / 10 * 10)).toUInt32 % 65536).toInt32))) 2 (vp_nar .char ((((48 : Int32) + ((a / 10) - (a / 10) / 10 * 10)).toUInt32 % 65536).toInt32))) 3 (vp_nar .char ((((48 : Int32) + (a - a / 10 * 10)).toUInt32 % 65536).toInt32))) 4 32) 5 108) 6 100) 7 97) 8 32) 9 35)) (q_uI (q_uI q_IM 0 39 0) 0 35 10) q_J0, 34, 31630) (.inl (some (.int 0)), (q_cM (q_uA (q_uA q_AM 33 f25) 32 (upd (upd (upd (upd (upd (upd (upd (upd (upd (upd (fun _ => 0) 0 (vp_nar .char ((((48 : Int32) + ((((a / 10) / 10) / 10) - (((a / 10) / 10) / 10) / 10 * 10)).toUInt32 % 65536).toInt32))) 1 (vp_nar .char ((((48 : Int32) + (((a / 10) / 10) - ((a / 10) / 10) / 10 * 10)).toUInt32 % 65536).toInt32))) 2 (vp_nar .char ((((48 : Int32) + ((a / 10) - (a / 10) / 10 * 10)).toUInt32 % 65536).toInt32))) 3 (vp_nar .char ((((48 : Int32) + (a - a / 10 * 10)).toUInt32 % 65536).toInt32))) 4 32) 5 108) 6 100) 7 97) 8 32) 9 35)) (q_uI (q_uI q_IM 0 39 0) 0 35 10) q_J0, 34, 31630))) : q_Ru q_TB0 8 286 (47, [(2, .int 0), (0, .ref 64), (1, .int a)], [.int 0], (q_cM (q_uA (q_uA (q_uA q_AM 33 f24) 32 (fun _ => 0)) 32 (upd (upd (upd (upd (upd (fun _ => 0) 0 (vp_nar .char ((((48 : Int32) + ((((a / 10) / 10) / 10) - (((a / 10) / 10) / 10) / 10 * 10)).toUInt32 % 65536).toInt32))) 1 (vp_nar .char ((((48 : Int32) + (((a / 10) / 10) - ((a / 10) / 10) / 10 * 10)).toUInt32 % 65536).toInt32))) 2 (vp_nar .char ((((48 : Int32) + ((a / 10) - (a / 10) / 10 * 10)).toUInt32 % 65536).toInt32))) 3 (vp_nar .char ((((48 : Int32) + (a - a / 10 * 10)).toUInt32 % 65536).toInt32))) 4 32)) (q_uI (q_uI q_IM 0 39 0) 0 35 5) q_J0, 34, 31630)) (.inl (some (.int 11)), (q_cM (q_uA (q_uA (q_uA q_AM 33 f25) 32 (upd (upd (upd (upd (upd (upd (upd (upd (upd (upd (fun _ => 0) 0 (vp_nar .char ((((48 : Int32) + ((((a / 10) / 10) / 10) - (((a / 10) / 10) / 10) / 10 * 10)).toUInt32 % 65536).toInt32))) 1 (vp_nar .char ((((48 : Int32) + (((a / 10) / 10) - ((a / 10) / 10) / 10 * 10)).toUInt32 % 65536).toInt32))) 2 (vp_nar .char ((((48 : Int32) + ((a / 10) - (a / 10) / 10 * 10)).toUInt32 % 65536).toInt32))) 3 (vp_nar .char ((((48 : Int32) + (a - a / 10 * 10)).toUInt32 % 65536).toInt32))) 4 32) 5 108) 6 100) 7 97) 8 32) 9 35)) 32 (upd (upd (upd (upd (upd (upd (upd (upd (upd (upd (upd (fun _ => 0) 0 (vp_nar .char ((((48 : Int32) + ((((a / 10) / 10) / 10) - (((a / 10) / 10) / 10) / 10 * 10)).toUInt32 % 65536).toInt32))) 1 (vp_nar .char ((((48 : Int32) + (((a / 10) / 10) - ((a / 10) / 10) / 10 * 10)).toUInt32 % 65536).toInt32))) 2 (vp_nar .char ((((48 : Int32) + ((a / 10) - (a / 10) / 10 * 10)).toUInt32 % 65536).toInt32))) 3 (vp_nar .char ((((48 : Int32) + (a - a / 10 * 10)).toUInt32 % 65536).toInt32))) 4 32) 5 108) 6 100) 7 97) 8 32) 9 35) 10 48)) (q_uI (q_uI q_IM 0 39 0) 0 35 11) q_J0, 34, 31630)) := by
  refine q_Ru_seg (g2 := (75, [(2, .int 0), (0, .ref 64), (1, .int a)], [.int 0, .ref 64], (q_cM (q_uA (q_uA (q_uA q_AM 33 f24) 32 (fun _ => 0)) 32 (upd (upd (upd (upd (upd (fun _ => 0) 0 (vp_nar .char ((((48 : Int32) + ((((a / 10) / 10) / 10) - (((a / 10) / 10) / 10) / 10 * 10)).toUInt32 % 65536).toInt32))) 1 (vp_nar .char ((((48 : Int32) + (((a / 10) / 10) - ((a / 10) / 10) / 10 * 10)).toUInt32 % 65536).toInt32))) 2 (vp_nar .char ((((48 : Int32) + ((a / 10) - (a / 10) / 10 * 10)).toUInt32 % 65536).toInt32))) 3 (vp_nar .char ((((48 : Int32) + (a - a / 10 * 10)).toUInt32 % 65536).toInt32))) 4 32)) (q_uI (q_uI q_IM 0 39 0) 0 35 5) q_J0, 34, 31630))) 3 (fun _ _ => rfl) ?_
  refine q_Ru_call (v := none) (h2 := (q_cM (q_uA (q_uA (q_uA q_AM 33 f24) 32 (fun _ => 0)) 32 (upd (upd (upd (upd (upd (upd (upd (upd (fun _ => 0) 0 (vp_nar .char ((((48 : Int32) + ((((a / 10) / 10) / 10) - (((a / 10) / 10) / 10) / 10 * 10)).toUInt32 % 65536).toInt32))) 1 (vp_nar .char ((((48 : Int32) + (((a / 10) / 10) - ((a / 10) / 10) / 10 * 10)).toUInt32 % 65536).toInt32))) 2 (vp_nar .char ((((48 : Int32) + ((a / 10) - (a / 10) / 10 * 10)).toUInt32 % 65536).toInt32))) 3 (vp_nar .char ((((48 : Int32) + (a - a / 10 * 10)).toUInt32 % 65536).toInt32))) 4 32) 5 108) 6 100) 7 97)) (q_uI (q_uI q_IM 0 39 0) 0 35 8) q_J0, 34, 31630)) rfl rfl ?_ ?_
  · refine q_Ca_of (Nat.le_of_ble_eq_true rfl) ?_
    refine q_Ru_seg (g2 := (1, [(0, .ref 64), (1, .int 0)], [.int 0], (q_cM (q_uA (q_uA (q_uA q_AM 33 f24) 32 (fun _ => 0)) 32 (upd (upd (upd (upd (upd (fun _ => 0) 0 (vp_nar .char ((((48 : Int32) + ((((a / 10) / 10) / 10) - (((a / 10) / 10) / 10) / 10 * 10)).toUInt32 % 65536).toInt32))) 1 (vp_nar .char ((((48 : Int32) + (((a / 10) / 10) - ((a / 10) / 10) / 10 * 10)).toUInt32 % 65536).toInt32))) 2 (vp_nar .char ((((48 : Int32) + ((a / 10) - (a / 10) / 10 * 10)).toUInt32 % 65536).toInt32))) 3 (vp_nar .char ((((48 : Int32) + (a - a / 10 * 10)).toUInt32 % 65536).toInt32))) 4 32)) (q_uI (q_uI q_IM 0 39 0) 0 35 5) q_J0, 34, 31630))) 1 (fun _ _ => rfl) ?_
    refine q_Ru_call (v := (some (.int 0))) (h2 := (q_cM (q_uA (q_uA (q_uA q_AM 33 f24) 32 (fun _ => 0)) 32 (upd (upd (upd (upd (upd (fun _ => 0) 0 (vp_nar .char ((((48 : Int32) + ((((a / 10) / 10) / 10) - (((a / 10) / 10) / 10) / 10 * 10)).toUInt32 % 65536).toInt32))) 1 (vp_nar .char ((((48 : Int32) + (((a / 10) / 10) - ((a / 10) / 10) / 10 * 10)).toUInt32 % 65536).toInt32))) 2 (vp_nar .char ((((48 : Int32) + ((a / 10) - (a / 10) / 10 * 10)).toUInt32 % 65536).toInt32))) 3 (vp_nar .char ((((48 : Int32) + (a - a / 10 * 10)).toUInt32 % 65536).toInt32))) 4 32)) (q_uI (q_uI q_IM 0 39 0) 0 35 5) q_J0, 34, 31630)) rfl rfl ?_ ?_
    · refine q_Ca_of (Nat.le_of_ble_eq_true rfl) ?_
      refine q_Ru_seg (g2 := (42, [(0, .int 0)], [.int 0], (q_cM (q_uA (q_uA (q_uA q_AM 33 f24) 32 (fun _ => 0)) 32 (upd (upd (upd (upd (upd (fun _ => 0) 0 (vp_nar .char ((((48 : Int32) + ((((a / 10) / 10) / 10) - (((a / 10) / 10) / 10) / 10 * 10)).toUInt32 % 65536).toInt32))) 1 (vp_nar .char ((((48 : Int32) + (((a / 10) / 10) - ((a / 10) / 10) / 10 * 10)).toUInt32 % 65536).toInt32))) 2 (vp_nar .char ((((48 : Int32) + ((a / 10) - (a / 10) / 10 * 10)).toUInt32 % 65536).toInt32))) 3 (vp_nar .char ((((48 : Int32) + (a - a / 10 * 10)).toUInt32 % 65536).toInt32))) 4 32)) (q_uI (q_uI q_IM 0 39 0) 0 35 5) q_J0, 34, 31630))) 7 (fun _ _ => rfl) ?_
      exact q_Ru_ret rfl rfl
    show q_Ru _ _ _ (4, [(0, .ref 64), (1, .int 0)], [.int 0], (q_cM (q_uA (q_uA (q_uA q_AM 33 f24) 32 (fun _ => 0)) 32 (upd (upd (upd (upd (upd (fun _ => 0) 0 (vp_nar .char ((((48 : Int32) + ((((a / 10) / 10) / 10) - (((a / 10) / 10) / 10) / 10 * 10)).toUInt32 % 65536).toInt32))) 1 (vp_nar .char ((((48 : Int32) + (((a / 10) / 10) - ((a / 10) / 10) / 10 * 10)).toUInt32 % 65536).toInt32))) 2 (vp_nar .char ((((48 : Int32) + ((a / 10) - (a / 10) / 10 * 10)).toUInt32 % 65536).toInt32))) 3 (vp_nar .char ((((48 : Int32) + (a - a / 10 * 10)).toUInt32 % 65536).toInt32))) 4 32)) (q_uI (q_uI q_IM 0 39 0) 0 35 5) q_J0, 34, 31630)) _
    refine q_Ru_seg (g2 := (26, [(3, .int 0), (2, .int 0), (0, .ref 64), (1, .int 0)], [.int 108, .ref 64], (q_cM (q_uA (q_uA (q_uA q_AM 33 f24) 32 (fun _ => 0)) 32 (upd (upd (upd (upd (upd (fun _ => 0) 0 (vp_nar .char ((((48 : Int32) + ((((a / 10) / 10) / 10) - (((a / 10) / 10) / 10) / 10 * 10)).toUInt32 % 65536).toInt32))) 1 (vp_nar .char ((((48 : Int32) + (((a / 10) / 10) - ((a / 10) / 10) / 10 * 10)).toUInt32 % 65536).toInt32))) 2 (vp_nar .char ((((48 : Int32) + ((a / 10) - (a / 10) / 10 * 10)).toUInt32 % 65536).toInt32))) 3 (vp_nar .char ((((48 : Int32) + (a - a / 10 * 10)).toUInt32 % 65536).toInt32))) 4 32)) (q_uI (q_uI q_IM 0 39 0) 0 35 5) q_J0, 34, 31630))) 16 (fun _ _ => rfl) ?_
    refine q_Ru_seg (g2 := (42, [(3, .int 0), (2, .int 0), (0, .ref 64), (1, .int 0)], [.int 108, .ref 64], (q_cM (q_uA (q_uA (q_uA q_AM 33 f24) 32 (fun _ => 0)) 32 (upd (upd (upd (upd (upd (fun _ => 0) 0 (vp_nar .char ((((48 : Int32) + ((((a / 10) / 10) / 10) - (((a / 10) / 10) / 10) / 10 * 10)).toUInt32 % 65536).toInt32))) 1 (vp_nar .char ((((48 : Int32) + (((a / 10) / 10) - ((a / 10) / 10) / 10 * 10)).toUInt32 % 65536).toInt32))) 2 (vp_nar .char ((((48 : Int32) + ((a / 10) - (a / 10) / 10 * 10)).toUInt32 % 65536).toInt32))) 3 (vp_nar .char ((((48 : Int32) + (a - a / 10 * 10)).toUInt32 % 65536).toInt32))) 4 32)) (q_uI (q_uI q_IM 0 39 0) 0 35 5) q_J0, 34, 31630))) 1 (fun _ _ => rfl) ?_
    refine q_Ru_call (v := none) (h2 := (q_cM (q_uA (q_uA (q_uA q_AM 33 f24) 32 (fun _ => 0)) 32 (upd (upd (upd (upd (upd (upd (fun _ => 0) 0 (vp_nar .char ((((48 : Int32) + ((((a / 10) / 10) / 10) - (((a / 10) / 10) / 10) / 10 * 10)).toUInt32 % 65536).toInt32))) 1 (vp_nar .char ((((48 : Int32) + (((a / 10) / 10) - ((a / 10) / 10) / 10 * 10)).toUInt32 % 65536).toInt32))) 2 (vp_nar .char ((((48 : Int32) + ((a / 10) - (a / 10) / 10 * 10)).toUInt32 % 65536).toInt32))) 3 (vp_nar .char ((((48 : Int32) + (a - a / 10 * 10)).toUInt32 % 65536).toInt32))) 4 32) 5 108)) (q_uI (q_uI q_IM 0 39 0) 0 35 6) q_J0, 34, 31630)) rfl rfl ?_ ?_
    · refine q_Ca_of (Nat.le_of_ble_eq_true rfl) ?_
      refine q_Ru_seg (g2 := (8, [(0, .ref 64), (1, .int 108)], [.int 5, .ref 96], (q_cM (q_uA (q_uA (q_uA q_AM 33 f24) 32 (fun _ => 0)) 32 (upd (upd (upd (upd (upd (fun _ => 0) 0 (vp_nar .char ((((48 : Int32) + ((((a / 10) / 10) / 10) - (((a / 10) / 10) / 10) / 10 * 10)).toUInt32 % 65536).toInt32))) 1 (vp_nar .char ((((48 : Int32) + (((a / 10) / 10) - ((a / 10) / 10) / 10 * 10)).toUInt32 % 65536).toInt32))) 2 (vp_nar .char ((((48 : Int32) + ((a / 10) - (a / 10) / 10 * 10)).toUInt32 % 65536).toInt32))) 3 (vp_nar .char ((((48 : Int32) + (a - a / 10 * 10)).toUInt32 % 65536).toInt32))) 4 32)) (q_uI (q_uI q_IM 0 39 0) 0 35 5) q_J0, 34, 31630))) 4 (fun _ _ => rfl) ?_
      refine q_Ru_seg (g2 := (15, [(0, .ref 64), (1, .int 108)], [.int 5, .ref 64], (q_cM (q_uA (q_uA (q_uA q_AM 33 f24) 32 (fun _ => 0)) 32 (upd (upd (upd (upd (upd (upd (fun _ => 0) 0 (vp_nar .char ((((48 : Int32) + ((((a / 10) / 10) / 10) - (((a / 10) / 10) / 10) / 10 * 10)).toUInt32 % 65536).toInt32))) 1 (vp_nar .char ((((48 : Int32) + (((a / 10) / 10) - ((a / 10) / 10) / 10 * 10)).toUInt32 % 65536).toInt32))) 2 (vp_nar .char ((((48 : Int32) + ((a / 10) - (a / 10) / 10 * 10)).toUInt32 % 65536).toInt32))) 3 (vp_nar .char ((((48 : Int32) + (a - a / 10 * 10)).toUInt32 % 65536).toInt32))) 4 32) 5 108)) (q_uI (q_uI q_IM 0 39 0) 0 35 5) q_J0, 34, 31630))) 5 (fun _ _ => rfl) ?_
      refine q_Ru_seg (g2 := (20, [(0, .ref 64), (1, .int 108)], [], (q_cM (q_uA (q_uA (q_uA q_AM 33 f24) 32 (fun _ => 0)) 32 (upd (upd (upd (upd (upd (upd (fun _ => 0) 0 (vp_nar .char ((((48 : Int32) + ((((a / 10) / 10) / 10) - (((a / 10) / 10) / 10) / 10 * 10)).toUInt32 % 65536).toInt32))) 1 (vp_nar .char ((((48 : Int32) + (((a / 10) / 10) - ((a / 10) / 10) / 10 * 10)).toUInt32 % 65536).toInt32))) 2 (vp_nar .char ((((48 : Int32) + ((a / 10) - (a / 10) / 10 * 10)).toUInt32 % 65536).toInt32))) 3 (vp_nar .char ((((48 : Int32) + (a - a / 10 * 10)).toUInt32 % 65536).toInt32))) 4 32) 5 108)) (q_uI (q_uI q_IM 0 39 0) 0 35 6) q_J0, 34, 31630))) 3 (fun _ _ => rfl) ?_
      exact q_Ru_ret rfl rfl
    show q_Ru _ _ _ (45, [(3, .int 0), (2, .int 0), (0, .ref 64), (1, .int 0)], [], (q_cM (q_uA (q_uA (q_uA q_AM 33 f24) 32 (fun _ => 0)) 32 (upd (upd (upd (upd (upd (upd (fun _ => 0) 0 (vp_nar .char ((((48 : Int32) + ((((a / 10) / 10) / 10) - (((a / 10) / 10) / 10) / 10 * 10)).toUInt32 % 65536).toInt32))) 1 (vp_nar .char ((((48 : Int32) + (((a / 10) / 10) - ((a / 10) / 10) / 10 * 10)).toUInt32 % 65536).toInt32))) 2 (vp_nar .char ((((48 : Int32) + ((a / 10) - (a / 10) / 10 * 10)).toUInt32 % 65536).toInt32))) 3 (vp_nar .char ((((48 : Int32) + (a - a / 10 * 10)).toUInt32 % 65536).toInt32))) 4 32) 5 108)) (q_uI (q_uI q_IM 0 39 0) 0 35 6) q_J0, 34, 31630)) _
    refine q_Ru_seg (g2 := (26, [(3, .int 1), (2, .int 0), (0, .ref 64), (1, .int 0)], [.int 100, .ref 64], (q_cM (q_uA (q_uA (q_uA q_AM 33 f24) 32 (fun _ => 0)) 32 (upd (upd (upd (upd (upd (upd (fun _ => 0) 0 (vp_nar .char ((((48 : Int32) + ((((a / 10) / 10) / 10) - (((a / 10) / 10) / 10) / 10 * 10)).toUInt32 % 65536).toInt32))) 1 (vp_nar .char ((((48 : Int32) + (((a / 10) / 10) - ((a / 10) / 10) / 10 * 10)).toUInt32 % 65536).toInt32))) 2 (vp_nar .char ((((48 : Int32) + ((a / 10) - (a / 10) / 10 * 10)).toUInt32 % 65536).toInt32))) 3 (vp_nar .char ((((48 : Int32) + (a - a / 10 * 10)).toUInt32 % 65536).toInt32))) 4 32) 5 108)) (q_uI (q_uI q_IM 0 39 0) 0 35 6) q_J0, 34, 31630))) 15 (fun _ _ => rfl) ?_
    refine q_Ru_seg (g2 := (42, [(3, .int 1), (2, .int 0), (0, .ref 64), (1, .int 0)], [.int 100, .ref 64], (q_cM (q_uA (q_uA (q_uA q_AM 33 f24) 32 (fun _ => 0)) 32 (upd (upd (upd (upd (upd (upd (fun _ => 0) 0 (vp_nar .char ((((48 : Int32) + ((((a / 10) / 10) / 10) - (((a / 10) / 10) / 10) / 10 * 10)).toUInt32 % 65536).toInt32))) 1 (vp_nar .char ((((48 : Int32) + (((a / 10) / 10) - ((a / 10) / 10) / 10 * 10)).toUInt32 % 65536).toInt32))) 2 (vp_nar .char ((((48 : Int32) + ((a / 10) - (a / 10) / 10 * 10)).toUInt32 % 65536).toInt32))) 3 (vp_nar .char ((((48 : Int32) + (a - a / 10 * 10)).toUInt32 % 65536).toInt32))) 4 32) 5 108)) (q_uI (q_uI q_IM 0 39 0) 0 35 6) q_J0, 34, 31630))) 1 (fun _ _ => rfl) ?_
    refine q_Ru_call (v := none) (h2 := (q_cM (q_uA (q_uA (q_uA q_AM 33 f24) 32 (fun _ => 0)) 32 (upd (upd (upd (upd (upd (upd (upd (fun _ => 0) 0 (vp_nar .char ((((48 : Int32) + ((((a / 10) / 10) / 10) - (((a / 10) / 10) / 10) / 10 * 10)).toUInt32 % 65536).toInt32))) 1 (vp_nar .char ((((48 : Int32) + (((a / 10) / 10) - ((a / 10) / 10) / 10 * 10)).toUInt32 % 65536).toInt32))) 2 (vp_nar .char ((((48 : Int32) + ((a / 10) - (a / 10) / 10 * 10)).toUInt32 % 65536).toInt32))) 3 (vp_nar .char ((((48 : Int32) + (a - a / 10 * 10)).toUInt32 % 65536).toInt32))) 4 32) 5 108) 6 100)) (q_uI (q_uI q_IM 0 39 0) 0 35 7) q_J0, 34, 31630)) rfl rfl ?_ ?_
    · refine q_Ca_of (Nat.le_of_ble_eq_true rfl) ?_
      refine q_Ru_seg (g2 := (8, [(0, .ref 64), (1, .int 100)], [.int 6, .ref 96], (q_cM (q_uA (q_uA (q_uA q_AM 33 f24) 32 (fun _ => 0)) 32 (upd (upd (upd (upd (upd (upd (fun _ => 0) 0 (vp_nar .char ((((48 : Int32) + ((((a / 10) / 10) / 10) - (((a / 10) / 10) / 10) / 10 * 10)).toUInt32 % 65536).toInt32))) 1 (vp_nar .char ((((48 : Int32) + (((a / 10) / 10) - ((a / 10) / 10) / 10 * 10)).toUInt32 % 65536).toInt32))) 2 (vp_nar .char ((((48 : Int32) + ((a / 10) - (a / 10) / 10 * 10)).toUInt32 % 65536).toInt32))) 3 (vp_nar .char ((((48 : Int32) + (a - a / 10 * 10)).toUInt32 % 65536).toInt32))) 4 32) 5 108)) (q_uI (q_uI q_IM 0 39 0) 0 35 6) q_J0, 34, 31630))) 4 (fun _ _ => rfl) ?_
      refine q_Ru_seg (g2 := (15, [(0, .ref 64), (1, .int 100)], [.int 6, .ref 64], (q_cM (q_uA (q_uA (q_uA q_AM 33 f24) 32 (fun _ => 0)) 32 (upd (upd (upd (upd (upd (upd (upd (fun _ => 0) 0 (vp_nar .char ((((48 : Int32) + ((((a / 10) / 10) / 10) - (((a / 10) / 10) / 10) / 10 * 10)).toUInt32 % 65536).toInt32))) 1 (vp_nar .char ((((48 : Int32) + (((a / 10) / 10) - ((a / 10) / 10) / 10 * 10)).toUInt32 % 65536).toInt32))) 2 (vp_nar .char ((((48 : Int32) + ((a / 10) - (a / 10) / 10 * 10)).toUInt32 % 65536).toInt32))) 3 (vp_nar .char ((((48 : Int32) + (a - a / 10 * 10)).toUInt32 % 65536).toInt32))) 4 32) 5 108) 6 100)) (q_uI (q_uI q_IM 0 39 0) 0 35 6) q_J0, 34, 31630))) 5 (fun _ _ => rfl) ?_
      refine q_Ru_seg (g2 := (20, [(0, .ref 64), (1, .int 100)], [], (q_cM (q_uA (q_uA (q_uA q_AM 33 f24) 32 (fun _ => 0)) 32 (upd (upd (upd (upd (upd (upd (upd (fun _ => 0) 0 (vp_nar .char ((((48 : Int32) + ((((a / 10) / 10) / 10) - (((a / 10) / 10) / 10) / 10 * 10)).toUInt32 % 65536).toInt32))) 1 (vp_nar .char ((((48 : Int32) + (((a / 10) / 10) - ((a / 10) / 10) / 10 * 10)).toUInt32 % 65536).toInt32))) 2 (vp_nar .char ((((48 : Int32) + ((a / 10) - (a / 10) / 10 * 10)).toUInt32 % 65536).toInt32))) 3 (vp_nar .char ((((48 : Int32) + (a - a / 10 * 10)).toUInt32 % 65536).toInt32))) 4 32) 5 108) 6 100)) (q_uI (q_uI q_IM 0 39 0) 0 35 7) q_J0, 34, 31630))) 3 (fun _ _ => rfl) ?_
      exact q_Ru_ret rfl rfl
    show q_Ru _ _ _ (45, [(3, .int 1), (2, .int 0), (0, .ref 64), (1, .int 0)], [], (q_cM (q_uA (q_uA (q_uA q_AM 33 f24) 32 (fun _ => 0)) 32 (upd (upd (upd (upd (upd (upd (upd (fun _ => 0) 0 (vp_nar .char ((((48 : Int32) + ((((a / 10) / 10) / 10) - (((a / 10) / 10) / 10) / 10 * 10)).toUInt32 % 65536).toInt32))) 1 (vp_nar .char ((((48 : Int32) + (((a / 10) / 10) - ((a / 10) / 10) / 10 * 10)).toUInt32 % 65536).toInt32))) 2 (vp_nar .char ((((48 : Int32) + ((a / 10) - (a / 10) / 10 * 10)).toUInt32 % 65536).toInt32))) 3 (vp_nar .char ((((48 : Int32) + (a - a / 10 * 10)).toUInt32 % 65536).toInt32))) 4 32) 5 108) 6 100)) (q_uI (q_uI q_IM 0 39 0) 0 35 7) q_J0, 34, 31630)) _
    refine q_Ru_seg (g2 := (26, [(3, .int 2), (2, .int 0), (0, .ref 64), (1, .int 0)], [.int 97, .ref 64], (q_cM (q_uA (q_uA (q_uA q_AM 33 f24) 32 (fun _ => 0)) 32 (upd (upd (upd (upd (upd (upd (upd (fun _ => 0) 0 (vp_nar .char ((((48 : Int32) + ((((a / 10) / 10) / 10) - (((a / 10) / 10) / 10) / 10 * 10)).toUInt32 % 65536).toInt32))) 1 (vp_nar .char ((((48 : Int32) + (((a / 10) / 10) - ((a / 10) / 10) / 10 * 10)).toUInt32 % 65536).toInt32))) 2 (vp_nar .char ((((48 : Int32) + ((a / 10) - (a / 10) / 10 * 10)).toUInt32 % 65536).toInt32))) 3 (vp_nar .char ((((48 : Int32) + (a - a / 10 * 10)).toUInt32 % 65536).toInt32))) 4 32) 5 108) 6 100)) (q_uI (q_uI q_IM 0 39 0) 0 35 7) q_J0, 34, 31630))) 15 (fun _ _ => rfl) ?_
    refine q_Ru_seg (g2 := (42, [(3, .int 2), (2, .int 0), (0, .ref 64), (1, .int 0)], [.int 97, .ref 64], (q_cM (q_uA (q_uA (q_uA q_AM 33 f24) 32 (fun _ => 0)) 32 (upd (upd (upd (upd (upd (upd (upd (fun _ => 0) 0 (vp_nar .char ((((48 : Int32) + ((((a / 10) / 10) / 10) - (((a / 10) / 10) / 10) / 10 * 10)).toUInt32 % 65536).toInt32))) 1 (vp_nar .char ((((48 : Int32) + (((a / 10) / 10) - ((a / 10) / 10) / 10 * 10)).toUInt32 % 65536).toInt32))) 2 (vp_nar .char ((((48 : Int32) + ((a / 10) - (a / 10) / 10 * 10)).toUInt32 % 65536).toInt32))) 3 (vp_nar .char ((((48 : Int32) + (a - a / 10 * 10)).toUInt32 % 65536).toInt32))) 4 32) 5 108) 6 100)) (q_uI (q_uI q_IM 0 39 0) 0 35 7) q_J0, 34, 31630))) 1 (fun _ _ => rfl) ?_
    refine q_Ru_call (v := none) (h2 := (q_cM (q_uA (q_uA (q_uA q_AM 33 f24) 32 (fun _ => 0)) 32 (upd (upd (upd (upd (upd (upd (upd (upd (fun _ => 0) 0 (vp_nar .char ((((48 : Int32) + ((((a / 10) / 10) / 10) - (((a / 10) / 10) / 10) / 10 * 10)).toUInt32 % 65536).toInt32))) 1 (vp_nar .char ((((48 : Int32) + (((a / 10) / 10) - ((a / 10) / 10) / 10 * 10)).toUInt32 % 65536).toInt32))) 2 (vp_nar .char ((((48 : Int32) + ((a / 10) - (a / 10) / 10 * 10)).toUInt32 % 65536).toInt32))) 3 (vp_nar .char ((((48 : Int32) + (a - a / 10 * 10)).toUInt32 % 65536).toInt32))) 4 32) 5 108) 6 100) 7 97)) (q_uI (q_uI q_IM 0 39 0) 0 35 8) q_J0, 34, 31630)) rfl rfl ?_ ?_
    · refine q_Ca_of (Nat.le_of_ble_eq_true rfl) ?_
      refine q_Ru_seg (g2 := (8, [(0, .ref 64), (1, .int 97)], [.int 7, .ref 96], (q_cM (q_uA (q_uA (q_uA q_AM 33 f24) 32 (fun _ => 0)) 32 (upd (upd (upd (upd (upd (upd (upd (fun _ => 0) 0 (vp_nar .char ((((48 : Int32) + ((((a / 10) / 10) / 10) - (((a / 10) / 10) / 10) / 10 * 10)).toUInt32 % 65536).toInt32))) 1 (vp_nar .char ((((48 : Int32) + (((a / 10) / 10) - ((a / 10) / 10) / 10 * 10)).toUInt32 % 65536).toInt32))) 2 (vp_nar .char ((((48 : Int32) + ((a / 10) - (a / 10) / 10 * 10)).toUInt32 % 65536).toInt32))) 3 (vp_nar .char ((((48 : Int32) + (a - a / 10 * 10)).toUInt32 % 65536).toInt32))) 4 32) 5 108) 6 100)) (q_uI (q_uI q_IM 0 39 0) 0 35 7) q_J0, 34, 31630))) 4 (fun _ _ => rfl) ?_
      refine q_Ru_seg (g2 := (15, [(0, .ref 64), (1, .int 97)], [.int 7, .ref 64], (q_cM (q_uA (q_uA (q_uA q_AM 33 f24) 32 (fun _ => 0)) 32 (upd (upd (upd (upd (upd (upd (upd (upd (fun _ => 0) 0 (vp_nar .char ((((48 : Int32) + ((((a / 10) / 10) / 10) - (((a / 10) / 10) / 10) / 10 * 10)).toUInt32 % 65536).toInt32))) 1 (vp_nar .char ((((48 : Int32) + (((a / 10) / 10) - ((a / 10) / 10) / 10 * 10)).toUInt32 % 65536).toInt32))) 2 (vp_nar .char ((((48 : Int32) + ((a / 10) - (a / 10) / 10 * 10)).toUInt32 % 65536).toInt32))) 3 (vp_nar .char ((((48 : Int32) + (a - a / 10 * 10)).toUInt32 % 65536).toInt32))) 4 32) 5 108) 6 100) 7 97)) (q_uI (q_uI q_IM 0 39 0) 0 35 7) q_J0, 34, 31630))) 5 (fun _ _ => rfl) ?_
      refine q_Ru_seg (g2 := (20, [(0, .ref 64), (1, .int 97)], [], (q_cM (q_uA (q_uA (q_uA q_AM 33 f24) 32 (fun _ => 0)) 32 (upd (upd (upd (upd (upd (upd (upd (upd (fun _ => 0) 0 (vp_nar .char ((((48 : Int32) + ((((a / 10) / 10) / 10) - (((a / 10) / 10) / 10) / 10 * 10)).toUInt32 % 65536).toInt32))) 1 (vp_nar .char ((((48 : Int32) + (((a / 10) / 10) - ((a / 10) / 10) / 10 * 10)).toUInt32 % 65536).toInt32))) 2 (vp_nar .char ((((48 : Int32) + ((a / 10) - (a / 10) / 10 * 10)).toUInt32 % 65536).toInt32))) 3 (vp_nar .char ((((48 : Int32) + (a - a / 10 * 10)).toUInt32 % 65536).toInt32))) 4 32) 5 108) 6 100) 7 97)) (q_uI (q_uI q_IM 0 39 0) 0 35 8) q_J0, 34, 31630))) 3 (fun _ _ => rfl) ?_
      exact q_Ru_ret rfl rfl
    show q_Ru _ _ _ (45, [(3, .int 2), (2, .int 0), (0, .ref 64), (1, .int 0)], [], (q_cM (q_uA (q_uA (q_uA q_AM 33 f24) 32 (fun _ => 0)) 32 (upd (upd (upd (upd (upd (upd (upd (upd (fun _ => 0) 0 (vp_nar .char ((((48 : Int32) + ((((a / 10) / 10) / 10) - (((a / 10) / 10) / 10) / 10 * 10)).toUInt32 % 65536).toInt32))) 1 (vp_nar .char ((((48 : Int32) + (((a / 10) / 10) - ((a / 10) / 10) / 10 * 10)).toUInt32 % 65536).toInt32))) 2 (vp_nar .char ((((48 : Int32) + ((a / 10) - (a / 10) / 10 * 10)).toUInt32 % 65536).toInt32))) 3 (vp_nar .char ((((48 : Int32) + (a - a / 10 * 10)).toUInt32 % 65536).toInt32))) 4 32) 5 108) 6 100) 7 97)) (q_uI (q_uI q_IM 0 39 0) 0 35 8) q_J0, 34, 31630)) _
    refine q_Ru_seg (g2 := (51, [(3, .int 3), (2, .int 0), (0, .ref 64), (1, .int 0)], [], (q_cM (q_uA (q_uA (q_uA q_AM 33 f24) 32 (fun _ => 0)) 32 (upd (upd (upd (upd (upd (upd (upd (upd (fun _ => 0) 0 (vp_nar .char ((((48 : Int32) + ((((a / 10) / 10) / 10) - (((a / 10) / 10) / 10) / 10 * 10)).toUInt32 % 65536).toInt32))) 1 (vp_nar .char ((((48 : Int32) + (((a / 10) / 10) - ((a / 10) / 10) / 10 * 10)).toUInt32 % 65536).toInt32))) 2 (vp_nar .char ((((48 : Int32) + ((a / 10) - (a / 10) / 10 * 10)).toUInt32 % 65536).toInt32))) 3 (vp_nar .char ((((48 : Int32) + (a - a / 10 * 10)).toUInt32 % 65536).toInt32))) 4 32) 5 108) 6 100) 7 97)) (q_uI (q_uI q_IM 0 39 0) 0 35 8) q_J0, 34, 31630))) 5 (fun _ _ => rfl) ?_
    exact q_Ru_ret rfl rfl
  show q_Ru _ _ _ (78, [(2, .int 0), (0, .ref 64), (1, .int a)], [], (q_cM (q_uA (q_uA (q_uA q_AM 33 f24) 32 (fun _ => 0)) 32 (upd (upd (upd (upd (upd (upd (upd (upd (fun _ => 0) 0 (vp_nar .char ((((48 : Int32) + ((((a / 10) / 10) / 10) - (((a / 10) / 10) / 10) / 10 * 10)).toUInt32 % 65536).toInt32))) 1 (vp_nar .char ((((48 : Int32) + (((a / 10) / 10) - ((a / 10) / 10) / 10 * 10)).toUInt32 % 65536).toInt32))) 2 (vp_nar .char ((((48 : Int32) + ((a / 10) - (a / 10) / 10 * 10)).toUInt32 % 65536).toInt32))) 3 (vp_nar .char ((((48 : Int32) + (a - a / 10 * 10)).toUInt32 % 65536).toInt32))) 4 32) 5 108) 6 100) 7 97)) (q_uI (q_uI q_IM 0 39 0) 0 35 8) q_J0, 34, 31630)) _
  refine q_Ru_seg (g2 := (79, [(2, .int 0), (0, .ref 64), (1, .int a)], [.int 0], (q_cM (q_uA (q_uA (q_uA q_AM 33 f24) 32 (fun _ => 0)) 32 (upd (upd (upd (upd (upd (upd (upd (upd (fun _ => 0) 0 (vp_nar .char ((((48 : Int32) + ((((a / 10) / 10) / 10) - (((a / 10) / 10) / 10) / 10 * 10)).toUInt32 % 65536).toInt32))) 1 (vp_nar .char ((((48 : Int32) + (((a / 10) / 10) - ((a / 10) / 10) / 10 * 10)).toUInt32 % 65536).toInt32))) 2 (vp_nar .char ((((48 : Int32) + ((a / 10) - (a / 10) / 10 * 10)).toUInt32 % 65536).toInt32))) 3 (vp_nar .char ((((48 : Int32) + (a - a / 10 * 10)).toUInt32 % 65536).toInt32))) 4 32) 5 108) 6 100) 7 97)) (q_uI (q_uI q_IM 0 39 0) 0 35 8) q_J0, 34, 31630))) 1 (fun _ _ => rfl) ?_
  refine q_Ru_call (v := (some (.int 0))) (h2 := (q_cM (q_uA (q_uA (q_uA q_AM 33 f24) 32 (fun _ => 0)) 32 (upd (upd (upd (upd (upd (upd (upd (upd (fun _ => 0) 0 (vp_nar .char ((((48 : Int32) + ((((a / 10) / 10) / 10) - (((a / 10) / 10) / 10) / 10 * 10)).toUInt32 % 65536).toInt32))) 1 (vp_nar .char ((((48 : Int32) + (((a / 10) / 10) - ((a / 10) / 10) / 10 * 10)).toUInt32 % 65536).toInt32))) 2 (vp_nar .char ((((48 : Int32) + ((a / 10) - (a / 10) / 10 * 10)).toUInt32 % 65536).toInt32))) 3 (vp_nar .char ((((48 : Int32) + (a - a / 10 * 10)).toUInt32 % 65536).toInt32))) 4 32) 5 108) 6 100) 7 97)) (q_uI (q_uI q_IM 0 39 0) 0 35 8) q_J0, 34, 31630)) rfl rfl ?_ ?_
  · refine q_Ca_of (Nat.le_of_ble_eq_true rfl) ?_
    refine q_Ru_seg (g2 := (42, [(0, .int 0)], [.int 0], (q_cM (q_uA (q_uA (q_uA q_AM 33 f24) 32 (fun _ => 0)) 32 (upd (upd (upd (upd (upd (upd (upd (upd (fun _ => 0) 0 (vp_nar .char ((((48 : Int32) + ((((a / 10) / 10) / 10) - (((a / 10) / 10) / 10) / 10 * 10)).toUInt32 % 65536).toInt32))) 1 (vp_nar .char ((((48 : Int32) + (((a / 10) / 10) - ((a / 10) / 10) / 10 * 10)).toUInt32 % 65536).toInt32))) 2 (vp_nar .char ((((48 : Int32) + ((a / 10) - (a / 10) / 10 * 10)).toUInt32 % 65536).toInt32))) 3 (vp_nar .char ((((48 : Int32) + (a - a / 10 * 10)).toUInt32 % 65536).toInt32))) 4 32) 5 108) 6 100) 7 97)) (q_uI (q_uI q_IM 0 39 0) 0 35 8) q_J0, 34, 31630))) 7 (fun _ _ => rfl) ?_
    exact q_Ru_ret rfl rfl
  show q_Ru _ _ _ (82, [(2, .int 0), (0, .ref 64), (1, .int a)], [.int 0], (q_cM (q_uA (q_uA (q_uA q_AM 33 f24) 32 (fun _ => 0)) 32 (upd (upd (upd (upd (upd (upd (upd (upd (fun _ => 0) 0 (vp_nar .char ((((48 : Int32) + ((((a / 10) / 10) / 10) - (((a / 10) / 10) / 10) / 10 * 10)).toUInt32 % 65536).toInt32))) 1 (vp_nar .char ((((48 : Int32) + (((a / 10) / 10) - ((a / 10) / 10) / 10 * 10)).toUInt32 % 65536).toInt32))) 2 (vp_nar .char ((((48 : Int32) + ((a / 10) - (a / 10) / 10 * 10)).toUInt32 % 65536).toInt32))) 3 (vp_nar .char ((((48 : Int32) + (a - a / 10 * 10)).toUInt32 % 65536).toInt32))) 4 32) 5 108) 6 100) 7 97)) (q_uI (q_uI q_IM 0 39 0) 0 35 8) q_J0, 34, 31630)) _
  exact q_Ru_le (Nat.le_of_ble_eq_true rfl) (q_xc164 L xs a hl_a hu_a f24 f25 p25)
set_option maxHeartbeats 20000000 in
theorem q_xc166 (L : Nat) (xs : Nat → Int32) (a : Int32) (hl_a : 1000 ≤ a.toInt) (hu_a : a.toInt ≤ 4095) (f24 : Nat → Int32) (f25 : Nat → Int32) (h199 : decide (a < 10) = false) (h200 : decide (a / 10 < 10) = false) (h201 : decide ((a / 10) / 10 < 10) = false) (h202 : decide (((a / 10) / 10) / 10 < 10) = true) (p25 : q_Ca q_TB0 4 214 [.ref 64, .int ((a + 1) &&& 4095)] (q_cM (q_uA (q_uA q_AM 33 f24) 32 (upd (upd (upd (upd (upd (upd (upd (upd (upd (upd (fun _ => 0) 0 (vp_nar .char ((((48 : Int32) + ((((a / 10) / 10) / 10) - (((a / 10) / 10) / 10) / 10 * 10)).toUInt32 % 65536).toInt32))) 1 (vp_nar .char ((((48 : Int32) + (((a / 10) / 10) - ((a / 10) / 10) / 10 * 10)).toUInt32 % 65536).toInt32))) 2 (vp_nar .char ((((48 : Int32) + ((a / 10) - (a / 10) / 10 * 10)).toUInt32 % 65536).toInt32))) 3 (vp_nar .char ((((48 : Int32) + (a - a / 10 * 10)).toUInt32 % 65536).toInt32))) 4 32) 5 108) 6 100) 7 97) 8 32) 9 35)) (q_uI (q_uI q_IM 0 39 0) 0 35 10) q_J0, 34, 31630) (.inl (some (.int 0)), (q_cM (q_uA (q_uA q_AM 33 f25) 32 (upd (upd (upd (upd (upd (upd (upd (upd (upd (upd (fun _ => 0) 0 (vp_nar .char ((((48 : Int32) + ((((a / 10) / 10) / 10) - (((a / 10) / 10) / 10) / 10 * 10)).toUInt32 % 65536).toInt32))) 1 (vp_nar .char ((((48 : Int32) + (((a / 10) / 10) - ((a / 10) / 10) / 10 * 10)).toUInt32 % 65536).toInt32))) 2 (vp_nar .char ((((48 : Int32) + ((a / 10) - (a / 10) / 10 * 10)).toUInt32 % 65536).toInt32))) 3 (vp_nar .char ((((48 : Int32) + (a - a / 10 * 10)).toUInt32 % 65536).toInt32))) 4 32) 5 108) 6 100) 7 97) 8 32) 9 35)) (q_uI (q_uI q_IM 0 39 0) 0 35 10) q_J0, 34, 31630))) : q_Ru q_TB0 8 286 (26, [(0, .ref 64), (1, .int a)], [.int 0], (q_cM (q_uA (q_uA q_AM 33 f24) 32 (fun _ => 0)) (q_uI q_IM 0 39 0) q_J0, 34, 31630)) (.inl (some (.int 11)), (q_cM (q_uA (q_uA (q_uA q_AM 33 f25) 32 (upd (upd (upd (upd (upd (upd (upd (upd (upd (upd (fun _ => 0) 0 (vp_nar .char ((((48 : Int32) + ((((a / 10) / 10) / 10) - (((a / 10) / 10) / 10) / 10 * 10)).toUInt32 % 65536).toInt32))) 1 (vp_nar .char ((((48 : Int32) + (((a / 10) / 10) - ((a / 10) / 10) / 10 * 10)).toUInt32 % 65536).toInt32))) 2 (vp_nar .char ((((48 : Int32) + ((a / 10) - (a / 10) / 10 * 10)).toUInt32 % 65536).toInt32))) 3 (vp_nar .char ((((48 : Int32) + (a - a / 10 * 10)).toUInt32 % 65536).toInt32))) 4 32) 5 108) 6 100) 7 97) 8 32) 9 35)) 32 (upd (upd (upd (upd (upd (upd (upd (upd (upd (upd (upd (fun _ => 0) 0 (vp_nar .char ((((48 : Int32) + ((((a / 10) / 10) / 10) - (((a / 10) / 10) / 10) / 10 * 10)).toUInt32 % 65536).toInt32))) 1 (vp_nar .char ((((48 : Int32) + (((a / 10) / 10) - ((a / 10) / 10) / 10 * 10)).toUInt32 % 65536).toInt32))) 2 (vp_nar .char ((((48 : Int32) + ((a / 10) - (a / 10) / 10 * 10)).toUInt32 % 65536).toInt32))) 3 (vp_nar .char ((((48 : Int32) + (a - a / 10 * 10)).toUInt32 % 65536).toInt32))) 4 32) 5 108) 6 100) 7 97) 8 32) 9 35) 10 48)) (q_uI (q_uI q_IM 0 39 0) 0 35 11) q_J0, 34, 31630)) := by
  refine q_Ru_seg (g2 := (34, [(2, .int 0), (0, .ref 64), (1, .int a)], [.int a, .ref 64], (q_cM (q_uA (q_uA q_AM 33 f24) 32 (fun _ => 0)) (q_uI (q_uI q_IM 0 39 0) 0 35 0) q_J0, 34, 31630))) 6 (fun _ _ => rfl) ?_
  refine q_Ru_call (v := none) (h2 := (q_cM (q_uA (q_uA (q_uA q_AM 33 f24) 32 (fun _ => 0)) 32 (upd (upd (upd (upd (fun _ => 0) 0 (vp_nar .char ((((48 : Int32) + ((((a / 10) / 10) / 10) - (((a / 10) / 10) / 10) / 10 * 10)).toUInt32 % 65536).toInt32))) 1 (vp_nar .char ((((48 : Int32) + (((a / 10) / 10) - ((a / 10) / 10) / 10 * 10)).toUInt32 % 65536).toInt32))) 2 (vp_nar .char ((((48 : Int32) + ((a / 10) - (a / 10) / 10 * 10)).toUInt32 % 65536).toInt32))) 3 (vp_nar .char ((((48 : Int32) + (a - a / 10 * 10)).toUInt32 % 65536).toInt32)))) (q_uI (q_uI q_IM 0 39 0) 0 35 4) q_J0, 34, 31630)) rfl rfl ?_ ?_
  · refine q_Ca_of (Nat.le_of_ble_eq_true rfl) ?_
    refine q_Ru_seg (g2 := (3, [(0, .ref 64), (1, .int a)], [.int 10, .int a], (q_cM (q_uA (q_uA q_AM 33 f24) 32 (fun _ => 0)) (q_uI (q_uI q_IM 0 39 0) 0 35 0) q_J0, 34, 31630))) 2 (fun _ _ => rfl) ?_
    refine q_Ru_rsF (g2 := (6, [(0, .ref 64), (1, .int a)], [], (q_cM (q_uA (q_uA q_AM 33 f24) 32 (fun _ => 0)) (q_uI (q_uI q_IM 0 39 0) 0 35 0) q_J0, 34, 31630))) rfl rfl h199 ?_
    refine q_Ru_seg (g2 := (11, [(0, .ref 64), (1, .int a)], [.int (a / 10), .ref 64], (q_cM (q_uA (q_uA q_AM 33 f24) 32 (fun _ => 0)) (q_uI (q_uI q_IM 0 39 0) 0 35 0) q_J0, 34, 31630))) 4 (fun _ _ => rfl) ?_
    refine q_Ru_call (v := none) (h2 := (q_cM (q_uA (q_uA (q_uA q_AM 33 f24) 32 (fun _ => 0)) 32 (upd (upd (upd (fun _ => 0) 0 (vp_nar .char ((((48 : Int32) + ((((a / 10) / 10) / 10) - (((a / 10) / 10) / 10) / 10 * 10)).toUInt32 % 65536).toInt32))) 1 (vp_nar .char ((((48 : Int32) + (((a / 10) / 10) - ((a / 10) / 10) / 10 * 10)).toUInt32 % 65536).toInt32))) 2 (vp_nar .char ((((48 : Int32) + ((a / 10) - (a / 10) / 10 * 10)).toUInt32 % 65536).toInt32)))) (q_uI (q_uI q_IM 0 39 0) 0 35 3) q_J0, 34, 31630)) rfl rfl ?_ ?_
    · refine q_Ca_of (Nat.le_of_ble_eq_true rfl) ?_
      refine q_Ru_seg (g2 := (3, [(0, .ref 64), (1, .int (a / 10))], [.int 10, .int (a / 10)], (q_cM (q_uA (q_uA q_AM 33 f24) 32 (fun _ => 0)) (q_uI (q_uI q_IM 0 39 0) 0 35 0) q_J0, 34, 31630))) 2 (fun _ _ => rfl) ?_
      refine q_Ru_rsF (g2 := (6, [(0, .ref 64), (1, .int (a / 10))], [], (q_cM (q_uA (q_uA q_AM 33 f24) 32 (fun _ => 0)) (q_uI (q_uI q_IM 0 39 0) 0 35 0) q_J0, 34, 31630))) rfl rfl h200 ?_
      refine q_Ru_seg (g2 := (11, [(0, .ref 64), (1, .int (a / 10))], [.int ((a / 10) / 10), .ref 64], (q_cM (q_uA (q_uA q_AM 33 f24) 32 (fun _ => 0)) (q_uI (q_uI q_IM 0 39 0) 0 35 0) q_J0, 34, 31630))) 4 (fun _ _ => rfl) ?_
      refine q_Ru_call (v := none) (h2 := (q_cM (q_uA (q_uA (q_uA q_AM 33 f24) 32 (fun _ => 0)) 32 (upd (upd (fun _ => 0) 0 (vp_nar .char ((((48 : Int32) + ((((a / 10) / 10) / 10) - (((a / 10) / 10) / 10) / 10 * 10)).toUInt32 % 65536).toInt32))) 1 (vp_nar .char ((((48 : Int32) + (((a / 10) / 10) - ((a / 10) / 10) / 10 * 10)).toUInt32 % 65536).toInt32)))) (q_uI (q_uI q_IM 0 39 0) 0 35 2) q_J0, 34, 31630)) rfl rfl ?_ ?_
      · refine q_Ca_of (Nat.le_of_ble_eq_true rfl) ?_
        refine q_Ru_seg (g2 := (3, [(0, .ref 64), (1, .int ((a / 10) / 10))], [.int 10, .int ((a / 10) / 10)], (q_cM (q_uA (q_uA q_AM 33 f24) 32 (fun _ => 0)) (q_uI (q_uI q_IM 0 39 0) 0 35 0) q_J0, 34, 31630))) 2 (fun _ _ => rfl) ?_
        refine q_Ru_rsF (g2 := (6, [(0, .ref 64), (1, .int ((a / 10) / 10))], [], (q_cM (q_uA (q_uA q_AM 33 f24) 32 (fun _ => 0)) (q_uI (q_uI q_IM 0 39 0) 0 35 0) q_J0, 34, 31630))) rfl rfl h201 ?_
        refine q_Ru_seg (g2 := (11, [(0, .ref 64), (1, .int ((a / 10) / 10))], [.int (((a / 10) / 10) / 10), .ref 64], (q_cM (q_uA (q_uA q_AM 33 f24) 32 (fun _ => 0)) (q_uI (q_uI q_IM 0 39 0) 0 35 0) q_J0, 34, 31630))) 4 (fun _ _ => rfl) ?_
        refine q_Ru_call (v := none) (h2 := (q_cM (q_uA (q_uA (q_uA q_AM 33 f24) 32 (fun _ => 0)) 32 (upd (fun _ => 0) 0 (vp_nar .char ((((48 : Int32) + ((((a / 10) / 10) / 10) - (((a / 10) / 10) / 10) / 10 * 10)).toUInt32 % 65536).toInt32)))) (q_uI (q_uI q_IM 0 39 0) 0 35 1) q_J0, 34, 31630)) rfl rfl ?_ ?_
        · refine q_Ca_of (Nat.le_of_ble_eq_true rfl) ?_
          refine q_Ru_seg (g2 := (3, [(0, .ref 64), (1, .int (((a / 10) / 10) / 10))], [.int 10, .int (((a / 10) / 10) / 10)], (q_cM (q_uA (q_uA q_AM 33 f24) 32 (fun _ => 0)) (q_uI (q_uI q_IM 0 39 0) 0 35 0) q_J0, 34, 31630))) 2 (fun _ _ => rfl) ?_
          refine q_Ru_rsT (g2 := (14, [(0, .ref 64), (1, .int (((a / 10) / 10) / 10))], [], (q_cM (q_uA (q_uA q_AM 33 f24) 32 (fun _ => 0)) (q_uI (q_uI q_IM 0 39 0) 0 35 0) q_J0, 34, 31630))) rfl rfl h202 ?_
          refine q_Ru_seg (g2 := (23, [(0, .ref 64), (1, .int (((a / 10) / 10) / 10))], [.int ((((48 : Int32) + ((((a / 10) / 10) / 10) - (((a / 10) / 10) / 10) / 10 * 10)).toUInt32 % 65536).toInt32), .ref 64], (q_cM (q_uA (q_uA q_AM 33 f24) 32 (fun _ => 0)) (q_uI (q_uI q_IM 0 39 0) 0 35 0) q_J0, 34, 31630))) 7 (fun _ _ => rfl) ?_
          refine q_Ru_call (v := none) (h2 := (q_cM (q_uA (q_uA (q_uA q_AM 33 f24) 32 (fun _ => 0)) 32 (upd (fun _ => 0) 0 (vp_nar .char ((((48 : Int32) + ((((a / 10) / 10) / 10) - (((a / 10) / 10) / 10) / 10 * 10)).toUInt32 % 65536).toInt32)))) (q_uI (q_uI q_IM 0 39 0) 0 35 1) q_J0, 34, 31630)) rfl rfl ?_ ?_
          · refine q_Ca_of (Nat.le_of_ble_eq_true rfl) ?_
            refine q_Ru_seg (g2 := (8, [(0, .ref 64), (1, .int ((((48 : Int32) + ((((a / 10) / 10) / 10) - (((a / 10) / 10) / 10) / 10 * 10)).toUInt32 % 65536).toInt32))], [.int 0, .ref 96], (q_cM (q_uA (q_uA q_AM 33 f24) 32 (fun _ => 0)) (q_uI (q_uI q_IM 0 39 0) 0 35 0) q_J0, 34, 31630))) 4 (fun _ _ => rfl) ?_
            refine q_Ru_seg (g2 := (15, [(0, .ref 64), (1, .int ((((48 : Int32) + ((((a / 10) / 10) / 10) - (((a / 10) / 10) / 10) / 10 * 10)).toUInt32 % 65536).toInt32))], [.int 0, .ref 64], (q_cM (q_uA (q_uA (q_uA q_AM 33 f24) 32 (fun _ => 0)) 32 (upd (fun _ => 0) 0 (vp_nar .char ((((48 : Int32) + ((((a / 10) / 10) / 10) - (((a / 10) / 10) / 10) / 10 * 10)).toUInt32 % 65536).toInt32)))) (q_uI (q_uI q_IM 0 39 0) 0 35 0) q_J0, 34, 31630))) 5 (fun _ _ => rfl) ?_
            refine q_Ru_seg (g2 := (20, [(0, .ref 64), (1, .int ((((48 : Int32) + ((((a / 10) / 10) / 10) - (((a / 10) / 10) / 10) / 10 * 10)).toUInt32 % 65536).toInt32))], [], (q_cM (q_uA (q_uA (q_uA q_AM 33 f24) 32 (fun _ => 0)) 32 (upd (fun _ => 0) 0 (vp_nar .char ((((48 : Int32) + ((((a / 10) / 10) / 10) - (((a / 10) / 10) / 10) / 10 * 10)).toUInt32 % 65536).toInt32)))) (q_uI (q_uI q_IM 0 39 0) 0 35 1) q_J0, 34, 31630))) 3 (fun _ _ => rfl) ?_
            exact q_Ru_ret rfl rfl
          show q_Ru _ _ _ (26, [(0, .ref 64), (1, .int (((a / 10) / 10) / 10))], [], (q_cM (q_uA (q_uA (q_uA q_AM 33 f24) 32 (fun _ => 0)) 32 (upd (fun _ => 0) 0 (vp_nar .char ((((48 : Int32) + ((((a / 10) / 10) / 10) - (((a / 10) / 10) / 10) / 10 * 10)).toUInt32 % 65536).toInt32)))) (q_uI (q_uI q_IM 0 39 0) 0 35 1) q_J0, 34, 31630)) _
          exact q_Ru_ret rfl rfl
        show q_Ru _ _ _ (14, [(0, .ref 64), (1, .int ((a / 10) / 10))], [], (q_cM (q_uA (q_uA (q_uA q_AM 33 f24) 32 (fun _ => 0)) 32 (upd (fun _ => 0) 0 (vp_nar .char ((((48 : Int32) + ((((a / 10) / 10) / 10) - (((a / 10) / 10) / 10) / 10 * 10)).toUInt32 % 65536).toInt32)))) (q_uI (q_uI q_IM 0 39 0) 0 35 1) q_J0, 34, 31630)) _
        refine q_Ru_seg (g2 := (23, [(0, .ref 64), (1, .int ((a / 10) / 10))], [.int ((((48 : Int32) + (((a / 10) / 10) - ((a / 10) / 10) / 10 * 10)).toUInt32 % 65536).toInt32), .ref 64], (q_cM (q_uA (q_uA (q_uA q_AM 33 f24) 32 (fun _ => 0)) 32 (upd (fun _ => 0) 0 (vp_nar .char ((((48 : Int32) + ((((a / 10) / 10) / 10) - (((a / 10) / 10) / 10) / 10 * 10)).toUInt32 % 65536).toInt32)))) (q_uI (q_uI q_IM 0 39 0) 0 35 1) q_J0, 34, 31630))) 7 (fun _ _ => rfl) ?_
        refine q_Ru_call (v := none) (h2 := (q_cM (q_uA (q_uA (q_uA q_AM 33 f24) 32 (fun _ => 0)) 32 (upd (upd (fun _ => 0) 0 (vp_nar .char ((((48 : Int32) + ((((a / 10) / 10) / 10) - (((a / 10) / 10) / 10) / 10 * 10)).toUInt32 % 65536).toInt32))) 1 (vp_nar .char ((((48 : Int32) + (((a / 10) / 10) - ((a / 10) / 10) / 10 * 10)).toUInt32 % 65536).toInt32)))) (q_uI (q_uI q_IM 0 39 0) 0 35 2) q_J0, 34, 31630)) rfl rfl ?_ ?_
        · refine q_Ca_of (Nat.le_of_ble_eq_true rfl) ?_
          refine q_Ru_seg (g2 := (8, [(0, .ref 64), (1, .int ((((48 : Int32) + (((a / 10) / 10) - ((a / 10) / 10) / 10 * 10)).toUInt32 % 65536).toInt32))], [.int 1, .ref 96], (q_cM (q_uA (q_uA (q_uA q_AM 33 f24) 32 (fun _ => 0)) 32 (upd (fun _ => 0) 0 (vp_nar .char ((((48 : Int32) + ((((a / 10) / 10) / 10) - (((a / 10) / 10) / 10) / 10 * 10)).toUInt32 % 65536).toInt32)))) (q_uI (q_uI q_IM 0 39 0) 0 35 1) q_J0, 34, 31630))) 4 (fun _ _ => rfl) ?_
          refine q_Ru_seg (g2 := (15, [(0, .ref 64), (1, .int ((((48 : Int32) + (((a / 10) / 10) - ((a / 10) / 10) / 10 * 10)).toUInt32 % 65536).toInt32))], [.int 1, .ref 64], (q_cM (q_uA (q_uA (q_uA q_AM 33 f24) 32 (fun _ => 0)) 32 (upd (upd (fun _ => 0) 0 (vp_nar .char ((((48 : Int32) + ((((a / 10) / 10) / 10) - (((a / 10) / 10) / 10) / 10 * 10)).toUInt32 % 65536).toInt32))) 1 (vp_nar .char ((((48 : Int32) + (((a / 10) / 10) - ((a / 10) / 10) / 10 * 10)).toUInt32 % 65536).toInt32)))) (q_uI (q_uI q_IM 0 39 0) 0 35 1) q_J0, 34, 31630))) 5 (fun _ _ => rfl) ?_
          refine q_Ru_seg (g2 := (20, [(0, .ref 64), (1, .int ((((48 : Int32) + (((a / 10) / 10) - ((a / 10) / 10) / 10 * 10)).toUInt32 % 65536).toInt32))], [], (q_cM (q_uA (q_uA (q_uA q_AM 33 f24) 32 (fun _ => 0)) 32 (upd (upd (fun _ => 0) 0 (vp_nar .char ((((48 : Int32) + ((((a / 10) / 10) / 10) - (((a / 10) / 10) / 10) / 10 * 10)).toUInt32 % 65536).toInt32))) 1 (vp_nar .char ((((48 : Int32) + (((a / 10) / 10) - ((a / 10) / 10) / 10 * 10)).toUInt32 % 65536).toInt32)))) (q_uI (q_uI q_IM 0 39 0) 0 35 2) q_J0, 34, 31630))) 3 (fun _ _ => rfl) ?_
          exact q_Ru_ret rfl rfl
        show q_Ru _ _ _ (26, [(0, .ref 64), (1, .int ((a / 10) / 10))], [], (q_cM (q_uA (q_uA (q_uA q_AM 33 f24) 32 (fun _ => 0)) 32 (upd (upd (fun _ => 0) 0 (vp_nar .char ((((48 : Int32) + ((((a / 10) / 10) / 10) - (((a / 10) / 10) / 10) / 10 * 10)).toUInt32 % 65536).toInt32))) 1 (vp_nar .char ((((48 : Int32) + (((a / 10) / 10) - ((a / 10) / 10) / 10 * 10)).toUInt32 % 65536).toInt32)))) (q_uI (q_uI q_IM 0 39 0) 0 35 2) q_J0, 34, 31630)) _
        exact q_Ru_ret rfl rfl
      show q_Ru _ _ _ (14, [(0, .ref 64), (1, .int (a / 10))], [], (q_cM (q_uA (q_uA (q_uA q_AM 33 f24) 32 (fun _ => 0)) 32 (upd (upd (fun _ => 0) 0 (vp_nar .char ((((48 : Int32) + ((((a / 10) / 10) / 10) - (((a / 10) / 10) / 10) / 10 * 10)).toUInt32 % 65536).toInt32))) 1 (vp_nar .char ((((48 : Int32) + (((a / 10) / 10) - ((a / 10) / 10) / 10 * 10)).toUInt32 % 65536).toInt32)))) (q_uI (q_uI q_IM 0 39 0) 0 35 2) q_J0, 34, 31630)) _
      refine q_Ru_seg (g2 := (23, [(0, .ref 64), (1, .int (a / 10))], [.int ((((48 : Int32) + ((a / 10) - (a / 10) / 10 * 10)).toUInt32 % 65536).toInt32), .ref 64], (q_cM (q_uA (q_uA (q_uA q_AM 33 f24) 32 (fun _ => 0)) 32 (upd (upd (fun _ => 0) 0 (vp_nar .char ((((48 : Int32) + ((((a / 10) / 10) / 10) - (((a / 10) / 10) / 10) / 10 * 10)).toUInt32 % 65536).toInt32))) 1 (vp_nar .char ((((48 : Int32) + (((a / 10) / 10) - ((a / 10) / 10) / 10 * 10)).toUInt32 % 65536).toInt32)))) (q_uI (q_uI q_IM 0 39 0) 0 35 2) q_J0, 34, 31630))) 7 (fun _ _ => rfl) ?_
      refine q_Ru_call (v := none) (h2 := (q_cM (q_uA (q_uA (q_uA q_AM 33 f24) 32 (fun _ => 0)) 32 (upd (upd (upd (fun _ => 0) 0 (vp_nar .char ((((48 : Int32) + ((((a / 10) / 10) / 10) - (((a / 10) / 10) / 10) / 10 * 10)).toUInt32 % 65536).toInt32))) 1 (vp_nar .char ((((48 : Int32) + (((a / 10) / 10) - ((a / 10) / 10) / 10 * 10)).toUInt32 % 65536).toInt32))) 2 (vp_nar .char ((((48 : Int32) + ((a / 10) - (a / 10) / 10 * 10)).toUInt32 % 65536).toInt32)))) (q_uI (q_uI q_IM 0 39 0) 0 35 3) q_J0, 34, 31630)) rfl rfl ?_ ?_
      · refine q_Ca_of (Nat.le_of_ble_eq_true rfl) ?_
        refine q_Ru_seg (g2 := (8, [(0, .ref 64), (1, .int ((((48 : Int32) + ((a / 10) - (a / 10) / 10 * 10)).toUInt32 % 65536).toInt32))], [.int 2, .ref 96], (q_cM (q_uA (q_uA (q_uA q_AM 33 f24) 32 (fun _ => 0)) 32 (upd (upd (fun _ => 0) 0 (vp_nar .char ((((48 : Int32) + ((((a / 10) / 10) / 10) - (((a / 10) / 10) / 10) / 10 * 10)).toUInt32 % 65536).toInt32))) 1 (vp_nar .char ((((48 : Int32) + (((a / 10) / 10) - ((a / 10) / 10) / 10 * 10)).toUInt32 % 65536).toInt32)))) (q_uI (q_uI q_IM 0 39 0) 0 35 2) q_J0, 34, 31630))) 4 (fun _ _ => rfl) ?_
        refine q_Ru_seg (g2 := (15, [(0, .ref 64), (1, .int ((((48 : Int32) + ((a / 10) - (a / 10) / 10 * 10)).toUInt32 % 65536).toInt32))], [.int 2, .ref 64], (q_cM (q_uA (q_uA (q_uA q_AM 33 f24) 32 (fun _ => 0)) 32 (upd (upd (upd (fun _ => 0) 0 (vp_nar .char ((((48 : Int32) + ((((a / 10) / 10) / 10) - (((a / 10) / 10) / 10) / 10 * 10)).toUInt32 % 65536).toInt32))) 1 (vp_nar .char ((((48 : Int32) + (((a / 10) / 10) - ((a / 10) / 10) / 10 * 10)).toUInt32 % 65536).toInt32))) 2 (vp_nar .char ((((48 : Int32) + ((a / 10) - (a / 10) / 10 * 10)).toUInt32 % 65536).toInt32)))) (q_uI (q_uI q_IM 0 39 0) 0 35 2) q_J0, 34, 31630))) 5 (fun _ _ => rfl) ?_
        refine q_Ru_seg (g2 := (20, [(0, .ref 64), (1, .int ((((48 : Int32) + ((a / 10) - (a / 10) / 10 * 10)).toUInt32 % 65536).toInt32))], [], (q_cM (q_uA (q_uA (q_uA q_AM 33 f24) 32 (fun _ => 0)) 32 (upd (upd (upd (fun _ => 0) 0 (vp_nar .char ((((48 : Int32) + ((((a / 10) / 10) / 10) - (((a / 10) / 10) / 10) / 10 * 10)).toUInt32 % 65536).toInt32))) 1 (vp_nar .char ((((48 : Int32) + (((a / 10) / 10) - ((a / 10) / 10) / 10 * 10)).toUInt32 % 65536).toInt32))) 2 (vp_nar .char ((((48 : Int32) + ((a / 10) - (a / 10) / 10 * 10)).toUInt32 % 65536).toInt32)))) (q_uI (q_uI q_IM 0 39 0) 0 35 3) q_J0, 34, 31630))) 3 (fun _ _ => rfl) ?_
        exact q_Ru_ret rfl rfl
      show q_Ru _ _ _ (26, [(0, .ref 64), (1, .int (a / 10))], [], (q_cM (q_uA (q_uA (q_uA q_AM 33 f24) 32 (fun _ => 0)) 32 (upd (upd (upd (fun _ => 0) 0 (vp_nar .char ((((48 : Int32) + ((((a / 10) / 10) / 10) - (((a / 10) / 10) / 10) / 10 * 10)).toUInt32 % 65536).toInt32))) 1 (vp_nar .char ((((48 : Int32) + (((a / 10) / 10) - ((a / 10) / 10) / 10 * 10)).toUInt32 % 65536).toInt32))) 2 (vp_nar .char ((((48 : Int32) + ((a / 10) - (a / 10) / 10 * 10)).toUInt32 % 65536).toInt32)))) (q_uI (q_uI q_IM 0 39 0) 0 35 3) q_J0, 34, 31630)) _
      exact q_Ru_ret rfl rfl
    show q_Ru _ _ _ (14, [(0, .ref 64), (1, .int a)], [], (q_cM (q_uA (q_uA (q_uA q_AM 33 f24) 32 (fun _ => 0)) 32 (upd (upd (upd (fun _ => 0) 0 (vp_nar .char ((((48 : Int32) + ((((a / 10) / 10) / 10) - (((a / 10) / 10) / 10) / 10 * 10)).toUInt32 % 65536).toInt32))) 1 (vp_nar .char ((((48 : Int32) + (((a / 10) / 10) - ((a / 10) / 10) / 10 * 10)).toUInt32 % 65536).toInt32))) 2 (vp_nar .char ((((48 : Int32) + ((a / 10) - (a / 10) / 10 * 10)).toUInt32 % 65536).toInt32)))) (q_uI (q_uI q_IM 0 39 0) 0 35 3) q_J0, 34, 31630)) _
    refine q_Ru_seg (g2 := (23, [(0, .ref 64), (1, .int a)], [.int ((((48 : Int32) + (a - a / 10 * 10)).toUInt32 % 65536).toInt32), .ref 64], (q_cM (q_uA (q_uA (q_uA q_AM 33 f24) 32 (fun _ => 0)) 32 (upd (upd (upd (fun _ => 0) 0 (vp_nar .char ((((48 : Int32) + ((((a / 10) / 10) / 10) - (((a / 10) / 10) / 10) / 10 * 10)).toUInt32 % 65536).toInt32))) 1 (vp_nar .char ((((48 : Int32) + (((a / 10) / 10) - ((a / 10) / 10) / 10 * 10)).toUInt32 % 65536).toInt32))) 2 (vp_nar .char ((((48 : Int32) + ((a / 10) - (a / 10) / 10 * 10)).toUInt32 % 65536).toInt32)))) (q_uI (q_uI q_IM 0 39 0) 0 35 3) q_J0, 34, 31630))) 7 (fun _ _ => rfl) ?_
    refine q_Ru_call (v := none) (h2 := (q_cM (q_uA (q_uA (q_uA q_AM 33 f24) 32 (fun _ => 0)) 32 (upd (upd (upd (upd (fun _ => 0) 0 (vp_nar .char ((((48 : Int32) + ((((a / 10) / 10) / 10) - (((a / 10) / 10) / 10) / 10 * 10)).toUInt32 % 65536).toInt32))) 1 (vp_nar .char ((((48 : Int32) + (((a / 10) / 10) - ((a / 10) / 10) / 10 * 10)).toUInt32 % 65536).toInt32))) 2 (vp_nar .char ((((48 : Int32) + ((a / 10) - (a / 10) / 10 * 10)).toUInt32 % 65536).toInt32))) 3 (vp_nar .char ((((48 : Int32) + (a - a / 10 * 10)).toUInt32 % 65536).toInt32)))) (q_uI (q_uI q_IM 0 39 0) 0 35 4) q_J0, 34, 31630)) rfl rfl ?_ ?_
    · refine q_Ca_of (Nat.le_of_ble_eq_true rfl) ?_
      refine q_Ru_seg (g2 := (8, [(0, .ref 64), (1, .int ((((48 : Int32) + (a - a / 10 * 10)).toUInt32 % 65536).toInt32))], [.int 3, .ref 96], (q_cM (q_uA (q_uA (q_uA q_AM 33 f24) 32 (fun _ => 0)) 32 (upd (upd (upd (fun _ => 0) 0 (vp_nar .char ((((48 : Int32) + ((((a / 10) / 10) / 10) - (((a / 10) / 10) / 10) / 10 * 10)).toUInt32 % 65536).toInt32))) 1 (vp_nar .char ((((48 : Int32) + (((a / 10) / 10) - ((a / 10) / 10) / 10 * 10)).toUInt32 % 65536).toInt32))) 2 (vp_nar .char ((((48 : Int32) + ((a / 10) - (a / 10) / 10 * 10)).toUInt32 % 65536).toInt32)))) (q_uI (q_uI q_IM 0 39 0) 0 35 3) q_J0, 34, 31630))) 4 (fun _ _ => rfl) ?_
      refine q_Ru_seg (g2 := (15, [(0, .ref 64), (1, .int ((((48 : Int32) + (a - a / 10 * 10)).toUInt32 % 65536).toInt32))], [.int 3, .ref 64], (q_cM (q_uA (q_uA (q_uA q_AM 33 f24) 32 (fun _ => 0)) 32 (upd (upd (upd (upd (fun _ => 0) 0 (vp_nar .char ((((48 : Int32) + ((((a / 10) / 10) / 10) - (((a / 10) / 10) / 10) / 10 * 10)).toUInt32 % 65536).toInt32))) 1 (vp_nar .char ((((48 : Int32) + (((a / 10) / 10) - ((a / 10) / 10) / 10 * 10)).toUInt32 % 65536).toInt32))) 2 (vp_nar .char ((((48 : Int32) + ((a / 10) - (a / 10) / 10 * 10)).toUInt32 % 65536).toInt32))) 3 (vp_nar .char ((((48 : Int32) + (a - a / 10 * 10)).toUInt32 % 65536).toInt32)))) (q_uI (q_uI q_IM 0 39 0) 0 35 3) q_J0, 34, 31630))) 5 (fun _ _ => rfl) ?_
      refine q_Ru_seg (g2 := (20, [(0, .ref 64), (1, .int ((((48 : Int32) + (a - a / 10 * 10)).toUInt32 % 65536).toInt32))], [], (q_cM (q_uA (q_uA (q_uA q_AM 33 f24) 32 (fun _ => 0)) 32 (upd (upd (upd (upd (fun _ => 0) 0 (vp_nar .char ((((48 : Int32) + ((((a / 10) / 10) / 10) - (((a / 10) / 10) / 10) / 10 * 10)).toUInt32 % 65536).toInt32))) 1 (vp_nar .char ((((48 : Int32) + (((a / 10) / 10) - ((a / 10) / 10) / 10 * 10)).toUInt32 % 65536).toInt32))) 2 (vp_nar .char ((((48 : Int32) + ((a / 10) - (a / 10) / 10 * 10)).toUInt32 % 65536).toInt32))) 3 (vp_nar .char ((((48 : Int32) + (a - a / 10 * 10)).toUInt32 % 65536).toInt32)))) (q_uI (q_uI q_IM 0 39 0) 0 35 4) q_J0, 34, 31630))) 3 (fun _ _ => rfl) ?_
      exact q_Ru_ret rfl rfl
    show q_Ru _ _ _ (26, [(0, .ref 64), (1, .int a)], [], (q_cM (q_uA (q_uA (q_uA q_AM 33 f24) 32 (fun _ => 0)) 32 (upd (upd (upd (upd (fun _ => 0) 0 (vp_nar .char ((((48 : Int32) + ((((a / 10) / 10) / 10) - (((a / 10) / 10) / 10) / 10 * 10)).toUInt32 % 65536).toInt32))) 1 (vp_nar .char ((((48 : Int32) + (((a / 10) / 10) - ((a / 10) / 10) / 10 * 10)).toUInt32 % 65536).toInt32))) 2 (vp_nar .char ((((48 : Int32) + ((a / 10) - (a / 10) / 10 * 10)).toUInt32 % 65536).toInt32))) 3 (vp_nar .char ((((48 : Int32) + (a - a / 10 * 10)).toUInt32 % 65536).toInt32)))) (q_uI (q_uI q_IM 0 39 0) 0 35 4) q_J0, 34, 31630)) _
    exact q_Ru_ret rfl rfl
  show q_Ru _ _ _ (37, [(2, .int 0), (0, .ref 64), (1, .int a)], [], (q_cM (q_uA (q_uA (q_uA q_AM 33 f24) 32 (fun _ => 0)) 32 (upd (upd (upd (upd (fun _ => 0) 0 (vp_nar .char ((((48 : Int32) + ((((a / 10) / 10) / 10) - (((a / 10) / 10) / 10) / 10 * 10)).toUInt32 % 65536).toInt32))) 1 (vp_nar .char ((((48 : Int32) + (((a / 10) / 10) - ((a / 10) / 10) / 10 * 10)).toUInt32 % 65536).toInt32))) 2 (vp_nar .char ((((48 : Int32) + ((a / 10) - (a / 10) / 10 * 10)).toUInt32 % 65536).toInt32))) 3 (vp_nar .char ((((48 : Int32) + (a - a / 10 * 10)).toUInt32 % 65536).toInt32)))) (q_uI (q_uI q_IM 0 39 0) 0 35 4) q_J0, 34, 31630)) _
  refine q_Ru_seg (g2 := (40, [(2, .int 0), (0, .ref 64), (1, .int a)], [.int 32, .ref 64], (q_cM (q_uA (q_uA (q_uA q_AM 33 f24) 32 (fun _ => 0)) 32 (upd (upd (upd (upd (fun _ => 0) 0 (vp_nar .char ((((48 : Int32) + ((((a / 10) / 10) / 10) - (((a / 10) / 10) / 10) / 10 * 10)).toUInt32 % 65536).toInt32))) 1 (vp_nar .char ((((48 : Int32) + (((a / 10) / 10) - ((a / 10) / 10) / 10 * 10)).toUInt32 % 65536).toInt32))) 2 (vp_nar .char ((((48 : Int32) + ((a / 10) - (a / 10) / 10 * 10)).toUInt32 % 65536).toInt32))) 3 (vp_nar .char ((((48 : Int32) + (a - a / 10 * 10)).toUInt32 % 65536).toInt32)))) (q_uI (q_uI q_IM 0 39 0) 0 35 4) q_J0, 34, 31630))) 2 (fun _ _ => rfl) ?_
  refine q_Ru_call (v := none) (h2 := (q_cM (q_uA (q_uA (q_uA q_AM 33 f24) 32 (fun _ => 0)) 32 (upd (upd (upd (upd (upd (fun _ => 0) 0 (vp_nar .char ((((48 : Int32) + ((((a / 10) / 10) / 10) - (((a / 10) / 10) / 10) / 10 * 10)).toUInt32 % 65536).toInt32))) 1 (vp_nar .char ((((48 : Int32) + (((a / 10) / 10) - ((a / 10) / 10) / 10 * 10)).toUInt32 % 65536).toInt32))) 2 (vp_nar .char ((((48 : Int32) + ((a / 10) - (a / 10) / 10 * 10)).toUInt32 % 65536).toInt32))) 3 (vp_nar .char ((((48 : Int32) + (a - a / 10 * 10)).toUInt32 % 65536).toInt32))) 4 32)) (q_uI (q_uI q_IM 0 39 0) 0 35 5) q_J0, 34, 31630)) rfl rfl ?_ ?_
  · refine q_Ca_of (Nat.le_of_ble_eq_true rfl) ?_
    refine q_Ru_seg (g2 := (8, [(0, .ref 64), (1, .int 32)], [.int 4, .ref 96], (q_cM (q_uA (q_uA (q_uA q_AM 33 f24) 32 (fun _ => 0)) 32 (upd (upd (upd (upd (fun _ => 0) 0 (vp_nar .char ((((48 : Int32) + ((((a / 10) / 10) / 10) - (((a / 10) / 10) / 10) / 10 * 10)).toUInt32 % 65536).toInt32))) 1 (vp_nar .char ((((48 : Int32) + (((a / 10) / 10) - ((a / 10) / 10) / 10 * 10)).toUInt32 % 65536).toInt32))) 2 (vp_nar .char ((((48 : Int32) + ((a / 10) - (a / 10) / 10 * 10)).toUInt32 % 65536).toInt32))) 3 (vp_nar .char ((((48 : Int32) + (a - a / 10 * 10)).toUInt32 % 65536).toInt32)))) (q_uI (q_uI q_IM 0 39 0) 0 35 4) q_J0, 34, 31630))) 4 (fun _ _ => rfl) ?_
    refine q_Ru_seg (g2 := (15, [(0, .ref 64), (1, .int 32)], [.int 4, .ref 64], (q_cM (q_uA (q_uA (q_uA q_AM 33 f24) 32 (fun _ => 0)) 32 (upd (upd (upd (upd (upd (fun _ => 0) 0 (vp_nar .char ((((48 : Int32) + ((((a / 10) / 10) / 10) - (((a / 10) / 10) / 10) / 10 * 10)).toUInt32 % 65536).toInt32))) 1 (vp_nar .char ((((48 : Int32) + (((a / 10) / 10) - ((a / 10) / 10) / 10 * 10)).toUInt32 % 65536).toInt32))) 2 (vp_nar .char ((((48 : Int32) + ((a / 10) - (a / 10) / 10 * 10)).toUInt32 % 65536).toInt32))) 3 (vp_nar .char ((((48 : Int32) + (a - a / 10 * 10)).toUInt32 % 65536).toInt32))) 4 32)) (q_uI (q_uI q_IM 0 39 0) 0 35 4) q_J0, 34, 31630))) 5 (fun _ _ => rfl) ?_
    refine q_Ru_seg (g2 := (20, [(0, .ref 64), (1, .int 32)], [], (q_cM (q_uA (q_uA (q_uA q_AM 33 f24) 32 (fun _ => 0)) 32 (upd (upd (upd (upd (upd (fun _ => 0) 0 (vp_nar .char ((((48 : Int32) + ((((a / 10) / 10) / 10) - (((a / 10) / 10) / 10) / 10 * 10)).toUInt32 % 65536).toInt32))) 1 (vp_nar .char ((((48 : Int32) + (((a / 10) / 10) - ((a / 10) / 10) / 10 * 10)).toUInt32 % 65536).toInt32))) 2 (vp_nar .char ((((48 : Int32) + ((a / 10) - (a / 10) / 10 * 10)).toUInt32 % 65536).toInt32))) 3 (vp_nar .char ((((48 : Int32) + (a - a / 10 * 10)).toUInt32 % 65536).toInt32))) 4 32)) (q_uI (q_uI q_IM 0 39 0) 0 35 5) q_J0, 34, 31630))) 3 (fun _ _ => rfl) ?_
    exact q_Ru_ret rfl rfl
  show q_Ru _ _ _ (43, [(2, .int 0), (0, .ref 64), (1, .int a)], [], (q_cM (q_uA (q_uA (q_uA q_AM 33 f24) 32 (fun _ => 0)) 32 (upd (upd (upd (upd (upd (fun _ => 0) 0 (vp_nar .char ((((48 : Int32) + ((((a / 10) / 10) / 10) - (((a / 10) / 10) / 10) / 10 * 10)).toUInt32 % 65536).toInt32))) 1 (vp_nar .char ((((48 : Int32) + (((a / 10) / 10) - ((a / 10) / 10) / 10 * 10)).toUInt32 % 65536).toInt32))) 2 (vp_nar .char ((((48 : Int32) + ((a / 10) - (a / 10) / 10 * 10)).toUInt32 % 65536).toInt32))) 3 (vp_nar .char ((((48 : Int32) + (a - a / 10 * 10)).toUInt32 % 65536).toInt32))) 4 32)) (q_uI (q_uI q_IM 0 39 0) 0 35 5) q_J0, 34, 31630)) _
  refine q_Ru_seg (g2 := (44, [(2, .int 0), (0, .ref 64), (1, .int a)], [.int 0], (q_cM (q_uA (q_uA (q_uA q_AM 33 f24) 32 (fun _ => 0)) 32 (upd (upd (upd (upd (upd (fun _ => 0) 0 (vp_nar .char ((((48 : Int32) + ((((a / 10) / 10) / 10) - (((a / 10) / 10) / 10) / 10 * 10)).toUInt32 % 65536).toInt32))) 1 (vp_nar .char ((((48 : Int32) + (((a / 10) / 10) - ((a / 10) / 10) / 10 * 10)).toUInt32 % 65536).toInt32))) 2 (vp_nar .char ((((48 : Int32) + ((a / 10) - (a / 10) / 10 * 10)).toUInt32 % 65536).toInt32))) 3 (vp_nar .char ((((48 : Int32) + (a - a / 10 * 10)).toUInt32 % 65536).toInt32))) 4 32)) (q_uI (q_uI q_IM 0 39 0) 0 35 5) q_J0, 34, 31630))) 1 (fun _ _ => rfl) ?_
  refine q_Ru_call (v := (some (.int 0))) (h2 := (q_cM (q_uA (q_uA (q_uA q_AM 33 f24) 32 (fun _ => 0)) 32 (upd (upd (upd (upd (upd (fun _ => 0) 0 (vp_nar .char ((((48 : Int32) + ((((a / 10) / 10) / 10) - (((a / 10) / 10) / 10) / 10 * 10)).toUInt32 % 65536).toInt32))) 1 (vp_nar .char ((((48 : Int32) + (((a / 10) / 10) - ((a / 10) / 10) / 10 * 10)).toUInt32 % 65536).toInt32))) 2 (vp_nar .char ((((48 : Int32) + ((a / 10) - (a / 10) / 10 * 10)).toUInt32 % 65536).toInt32))) 3 (vp_nar .char ((((48 : Int32) + (a - a / 10 * 10)).toUInt32 % 65536).toInt32))) 4 32)) (q_uI (q_uI q_IM 0 39 0) 0 35 5) q_J0, 34, 31630)) rfl rfl ?_ ?_
  · refine q_Ca_of (Nat.le_of_ble_eq_true rfl) ?_
    refine q_Ru_seg (g2 := (1, [(0, .int 0)], [.int 0], (q_cM (q_uA (q_uA (q_uA q_AM 33 f24) 32 (fun _ => 0)) 32 (upd (upd (upd (upd (upd (fun _ => 0) 0 (vp_nar .char ((((48 : Int32) + ((((a / 10) / 10) / 10) - (((a / 10) / 10) / 10) / 10 * 10)).toUInt32 % 65536).toInt32))) 1 (vp_nar .char ((((48 : Int32) + (((a / 10) / 10) - ((a / 10) / 10) / 10 * 10)).toUInt32 % 65536).toInt32))) 2 (vp_nar .char ((((48 : Int32) + ((a / 10) - (a / 10) / 10 * 10)).toUInt32 % 65536).toInt32))) 3 (vp_nar .char ((((48 : Int32) + (a - a / 10 * 10)).toUInt32 % 65536).toInt32))) 4 32)) (q_uI (q_uI q_IM 0 39 0) 0 35 5) q_J0, 34, 31630))) 1 (fun _ _ => rfl) ?_
    refine q_Ru_call (v := (some (.int 0))) (h2 := (q_cM (q_uA (q_uA (q_uA q_AM 33 f24) 32 (fun _ => 0)) 32 (upd (upd (upd (upd (upd (fun _ => 0) 0 (vp_nar .char ((((48 : Int32) + ((((a / 10) / 10) / 10) - (((a / 10) / 10) / 10) / 10 * 10)).toUInt32 % 65536).toInt32))) 1 (vp_nar .char ((((48 : Int32) + (((a / 10) / 10) - ((a / 10) / 10) / 10 * 10)).toUInt32 % 65536).toInt32))) 2 (vp_nar .char ((((48 : Int32) + ((a / 10) - (a / 10) / 10 * 10)).toUInt32 % 65536).toInt32))) 3 (vp_nar .char ((((48 : Int32) + (a - a / 10 * 10)).toUInt32 % 65536).toInt32))) 4 32)) (q_uI (q_uI q_IM 0 39 0) 0 35 5) q_J0, 34, 31630)) rfl rfl ?_ ?_
    · refine q_Ca_of (Nat.le_of_ble_eq_true rfl) ?_
      refine q_Ru_seg (g2 := (42, [(0, .int 0)], [.int 0], (q_cM (q_uA (q_uA (q_uA q_AM 33 f24) 32 (fun _ => 0)) 32 (upd (upd (upd (upd (upd (fun _ => 0) 0 (vp_nar .char ((((48 : Int32) + ((((a / 10) / 10) / 10) - (((a / 10) / 10) / 10) / 10 * 10)).toUInt32 % 65536).toInt32))) 1 (vp_nar .char ((((48 : Int32) + (((a / 10) / 10) - ((a / 10) / 10) / 10 * 10)).toUInt32 % 65536).toInt32))) 2 (vp_nar .char ((((48 : Int32) + ((a / 10) - (a / 10) / 10 * 10)).toUInt32 % 65536).toInt32))) 3 (vp_nar .char ((((48 : Int32) + (a - a / 10 * 10)).toUInt32 % 65536).toInt32))) 4 32)) (q_uI (q_uI q_IM 0 39 0) 0 35 5) q_J0, 34, 31630))) 7 (fun _ _ => rfl) ?_
      exact q_Ru_ret rfl rfl
    show q_Ru _ _ _ (4, [(0, .int 0)], [.int 0], (q_cM (q_uA (q_uA (q_uA q_AM 33 f24) 32 (fun _ => 0)) 32 (upd (upd (upd (upd (upd (fun _ => 0) 0 (vp_nar .char ((((48 : Int32) + ((((a / 10) / 10) / 10) - (((a / 10) / 10) / 10) / 10 * 10)).toUInt32 % 65536).toInt32))) 1 (vp_nar .char ((((48 : Int32) + (((a / 10) / 10) - ((a / 10) / 10) / 10 * 10)).toUInt32 % 65536).toInt32))) 2 (vp_nar .char ((((48 : Int32) + ((a / 10) - (a / 10) / 10 * 10)).toUInt32 % 65536).toInt32))) 3 (vp_nar .char ((((48 : Int32) + (a - a / 10 * 10)).toUInt32 % 65536).toInt32))) 4 32)) (q_uI (q_uI q_IM 0 39 0) 0 35 5) q_J0, 34, 31630)) _
    refine q_Ru_seg (g2 := (25, [(0, .int 0)], [.int 0], (q_cM (q_uA (q_uA (q_uA q_AM 33 f24) 32 (fun _ => 0)) 32 (upd (upd (upd (upd (upd (fun _ => 0) 0 (vp_nar .char ((((48 : Int32) + ((((a / 10) / 10) / 10) - (((a / 10) / 10) / 10) / 10 * 10)).toUInt32 % 65536).toInt32))) 1 (vp_nar .char ((((48 : Int32) + (((a / 10) / 10) - ((a / 10) / 10) / 10 * 10)).toUInt32 % 65536).toInt32))) 2 (vp_nar .char ((((48 : Int32) + ((a / 10) - (a / 10) / 10 * 10)).toUInt32 % 65536).toInt32))) 3 (vp_nar .char ((((48 : Int32) + (a - a / 10 * 10)).toUInt32 % 65536).toInt32))) 4 32)) (q_uI (q_uI q_IM 0 39 0) 0 35 5) q_J0, 34, 31630))) 2 (fun _ _ => rfl) ?_
    exact q_Ru_ret rfl rfl
  show q_Ru _ _ _ (47, [(2, .int 0), (0, .ref 64), (1, .int a)], [.int 0], (q_cM (q_uA (q_uA (q_uA q_AM 33 f24) 32 (fun _ => 0)) 32 (upd (upd (upd (upd (upd (fun _ => 0) 0 (vp_nar .char ((((48 : Int32) + ((((a / 10) / 10) / 10) - (((a / 10) / 10) / 10) / 10 * 10)).toUInt32 % 65536).toInt32))) 1 (vp_nar .char ((((48 : Int32) + (((a / 10) / 10) - ((a / 10) / 10) / 10 * 10)).toUInt32 % 65536).toInt32))) 2 (vp_nar .char ((((48 : Int32) + ((a / 10) - (a / 10) / 10 * 10)).toUInt32 % 65536).toInt32))) 3 (vp_nar .char ((((48 : Int32) + (a - a / 10 * 10)).toUInt32 % 65536).toInt32))) 4 32)) (q_uI (q_uI q_IM 0 39 0) 0 35 5) q_J0, 34, 31630)) _
  exact q_Ru_le (Nat.le_of_ble_eq_true rfl) (q_xc165 L xs a hl_a hu_a f24 f25 p25)
set_option maxHeartbeats 20000000 in
theorem q_op_writeLine98_3 (L : Nat) (xs : Nat → Int32) (a : Int32) (hl_a : 1000 ≤ a.toInt) (hu_a : a.toInt ≤ 4095) : ∃ (r b : Int32) (w : Int64), q_opXT (q_TBs 98 L xs) 6 [.int a] r w ∧ q_opM 286 [.int a] r (.int b) ∧ (r = 0 → w = b.toInt64) := by
  have h190 : decide (a < 0) = false := q_not_tr (q_tbl1 (fun a => !decide (a < 0)) (l := 1000) (n := 3095) (by decide +kernel) hl_a hu_a)
  have h191 : decide (a < 4096) = true := q_tbl1 (fun a => decide (a < 4096)) (l := 1000) (n := 3095) (by decide +kernel) hl_a hu_a
  have h192 : decide ((-10) < -a) = false := q_not_tr (q_tbl1 (fun a => !decide ((-10) < -a)) (l := 1000) (n := 3095) (by decide +kernel) hl_a hu_a)
  have h193 : decide ((-100) < -a) = false := q_not_tr (q_tbl1 (fun a => !decide ((-100) < -a)) (l := 1000) (n := 3095) (by decide +kernel) hl_a hu_a)
  have h194 : decide ((-1000) < -a) = false := q_not_tr (q_tbl1 (fun a => !decide ((-1000) < -a)) (l := 1000) (n := 3095) (by decide +kernel) hl_a hu_a)
  have h195 : decide ((-10000) < -a) = true := q_tbl1 (fun a => decide ((-10000) < -a)) (l := 1000) (n := 3095) (by decide +kernel) hl_a hu_a
  have h196 : decide ((-100) < (-a) / 100) = true := q_tbl1 (fun a => decide ((-100) < (-a) / 100)) (l := 1000) (n := 3095) (by decide +kernel) hl_a hu_a
  have h197 : decide ((-a) / 100 < (-9)) = true := q_tbl1 (fun a => decide ((-a) / 100 < (-9))) (l := 1000) (n := 3095) (by decide +kernel) hl_a hu_a
  have h198 : decide (4095 < a) = false := q_not_tr (q_tbl1 (fun a => !decide (4095 < a)) (l := 1000) (n := 3095) (by decide +kernel) hl_a hu_a)
  have h199 : decide (a < 10) = false := q_not_tr (q_tbl1 (fun a => !decide (a < 10)) (l := 1000) (n := 3095) (by decide +kernel) hl_a hu_a)
  have h200 : decide (a / 10 < 10) = false := q_not_tr (q_tbl1 (fun a => !decide (a / 10 < 10)) (l := 1000) (n := 3095) (by decide +kernel) hl_a hu_a)
  have h201 : decide ((a / 10) / 10 < 10) = false := q_not_tr (q_tbl1 (fun a => !decide ((a / 10) / 10 < 10)) (l := 1000) (n := 3095) (by decide +kernel) hl_a hu_a)
  have h202 : decide (((a / 10) / 10) / 10 < 10) = true := q_tbl1 (fun a => decide (((a / 10) / 10) / 10 < 10)) (l := 1000) (n := 3095) (by decide +kernel) hl_a hu_a
  obtain ⟨f24, p24⟩ := q_p_reads1 (fun _ => 0) (fun _ => 0) (q_uI q_IM 0 39 0) (a &&& 4095) (q_and_lo a 4095) (q_and_hi a 4095 4095)
  obtain ⟨f25, p25⟩ := q_p_reads1 f24 (upd (upd (upd (upd (upd (upd (upd (upd (upd (upd (fun _ => 0) 0 (vp_nar .char ((((48 : Int32) + ((((a / 10) / 10) / 10) - (((a / 10) / 10) / 10) / 10 * 10)).toUInt32 % 65536).toInt32))) 1 (vp_nar .char ((((48 : Int32) + (((a / 10) / 10) - ((a / 10) / 10) / 10 * 10)).toUInt32 % 65536).toInt32))) 2 (vp_nar .char ((((48 : Int32) + ((a / 10) - (a / 10) / 10 * 10)).toUInt32 % 65536).toInt32))) 3 (vp_nar .char ((((48 : Int32) + (a - a / 10 * 10)).toUInt32 % 65536).toInt32))) 4 32) 5 108) 6 100) 7 97) 8 32) 9 35) (q_uI (q_uI q_IM 0 39 0) 0 35 10) ((a + 1) &&& 4095) (q_and_lo (a + 1) 4095) (q_and_hi (a + 1) 4095 4095)
  refine ⟨0, 11, 11, ⟨(q_cX (q_uA q_AX 35 (upd (upd (upd (upd (upd (upd (upd (upd (upd (upd (upd (fun _ => 0) 3 (vp_nar .byte ((fun j => q_o6.getD j 0) (((((-a) / 100) * 100) - (-a)).toNatClampNeg)))) 2 (vp_nar .byte ((fun j => q_o7.getD j 0) (((((-a) / 100) * 100) - (-a)).toNatClampNeg)))) 1 (vp_nar .byte ((fun j => q_o6.getD j 0) ((-((-a) / 100)).toNatClampNeg)))) 0 (vp_nar .byte ((fun j => q_o7.getD j 0) ((-((-a) / 100)).toNatClampNeg)))) 4 32) 5 108) 6 100) 7 97) 8 32) 9 35) 10 48)) (q_uI q_IX 34 3 11) (q_uA q_J0 39 (vp_updL (fun _ => 0) 0 11)), 40, 26520), (q_uA q_J0 39 (vp_updL (fun _ => 0) 0 11)) 39, ?_, rfl, fun _ => rfl, Nat.le_of_ble_eq_true rfl, Nat.le_of_ble_eq_true rfl⟩, ⟨(q_cM (q_uA (q_uA (q_uA q_AM 33 f25) 32 (upd (upd (upd (upd (upd (upd (upd (upd (upd (upd (fun _ => 0) 0 (vp_nar .char ((((48 : Int32) + ((((a / 10) / 10) / 10) - (((a / 10) / 10) / 10) / 10 * 10)).toUInt32 % 65536).toInt32))) 1 (vp_nar .char ((((48 : Int32) + (((a / 10) / 10) - ((a / 10) / 10) / 10 * 10)).toUInt32 % 65536).toInt32))) 2 (vp_nar .char ((((48 : Int32) + ((a / 10) - (a / 10) / 10 * 10)).toUInt32 % 65536).toInt32))) 3 (vp_nar .char ((((48 : Int32) + (a - a / 10 * 10)).toUInt32 % 65536).toInt32))) 4 32) 5 108) 6 100) 7 97) 8 32) 9 35)) 32 (upd (upd (upd (upd (upd (upd (upd (upd (upd (upd (upd (fun _ => 0) 0 (vp_nar .char ((((48 : Int32) + ((((a / 10) / 10) / 10) - (((a / 10) / 10) / 10) / 10 * 10)).toUInt32 % 65536).toInt32))) 1 (vp_nar .char ((((48 : Int32) + (((a / 10) / 10) - ((a / 10) / 10) / 10 * 10)).toUInt32 % 65536).toInt32))) 2 (vp_nar .char ((((48 : Int32) + ((a / 10) - (a / 10) / 10 * 10)).toUInt32 % 65536).toInt32))) 3 (vp_nar .char ((((48 : Int32) + (a - a / 10 * 10)).toUInt32 % 65536).toInt32))) 4 32) 5 108) 6 100) 7 97) 8 32) 9 35) 10 48)) (q_uI (q_uI q_IM 0 39 0) 0 35 11) q_J0, 34, 31630), _, ?_, rfl, rfl, Nat.le_of_ble_eq_true rfl, Nat.le_of_ble_eq_true rfl⟩, fun _ => rfl⟩
  · refine q_Ca_of (Nat.le_of_ble_eq_true rfl) ?_
    refine q_Ru_seg (g2 := (4, [(0, .ref 64), (1, .int a), (2, .ref 103)], [.int a, .ref 64, .int 0, .ref 103], (q_cX q_AX q_IX q_J0, 40, 26520))) 4 (fun _ _ => rfl) ?_
    refine q_Ru_call (v := (some (.int 11))) (h2 := (q_cX (q_uA q_AX 35 (upd (upd (upd (upd (upd (upd (upd (upd (upd (upd (upd (fun _ => 0) 3 (vp_nar .byte ((fun j => q_o6.getD j 0) (((((-a) / 100) * 100) - (-a)).toNatClampNeg)))) 2 (vp_nar .byte ((fun j => q_o7.getD j 0) (((((-a) / 100) * 100) - (-a)).toNatClampNeg)))) 1 (vp_nar .byte ((fun j => q_o6.getD j 0) ((-((-a) / 100)).toNatClampNeg)))) 0 (vp_nar .byte ((fun j => q_o7.getD j 0) ((-((-a) / 100)).toNatClampNeg)))) 4 32) 5 108) 6 100) 7 97) 8 32) 9 35) 10 48)) (q_uI q_IX 34 3 11) q_J0, 40, 26520)) rfl rfl ?_ ?_
    · refine q_Ca_of (Nat.le_of_ble_eq_true rfl) ?_
      refine q_Ru_seg (g2 := (1, [(0, .ref 64), (1, .int a)], [.int a], (q_cX q_AX q_IX q_J0, 40, 26520))) 1 (fun _ _ => rfl) ?_
      refine q_Ru_call (v := none) (h2 := (q_cX q_AX q_IX q_J0, 40, 26520)) rfl rfl ?_ ?_
      · refine q_Ca_of (Nat.le_of_ble_eq_true rfl) ?_
        refine q_Ru_seg (g2 := (4, [(0, .int a)], [.int 4096, .int a], (q_cX q_AX q_IX q_J0, 40, 26520))) 2 (fun _ _ => rfl) ?_
        refine q_Ru_call (v := none) (h2 := (q_cX q_AX q_IX q_J0, 40, 26520)) rfl rfl ?_ ?_
        · refine q_Ca_of (Nat.le_of_ble_eq_true rfl) ?_
          refine q_Ru_seg (g2 := (1, [(0, .int a), (1, .int 4096)], [.int a], (q_cX q_AX q_IX q_J0, 40, 26520))) 1 (fun _ _ => rfl) ?_
          refine q_Ru_rsF (g2 := (4, [(0, .int a), (1, .int 4096)], [], (q_cX q_AX q_IX q_J0, 40, 26520))) rfl rfl h190 ?_
          refine q_Ru_seg (g2 := (6, [(0, .int a), (1, .int 4096)], [.int 4096, .int a], (q_cX q_AX q_IX q_J0, 40, 26520))) 2 (fun _ _ => rfl) ?_
          refine q_Ru_rsT (g2 := (19, [(0, .int a), (1, .int 4096)], [], (q_cX q_AX q_IX q_J0, 40, 26520))) rfl rfl h191 ?_
          exact q_Ru_ret rfl rfl
        show q_Ru _ _ _ (7, [(0, .int a)], [], (q_cX q_AX q_IX q_J0, 40, 26520)) _
        exact q_Ru_ret rfl rfl
      show q_Ru _ _ _ (4, [(0, .ref 64), (1, .int a)], [], (q_cX q_AX q_IX q_J0, 40, 26520)) _
      exact q_Ru_le (Nat.le_of_ble_eq_true rfl) (q_xc163 L xs a hl_a hu_a h190 h192 h193 h194 h195 h196 h197)
    show q_Ru _ _ _ (7, [(0, .ref 64), (1, .int a), (2, .ref 103)], [.int 11, .int 0, .ref 103], (q_cX (q_uA q_AX 35 (upd (upd (upd (upd (upd (upd (upd (upd (upd (upd (upd (fun _ => 0) 3 (vp_nar .byte ((fun j => q_o6.getD j 0) (((((-a) / 100) * 100) - (-a)).toNatClampNeg)))) 2 (vp_nar .byte ((fun j => q_o7.getD j 0) (((((-a) / 100) * 100) - (-a)).toNatClampNeg)))) 1 (vp_nar .byte ((fun j => q_o6.getD j 0) ((-((-a) / 100)).toNatClampNeg)))) 0 (vp_nar .byte ((fun j => q_o7.getD j 0) ((-((-a) / 100)).toNatClampNeg)))) 4 32) 5 108) 6 100) 7 97) 8 32) 9 35) 10 48)) (q_uI q_IX 34 3 11) q_J0, 40, 26520)) _
    generalize (upd (upd (upd (upd (upd (upd (upd (upd (upd (upd (upd (fun _ => 0) 3 (vp_nar .byte ((fun j => q_o6.getD j 0) (((((-a) / 100) * 100) - (-a)).toNatClampNeg)))) 2 (vp_nar .byte ((fun j => q_o7.getD j 0) (((((-a) / 100) * 100) - (-a)).toNatClampNeg)))) 1 (vp_nar .byte ((fun j => q_o6.getD j 0) ((-((-a) / 100)).toNatClampNeg)))) 0 (vp_nar .byte ((fun j => q_o7.getD j 0) ((-((-a) / 100)).toNatClampNeg)))) 4 32) 5 108) 6 100) 7 97) 8 32) 9 35) 10 48) = w210
    refine q_Ru_seg (g2 := (16, [(0, .ref 64), (1, .int a), (2, .ref 103)], [.int 0], (q_cX (q_uA q_AX 35 w210) (q_uI q_IX 34 3 11) (q_uA q_J0 39 (vp_updL (fun _ => 0) 0 11)), 40, 26520))) 4 (fun _ _ => rfl) ?_
    exact q_Ru_ret rfl rfl
  · refine q_Ca_of (Nat.le_of_ble_eq_true rfl) ?_
    refine q_Ru_seg (g2 := (2, [(0, .ref 64), (1, .int a)], [.int a, .ref 64], (q_cM q_AM q_IM q_J0, 34, 31630))) 2 (fun _ _ => rfl) ?_
    refine q_Ru_call (v := (some (.int 0))) (h2 := (q_cM q_AM q_IM q_J0, 34, 31630)) rfl rfl ?_ ?_
    · refine q_Ca_of (Nat.le_of_ble_eq_true rfl) ?_
      refine q_Ru_seg (g2 := (5, [(0, .int a)], [.int 4095, .int 0, .int a], (q_cM q_AM q_IM q_J0, 34, 31630))) 3 (fun _ _ => rfl) ?_
      refine q_Ru_call (v := (some (.int 1))) (h2 := (q_cM q_AM q_IM q_J0, 34, 31630)) rfl rfl ?_ ?_
      · refine q_Ca_of (Nat.le_of_ble_eq_true rfl) ?_
        refine q_Ru_seg (g2 := (2, [(0, .int a), (1, .int 0), (2, .int 4095)], [.int 0, .int a], (q_cM q_AM q_IM q_J0, 34, 31630))) 2 (fun _ _ => rfl) ?_
        refine q_Ru_rsF (g2 := (5, [(0, .int a), (1, .int 0), (2, .int 4095)], [], (q_cM q_AM q_IM q_J0, 34, 31630))) rfl rfl h190 ?_
        refine q_Ru_seg (g2 := (7, [(0, .int a), (1, .int 0), (2, .int 4095)], [.int 4095, .int a], (q_cM q_AM q_IM q_J0, 34, 31630))) 2 (fun _ _ => rfl) ?_
        refine q_Ru_rsF (g2 := (10, [(0, .int a), (1, .int 0), (2, .int 4095)], [], (q_cM q_AM q_IM q_J0, 34, 31630))) rfl rfl h198 ?_
        refine q_Ru_seg (g2 := (15, [(0, .int a), (1, .int 0), (2, .int 4095)], [.int 1], (q_cM q_AM q_IM q_J0, 34, 31630))) 2 (fun _ _ => rfl) ?_
        exact q_Ru_ret rfl rfl
      show q_Ru _ _ _ (8, [(0, .int a)], [.int 1], (q_cM q_AM q_IM q_J0, 34, 31630)) _
      refine q_Ru_seg (g2 := (16, [(0, .int a)], [.int 0], (q_cM q_AM q_IM q_J0, 34, 31630))) 2 (fun _ _ => rfl) ?_
      exact q_Ru_ret rfl rfl
    show q_Ru _ _ _ (5, [(0, .ref 64), (1, .int a)], [.int 0, .ref 64], (q_cM q_AM q_IM q_J0, 34, 31630)) _
    refine q_Ru_seg (g2 := (13, [(0, .ref 64), (1, .int a)], [.int 0, .ref 64], (q_cM q_AM q_IM q_J0, 34, 31630))) 2 (fun _ _ => rfl) ?_
    refine q_Ru_call (v := (some (.int 0))) (h2 := (q_cM q_AM (q_uI q_IM 0 39 0) q_J0, 34, 31630)) rfl rfl ?_ ?_
    · refine q_Ca_of (Nat.le_of_ble_eq_true rfl) ?_
      refine q_Ru_seg (g2 := (14, [(0, .ref 64), (1, .int 0)], [.int 0], (q_cM q_AM (q_uI q_IM 0 39 0) q_J0, 34, 31630))) 6 (fun _ _ => rfl) ?_
      exact q_Ru_ret rfl rfl
    show q_Ru _ _ _ (16, [(0, .ref 64), (1, .int a)], [.int 0], (q_cM q_AM (q_uI q_IM 0 39 0) q_J0, 34, 31630)) _
    refine q_Ru_seg (g2 := (23, [(0, .ref 64), (1, .int a)], [.int a, .ref 64], (q_cM q_AM (q_uI q_IM 0 39 0) q_J0, 34, 31630))) 3 (fun _ _ => rfl) ?_
    refine q_Ru_call (v := (some (.int 0))) (h2 := (q_cM (q_uA (q_uA q_AM 33 f24) 32 (fun _ => 0)) (q_uI q_IM 0 39 0) q_J0, 34, 31630)) rfl rfl ?_ ?_
    · refine q_Ca_of (Nat.le_of_ble_eq_true rfl) ?_
      refine q_Ru_seg (g2 := (2, [(0, .ref 64), (1, .int a)], [.int a, .ref 64], (q_cM q_AM (q_uI q_IM 0 39 0) q_J0, 34, 31630))) 2 (fun _ _ => rfl) ?_
      refine q_Ru_call (v := (some (.int (a &&& 4095)))) (h2 := (q_cM q_AM (q_uI q_IM 0 39 0) q_J0, 34, 31630)) rfl rfl ?_ ?_
      · refine q_Ca_of (Nat.le_of_ble_eq_true rfl) ?_
        refine q_Ru_seg (g2 := (5, [(0, .int a)], [.int (a &&& 4095)], (q_cM q_AM (q_uI q_IM 0 39 0) q_J0, 34, 31630))) 3 (fun _ _ => rfl) ?_
        exact q_Ru_ret rfl rfl
      show q_Ru _ _ _ (5, [(0, .ref 64), (1, .int a)], [.int (a &&& 4095), .ref 64], (q_cM q_AM (q_uI q_IM 0 39 0) q_J0, 34, 31630)) _
      refine q_Ru_call (v := (some (.int 0))) (h2 := (q_cM (q_uA (q_uA q_AM 33 f24) 32 (fun _ => 0)) (q_uI q_IM 0 39 0) q_J0, 34, 31630)) rfl rfl ?_ ?_
      · exact p24.le (Nat.le_of_ble_eq_true rfl)
      show q_Ru _ _ _ (8, [(0, .ref 64), (1, .int a)], [.int 0], (q_cM (q_uA (q_uA q_AM 33 f24) 32 (fun _ => 0)) (q_uI q_IM 0 39 0) q_J0, 34, 31630)) _
      exact q_Ru_ret rfl rfl
    show q_Ru _ _ _ (26, [(0, .ref 64), (1, .int a)], [.int 0], (q_cM (q_uA (q_uA q_AM 33 f24) 32 (fun _ => 0)) (q_uI q_IM 0 39 0) q_J0, 34, 31630)) _
    exact q_Ru_le (Nat.le_of_ble_eq_true rfl) (q_xc166 L xs a hl_a hu_a f24 f25 h199 h200 h201 h202 p25)
set_option maxHeartbeats 20000000 in
theorem q_op_writeLine98 (L : Nat) (xs : Nat → Int32) (a : Int32) : ∃ (r b : Int32) (w : Int64), q_opXT (q_TBs 98 L xs) 6 [.int a] r w ∧ q_opM 286 [.int a] r (.int b) ∧ (r = 0 → w = b.toInt64) := by
  cases h242 : decide (a < 0) with
  | true =>
    refine ⟨1, 0, 0, ⟨(q_cX q_AX q_IX q_J0, 40 + 1, 26520 + 6), q_J0 39, ?_, rfl, fun h => absurd h (by decide), Nat.le_of_ble_eq_true rfl, Nat.le_of_ble_eq_true rfl⟩, ⟨(q_cM q_AM (q_uI q_IM 0 39 1) q_J0, 34, 31630), _, ?_, rfl, rfl, Nat.le_of_ble_eq_true rfl, Nat.le_of_ble_eq_true rfl⟩, fun h => absurd h (by decide)⟩
    · refine q_Ca_of (Nat.le_of_ble_eq_true rfl) ?_
      refine q_Ru_seg (g2 := (4, [(0, .ref 64), (1, .int a), (2, .ref 103)], [.int a, .ref 64, .int 0, .ref 103], (q_cX q_AX q_IX q_J0, 40, 26520))) 4 (fun _ _ => rfl) ?_
      refine q_Ru_callH (E := "java/lang/IndexOutOfBoundsException") (tg := 13) (i := 3) (h2 := (q_cX q_AX q_IX q_J0, 40 + 1, 26520 + 6)) rfl rfl ?_ rfl ?_
      · refine q_Ca_of (Nat.le_of_ble_eq_true rfl) ?_
        refine q_Ru_seg (g2 := (1, [(0, .ref 64), (1, .int a)], [.int a], (q_cX q_AX q_IX q_J0, 40, 26520))) 1 (fun _ _ => rfl) ?_
        refine q_Ru_callX (E := "java/lang/IndexOutOfBoundsException") (h2 := (q_cX q_AX q_IX q_J0, 40 + 1, 26520 + 6)) rfl rfl ?_
        refine q_Ca_of (Nat.le_of_ble_eq_true rfl) ?_
        refine q_Ru_seg (g2 := (4, [(0, .int a)], [.int 4096, .int a], (q_cX q_AX q_IX q_J0, 40, 26520))) 2 (fun _ _ => rfl) ?_
        refine q_Ru_callX (E := "java/lang/IndexOutOfBoundsException") (h2 := (q_cX q_AX q_IX q_J0, 40 + 1, 26520 + 6)) rfl rfl ?_
        refine q_Ca_of (Nat.le_of_ble_eq_true rfl) ?_
        refine q_Ru_seg (g2 := (1, [(0, .int a), (1, .int 4096)], [.int a], (q_cX q_AX q_IX q_J0, 40, 26520))) 1 (fun _ _ => rfl) ?_
        refine q_Ru_rsT (g2 := (9, [(0, .int a), (1, .int 4096)], [], (q_cX q_AX q_IX q_J0, 40, 26520))) rfl rfl h242 ?_
        exact q_Ru_thr rfl rfl
      show q_Ru _ _ _ (13, [(0, .ref 64), (1, .int a), (2, .ref 103)], [], (q_cX q_AX q_IX q_J0, 40 + 1, 26520 + 6)) _
      refine q_Ru_seg (g2 := (14, [(0, .ref 64), (1, .int a), (2, .ref 103)], [.int 1], (q_cX q_AX q_IX q_J0, 40 + 1, 26520 + 6))) 1 (fun _ _ => rfl) ?_
      exact q_Ru_ret rfl rfl
    · refine q_Ca_of (Nat.le_of_ble_eq_true rfl) ?_
      refine q_Ru_seg (g2 := (2, [(0, .ref 64), (1, .int a)], [.int a, .ref 64], (q_cM q_AM q_IM q_J0, 34, 31630))) 2 (fun _ _ => rfl) ?_
      refine q_Ru_call (v := (some (.int 1))) (h2 := (q_cM q_AM q_IM q_J0, 34, 31630)) rfl rfl ?_ ?_
      · refine q_Ca_of (Nat.le_of_ble_eq_true rfl) ?_
        refine q_Ru_seg (g2 := (5, [(0, .int a)], [.int 4095, .int 0, .int a], (q_cM q_AM q_IM q_J0, 34, 31630))) 3 (fun _ _ => rfl) ?_
        refine q_Ru_call (v := (some (.int 0))) (h2 := (q_cM q_AM q_IM q_J0, 34, 31630)) rfl rfl ?_ ?_
        · refine q_Ca_of (Nat.le_of_ble_eq_true rfl) ?_
          refine q_Ru_seg (g2 := (2, [(0, .int a), (1, .int 0), (2, .int 4095)], [.int 0, .int a], (q_cM q_AM q_IM q_J0, 34, 31630))) 2 (fun _ _ => rfl) ?_
          refine q_Ru_rsT (g2 := (14, [(0, .int a), (1, .int 0), (2, .int 4095)], [], (q_cM q_AM q_IM q_J0, 34, 31630))) rfl rfl h242 ?_
          refine q_Ru_seg (g2 := (15, [(0, .int a), (1, .int 0), (2, .int 4095)], [.int 0], (q_cM q_AM q_IM q_J0, 34, 31630))) 1 (fun _ _ => rfl) ?_
          exact q_Ru_ret rfl rfl
        show q_Ru _ _ _ (8, [(0, .int a)], [.int 0], (q_cM q_AM q_IM q_J0, 34, 31630)) _
        refine q_Ru_seg (g2 := (16, [(0, .int a)], [.int 1], (q_cM q_AM q_IM q_J0, 34, 31630))) 3 (fun _ _ => rfl) ?_
        exact q_Ru_ret rfl rfl
      show q_Ru _ _ _ (5, [(0, .ref 64), (1, .int a)], [.int 1, .ref 64], (q_cM q_AM q_IM q_J0, 34, 31630)) _
      refine q_Ru_seg (g2 := (13, [(0, .ref 64), (1, .int a)], [.int 1, .ref 64], (q_cM q_AM q_IM q_J0, 34, 31630))) 3 (fun _ _ => rfl) ?_
      refine q_Ru_call (v := (some (.int 1))) (h2 := (q_cM q_AM (q_uI q_IM 0 39 1) q_J0, 34, 31630)) rfl rfl ?_ ?_
      · refine q_Ca_of (Nat.le_of_ble_eq_true rfl) ?_
        refine q_Ru_seg (g2 := (14, [(0, .ref 64), (1, .int 1)], [.int 1], (q_cM q_AM (q_uI q_IM 0 39 1) q_J0, 34, 31630))) 7 (fun _ _ => rfl) ?_
        exact q_Ru_ret rfl rfl
      show q_Ru _ _ _ (16, [(0, .ref 64), (1, .int a)], [.int 1], (q_cM q_AM (q_uI q_IM 0 39 1) q_J0, 34, 31630)) _
      refine q_Ru_seg (g2 := (20, [(0, .ref 64), (1, .int a)], [.int 0], (q_cM q_AM (q_uI q_IM 0 39 1) q_J0, 34, 31630))) 2 (fun _ _ => rfl) ?_
      exact q_Ru_ret rfl rfl
  | false =>
    cases h243 : decide (a < 4096) with
    | true =>
      by_cases w0 : a.toInt ≤ 9
      · exact q_op_writeLine98_0 L xs a (by have e9 : 0 ≤ a.toInt := (q_lo1 h242); omega) w0
      by_cases w1 : a.toInt ≤ 99
      · exact q_op_writeLine98_1 L xs a (by have e9 : 0 ≤ a.toInt := (q_lo1 h242); omega) w1
      by_cases w2 : a.toInt ≤ 999
      · exact q_op_writeLine98_2 L xs a (by have e9 : 0 ≤ a.toInt := (q_lo1 h242); omega) w2
      exact q_op_writeLine98_3 L xs a (by omega) (q_hi1 h243)
    | false =>
      cases h244 : decide (4095 < a) with
      | true =>
        refine ⟨1, 0, 0, ⟨(q_cX q_AX q_IX q_J0, 40 + 1, 26520 + 6), q_J0 39, ?_, rfl, fun h => absurd h (by decide), Nat.le_of_ble_eq_true rfl, Nat.le_of_ble_eq_true rfl⟩, ⟨(q_cM q_AM (q_uI q_IM 0 39 1) q_J0, 34, 31630), _, ?_, rfl, rfl, Nat.le_of_ble_eq_true rfl, Nat.le_of_ble_eq_true rfl⟩, fun h => absurd h (by decide)⟩
        · refine q_Ca_of (Nat.le_of_ble_eq_true rfl) ?_
          refine q_Ru_seg (g2 := (4, [(0, .ref 64), (1, .int a), (2, .ref 103)], [.int a, .ref 64, .int 0, .ref 103], (q_cX q_AX q_IX q_J0, 40, 26520))) 4 (fun _ _ => rfl) ?_
          refine q_Ru_callH (E := "java/lang/IndexOutOfBoundsException") (tg := 13) (i := 3) (h2 := (q_cX q_AX q_IX q_J0, 40 + 1, 26520 + 6)) rfl rfl ?_ rfl ?_
          · refine q_Ca_of (Nat.le_of_ble_eq_true rfl) ?_
            refine q_Ru_seg (g2 := (1, [(0, .ref 64), (1, .int a)], [.int a], (q_cX q_AX q_IX q_J0, 40, 26520))) 1 (fun _ _ => rfl) ?_
            refine q_Ru_callX (E := "java/lang/IndexOutOfBoundsException") (h2 := (q_cX q_AX q_IX q_J0, 40 + 1, 26520 + 6)) rfl rfl ?_
            refine q_Ca_of (Nat.le_of_ble_eq_true rfl) ?_
            refine q_Ru_seg (g2 := (4, [(0, .int a)], [.int 4096, .int a], (q_cX q_AX q_IX q_J0, 40, 26520))) 2 (fun _ _ => rfl) ?_
            refine q_Ru_callX (E := "java/lang/IndexOutOfBoundsException") (h2 := (q_cX q_AX q_IX q_J0, 40 + 1, 26520 + 6)) rfl rfl ?_
            refine q_Ca_of (Nat.le_of_ble_eq_true rfl) ?_
            refine q_Ru_seg (g2 := (1, [(0, .int a), (1, .int 4096)], [.int a], (q_cX q_AX q_IX q_J0, 40, 26520))) 1 (fun _ _ => rfl) ?_
            refine q_Ru_rsF (g2 := (4, [(0, .int a), (1, .int 4096)], [], (q_cX q_AX q_IX q_J0, 40, 26520))) rfl rfl h242 ?_
            refine q_Ru_seg (g2 := (6, [(0, .int a), (1, .int 4096)], [.int 4096, .int a], (q_cX q_AX q_IX q_J0, 40, 26520))) 2 (fun _ _ => rfl) ?_
            refine q_Ru_rsF (g2 := (9, [(0, .int a), (1, .int 4096)], [], (q_cX q_AX q_IX q_J0, 40, 26520))) rfl rfl h243 ?_
            exact q_Ru_thr rfl rfl
          show q_Ru _ _ _ (13, [(0, .ref 64), (1, .int a), (2, .ref 103)], [], (q_cX q_AX q_IX q_J0, 40 + 1, 26520 + 6)) _
          refine q_Ru_seg (g2 := (14, [(0, .ref 64), (1, .int a), (2, .ref 103)], [.int 1], (q_cX q_AX q_IX q_J0, 40 + 1, 26520 + 6))) 1 (fun _ _ => rfl) ?_
          exact q_Ru_ret rfl rfl
        · refine q_Ca_of (Nat.le_of_ble_eq_true rfl) ?_
          refine q_Ru_seg (g2 := (2, [(0, .ref 64), (1, .int a)], [.int a, .ref 64], (q_cM q_AM q_IM q_J0, 34, 31630))) 2 (fun _ _ => rfl) ?_
          refine q_Ru_call (v := (some (.int 1))) (h2 := (q_cM q_AM q_IM q_J0, 34, 31630)) rfl rfl ?_ ?_
          · refine q_Ca_of (Nat.le_of_ble_eq_true rfl) ?_
            refine q_Ru_seg (g2 := (5, [(0, .int a)], [.int 4095, .int 0, .int a], (q_cM q_AM q_IM q_J0, 34, 31630))) 3 (fun _ _ => rfl) ?_
            refine q_Ru_call (v := (some (.int 0))) (h2 := (q_cM q_AM q_IM q_J0, 34, 31630)) rfl rfl ?_ ?_
            · refine q_Ca_of (Nat.le_of_ble_eq_true rfl) ?_
              refine q_Ru_seg (g2 := (2, [(0, .int a), (1, .int 0), (2, .int 4095)], [.int 0, .int a], (q_cM q_AM q_IM q_J0, 34, 31630))) 2 (fun _ _ => rfl) ?_
              refine q_Ru_rsF (g2 := (5, [(0, .int a), (1, .int 0), (2, .int 4095)], [], (q_cM q_AM q_IM q_J0, 34, 31630))) rfl rfl h242 ?_
              refine q_Ru_seg (g2 := (7, [(0, .int a), (1, .int 0), (2, .int 4095)], [.int 4095, .int a], (q_cM q_AM q_IM q_J0, 34, 31630))) 2 (fun _ _ => rfl) ?_
              refine q_Ru_rsT (g2 := (14, [(0, .int a), (1, .int 0), (2, .int 4095)], [], (q_cM q_AM q_IM q_J0, 34, 31630))) rfl rfl h244 ?_
              refine q_Ru_seg (g2 := (15, [(0, .int a), (1, .int 0), (2, .int 4095)], [.int 0], (q_cM q_AM q_IM q_J0, 34, 31630))) 1 (fun _ _ => rfl) ?_
              exact q_Ru_ret rfl rfl
            show q_Ru _ _ _ (8, [(0, .int a)], [.int 0], (q_cM q_AM q_IM q_J0, 34, 31630)) _
            refine q_Ru_seg (g2 := (16, [(0, .int a)], [.int 1], (q_cM q_AM q_IM q_J0, 34, 31630))) 3 (fun _ _ => rfl) ?_
            exact q_Ru_ret rfl rfl
          show q_Ru _ _ _ (5, [(0, .ref 64), (1, .int a)], [.int 1, .ref 64], (q_cM q_AM q_IM q_J0, 34, 31630)) _
          refine q_Ru_seg (g2 := (13, [(0, .ref 64), (1, .int a)], [.int 1, .ref 64], (q_cM q_AM q_IM q_J0, 34, 31630))) 3 (fun _ _ => rfl) ?_
          refine q_Ru_call (v := (some (.int 1))) (h2 := (q_cM q_AM (q_uI q_IM 0 39 1) q_J0, 34, 31630)) rfl rfl ?_ ?_
          · refine q_Ca_of (Nat.le_of_ble_eq_true rfl) ?_
            refine q_Ru_seg (g2 := (14, [(0, .ref 64), (1, .int 1)], [.int 1], (q_cM q_AM (q_uI q_IM 0 39 1) q_J0, 34, 31630))) 7 (fun _ _ => rfl) ?_
            exact q_Ru_ret rfl rfl
          show q_Ru _ _ _ (16, [(0, .ref 64), (1, .int a)], [.int 1], (q_cM q_AM (q_uI q_IM 0 39 1) q_J0, 34, 31630)) _
          refine q_Ru_seg (g2 := (20, [(0, .ref 64), (1, .int a)], [.int 0], (q_cM q_AM (q_uI q_IM 0 39 1) q_J0, 34, 31630))) 2 (fun _ _ => rfl) ?_
          exact q_Ru_ret rfl rfl
      | false =>
        exact q_no (q_lo1 h243) (q_hi2 h244) (by decide)
