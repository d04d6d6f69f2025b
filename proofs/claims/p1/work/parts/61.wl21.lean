set_option maxHeartbeats 20000000 in
theorem q_xc223 (L : Nat) (xs : Nat → Int32) (a : Int32) (hl_a : 10 ≤ a.toInt) (hu_a : a.toInt ≤ 99) (w521 : Nat → Int32) : q_Ru (q_TBs 99 L xs) 4 194 (81, [(5, .int 1), (4, .int 0), (3, .ref 12), (2, .int 0), (0, .ref 98), (1, .int 0)], [.ref 98], (q_cX (q_uA q_AX 35 (upd (upd (upd w521 2 32) 3 108) 4 100)) (q_uI q_IX 34 3 5) q_J0, 40, 26520)) (.inl none, (q_cX (q_uA q_AX 35 (upd (upd (upd (upd w521 2 32) 3 108) 4 100) 5 97)) (q_uI q_IX 34 3 6) q_J0, 40, 26520)) := by
  refine q_Ru_seg (g2 := (75, [(5, .int 2), (4, .int 0), (3, .ref 12), (2, .int 0), (0, .ref 98), (1, .int 0)], [.int 2, .ref 12, .ref 98], (q_cX (q_uA q_AX 35 (upd (upd (upd w521 2 32) 3 108) 4 100)) (q_uI q_IX 34 3 5) q_J0, 40, 26520))) 11 (fun _ _ => rfl) ?_
  refine q_Ru_call (v := (some (.int 97))) (h2 := (q_cX (q_uA q_AX 35 (upd (upd (upd w521 2 32) 3 108) 4 100)) (q_uI q_IX 34 3 5) q_J0, 40, 26520)) rfl rfl ?_ ?_
  · refine q_Ca_of (Nat.le_of_ble_eq_true rfl) ?_
    refine q_Ru_seg (g2 := (1, [(0, .ref 12), (1, .int 2)], [.ref 12], (q_cX (q_uA q_AX 35 (upd (upd (upd w521 2 32) 3 108) 4 100)) (q_uI q_IX 34 3 5) q_J0, 40, 26520))) 1 (fun _ _ => rfl) ?_
    refine q_Ru_call (v := (some (.int 1))) (h2 := (q_cX (q_uA q_AX 35 (upd (upd (upd w521 2 32) 3 108) 4 100)) (q_uI q_IX 34 3 5) q_J0, 40, 26520)) rfl rfl ?_ ?_
    · refine q_Ca_of (Nat.le_of_ble_eq_true rfl) ?_
      refine q_Ru_seg (g2 := (18, [(0, .ref 12)], [.int 1], (q_cX (q_uA q_AX 35 (upd (upd (upd w521 2 32) 3 108) 4 100)) (q_uI q_IX 34 3 5) q_J0, 40, 26520))) 7 (fun _ _ => rfl) ?_
      exact q_Ru_ret rfl rfl
    show q_Ru _ _ _ (4, [(0, .ref 12), (1, .int 2)], [.int 1], (q_cX (q_uA q_AX 35 (upd (upd (upd w521 2 32) 3 108) 4 100)) (q_uI q_IX 34 3 5) q_J0, 40, 26520)) _
    refine q_Ru_seg (g2 := (12, [(0, .ref 12), (1, .int 2)], [.int 2, .ref 40], (q_cX (q_uA q_AX 35 (upd (upd (upd w521 2 32) 3 108) 4 100)) (q_uI q_IX 34 3 5) q_J0, 40, 26520))) 4 (fun _ _ => rfl) ?_
    refine q_Ru_call (v := (some (.int 97))) (h2 := (q_cX (q_uA q_AX 35 (upd (upd (upd w521 2 32) 3 108) 4 100)) (q_uI q_IX 34 3 5) q_J0, 40, 26520)) rfl rfl ?_ ?_
    · refine q_Ca_of (Nat.le_of_ble_eq_true rfl) ?_
      refine q_Ru_seg (g2 := (3, [(0, .ref 40), (1, .int 2)], [.int 63, .int 2], (q_cX (q_uA q_AX 35 (upd (upd (upd w521 2 32) 3 108) 4 100)) (q_uI q_IX 34 3 5) q_J0, 40, 26520))) 3 (fun _ _ => rfl) ?_
      refine q_Ru_call (v := none) (h2 := (q_cX (q_uA q_AX 35 (upd (upd (upd w521 2 32) 3 108) 4 100)) (q_uI q_IX 34 3 5) q_J0, 40, 26520)) rfl rfl ?_ ?_
      · refine q_Ca_of (Nat.le_of_ble_eq_true rfl) ?_
        refine q_Ru_seg (g2 := (5, [(0, .int 2), (1, .int 63)], [.ref 9, .int 63, .int 2], (q_cX (q_uA q_AX 35 (upd (upd (upd w521 2 32) 3 108) 4 100)) (q_uI q_IX 34 3 5) q_J0, 40, 26520))) 3 (fun _ _ => rfl) ?_
        refine q_Ru_call (v := (some (.int 2))) (h2 := (q_cX (q_uA q_AX 35 (upd (upd (upd w521 2 32) 3 108) 4 100)) (q_uI q_IX 34 3 5) q_J0, 40, 26520)) rfl rfl ?_ ?_
        · refine q_Ca_of (Nat.le_of_ble_eq_true rfl) ?_
          refine q_Ru_seg (g2 := (17, [(0, .int 2), (1, .int 63), (2, .ref 9)], [.int 2], (q_cX (q_uA q_AX 35 (upd (upd (upd w521 2 32) 3 108) 4 100)) (q_uI q_IX 34 3 5) q_J0, 40, 26520))) 6 (fun _ _ => rfl) ?_
          exact q_Ru_ret rfl rfl
        show q_Ru _ _ _ (8, [(0, .int 2), (1, .int 63)], [.int 2], (q_cX (q_uA q_AX 35 (upd (upd (upd w521 2 32) 3 108) 4 100)) (q_uI q_IX 34 3 5) q_J0, 40, 26520)) _
        refine q_Ru_seg (g2 := (9, [(0, .int 2), (1, .int 63)], [], (q_cX (q_uA q_AX 35 (upd (upd (upd w521 2 32) 3 108) 4 100)) (q_uI q_IX 34 3 5) q_J0, 40, 26520))) 1 (fun _ _ => rfl) ?_
        exact q_Ru_ret rfl rfl
      show q_Ru _ _ _ (6, [(0, .ref 40), (1, .int 2)], [], (q_cX (q_uA q_AX 35 (upd (upd (upd w521 2 32) 3 108) 4 100)) (q_uI q_IX 34 3 5) q_J0, 40, 26520)) _
      refine q_Ru_seg (g2 := (9, [(0, .ref 40), (1, .int 2)], [.int 97], (q_cX (q_uA q_AX 35 (upd (upd (upd w521 2 32) 3 108) 4 100)) (q_uI q_IX 34 3 5) q_J0, 40, 26520))) 3 (fun _ _ => rfl) ?_
      refine q_Ru_seg (g2 := (14, [(0, .ref 40), (1, .int 2)], [.int 97], (q_cX (q_uA q_AX 35 (upd (upd (upd w521 2 32) 3 108) 4 100)) (q_uI q_IX 34 3 5) q_J0, 40, 26520))) 3 (fun _ _ => rfl) ?_
      exact q_Ru_ret rfl rfl
    show q_Ru _ _ _ (15, [(0, .ref 12), (1, .int 2)], [.int 97], (q_cX (q_uA q_AX 35 (upd (upd (upd w521 2 32) 3 108) 4 100)) (q_uI q_IX 34 3 5) q_J0, 40, 26520)) _
    exact q_Ru_ret rfl rfl
  show q_Ru _ _ _ (78, [(5, .int 2), (4, .int 0), (3, .ref 12), (2, .int 0), (0, .ref 98), (1, .int 0)], [.int 97, .ref 98], (q_cX (q_uA q_AX 35 (upd (upd (upd w521 2 32) 3 108) 4 100)) (q_uI q_IX 34 3 5) q_J0, 40, 26520)) _
  refine q_Ru_call (v := (some (.ref 98))) (h2 := (q_cX (q_uA q_AX 35 (upd (upd (upd (upd w521 2 32) 3 108) 4 100) 5 97)) (q_uI q_IX 34 3 6) q_J0, 40, 26520)) rfl rfl ?_ ?_
  · refine q_Ca_of (Nat.le_of_ble_eq_true rfl) ?_
    refine q_Ru_seg (g2 := (2, [(0, .ref 98), (1, .int 97)], [.int 97, .ref 98], (q_cX (q_uA q_AX 35 (upd (upd (upd w521 2 32) 3 108) 4 100)) (q_uI q_IX 34 3 5) q_J0, 40, 26520))) 2 (fun _ _ => rfl) ?_
    refine q_Ru_call (v := (some (.ref 98))) (h2 := (q_cX (q_uA q_AX 35 (upd (upd (upd (upd w521 2 32) 3 108) 4 100) 5 97)) (q_uI q_IX 34 3 6) q_J0, 40, 26520)) rfl rfl ?_ ?_
    · refine q_Ca_of (Nat.le_of_ble_eq_true rfl) ?_
      refine q_Ru_seg (g2 := (5, [(0, .ref 98), (1, .int 97)], [.int 5, .ref 98], (q_cX (q_uA q_AX 35 (upd (upd (upd w521 2 32) 3 108) 4 100)) (q_uI q_IX 34 3 5) q_J0, 40, 26520))) 3 (fun _ _ => rfl) ?_
      refine q_Ru_seg (g2 := (7, [(0, .ref 98), (1, .int 97)], [.int 6, .ref 98], (q_cX (q_uA q_AX 35 (upd (upd (upd w521 2 32) 3 108) 4 100)) (q_uI q_IX 34 3 5) q_J0, 40, 26520))) 2 (fun _ _ => rfl) ?_
      refine q_Ru_call (v := none) (h2 := (q_cX (q_uA q_AX 35 (upd (upd (upd w521 2 32) 3 108) 4 100)) (q_uI q_IX 34 3 5) q_J0, 40, 26520)) rfl rfl ?_ ?_
      · refine q_Ca_of (Nat.le_of_ble_eq_true rfl) ?_
        refine q_Ru_seg (g2 := (9, [(0, .ref 98), (1, .int 6)], [.int 0, .int 16], (q_cX (q_uA q_AX 35 (upd (upd (upd w521 2 32) 3 108) 4 100)) (q_uI q_IX 34 3 5) q_J0, 40, 26520))) 5 (fun _ _ => rfl) ?_
        refine q_Ru_seg (g2 := (38, [(2, .int 16), (0, .ref 98), (1, .int 6)], [], (q_cX (q_uA q_AX 35 (upd (upd (upd w521 2 32) 3 108) 4 100)) (q_uI q_IX 34 3 5) q_J0, 40, 26520))) 6 (fun _ _ => rfl) ?_
        exact q_Ru_ret rfl rfl
      show q_Ru _ _ _ (10, [(0, .ref 98), (1, .int 97)], [], (q_cX (q_uA q_AX 35 (upd (upd (upd w521 2 32) 3 108) 4 100)) (q_uI q_IX 34 3 5) q_J0, 40, 26520)) _
      refine q_Ru_seg (g2 := (11, [(0, .ref 98), (1, .int 97)], [.ref 98], (q_cX (q_uA q_AX 35 (upd (upd (upd w521 2 32) 3 108) 4 100)) (q_uI q_IX 34 3 5) q_J0, 40, 26520))) 1 (fun _ _ => rfl) ?_
      refine q_Ru_call (v := (some (.int 1))) (h2 := (q_cX (q_uA q_AX 35 (upd (upd (upd w521 2 32) 3 108) 4 100)) (q_uI q_IX 34 3 5) q_J0, 40, 26520)) rfl rfl ?_ ?_
      · refine q_Ca_of (Nat.le_of_ble_eq_true rfl) ?_
        refine q_Ru_seg (g2 := (10, [(0, .ref 98)], [.int 0], (q_cX (q_uA q_AX 35 (upd (upd (upd w521 2 32) 3 108) 4 100)) (q_uI q_IX 34 3 5) q_J0, 40, 26520))) 4 (fun _ _ => rfl) ?_
        refine q_Ru_seg (g2 := (18, [(0, .ref 98)], [.int 1], (q_cX (q_uA q_AX 35 (upd (upd (upd w521 2 32) 3 108) 4 100)) (q_uI q_IX 34 3 5) q_J0, 40, 26520))) 3 (fun _ _ => rfl) ?_
        exact q_Ru_ret rfl rfl
      show q_Ru _ _ _ (14, [(0, .ref 98), (1, .int 97)], [.int 1], (q_cX (q_uA q_AX 35 (upd (upd (upd w521 2 32) 3 108) 4 100)) (q_uI q_IX 34 3 5) q_J0, 40, 26520)) _
      refine q_Ru_seg (g2 := (18, [(0, .ref 98), (1, .int 97)], [.int 97], (q_cX (q_uA q_AX 35 (upd (upd (upd w521 2 32) 3 108) 4 100)) (q_uI q_IX 34 3 5) q_J0, 40, 26520))) 2 (fun _ _ => rfl) ?_
      refine q_Ru_call (v := (some (.int 1))) (h2 := (q_cX (q_uA q_AX 35 (upd (upd (upd w521 2 32) 3 108) 4 100)) (q_uI q_IX 34 3 5) q_J0, 40, 26520)) rfl rfl ?_ ?_
      · refine q_Ca_of (Nat.le_of_ble_eq_true rfl) ?_
        refine q_Ru_seg (g2 := (12, [(0, .int 97)], [.int 1], (q_cX (q_uA q_AX 35 (upd (upd (upd w521 2 32) 3 108) 4 100)) (q_uI q_IX 34 3 5) q_J0, 40, 26520))) 5 (fun _ _ => rfl) ?_
        exact q_Ru_ret rfl rfl
      show q_Ru _ _ _ (21, [(0, .ref 98), (1, .int 97)], [.int 1], (q_cX (q_uA q_AX 35 (upd (upd (upd w521 2 32) 3 108) 4 100)) (q_uI q_IX 34 3 5) q_J0, 40, 26520)) _
      refine q_Ru_seg (g2 := (33, [(0, .ref 98), (1, .int 97)], [.int 5, .ref 98, .ref 99], (q_cX (q_uA q_AX 35 (upd (upd (upd w521 2 32) 3 108) 4 100)) (q_uI q_IX 34 3 5) q_J0, 40, 26520))) 6 (fun _ _ => rfl) ?_
      refine q_Ru_seg (g2 := (41, [(0, .ref 98), (1, .int 97)], [.int 97, .int 5, .ref 99], (q_cX (q_uA q_AX 35 (upd (upd (upd w521 2 32) 3 108) 4 100)) (q_uI q_IX 34 3 6) q_J0, 40, 26520))) 6 (fun _ _ => rfl) ?_
      refine q_Ru_rsT (g2 := (42, [(0, .ref 98), (1, .int 97)], [], (q_cX (q_uA q_AX 35 (upd (upd (upd (upd w521 2 32) 3 108) 4 100) 5 97)) (q_uI q_IX 34 3 6) q_J0, 40, 26520))) rfl q_astB_35 rfl ?_
      generalize (upd (upd (upd (upd w521 2 32) 3 108) 4 100) 5 97) = w525
      refine q_Ru_seg (g2 := (76, [(0, .ref 98), (1, .int 97)], [.ref 98], (q_cX (q_uA q_AX 35 w525) (q_uI q_IX 34 3 6) q_J0, 40, 26520))) 2 (fun _ _ => rfl) ?_
      exact q_Ru_ret rfl rfl
    show q_Ru _ _ _ (5, [(0, .ref 98), (1, .int 97)], [.ref 98], (q_cX (q_uA q_AX 35 (upd (upd (upd (upd w521 2 32) 3 108) 4 100) 5 97)) (q_uI q_IX 34 3 6) q_J0, 40, 26520)) _
    refine q_Ru_seg (g2 := (7, [(0, .ref 98), (1, .int 97)], [.ref 98], (q_cX (q_uA q_AX 35 (upd (upd (upd (upd w521 2 32) 3 108) 4 100) 5 97)) (q_uI q_IX 34 3 6) q_J0, 40, 26520))) 2 (fun _ _ => rfl) ?_
    exact q_Ru_ret rfl rfl
  show q_Ru _ _ _ (81, [(5, .int 2), (4, .int 0), (3, .ref 12), (2, .int 0), (0, .ref 98), (1, .int 0)], [.ref 98], (q_cX (q_uA q_AX 35 (upd (upd (upd (upd w521 2 32) 3 108) 4 100) 5 97)) (q_uI q_IX 34 3 6) q_J0, 40, 26520)) _
  refine q_Ru_seg (g2 := (88, [(5, .int 3), (4, .int 0), (3, .ref 12), (2, .int 0), (0, .ref 98), (1, .int 0)], [], (q_cX (q_uA q_AX 35 (upd (upd (upd (upd w521 2 32) 3 108) 4 100) 5 97)) (q_uI q_IX 34 3 6) q_J0, 40, 26520))) 8 (fun _ _ => rfl) ?_
  exact q_Ru_ret rfl rfl
set_option maxHeartbeats 20000000 in
theorem q_xc224 (L : Nat) (xs : Nat → Int32) (a : Int32) (hl_a : 10 ≤ a.toInt) (hu_a : a.toInt ≤ 99) (w521 : Nat → Int32) : q_Ru (q_TBs 99 L xs) 4 194 (81, [(5, .int 0), (4, .int 0), (3, .ref 12), (2, .int 0), (0, .ref 98), (1, .int 0)], [.ref 98], (q_cX (q_uA q_AX 35 (upd (upd w521 2 32) 3 108)) (q_uI q_IX 34 3 4) q_J0, 40, 26520)) (.inl none, (q_cX (q_uA q_AX 35 (upd (upd (upd (upd w521 2 32) 3 108) 4 100) 5 97)) (q_uI q_IX 34 3 6) q_J0, 40, 26520)) := by
  refine q_Ru_seg (g2 := (75, [(5, .int 1), (4, .int 0), (3, .ref 12), (2, .int 0), (0, .ref 98), (1, .int 0)], [.int 1, .ref 12, .ref 98], (q_cX (q_uA q_AX 35 (upd (upd w521 2 32) 3 108)) (q_uI q_IX 34 3 4) q_J0, 40, 26520))) 11 (fun _ _ => rfl) ?_
  refine q_Ru_call (v := (some (.int 100))) (h2 := (q_cX (q_uA q_AX 35 (upd (upd w521 2 32) 3 108)) (q_uI q_IX 34 3 4) q_J0, 40, 26520)) rfl rfl ?_ ?_
  · refine q_Ca_of (Nat.le_of_ble_eq_true rfl) ?_
    refine q_Ru_seg (g2 := (1, [(0, .ref 12), (1, .int 1)], [.ref 12], (q_cX (q_uA q_AX 35 (upd (upd w521 2 32) 3 108)) (q_uI q_IX 34 3 4) q_J0, 40, 26520))) 1 (fun _ _ => rfl) ?_
    refine q_Ru_call (v := (some (.int 1))) (h2 := (q_cX (q_uA q_AX 35 (upd (upd w521 2 32) 3 108)) (q_uI q_IX 34 3 4) q_J0, 40, 26520)) rfl rfl ?_ ?_
    · refine q_Ca_of (Nat.le_of_ble_eq_true rfl) ?_
      refine q_Ru_seg (g2 := (18, [(0, .ref 12)], [.int 1], (q_cX (q_uA q_AX 35 (upd (upd w521 2 32) 3 108)) (q_uI q_IX 34 3 4) q_J0, 40, 26520))) 7 (fun _ _ => rfl) ?_
      exact q_Ru_ret rfl rfl
    show q_Ru _ _ _ (4, [(0, .ref 12), (1, .int 1)], [.int 1], (q_cX (q_uA q_AX 35 (upd (upd w521 2 32) 3 108)) (q_uI q_IX 34 3 4) q_J0, 40, 26520)) _
    refine q_Ru_seg (g2 := (12, [(0, .ref 12), (1, .int 1)], [.int 1, .ref 40], (q_cX (q_uA q_AX 35 (upd (upd w521 2 32) 3 108)) (q_uI q_IX 34 3 4) q_J0, 40, 26520))) 4 (fun _ _ => rfl) ?_
    refine q_Ru_call (v := (some (.int 100))) (h2 := (q_cX (q_uA q_AX 35 (upd (upd w521 2 32) 3 108)) (q_uI q_IX 34 3 4) q_J0, 40, 26520)) rfl rfl ?_ ?_
    · refine q_Ca_of (Nat.le_of_ble_eq_true rfl) ?_
      refine q_Ru_seg (g2 := (3, [(0, .ref 40), (1, .int 1)], [.int 63, .int 1], (q_cX (q_uA q_AX 35 (upd (upd w521 2 32) 3 108)) (q_uI q_IX 34 3 4) q_J0, 40, 26520))) 3 (fun _ _ => rfl) ?_
      refine q_Ru_call (v := none) (h2 := (q_cX (q_uA q_AX 35 (upd (upd w521 2 32) 3 108)) (q_uI q_IX 34 3 4) q_J0, 40, 26520)) rfl rfl ?_ ?_
      · refine q_Ca_of (Nat.le_of_ble_eq_true rfl) ?_
        refine q_Ru_seg (g2 := (5, [(0, .int 1), (1, .int 63)], [.ref 9, .int 63, .int 1], (q_cX (q_uA q_AX 35 (upd (upd w521 2 32) 3 108)) (q_uI q_IX 34 3 4) q_J0, 40, 26520))) 3 (fun _ _ => rfl) ?_
        refine q_Ru_call (v := (some (.int 1))) (h2 := (q_cX (q_uA q_AX 35 (upd (upd w521 2 32) 3 108)) (q_uI q_IX 34 3 4) q_J0, 40, 26520)) rfl rfl ?_ ?_
        · refine q_Ca_of (Nat.le_of_ble_eq_true rfl) ?_
          refine q_Ru_seg (g2 := (17, [(0, .int 1), (1, .int 63), (2, .ref 9)], [.int 1], (q_cX (q_uA q_AX 35 (upd (upd w521 2 32) 3 108)) (q_uI q_IX 34 3 4) q_J0, 40, 26520))) 6 (fun _ _ => rfl) ?_
          exact q_Ru_ret rfl rfl
        show q_Ru _ _ _ (8, [(0, .int 1), (1, .int 63)], [.int 1], (q_cX (q_uA q_AX 35 (upd (upd w521 2 32) 3 108)) (q_uI q_IX 34 3 4) q_J0, 40, 26520)) _
        refine q_Ru_seg (g2 := (9, [(0, .int 1), (1, .int 63)], [], (q_cX (q_uA q_AX 35 (upd (upd w521 2 32) 3 108)) (q_uI q_IX 34 3 4) q_J0, 40, 26520))) 1 (fun _ _ => rfl) ?_
        exact q_Ru_ret rfl rfl
      show q_Ru _ _ _ (6, [(0, .ref 40), (1, .int 1)], [], (q_cX (q_uA q_AX 35 (upd (upd w521 2 32) 3 108)) (q_uI q_IX 34 3 4) q_J0, 40, 26520)) _
      refine q_Ru_seg (g2 := (9, [(0, .ref 40), (1, .int 1)], [.int 100], (q_cX (q_uA q_AX 35 (upd (upd w521 2 32) 3 108)) (q_uI q_IX 34 3 4) q_J0, 40, 26520))) 3 (fun _ _ => rfl) ?_
      refine q_Ru_seg (g2 := (14, [(0, .ref 40), (1, .int 1)], [.int 100], (q_cX (q_uA q_AX 35 (upd (upd w521 2 32) 3 108)) (q_uI q_IX 34 3 4) q_J0, 40, 26520))) 3 (fun _ _ => rfl) ?_
      exact q_Ru_ret rfl rfl
    show q_Ru _ _ _ (15, [(0, .ref 12), (1, .int 1)], [.int 100], (q_cX (q_uA q_AX 35 (upd (upd w521 2 32) 3 108)) (q_uI q_IX 34 3 4) q_J0, 40, 26520)) _
    exact q_Ru_ret rfl rfl
  show q_Ru _ _ _ (78, [(5, .int 1), (4, .int 0), (3, .ref 12), (2, .int 0), (0, .ref 98), (1, .int 0)], [.int 100, .ref 98], (q_cX (q_uA q_AX 35 (upd (upd w521 2 32) 3 108)) (q_uI q_IX 34 3 4) q_J0, 40, 26520)) _
  refine q_Ru_call (v := (some (.ref 98))) (h2 := (q_cX (q_uA q_AX 35 (upd (upd (upd w521 2 32) 3 108) 4 100)) (q_uI q_IX 34 3 5) q_J0, 40, 26520)) rfl rfl ?_ ?_
  · refine q_Ca_of (Nat.le_of_ble_eq_true rfl) ?_
    refine q_Ru_seg (g2 := (2, [(0, .ref 98), (1, .int 100)], [.int 100, .ref 98], (q_cX (q_uA q_AX 35 (upd (upd w521 2 32) 3 108)) (q_uI q_IX 34 3 4) q_J0, 40, 26520))) 2 (fun _ _ => rfl) ?_
    refine q_Ru_call (v := (some (.ref 98))) (h2 := (q_cX (q_uA q_AX 35 (upd (upd (upd w521 2 32) 3 108) 4 100)) (q_uI q_IX 34 3 5) q_J0, 40, 26520)) rfl rfl ?_ ?_
    · refine q_Ca_of (Nat.le_of_ble_eq_true rfl) ?_
      refine q_Ru_seg (g2 := (5, [(0, .ref 98), (1, .int 100)], [.int 4, .ref 98], (q_cX (q_uA q_AX 35 (upd (upd w521 2 32) 3 108)) (q_uI q_IX 34 3 4) q_J0, 40, 26520))) 3 (fun _ _ => rfl) ?_
      refine q_Ru_seg (g2 := (7, [(0, .ref 98), (1, .int 100)], [.int 5, .ref 98], (q_cX (q_uA q_AX 35 (upd (upd w521 2 32) 3 108)) (q_uI q_IX 34 3 4) q_J0, 40, 26520))) 2 (fun _ _ => rfl) ?_
      refine q_Ru_call (v := none) (h2 := (q_cX (q_uA q_AX 35 (upd (upd w521 2 32) 3 108)) (q_uI q_IX 34 3 4) q_J0, 40, 26520)) rfl rfl ?_ ?_
      · refine q_Ca_of (Nat.le_of_ble_eq_true rfl) ?_
        refine q_Ru_seg (g2 := (9, [(0, .ref 98), (1, .int 5)], [.int 0, .int 16], (q_cX (q_uA q_AX 35 (upd (upd w521 2 32) 3 108)) (q_uI q_IX 34 3 4) q_J0, 40, 26520))) 5 (fun _ _ => rfl) ?_
        refine q_Ru_seg (g2 := (38, [(2, .int 16), (0, .ref 98), (1, .int 5)], [], (q_cX (q_uA q_AX 35 (upd (upd w521 2 32) 3 108)) (q_uI q_IX 34 3 4) q_J0, 40, 26520))) 6 (fun _ _ => rfl) ?_
        exact q_Ru_ret rfl rfl
      show q_Ru _ _ _ (10, [(0, .ref 98), (1, .int 100)], [], (q_cX (q_uA q_AX 35 (upd (upd w521 2 32) 3 108)) (q_uI q_IX 34 3 4) q_J0, 40, 26520)) _
      refine q_Ru_seg (g2 := (11, [(0, .ref 98), (1, .int 100)], [.ref 98], (q_cX (q_uA q_AX 35 (upd (upd w521 2 32) 3 108)) (q_uI q_IX 34 3 4) q_J0, 40, 26520))) 1 (fun _ _ => rfl) ?_
      refine q_Ru_call (v := (some (.int 1))) (h2 := (q_cX (q_uA q_AX 35 (upd (upd w521 2 32) 3 108)) (q_uI q_IX 34 3 4) q_J0, 40, 26520)) rfl rfl ?_ ?_
      · refine q_Ca_of (Nat.le_of_ble_eq_true rfl) ?_
        refine q_Ru_seg (g2 := (10, [(0, .ref 98)], [.int 0], (q_cX (q_uA q_AX 35 (upd (upd w521 2 32) 3 108)) (q_uI q_IX 34 3 4) q_J0, 40, 26520))) 4 (fun _ _ => rfl) ?_
        refine q_Ru_seg (g2 := (18, [(0, .ref 98)], [.int 1], (q_cX (q_uA q_AX 35 (upd (upd w521 2 32) 3 108)) (q_uI q_IX 34 3 4) q_J0, 40, 26520))) 3 (fun _ _ => rfl) ?_
        exact q_Ru_ret rfl rfl
      show q_Ru _ _ _ (14, [(0, .ref 98), (1, .int 100)], [.int 1], (q_cX (q_uA q_AX 35 (upd (upd w521 2 32) 3 108)) (q_uI q_IX 34 3 4) q_J0, 40, 26520)) _
      refine q_Ru_seg (g2 := (18, [(0, .ref 98), (1, .int 100)], [.int 100], (q_cX (q_uA q_AX 35 (upd (upd w521 2 32) 3 108)) (q_uI q_IX 34 3 4) q_J0, 40, 26520))) 2 (fun _ _ => rfl) ?_
      refine q_Ru_call (v := (some (.int 1))) (h2 := (q_cX (q_uA q_AX 35 (upd (upd w521 2 32) 3 108)) (q_uI q_IX 34 3 4) q_J0, 40, 26520)) rfl rfl ?_ ?_
      · refine q_Ca_of (Nat.le_of_ble_eq_true rfl) ?_
        refine q_Ru_seg (g2 := (12, [(0, .int 100)], [.int 1], (q_cX (q_uA q_AX 35 (upd (upd w521 2 32) 3 108)) (q_uI q_IX 34 3 4) q_J0, 40, 26520))) 5 (fun _ _ => rfl) ?_
        exact q_Ru_ret rfl rfl
      show q_Ru _ _ _ (21, [(0, .ref 98), (1, .int 100)], [.int 1], (q_cX (q_uA q_AX 35 (upd (upd w521 2 32) 3 108)) (q_uI q_IX 34 3 4) q_J0, 40, 26520)) _
      refine q_Ru_seg (g2 := (33, [(0, .ref 98), (1, .int 100)], [.int 4, .ref 98, .ref 99], (q_cX (q_uA q_AX 35 (upd (upd w521 2 32) 3 108)) (q_uI q_IX 34 3 4) q_J0, 40, 26520))) 6 (fun _ _ => rfl) ?_
      refine q_Ru_seg (g2 := (41, [(0, .ref 98), (1, .int 100)], [.int 100, .int 4, .ref 99], (q_cX (q_uA q_AX 35 (upd (upd w521 2 32) 3 108)) (q_uI q_IX 34 3 5) q_J0, 40, 26520))) 6 (fun _ _ => rfl) ?_
      refine q_Ru_rsT (g2 := (42, [(0, .ref 98), (1, .int 100)], [], (q_cX (q_uA q_AX 35 (upd (upd (upd w521 2 32) 3 108) 4 100)) (q_uI q_IX 34 3 5) q_J0, 40, 26520))) rfl q_astB_35 rfl ?_
      generalize (upd (upd (upd w521 2 32) 3 108) 4 100) = w524
      refine q_Ru_seg (g2 := (76, [(0, .ref 98), (1, .int 100)], [.ref 98], (q_cX (q_uA q_AX 35 w524) (q_uI q_IX 34 3 5) q_J0, 40, 26520))) 2 (fun _ _ => rfl) ?_
      exact q_Ru_ret rfl rfl
    show q_Ru _ _ _ (5, [(0, .ref 98), (1, .int 100)], [.ref 98], (q_cX (q_uA q_AX 35 (upd (upd (upd w521 2 32) 3 108) 4 100)) (q_uI q_IX 34 3 5) q_J0, 40, 26520)) _
    refine q_Ru_seg (g2 := (7, [(0, .ref 98), (1, .int 100)], [.ref 98], (q_cX (q_uA q_AX 35 (upd (upd (upd w521 2 32) 3 108) 4 100)) (q_uI q_IX 34 3 5) q_J0, 40, 26520))) 2 (fun _ _ => rfl) ?_
    exact q_Ru_ret rfl rfl
  show q_Ru _ _ _ (81, [(5, .int 1), (4, .int 0), (3, .ref 12), (2, .int 0), (0, .ref 98), (1, .int 0)], [.ref 98], (q_cX (q_uA q_AX 35 (upd (upd (upd w521 2 32) 3 108) 4 100)) (q_uI q_IX 34 3 5) q_J0, 40, 26520)) _
  exact q_Ru_le (Nat.le_of_ble_eq_true rfl) (q_xc223 L xs a hl_a hu_a w521)
set_option maxHeartbeats 20000000 in
theorem q_xc225 (L : Nat) (xs : Nat → Int32) (a : Int32) (hl_a : 10 ≤ a.toInt) (hu_a : a.toInt ≤ 99) (w521 : Nat → Int32) : q_Ru (q_TBs 99 L xs) 4 194 (47, [(4, .int 0), (3, .ref 12), (2, .int 0), (0, .ref 98), (1, .int 0)], [.int 63, .int 2], (q_cX (q_uA q_AX 35 (upd w521 2 32)) (q_uI q_IX 34 3 3) q_J0, 40, 26520)) (.inl none, (q_cX (q_uA q_AX 35 (upd (upd (upd (upd w521 2 32) 3 108) 4 100) 5 97)) (q_uI q_IX 34 3 6) q_J0, 40, 26520)) := by
  refine q_Ru_seg (g2 := (75, [(5, .int 0), (4, .int 0), (3, .ref 12), (2, .int 0), (0, .ref 98), (1, .int 0)], [.int 0, .ref 12, .ref 98], (q_cX (q_uA q_AX 35 (upd w521 2 32)) (q_uI q_IX 34 3 3) q_J0, 40, 26520))) 11 (fun _ _ => rfl) ?_
  refine q_Ru_call (v := (some (.int 108))) (h2 := (q_cX (q_uA q_AX 35 (upd w521 2 32)) (q_uI q_IX 34 3 3) q_J0, 40, 26520)) rfl rfl ?_ ?_
  · refine q_Ca_of (Nat.le_of_ble_eq_true rfl) ?_
    refine q_Ru_seg (g2 := (1, [(0, .ref 12), (1, .int 0)], [.ref 12], (q_cX (q_uA q_AX 35 (upd w521 2 32)) (q_uI q_IX 34 3 3) q_J0, 40, 26520))) 1 (fun _ _ => rfl) ?_
    refine q_Ru_call (v := (some (.int 1))) (h2 := (q_cX (q_uA q_AX 35 (upd w521 2 32)) (q_uI q_IX 34 3 3) q_J0, 40, 26520)) rfl rfl ?_ ?_
    · refine q_Ca_of (Nat.le_of_ble_eq_true rfl) ?_
      refine q_Ru_seg (g2 := (18, [(0, .ref 12)], [.int 1], (q_cX (q_uA q_AX 35 (upd w521 2 32)) (q_uI q_IX 34 3 3) q_J0, 40, 26520))) 7 (fun _ _ => rfl) ?_
      exact q_Ru_ret rfl rfl
    show q_Ru _ _ _ (4, [(0, .ref 12), (1, .int 0)], [.int 1], (q_cX (q_uA q_AX 35 (upd w521 2 32)) (q_uI q_IX 34 3 3) q_J0, 40, 26520)) _
    refine q_Ru_seg (g2 := (12, [(0, .ref 12), (1, .int 0)], [.int 0, .ref 40], (q_cX (q_uA q_AX 35 (upd w521 2 32)) (q_uI q_IX 34 3 3) q_J0, 40, 26520))) 4 (fun _ _ => rfl) ?_
    refine q_Ru_call (v := (some (.int 108))) (h2 := (q_cX (q_uA q_AX 35 (upd w521 2 32)) (q_uI q_IX 34 3 3) q_J0, 40, 26520)) rfl rfl ?_ ?_
    · refine q_Ca_of (Nat.le_of_ble_eq_true rfl) ?_
      refine q_Ru_seg (g2 := (3, [(0, .ref 40), (1, .int 0)], [.int 63, .int 0], (q_cX (q_uA q_AX 35 (upd w521 2 32)) (q_uI q_IX 34 3 3) q_J0, 40, 26520))) 3 (fun _ _ => rfl) ?_
      refine q_Ru_call (v := none) (h2 := (q_cX (q_uA q_AX 35 (upd w521 2 32)) (q_uI q_IX 34 3 3) q_J0, 40, 26520)) rfl rfl ?_ ?_
      · refine q_Ca_of (Nat.le_of_ble_eq_true rfl) ?_
        refine q_Ru_seg (g2 := (5, [(0, .int 0), (1, .int 63)], [.ref 9, .int 63, .int 0], (q_cX (q_uA q_AX 35 (upd w521 2 32)) (q_uI q_IX 34 3 3) q_J0, 40, 26520))) 3 (fun _ _ => rfl) ?_
        refine q_Ru_call (v := (some (.int 0))) (h2 := (q_cX (q_uA q_AX 35 (upd w521 2 32)) (q_uI q_IX 34 3 3) q_J0, 40, 26520)) rfl rfl ?_ ?_
        · refine q_Ca_of (Nat.le_of_ble_eq_true rfl) ?_
          refine q_Ru_seg (g2 := (17, [(0, .int 0), (1, .int 63), (2, .ref 9)], [.int 0], (q_cX (q_uA q_AX 35 (upd w521 2 32)) (q_uI q_IX 34 3 3) q_J0, 40, 26520))) 6 (fun _ _ => rfl) ?_
          exact q_Ru_ret rfl rfl
        show q_Ru _ _ _ (8, [(0, .int 0), (1, .int 63)], [.int 0], (q_cX (q_uA q_AX 35 (upd w521 2 32)) (q_uI q_IX 34 3 3) q_J0, 40, 26520)) _
        refine q_Ru_seg (g2 := (9, [(0, .int 0), (1, .int 63)], [], (q_cX (q_uA q_AX 35 (upd w521 2 32)) (q_uI q_IX 34 3 3) q_J0, 40, 26520))) 1 (fun _ _ => rfl) ?_
        exact q_Ru_ret rfl rfl
      show q_Ru _ _ _ (6, [(0, .ref 40), (1, .int 0)], [], (q_cX (q_uA q_AX 35 (upd w521 2 32)) (q_uI q_IX 34 3 3) q_J0, 40, 26520)) _
      refine q_Ru_seg (g2 := (9, [(0, .ref 40), (1, .int 0)], [.int 108], (q_cX (q_uA q_AX 35 (upd w521 2 32)) (q_uI q_IX 34 3 3) q_J0, 40, 26520))) 3 (fun _ _ => rfl) ?_
      refine q_Ru_seg (g2 := (14, [(0, .ref 40), (1, .int 0)], [.int 108], (q_cX (q_uA q_AX 35 (upd w521 2 32)) (q_uI q_IX 34 3 3) q_J0, 40, 26520))) 3 (fun _ _ => rfl) ?_
      exact q_Ru_ret rfl rfl
    show q_Ru _ _ _ (15, [(0, .ref 12), (1, .int 0)], [.int 108], (q_cX (q_uA q_AX 35 (upd w521 2 32)) (q_uI q_IX 34 3 3) q_J0, 40, 26520)) _
    exact q_Ru_ret rfl rfl
  show q_Ru _ _ _ (78, [(5, .int 0), (4, .int 0), (3, .ref 12), (2, .int 0), (0, .ref 98), (1, .int 0)], [.int 108, .ref 98], (q_cX (q_uA q_AX 35 (upd w521 2 32)) (q_uI q_IX 34 3 3) q_J0, 40, 26520)) _
  refine q_Ru_call (v := (some (.ref 98))) (h2 := (q_cX (q_uA q_AX 35 (upd (upd w521 2 32) 3 108)) (q_uI q_IX 34 3 4) q_J0, 40, 26520)) rfl rfl ?_ ?_
  · refine q_Ca_of (Nat.le_of_ble_eq_true rfl) ?_
    refine q_Ru_seg (g2 := (2, [(0, .ref 98), (1, .int 108)], [.int 108, .ref 98], (q_cX (q_uA q_AX 35 (upd w521 2 32)) (q_uI q_IX 34 3 3) q_J0, 40, 26520))) 2 (fun _ _ => rfl) ?_
    refine q_Ru_call (v := (some (.ref 98))) (h2 := (q_cX (q_uA q_AX 35 (upd (upd w521 2 32) 3 108)) (q_uI q_IX 34 3 4) q_J0, 40, 26520)) rfl rfl ?_ ?_
    · refine q_Ca_of (Nat.le_of_ble_eq_true rfl) ?_
      refine q_Ru_seg (g2 := (5, [(0, .ref 98), (1, .int 108)], [.int 3, .ref 98], (q_cX (q_uA q_AX 35 (upd w521 2 32)) (q_uI q_IX 34 3 3) q_J0, 40, 26520))) 3 (fun _ _ => rfl) ?_
      refine q_Ru_seg (g2 := (7, [(0, .ref 98), (1, .int 108)], [.int 4, .ref 98], (q_cX (q_uA q_AX 35 (upd w521 2 32)) (q_uI q_IX 34 3 3) q_J0, 40, 26520))) 2 (fun _ _ => rfl) ?_
      refine q_Ru_call (v := none) (h2 := (q_cX (q_uA q_AX 35 (upd w521 2 32)) (q_uI q_IX 34 3 3) q_J0, 40, 26520)) rfl rfl ?_ ?_
      · refine q_Ca_of (Nat.le_of_ble_eq_true rfl) ?_
        refine q_Ru_seg (g2 := (9, [(0, .ref 98), (1, .int 4)], [.int 0, .int 16], (q_cX (q_uA q_AX 35 (upd w521 2 32)) (q_uI q_IX 34 3 3) q_J0, 40, 26520))) 5 (fun _ _ => rfl) ?_
        refine q_Ru_seg (g2 := (38, [(2, .int 16), (0, .ref 98), (1, .int 4)], [], (q_cX (q_uA q_AX 35 (upd w521 2 32)) (q_uI q_IX 34 3 3) q_J0, 40, 26520))) 6 (fun _ _ => rfl) ?_
        exact q_Ru_ret rfl rfl
      show q_Ru _ _ _ (10, [(0, .ref 98), (1, .int 108)], [], (q_cX (q_uA q_AX 35 (upd w521 2 32)) (q_uI q_IX 34 3 3) q_J0, 40, 26520)) _
      refine q_Ru_seg (g2 := (11, [(0, .ref 98), (1, .int 108)], [.ref 98], (q_cX (q_uA q_AX 35 (upd w521 2 32)) (q_uI q_IX 34 3 3) q_J0, 40, 26520))) 1 (fun _ _ => rfl) ?_
      refine q_Ru_call (v := (some (.int 1))) (h2 := (q_cX (q_uA q_AX 35 (upd w521 2 32)) (q_uI q_IX 34 3 3) q_J0, 40, 26520)) rfl rfl ?_ ?_
      · refine q_Ca_of (Nat.le_of_ble_eq_true rfl) ?_
        refine q_Ru_seg (g2 := (10, [(0, .ref 98)], [.int 0], (q_cX (q_uA q_AX 35 (upd w521 2 32)) (q_uI q_IX 34 3 3) q_J0, 40, 26520))) 4 (fun _ _ => rfl) ?_
        refine q_Ru_seg (g2 := (18, [(0, .ref 98)], [.int 1], (q_cX (q_uA q_AX 35 (upd w521 2 32)) (q_uI q_IX 34 3 3) q_J0, 40, 26520))) 3 (fun _ _ => rfl) ?_
        exact q_Ru_ret rfl rfl
      show q_Ru _ _ _ (14, [(0, .ref 98), (1, .int 108)], [.int 1], (q_cX (q_uA q_AX 35 (upd w521 2 32)) (q_uI q_IX 34 3 3) q_J0, 40, 26520)) _
      refine q_Ru_seg (g2 := (18, [(0, .ref 98), (1, .int 108)], [.int 108], (q_cX (q_uA q_AX 35 (upd w521 2 32)) (q_uI q_IX 34 3 3) q_J0, 40, 26520))) 2 (fun _ _ => rfl) ?_
      refine q_Ru_call (v := (some (.int 1))) (h2 := (q_cX (q_uA q_AX 35 (upd w521 2 32)) (q_uI q_IX 34 3 3) q_J0, 40, 26520)) rfl rfl ?_ ?_
      · refine q_Ca_of (Nat.le_of_ble_eq_true rfl) ?_
        refine q_Ru_seg (g2 := (12, [(0, .int 108)], [.int 1], (q_cX (q_uA q_AX 35 (upd w521 2 32)) (q_uI q_IX 34 3 3) q_J0, 40, 26520))) 5 (fun _ _ => rfl) ?_
        exact q_Ru_ret rfl rfl
      show q_Ru _ _ _ (21, [(0, .ref 98), (1, .int 108)], [.int 1], (q_cX (q_uA q_AX 35 (upd w521 2 32)) (q_uI q_IX 34 3 3) q_J0, 40, 26520)) _
      refine q_Ru_seg (g2 := (33, [(0, .ref 98), (1, .int 108)], [.int 3, .ref 98, .ref 99], (q_cX (q_uA q_AX 35 (upd w521 2 32)) (q_uI q_IX 34 3 3) q_J0, 40, 26520))) 6 (fun _ _ => rfl) ?_
      refine q_Ru_seg (g2 := (41, [(0, .ref 98), (1, .int 108)], [.int 108, .int 3, .ref 99], (q_cX (q_uA q_AX 35 (upd w521 2 32)) (q_uI q_IX 34 3 4) q_J0, 40, 26520))) 6 (fun _ _ => rfl) ?_
      refine q_Ru_rsT (g2 := (42, [(0, .ref 98), (1, .int 108)], [], (q_cX (q_uA q_AX 35 (upd (upd w521 2 32) 3 108)) (q_uI q_IX 34 3 4) q_J0, 40, 26520))) rfl q_astB_35 rfl ?_
      generalize (upd (upd w521 2 32) 3 108) = w523
      refine q_Ru_seg (g2 := (76, [(0, .ref 98), (1, .int 108)], [.ref 98], (q_cX (q_uA q_AX 35 w523) (q_uI q_IX 34 3 4) q_J0, 40, 26520))) 2 (fun _ _ => rfl) ?_
      exact q_Ru_ret rfl rfl
    show q_Ru _ _ _ (5, [(0, .ref 98), (1, .int 108)], [.ref 98], (q_cX (q_uA q_AX 35 (upd (upd w521 2 32) 3 108)) (q_uI q_IX 34 3 4) q_J0, 40, 26520)) _
    refine q_Ru_seg (g2 := (7, [(0, .ref 98), (1, .int 108)], [.ref 98], (q_cX (q_uA q_AX 35 (upd (upd w521 2 32) 3 108)) (q_uI q_IX 34 3 4) q_J0, 40, 26520))) 2 (fun _ _ => rfl) ?_
    exact q_Ru_ret rfl rfl
  show q_Ru _ _ _ (81, [(5, .int 0), (4, .int 0), (3, .ref 12), (2, .int 0), (0, .ref 98), (1, .int 0)], [.ref 98], (q_cX (q_uA q_AX 35 (upd (upd w521 2 32) 3 108)) (q_uI q_IX 34 3 4) q_J0, 40, 26520)) _
  exact q_Ru_le (Nat.le_of_ble_eq_true rfl) (q_xc224 L xs a hl_a hu_a w521)
set_option maxHeartbeats 20000000 in
theorem q_xc226 (L : Nat) (xs : Nat → Int32) (a : Int32) (hl_a : 10 ≤ a.toInt) (hu_a : a.toInt ≤ 99) (w528 : Nat → Int32) : q_Ru (q_TBs 99 L xs) 3 197 (17, [(0, .ref 98), (1, .int 0), (2, .int 0)], [.ref 98], (q_cX (q_uA q_AX 35 (upd w528 7 35)) (q_uI q_IX 34 3 8) q_J0, 40, 26520)) (.inl none, (q_cX (q_uA q_AX 35 (upd (upd w528 7 35) 8 48)) (q_uI q_IX 34 3 9) q_J0, 40, 26520)) := by
  refine q_Ru_seg (g2 := (36, [(0, .ref 98), (1, .int 0), (2, .int 0)], [.int 0, .ref 98], (q_cX (q_uA q_AX 35 (upd w528 7 35)) (q_uI q_IX 34 3 8) q_J0, 40, 26520))) 4 (fun _ _ => rfl) ?_
  refine q_Ru_call (v := (some (.ref 98))) (h2 := (q_cX (q_uA q_AX 35 (upd (upd w528 7 35) 8 48)) (q_uI q_IX 34 3 9) q_J0, 40, 26520)) rfl rfl ?_ ?_
  · refine q_Ca_of (Nat.le_of_ble_eq_true rfl) ?_
    refine q_Ru_seg (g2 := (2, [(0, .ref 98), (1, .int 0)], [.int 0, .ref 98], (q_cX (q_uA q_AX 35 (upd w528 7 35)) (q_uI q_IX 34 3 8) q_J0, 40, 26520))) 2 (fun _ _ => rfl) ?_
    refine q_Ru_call (v := (some (.ref 98))) (h2 := (q_cX (q_uA q_AX 35 (upd (upd w528 7 35) 8 48)) (q_uI q_IX 34 3 9) q_J0, 40, 26520)) rfl rfl ?_ ?_
    · refine q_Ca_of (Nat.le_of_ble_eq_true rfl) ?_
      refine q_Ru_seg (g2 := (4, [(0, .ref 98), (1, .int 0)], [.int 8], (q_cX (q_uA q_AX 35 (upd w528 7 35)) (q_uI q_IX 34 3 8) q_J0, 40, 26520))) 2 (fun _ _ => rfl) ?_
      refine q_Ru_seg (g2 := (7, [(2, .int 8), (0, .ref 98), (1, .int 0)], [.int 0, .int 8], (q_cX (q_uA q_AX 35 (upd w528 7 35)) (q_uI q_IX 34 3 8) q_J0, 40, 26520))) 3 (fun _ _ => rfl) ?_
      refine q_Ru_call (v := (some (.int 1))) (h2 := (q_cX (q_uA q_AX 35 (upd w528 7 35)) (q_uI q_IX 34 3 8) q_J0, 40, 26520)) rfl rfl ?_ ?_
      · refine q_Ca_of (Nat.le_of_ble_eq_true rfl) ?_
        refine q_Ru_seg (g2 := (30, [(3, .int 1), (2, .int (-10)), (0, .int 0), (1, .int 0)], [.int 1], (q_cX (q_uA q_AX 35 (upd w528 7 35)) (q_uI q_IX 34 3 8) q_J0, 40, 26520))) 22 (fun _ _ => rfl) ?_
        exact q_Ru_ret rfl rfl
      show q_Ru _ _ _ (10, [(2, .int 8), (0, .ref 98), (1, .int 0)], [.int 1, .int 8], (q_cX (q_uA q_AX 35 (upd w528 7 35)) (q_uI q_IX 34 3 8) q_J0, 40, 26520)) _
      refine q_Ru_seg (g2 := (14, [(3, .int 9), (2, .int 8), (0, .ref 98), (1, .int 0)], [.int 9, .ref 98], (q_cX (q_uA q_AX 35 (upd w528 7 35)) (q_uI q_IX 34 3 8) q_J0, 40, 26520))) 4 (fun _ _ => rfl) ?_
      refine q_Ru_call (v := none) (h2 := (q_cX (q_uA q_AX 35 (upd w528 7 35)) (q_uI q_IX 34 3 8) q_J0, 40, 26520)) rfl rfl ?_ ?_
      · refine q_Ca_of (Nat.le_of_ble_eq_true rfl) ?_
        refine q_Ru_seg (g2 := (9, [(0, .ref 98), (1, .int 9)], [.int 0, .int 16], (q_cX (q_uA q_AX 35 (upd w528 7 35)) (q_uI q_IX 34 3 8) q_J0, 40, 26520))) 5 (fun _ _ => rfl) ?_
        refine q_Ru_seg (g2 := (38, [(2, .int 16), (0, .ref 98), (1, .int 9)], [], (q_cX (q_uA q_AX 35 (upd w528 7 35)) (q_uI q_IX 34 3 8) q_J0, 40, 26520))) 6 (fun _ _ => rfl) ?_
        exact q_Ru_ret rfl rfl
      show q_Ru _ _ _ (17, [(3, .int 9), (2, .int 8), (0, .ref 98), (1, .int 0)], [], (q_cX (q_uA q_AX 35 (upd w528 7 35)) (q_uI q_IX 34 3 8) q_J0, 40, 26520)) _
      refine q_Ru_seg (g2 := (18, [(3, .int 9), (2, .int 8), (0, .ref 98), (1, .int 0)], [.ref 98], (q_cX (q_uA q_AX 35 (upd w528 7 35)) (q_uI q_IX 34 3 8) q_J0, 40, 26520))) 1 (fun _ _ => rfl) ?_
      refine q_Ru_call (v := (some (.int 1))) (h2 := (q_cX (q_uA q_AX 35 (upd w528 7 35)) (q_uI q_IX 34 3 8) q_J0, 40, 26520)) rfl rfl ?_ ?_
      · refine q_Ca_of (Nat.le_of_ble_eq_true rfl) ?_
        refine q_Ru_seg (g2 := (10, [(0, .ref 98)], [.int 0], (q_cX (q_uA q_AX 35 (upd w528 7 35)) (q_uI q_IX 34 3 8) q_J0, 40, 26520))) 4 (fun _ _ => rfl) ?_
        refine q_Ru_seg (g2 := (18, [(0, .ref 98)], [.int 1], (q_cX (q_uA q_AX 35 (upd w528 7 35)) (q_uI q_IX 34 3 8) q_J0, 40, 26520))) 3 (fun _ _ => rfl) ?_
        exact q_Ru_ret rfl rfl
      show q_Ru _ _ _ (21, [(3, .int 9), (2, .int 8), (0, .ref 98), (1, .int 0)], [.int 1], (q_cX (q_uA q_AX 35 (upd w528 7 35)) (q_uI q_IX 34 3 8) q_J0, 40, 26520)) _
      refine q_Ru_seg (g2 := (30, [(3, .int 9), (2, .int 8), (0, .ref 98), (1, .int 0)], [.ref 99, .int 9, .int 0], (q_cX (q_uA q_AX 35 (upd w528 7 35)) (q_uI q_IX 34 3 8) q_J0, 40, 26520))) 5 (fun _ _ => rfl) ?_
      refine q_Ru_call (v := (some (.int 8))) (h2 := (q_cX (q_uA q_AX 35 (upd (upd w528 7 35) 8 48)) (q_uI q_IX 34 3 8) q_J0, 40, 26520)) rfl rfl ?_ ?_
      · refine q_Ca_of (Nat.le_of_ble_eq_true rfl) ?_
        refine q_Ru_seg (g2 := (84, [(5, .int 8), (0, .int 0), (6, .int 0), (1, .int 9), (2, .ref 99)], [.int 48, .int 8, .ref 99], (q_cX (q_uA q_AX 35 (upd w528 7 35)) (q_uI q_IX 34 3 8) q_J0, 40, 26520))) 21 (fun _ _ => rfl) ?_
        refine q_Ru_rsT (g2 := (85, [(5, .int 8), (0, .int 0), (6, .int 0), (1, .int 9), (2, .ref 99)], [], (q_cX (q_uA q_AX 35 (upd (upd w528 7 35) 8 48)) (q_uI q_IX 34 3 8) q_J0, 40, 26520))) rfl q_astB_35 rfl ?_
        generalize (upd (upd w528 7 35) 8 48) = w530
        refine q_Ru_seg (g2 := (120, [(5, .int 8), (0, .int 0), (6, .int 0), (1, .int 9), (2, .ref 99)], [.int 8], (q_cX (q_uA q_AX 35 w530) (q_uI q_IX 34 3 8) q_J0, 40, 26520))) 6 (fun _ _ => rfl) ?_
        exact q_Ru_ret rfl rfl
      show q_Ru _ _ _ (33, [(3, .int 9), (2, .int 8), (0, .ref 98), (1, .int 0)], [.int 8], (q_cX (q_uA q_AX 35 (upd (upd w528 7 35) 8 48)) (q_uI q_IX 34 3 8) q_J0, 40, 26520)) _
      refine q_Ru_seg (g2 := (54, [(3, .int 9), (2, .int 8), (0, .ref 98), (1, .int 0)], [.ref 98], (q_cX (q_uA q_AX 35 (upd (upd w528 7 35) 8 48)) (q_uI q_IX 34 3 9) q_J0, 40, 26520))) 6 (fun _ _ => rfl) ?_
      exact q_Ru_ret rfl rfl
    show q_Ru _ _ _ (5, [(0, .ref 98), (1, .int 0)], [.ref 98], (q_cX (q_uA q_AX 35 (upd (upd w528 7 35) 8 48)) (q_uI q_IX 34 3 9) q_J0, 40, 26520)) _
    refine q_Ru_seg (g2 := (7, [(0, .ref 98), (1, .int 0)], [.ref 98], (q_cX (q_uA q_AX 35 (upd (upd w528 7 35) 8 48)) (q_uI q_IX 34 3 9) q_J0, 40, 26520))) 2 (fun _ _ => rfl) ?_
    exact q_Ru_ret rfl rfl
  show q_Ru _ _ _ (39, [(0, .ref 98), (1, .int 0), (2, .int 0)], [.ref 98], (q_cX (q_uA q_AX 35 (upd (upd w528 7 35) 8 48)) (q_uI q_IX 34 3 9) q_J0, 40, 26520)) _
  refine q_Ru_seg (g2 := (134, [(0, .ref 98), (1, .int 0), (2, .int 0)], [], (q_cX (q_uA q_AX 35 (upd (upd w528 7 35) 8 48)) (q_uI q_IX 34 3 9) q_J0, 40, 26520))) 3 (fun _ _ => rfl) ?_
  exact q_Ru_ret rfl rfl
set_option maxHeartbeats 20000000 in
theorem q_xc227 (L : Nat) (xs : Nat → Int32) (a : Int32) (hl_a : 10 ≤ a.toInt) (hu_a : a.toInt ≤ 99) (w521 : Nat → Int32) : q_Ru (q_TBs 99 L xs) 5 195 (106, [(6, .int 0), (5, .int 0), (4, .int 2), (3, .int 0), (0, .ref 98), (1, .ref 66), (2, .int a)], [.int 0, .ref 98], (q_cX (q_uA q_AX 35 (upd (upd (upd (upd w521 2 32) 3 108) 4 100) 5 97)) (q_uI q_IX 34 3 6) q_J0, 40, 26520)) (.inl none, (q_cX (q_uA q_AX 35 (upd (upd (upd (upd (upd (upd (upd w521 2 32) 3 108) 4 100) 5 97) 6 32) 7 35) 8 48)) (q_uI q_IX 34 3 9) q_J0, 40, 26520)) := by
  refine q_Ru_seg (g2 := (108, [(6, .int 0), (5, .int 0), (4, .int 2), (3, .int 0), (0, .ref 98), (1, .ref 66), (2, .int a)], [.int 0, .int 0, .ref 98], (q_cX (q_uA q_AX 35 (upd (upd (upd (upd w521 2 32) 3 108) 4 100) 5 97)) (q_uI q_IX 34 3 6) q_J0, 40, 26520))) 1 (fun _ _ => rfl) ?_
  refine q_Ru_call (v := none) (h2 := (q_cX (q_uA q_AX 35 (upd (upd (upd (upd (upd (upd (upd w521 2 32) 3 108) 4 100) 5 97) 6 32) 7 35) 8 48)) (q_uI q_IX 34 3 9) q_J0, 40, 26520)) rfl rfl ?_ ?_
  · refine q_Ca_of (Nat.le_of_ble_eq_true rfl) ?_
    refine q_Ru_seg (g2 := (3, [(0, .ref 98), (1, .int 0), (2, .int 0)], [.int 32, .ref 98], (q_cX (q_uA q_AX 35 (upd (upd (upd (upd w521 2 32) 3 108) 4 100) 5 97)) (q_uI q_IX 34 3 6) q_J0, 40, 26520))) 2 (fun _ _ => rfl) ?_
    refine q_Ru_call (v := (some (.ref 98))) (h2 := (q_cX (q_uA q_AX 35 (upd (upd (upd (upd (upd w521 2 32) 3 108) 4 100) 5 97) 6 32)) (q_uI q_IX 34 3 7) q_J0, 40, 26520)) rfl rfl ?_ ?_
    · refine q_Ca_of (Nat.le_of_ble_eq_true rfl) ?_
      refine q_Ru_seg (g2 := (2, [(0, .ref 98), (1, .int 32)], [.int 32, .ref 98], (q_cX (q_uA q_AX 35 (upd (upd (upd (upd w521 2 32) 3 108) 4 100) 5 97)) (q_uI q_IX 34 3 6) q_J0, 40, 26520))) 2 (fun _ _ => rfl) ?_
      refine q_Ru_call (v := (some (.ref 98))) (h2 := (q_cX (q_uA q_AX 35 (upd (upd (upd (upd (upd w521 2 32) 3 108) 4 100) 5 97) 6 32)) (q_uI q_IX 34 3 7) q_J0, 40, 26520)) rfl rfl ?_ ?_
      · refine q_Ca_of (Nat.le_of_ble_eq_true rfl) ?_
        refine q_Ru_seg (g2 := (5, [(0, .ref 98), (1, .int 32)], [.int 6, .ref 98], (q_cX (q_uA q_AX 35 (upd (upd (upd (upd w521 2 32) 3 108) 4 100) 5 97)) (q_uI q_IX 34 3 6) q_J0, 40, 26520))) 3 (fun _ _ => rfl) ?_
        refine q_Ru_seg (g2 := (7, [(0, .ref 98), (1, .int 32)], [.int 7, .ref 98], (q_cX (q_uA q_AX 35 (upd (upd (upd (upd w521 2 32) 3 108) 4 100) 5 97)) (q_uI q_IX 34 3 6) q_J0, 40, 26520))) 2 (fun _ _ => rfl) ?_
        refine q_Ru_call (v := none) (h2 := (q_cX (q_uA q_AX 35 (upd (upd (upd (upd w521 2 32) 3 108) 4 100) 5 97)) (q_uI q_IX 34 3 6) q_J0, 40, 26520)) rfl rfl ?_ ?_
        · refine q_Ca_of (Nat.le_of_ble_eq_true rfl) ?_
          refine q_Ru_seg (g2 := (9, [(0, .ref 98), (1, .int 7)], [.int 0, .int 16], (q_cX (q_uA q_AX 35 (upd (upd (upd (upd w521 2 32) 3 108) 4 100) 5 97)) (q_uI q_IX 34 3 6) q_J0, 40, 26520))) 5 (fun _ _ => rfl) ?_
          refine q_Ru_seg (g2 := (38, [(2, .int 16), (0, .ref 98), (1, .int 7)], [], (q_cX (q_uA q_AX 35 (upd (upd (upd (upd w521 2 32) 3 108) 4 100) 5 97)) (q_uI q_IX 34 3 6) q_J0, 40, 26520))) 6 (fun _ _ => rfl) ?_
          exact q_Ru_ret rfl rfl
        show q_Ru _ _ _ (10, [(0, .ref 98), (1, .int 32)], [], (q_cX (q_uA q_AX 35 (upd (upd (upd (upd w521 2 32) 3 108) 4 100) 5 97)) (q_uI q_IX 34 3 6) q_J0, 40, 26520)) _
        refine q_Ru_seg (g2 := (11, [(0, .ref 98), (1, .int 32)], [.ref 98], (q_cX (q_uA q_AX 35 (upd (upd (upd (upd w521 2 32) 3 108) 4 100) 5 97)) (q_uI q_IX 34 3 6) q_J0, 40, 26520))) 1 (fun _ _ => rfl) ?_
        refine q_Ru_call (v := (some (.int 1))) (h2 := (q_cX (q_uA q_AX 35 (upd (upd (upd (upd w521 2 32) 3 108) 4 100) 5 97)) (q_uI q_IX 34 3 6) q_J0, 40, 26520)) rfl rfl ?_ ?_
        · refine q_Ca_of (Nat.le_of_ble_eq_true rfl) ?_
          refine q_Ru_seg (g2 := (10, [(0, .ref 98)], [.int 0], (q_cX (q_uA q_AX 35 (upd (upd (upd (upd w521 2 32) 3 108) 4 100) 5 97)) (q_uI q_IX 34 3 6) q_J0, 40, 26520))) 4 (fun _ _ => rfl) ?_
          refine q_Ru_seg (g2 := (18, [(0, .ref 98)], [.int 1], (q_cX (q_uA q_AX 35 (upd (upd (upd (upd w521 2 32) 3 108) 4 100) 5 97)) (q_uI q_IX 34 3 6) q_J0, 40, 26520))) 3 (fun _ _ => rfl) ?_
          exact q_Ru_ret rfl rfl
        show q_Ru _ _ _ (14, [(0, .ref 98), (1, .int 32)], [.int 1], (q_cX (q_uA q_AX 35 (upd (upd (upd (upd w521 2 32) 3 108) 4 100) 5 97)) (q_uI q_IX 34 3 6) q_J0, 40, 26520)) _
        refine q_Ru_seg (g2 := (18, [(0, .ref 98), (1, .int 32)], [.int 32], (q_cX (q_uA q_AX 35 (upd (upd (upd (upd w521 2 32) 3 108) 4 100) 5 97)) (q_uI q_IX 34 3 6) q_J0, 40, 26520))) 2 (fun _ _ => rfl) ?_
        refine q_Ru_call (v := (some (.int 1))) (h2 := (q_cX (q_uA q_AX 35 (upd (upd (upd (upd w521 2 32) 3 108) 4 100) 5 97)) (q_uI q_IX 34 3 6) q_J0, 40, 26520)) rfl rfl ?_ ?_
        · refine q_Ca_of (Nat.le_of_ble_eq_true rfl) ?_
          refine q_Ru_seg (g2 := (12, [(0, .int 32)], [.int 1], (q_cX (q_uA q_AX 35 (upd (upd (upd (upd w521 2 32) 3 108) 4 100) 5 97)) (q_uI q_IX 34 3 6) q_J0, 40, 26520))) 5 (fun _ _ => rfl) ?_
          exact q_Ru_ret rfl rfl
        show q_Ru _ _ _ (21, [(0, .ref 98), (1, .int 32)], [.int 1], (q_cX (q_uA q_AX 35 (upd (upd (upd (upd w521 2 32) 3 108) 4 100) 5 97)) (q_uI q_IX 34 3 6) q_J0, 40, 26520)) _
        refine q_Ru_seg (g2 := (33, [(0, .ref 98), (1, .int 32)], [.int 6, .ref 98, .ref 99], (q_cX (q_uA q_AX 35 (upd (upd (upd (upd w521 2 32) 3 108) 4 100) 5 97)) (q_uI q_IX 34 3 6) q_J0, 40, 26520))) 6 (fun _ _ => rfl) ?_
        refine q_Ru_seg (g2 := (41, [(0, .ref 98), (1, .int 32)], [.int 32, .int 6, .ref 99], (q_cX (q_uA q_AX 35 (upd (upd (upd (upd w521 2 32) 3 108) 4 100) 5 97)) (q_uI q_IX 34 3 7) q_J0, 40, 26520))) 6 (fun _ _ => rfl) ?_
        refine q_Ru_rsT (g2 := (42, [(0, .ref 98), (1, .int 32)], [], (q_cX (q_uA q_AX 35 (upd (upd (upd (upd (upd w521 2 32) 3 108) 4 100) 5 97) 6 32)) (q_uI q_IX 34 3 7) q_J0, 40, 26520))) rfl q_astB_35 rfl ?_
        generalize (upd (upd (upd (upd (upd w521 2 32) 3 108) 4 100) 5 97) 6 32) = w526
        refine q_Ru_seg (g2 := (76, [(0, .ref 98), (1, .int 32)], [.ref 98], (q_cX (q_uA q_AX 35 w526) (q_uI q_IX 34 3 7) q_J0, 40, 26520))) 2 (fun _ _ => rfl) ?_
        exact q_Ru_ret rfl rfl
      show q_Ru _ _ _ (5, [(0, .ref 98), (1, .int 32)], [.ref 98], (q_cX (q_uA q_AX 35 (upd (upd (upd (upd (upd w521 2 32) 3 108) 4 100) 5 97) 6 32)) (q_uI q_IX 34 3 7) q_J0, 40, 26520)) _
      generalize (upd (upd (upd (upd (upd w521 2 32) 3 108) 4 100) 5 97) 6 32) = w527
      refine q_Ru_seg (g2 := (7, [(0, .ref 98), (1, .int 32)], [.ref 98], (q_cX (q_uA q_AX 35 w527) (q_uI q_IX 34 3 7) q_J0, 40, 26520))) 2 (fun _ _ => rfl) ?_
      exact q_Ru_ret rfl rfl
    show q_Ru _ _ _ (6, [(0, .ref 98), (1, .int 0), (2, .int 0)], [.ref 98], (q_cX (q_uA q_AX 35 (upd (upd (upd (upd (upd w521 2 32) 3 108) 4 100) 5 97) 6 32)) (q_uI q_IX 34 3 7) q_J0, 40, 26520)) _
    generalize (upd (upd (upd (upd (upd w521 2 32) 3 108) 4 100) 5 97) 6 32) = w528
    refine q_Ru_seg (g2 := (14, [(0, .ref 98), (1, .int 0), (2, .int 0)], [.int 35, .ref 98], (q_cX (q_uA q_AX 35 w528) (q_uI q_IX 34 3 7) q_J0, 40, 26520))) 5 (fun _ _ => rfl) ?_
    refine q_Ru_call (v := (some (.ref 98))) (h2 := (q_cX (q_uA q_AX 35 (upd w528 7 35)) (q_uI q_IX 34 3 8) q_J0, 40, 26520)) rfl rfl ?_ ?_
    · refine q_Ca_of (Nat.le_of_ble_eq_true rfl) ?_
      refine q_Ru_seg (g2 := (2, [(0, .ref 98), (1, .int 35)], [.int 35, .ref 98], (q_cX (q_uA q_AX 35 w528) (q_uI q_IX 34 3 7) q_J0, 40, 26520))) 2 (fun _ _ => rfl) ?_
      refine q_Ru_call (v := (some (.ref 98))) (h2 := (q_cX (q_uA q_AX 35 (upd w528 7 35)) (q_uI q_IX 34 3 8) q_J0, 40, 26520)) rfl rfl ?_ ?_
      · refine q_Ca_of (Nat.le_of_ble_eq_true rfl) ?_
        refine q_Ru_seg (g2 := (5, [(0, .ref 98), (1, .int 35)], [.int 7, .ref 98], (q_cX (q_uA q_AX 35 w528) (q_uI q_IX 34 3 7) q_J0, 40, 26520))) 3 (fun _ _ => rfl) ?_
        refine q_Ru_seg (g2 := (7, [(0, .ref 98), (1, .int 35)], [.int 8, .ref 98], (q_cX (q_uA q_AX 35 w528) (q_uI q_IX 34 3 7) q_J0, 40, 26520))) 2 (fun _ _ => rfl) ?_
        refine q_Ru_call (v := none) (h2 := (q_cX (q_uA q_AX 35 w528) (q_uI q_IX 34 3 7) q_J0, 40, 26520)) rfl rfl ?_ ?_
        · refine q_Ca_of (Nat.le_of_ble_eq_true rfl) ?_
          refine q_Ru_seg (g2 := (9, [(0, .ref 98), (1, .int 8)], [.int 0, .int 16], (q_cX (q_uA q_AX 35 w528) (q_uI q_IX 34 3 7) q_J0, 40, 26520))) 5 (fun _ _ => rfl) ?_
          refine q_Ru_seg (g2 := (38, [(2, .int 16), (0, .ref 98), (1, .int 8)], [], (q_cX (q_uA q_AX 35 w528) (q_uI q_IX 34 3 7) q_J0, 40, 26520))) 6 (fun _ _ => rfl) ?_
          exact q_Ru_ret rfl rfl
        show q_Ru _ _ _ (10, [(0, .ref 98), (1, .int 35)], [], (q_cX (q_uA q_AX 35 w528) (q_uI q_IX 34 3 7) q_J0, 40, 26520)) _
        refine q_Ru_seg (g2 := (11, [(0, .ref 98), (1, .int 35)], [.ref 98], (q_cX (q_uA q_AX 35 w528) (q_uI q_IX 34 3 7) q_J0, 40, 26520))) 1 (fun _ _ => rfl) ?_
        refine q_Ru_call (v := (some (.int 1))) (h2 := (q_cX (q_uA q_AX 35 w528) (q_uI q_IX 34 3 7) q_J0, 40, 26520)) rfl rfl ?_ ?_
        · refine q_Ca_of (Nat.le_of_ble_eq_true rfl) ?_
          refine q_Ru_seg (g2 := (10, [(0, .ref 98)], [.int 0], (q_cX (q_uA q_AX 35 w528) (q_uI q_IX 34 3 7) q_J0, 40, 26520))) 4 (fun _ _ => rfl) ?_
          refine q_Ru_seg (g2 := (18, [(0, .ref 98)], [.int 1], (q_cX (q_uA q_AX 35 w528) (q_uI q_IX 34 3 7) q_J0, 40, 26520))) 3 (fun _ _ => rfl) ?_
          exact q_Ru_ret rfl rfl
        show q_Ru _ _ _ (14, [(0, .ref 98), (1, .int 35)], [.int 1], (q_cX (q_uA q_AX 35 w528) (q_uI q_IX 34 3 7) q_J0, 40, 26520)) _
        refine q_Ru_seg (g2 := (18, [(0, .ref 98), (1, .int 35)], [.int 35], (q_cX (q_uA q_AX 35 w528) (q_uI q_IX 34 3 7) q_J0, 40, 26520))) 2 (fun _ _ => rfl) ?_
        refine q_Ru_call (v := (some (.int 1))) (h2 := (q_cX (q_uA q_AX 35 w528) (q_uI q_IX 34 3 7) q_J0, 40, 26520)) rfl rfl ?_ ?_
        · refine q_Ca_of (Nat.le_of_ble_eq_true rfl) ?_
          refine q_Ru_seg (g2 := (12, [(0, .int 35)], [.int 1], (q_cX (q_uA q_AX 35 w528) (q_uI q_IX 34 3 7) q_J0, 40, 26520))) 5 (fun _ _ => rfl) ?_
          exact q_Ru_ret rfl rfl
        show q_Ru _ _ _ (21, [(0, .ref 98), (1, .int 35)], [.int 1], (q_cX (q_uA q_AX 35 w528) (q_uI q_IX 34 3 7) q_J0, 40, 26520)) _
        refine q_Ru_seg (g2 := (33, [(0, .ref 98), (1, .int 35)], [.int 7, .ref 98, .ref 99], (q_cX (q_uA q_AX 35 w528) (q_uI q_IX 34 3 7) q_J0, 40, 26520))) 6 (fun _ _ => rfl) ?_
        refine q_Ru_seg (g2 := (41, [(0, .ref 98), (1, .int 35)], [.int 35, .int 7, .ref 99], (q_cX (q_uA q_AX 35 w528) (q_uI q_IX 34 3 8) q_J0, 40, 26520))) 6 (fun _ _ => rfl) ?_
        refine q_Ru_rsT (g2 := (42, [(0, .ref 98), (1, .int 35)], [], (q_cX (q_uA q_AX 35 (upd w528 7 35)) (q_uI q_IX 34 3 8) q_J0, 40, 26520))) rfl q_astB_35 rfl ?_
        generalize (upd w528 7 35) = w529
        refine q_Ru_seg (g2 := (76, [(0, .ref 98), (1, .int 35)], [.ref 98], (q_cX (q_uA q_AX 35 w529) (q_uI q_IX 34 3 8) q_J0, 40, 26520))) 2 (fun _ _ => rfl) ?_
        exact q_Ru_ret rfl rfl
      show q_Ru _ _ _ (5, [(0, .ref 98), (1, .int 35)], [.ref 98], (q_cX (q_uA q_AX 35 (upd w528 7 35)) (q_uI q_IX 34 3 8) q_J0, 40, 26520)) _
      refine q_Ru_seg (g2 := (7, [(0, .ref 98), (1, .int 35)], [.ref 98], (q_cX (q_uA q_AX 35 (upd w528 7 35)) (q_uI q_IX 34 3 8) q_J0, 40, 26520))) 2 (fun _ _ => rfl) ?_
      exact q_Ru_ret rfl rfl
    show q_Ru _ _ _ (17, [(0, .ref 98), (1, .int 0), (2, .int 0)], [.ref 98], (q_cX (q_uA q_AX 35 (upd w528 7 35)) (q_uI q_IX 34 3 8) q_J0, 40, 26520)) _
    exact q_Ru_le (Nat.le_of_ble_eq_true rfl) (q_xc226 L xs a hl_a hu_a w528)
  show q_Ru _ _ _ (111, [(6, .int 0), (5, .int 0), (4, .int 2), (3, .int 0), (0, .ref 98), (1, .ref 66), (2, .int a)], [], (q_cX (q_uA q_AX 35 (upd (upd (upd (upd (upd (upd (upd w521 2 32) 3 108) 4 100) 5 97) 6 32) 7 35) 8 48)) (q_uI q_IX 34 3 9) q_J0, 40, 26520)) _
  generalize (upd (upd (upd (upd (upd (upd (upd w521 2 32) 3 108) 4 100) 5 97) 6 32) 7 35) 8 48) = w531
  exact q_Ru_ret rfl rfl
set_option maxHeartbeats 20000000 in
theorem q_xc228 (L : Nat) (xs : Nat → Int32) (a : Int32) (hl_a : 10 ≤ a.toInt) (hu_a : a.toInt ≤ 99) (w521 : Nat → Int32) : q_Ru (q_TBs 99 L xs) 5 195 (42, [(5, .int 0), (4, .int 2), (3, .int 0), (0, .ref 98), (1, .ref 66), (2, .int a)], [.ref 98], (q_cX (q_uA q_AX 35 (upd w521 2 32)) (q_uI q_IX 34 3 3) q_J0, 40, 26520)) (.inl none, (q_cX (q_uA q_AX 35 (upd (upd (upd (upd (upd (upd (upd w521 2 32) 3 108) 4 100) 5 97) 6 32) 7 35) 8 48)) (q_uI q_IX 34 3 9) q_J0, 40, 26520)) := by
  refine q_Ru_seg (g2 := (45, [(5, .int 0), (4, .int 2), (3, .int 0), (0, .ref 98), (1, .ref 66), (2, .int a)], [.int 0, .ref 98], (q_cX (q_uA q_AX 35 (upd w521 2 32)) (q_uI q_IX 34 3 3) q_J0, 40, 26520))) 3 (fun _ _ => rfl) ?_
  refine q_Ru_call (v := none) (h2 := (q_cX (q_uA q_AX 35 (upd (upd (upd (upd w521 2 32) 3 108) 4 100) 5 97)) (q_uI q_IX 34 3 6) q_J0, 40, 26520)) rfl rfl ?_ ?_
  · refine q_Ca_of (Nat.le_of_ble_eq_true rfl) ?_
    refine q_Ru_seg (g2 := (1, [(0, .ref 98), (1, .int 0)], [.int 0], (q_cX (q_uA q_AX 35 (upd w521 2 32)) (q_uI q_IX 34 3 3) q_J0, 40, 26520))) 1 (fun _ _ => rfl) ?_
    refine q_Ru_call (v := (some (.int 0))) (h2 := (q_cX (q_uA q_AX 35 (upd w521 2 32)) (q_uI q_IX 34 3 3) q_J0, 40, 26520)) rfl rfl ?_ ?_
    · refine q_Ca_of (Nat.le_of_ble_eq_true rfl) ?_
      refine q_Ru_seg (g2 := (11, [(0, .int 0)], [.int 0], (q_cX (q_uA q_AX 35 (upd w521 2 32)) (q_uI q_IX 34 3 3) q_J0, 40, 26520))) 6 (fun _ _ => rfl) ?_
      exact q_Ru_ret rfl rfl
    show q_Ru _ _ _ (4, [(0, .ref 98), (1, .int 0)], [.int 0], (q_cX (q_uA q_AX 35 (upd w521 2 32)) (q_uI q_IX 34 3 3) q_J0, 40, 26520)) _
    refine q_Ru_seg (g2 := (44, [(4, .int 0), (3, .ref 12), (2, .int 0), (0, .ref 98), (1, .int 0)], [.ref 12, .int 2], (q_cX (q_uA q_AX 35 (upd w521 2 32)) (q_uI q_IX 34 3 3) q_J0, 40, 26520))) 19 (fun _ _ => rfl) ?_
    refine q_Ru_call (v := (some (.int 63))) (h2 := (q_cX (q_uA q_AX 35 (upd w521 2 32)) (q_uI q_IX 34 3 3) q_J0, 40, 26520)) rfl rfl ?_ ?_
    · refine q_Ca_of (Nat.le_of_ble_eq_true rfl) ?_
      refine q_Ru_seg (g2 := (6, [(0, .ref 12)], [.ref 12, .int 63], (q_cX (q_uA q_AX 35 (upd w521 2 32)) (q_uI q_IX 34 3 3) q_J0, 40, 26520))) 4 (fun _ _ => rfl) ?_
      refine q_Ru_call (v := (some (.int 0))) (h2 := (q_cX (q_uA q_AX 35 (upd w521 2 32)) (q_uI q_IX 34 3 3) q_J0, 40, 26520)) rfl rfl ?_ ?_
      · refine q_Ca_of (Nat.le_of_ble_eq_true rfl) ?_
        refine q_Ru_seg (g2 := (14, [(0, .ref 12)], [.int 0], (q_cX (q_uA q_AX 35 (upd w521 2 32)) (q_uI q_IX 34 3 3) q_J0, 40, 26520))) 5 (fun _ _ => rfl) ?_
        exact q_Ru_ret rfl rfl
      show q_Ru _ _ _ (9, [(0, .ref 12)], [.int 0, .int 63], (q_cX (q_uA q_AX 35 (upd w521 2 32)) (q_uI q_IX 34 3 3) q_J0, 40, 26520)) _
      refine q_Ru_seg (g2 := (10, [(0, .ref 12)], [.int 63], (q_cX (q_uA q_AX 35 (upd w521 2 32)) (q_uI q_IX 34 3 3) q_J0, 40, 26520))) 1 (fun _ _ => rfl) ?_
      exact q_Ru_ret rfl rfl
    show q_Ru _ _ _ (47, [(4, .int 0), (3, .ref 12), (2, .int 0), (0, .ref 98), (1, .int 0)], [.int 63, .int 2], (q_cX (q_uA q_AX 35 (upd w521 2 32)) (q_uI q_IX 34 3 3) q_J0, 40, 26520)) _
    exact q_Ru_le (Nat.le_of_ble_eq_true rfl) (q_xc225 L xs a hl_a hu_a w521)
  show q_Ru _ _ _ (48, [(5, .int 0), (4, .int 2), (3, .int 0), (0, .ref 98), (1, .ref 66), (2, .int a)], [], (q_cX (q_uA q_AX 35 (upd (upd (upd (upd w521 2 32) 3 108) 4 100) 5 97)) (q_uI q_IX 34 3 6) q_J0, 40, 26520)) _
  refine q_Ru_seg (g2 := (56, [(5, .int 0), (4, .int 2), (3, .int 0), (0, .ref 98), (1, .ref 66), (2, .int a)], [.int 0], (q_cX (q_uA q_AX 35 (upd (upd (upd (upd w521 2 32) 3 108) 4 100) 5 97)) (q_uI q_IX 34 3 6) q_J0, 40, 26520))) 4 (fun _ _ => rfl) ?_
  refine q_Ru_call (v := (some (.int 0))) (h2 := (q_cX (q_uA q_AX 35 (upd (upd (upd (upd w521 2 32) 3 108) 4 100) 5 97)) (q_uI q_IX 34 3 6) q_J0, 40, 26520)) rfl rfl ?_ ?_
  · refine q_Ca_of (Nat.le_of_ble_eq_true rfl) ?_
    refine q_Ru_seg (g2 := (19, [(0, .int 0)], [.int 0], (q_cX (q_uA q_AX 35 (upd (upd (upd (upd w521 2 32) 3 108) 4 100) 5 97)) (q_uI q_IX 34 3 6) q_J0, 40, 26520))) 4 (fun _ _ => rfl) ?_
    exact q_Ru_ret rfl rfl
  show q_Ru _ _ _ (59, [(5, .int 0), (4, .int 2), (3, .int 0), (0, .ref 98), (1, .ref 66), (2, .int a)], [.int 0], (q_cX (q_uA q_AX 35 (upd (upd (upd (upd w521 2 32) 3 108) 4 100) 5 97)) (q_uI q_IX 34 3 6) q_J0, 40, 26520)) _
  refine q_Ru_seg (g2 := (103, [(6, .int 0), (5, .int 0), (4, .int 2), (3, .int 0), (0, .ref 98), (1, .ref 66), (2, .int a)], [.int 0, .ref 98], (q_cX (q_uA q_AX 35 (upd (upd (upd (upd w521 2 32) 3 108) 4 100) 5 97)) (q_uI q_IX 34 3 6) q_J0, 40, 26520))) 9 (fun _ _ => rfl) ?_
  refine q_Ru_call (v := (some (.int 0))) (h2 := (q_cX (q_uA q_AX 35 (upd (upd (upd (upd w521 2 32) 3 108) 4 100) 5 97)) (q_uI q_IX 34 3 6) q_J0, 40, 26520)) rfl rfl ?_ ?_
  · refine q_Ca_of (Nat.le_of_ble_eq_true rfl) ?_
    refine q_Ru_seg (g2 := (1, [(0, .int 0)], [.int 0], (q_cX (q_uA q_AX 35 (upd (upd (upd (upd w521 2 32) 3 108) 4 100) 5 97)) (q_uI q_IX 34 3 6) q_J0, 40, 26520))) 1 (fun _ _ => rfl) ?_
    refine q_Ru_call (v := (some (.int 0))) (h2 := (q_cX (q_uA q_AX 35 (upd (upd (upd (upd w521 2 32) 3 108) 4 100) 5 97)) (q_uI q_IX 34 3 6) q_J0, 40, 26520)) rfl rfl ?_ ?_
    · refine q_Ca_of (Nat.le_of_ble_eq_true rfl) ?_
      refine q_Ru_seg (g2 := (11, [(0, .int 0)], [.int 0], (q_cX (q_uA q_AX 35 (upd (upd (upd (upd w521 2 32) 3 108) 4 100) 5 97)) (q_uI q_IX 34 3 6) q_J0, 40, 26520))) 6 (fun _ _ => rfl) ?_
      exact q_Ru_ret rfl rfl
    show q_Ru _ _ _ (4, [(0, .int 0)], [.int 0], (q_cX (q_uA q_AX 35 (upd (upd (upd (upd w521 2 32) 3 108) 4 100) 5 97)) (q_uI q_IX 34 3 6) q_J0, 40, 26520)) _
    refine q_Ru_seg (g2 := (11, [(0, .int 0)], [.int 0], (q_cX (q_uA q_AX 35 (upd (upd (upd (upd w521 2 32) 3 108) 4 100) 5 97)) (q_uI q_IX 34 3 6) q_J0, 40, 26520))) 4 (fun _ _ => rfl) ?_
    exact q_Ru_ret rfl rfl
  show q_Ru _ _ _ (106, [(6, .int 0), (5, .int 0), (4, .int 2), (3, .int 0), (0, .ref 98), (1, .ref 66), (2, .int a)], [.int 0, .ref 98], (q_cX (q_uA q_AX 35 (upd (upd (upd (upd w521 2 32) 3 108) 4 100) 5 97)) (q_uI q_IX 34 3 6) q_J0, 40, 26520)) _
  exact q_Ru_le (Nat.le_of_ble_eq_true rfl) (q_xc227 L xs a hl_a hu_a w521)
set_option maxHeartbeats 20000000 in
theorem q_xc229 (L : Nat) (xs : Nat → Int32) (a : Int32) (hl_a : 10 ≤ a.toInt) (hu_a : a.toInt ≤ 99) (h210 : decide (a < 0) = false) (h212 : decide ((-10) < -a) = false) (h213 : decide ((-100) < -a) = true) (h214 : decide (-a < (-9)) = true) : q_Ru (q_TBs 99 L xs) 5 195 (30, [(5, .int 0), (4, .int 2), (3, .int 0), (0, .ref 98), (1, .ref 66), (2, .int a)], [], (q_cX q_AX (q_uI q_IX 34 3 0) q_J0, 40, 26520)) (.inl none, (q_cX (q_uA q_AX 35 (upd (upd (upd (upd (upd (upd (upd (upd (upd (fun _ => 0) 1 (vp_nar .byte ((fun j => q_o6.getD j 0) ((-(-a)).toNatClampNeg)))) 0 (vp_nar .byte ((fun j => q_o7.getD j 0) ((-(-a)).toNatClampNeg)))) 2 32) 3 108) 4 100) 5 97) 6 32) 7 35) 8 48)) (q_uI q_IX 34 3 9) q_J0, 40, 26520)) := by
  refine q_Ru_seg (g2 := (32, [(5, .int 0), (4, .int 2), (3, .int 0), (0, .ref 98), (1, .ref 66), (2, .int a)], [.int a, .ref 98], (q_cX q_AX (q_uI q_IX 34 3 0) q_J0, 40, 26520))) 2 (fun _ _ => rfl) ?_
  refine q_Ru_call (v := (some (.ref 98))) (h2 := (q_cX (q_uA q_AX 35 (upd (upd (fun _ => 0) 1 (vp_nar .byte ((fun j => q_o6.getD j 0) ((-(-a)).toNatClampNeg)))) 0 (vp_nar .byte ((fun j => q_o7.getD j 0) ((-(-a)).toNatClampNeg))))) (q_uI q_IX 34 3 2) q_J0, 40, 26520)) rfl rfl ?_ ?_
  · refine q_Ca_of (Nat.le_of_ble_eq_true rfl) ?_
    refine q_Ru_seg (g2 := (2, [(0, .ref 98), (1, .int a)], [.int a, .ref 98], (q_cX q_AX (q_uI q_IX 34 3 0) q_J0, 40, 26520))) 2 (fun _ _ => rfl) ?_
    refine q_Ru_call (v := (some (.ref 98))) (h2 := (q_cX (q_uA q_AX 35 (upd (upd (fun _ => 0) 1 (vp_nar .byte ((fun j => q_o6.getD j 0) ((-(-a)).toNatClampNeg)))) 0 (vp_nar .byte ((fun j => q_o7.getD j 0) ((-(-a)).toNatClampNeg))))) (q_uI q_IX 34 3 2) q_J0, 40, 26520)) rfl rfl ?_ ?_
    · refine q_Ca_of (Nat.le_of_ble_eq_true rfl) ?_
      refine q_Ru_seg (g2 := (4, [(0, .ref 98), (1, .int a)], [.int 0], (q_cX q_AX (q_uI q_IX 34 3 0) q_J0, 40, 26520))) 2 (fun _ _ => rfl) ?_
      refine q_Ru_seg (g2 := (7, [(2, .int 0), (0, .ref 98), (1, .int a)], [.int a, .int 0], (q_cX q_AX (q_uI q_IX 34 3 0) q_J0, 40, 26520))) 3 (fun _ _ => rfl) ?_
      refine q_Ru_call (v := (some (.int 2))) (h2 := (q_cX q_AX (q_uI q_IX 34 3 0) q_J0, 40, 26520)) rfl rfl ?_ ?_
      · refine q_Ca_of (Nat.le_of_ble_eq_true rfl) ?_
        refine q_Ru_seg (g2 := (3, [(1, .int 1), (0, .int a)], [.int a], (q_cX q_AX (q_uI q_IX 34 3 0) q_J0, 40, 26520))) 3 (fun _ _ => rfl) ?_
        refine q_Ru_rsF (g2 := (6, [(1, .int 1), (0, .int a)], [], (q_cX q_AX (q_uI q_IX 34 3 0) q_J0, 40, 26520))) rfl rfl h210 ?_
        refine q_Ru_seg (g2 := (24, [(3, .int 1), (2, .int (-10)), (0, .int (-a)), (1, .int 0)], [.int (-10), .int (-a)], (q_cX q_AX (q_uI q_IX 34 3 0) q_J0, 40, 26520))) 14 (fun _ _ => rfl) ?_
        refine q_Ru_rsT (g2 := (31, [(3, .int 1), (2, .int (-10)), (0, .int (-a)), (1, .int 0)], [], (q_cX q_AX (q_uI q_IX 34 3 0) q_J0, 40, 26520))) rfl rfl (q_d_geF h212) ?_
        refine q_Ru_seg (g2 := (24, [(3, .int 2), (2, .int (-100)), (0, .int (-a)), (1, .int 0)], [.int (-100), .int (-a)], (q_cX q_AX (q_uI q_IX 34 3 0) q_J0, 40, 26520))) 11 (fun _ _ => rfl) ?_
        refine q_Ru_rsF (g2 := (27, [(3, .int 2), (2, .int (-100)), (0, .int (-a)), (1, .int 0)], [], (q_cX q_AX (q_uI q_IX 34 3 0) q_J0, 40, 26520))) rfl rfl (q_d_geT h213) ?_
        refine q_Ru_seg (g2 := (30, [(3, .int 2), (2, .int (-100)), (0, .int (-a)), (1, .int 0)], [.int 2], (q_cX q_AX (q_uI q_IX 34 3 0) q_J0, 40, 26520))) 3 (fun _ _ => rfl) ?_
        exact q_Ru_ret rfl rfl
      show q_Ru _ _ _ (10, [(2, .int 0), (0, .ref 98), (1, .int a)], [.int 2, .int 0], (q_cX q_AX (q_uI q_IX 34 3 0) q_J0, 40, 26520)) _
      refine q_Ru_seg (g2 := (14, [(3, .int 2), (2, .int 0), (0, .ref 98), (1, .int a)], [.int 2, .ref 98], (q_cX q_AX (q_uI q_IX 34 3 0) q_J0, 40, 26520))) 4 (fun _ _ => rfl) ?_
      refine q_Ru_call (v := none) (h2 := (q_cX q_AX (q_uI q_IX 34 3 0) q_J0, 40, 26520)) rfl rfl ?_ ?_
      · refine q_Ca_of (Nat.le_of_ble_eq_true rfl) ?_
        refine q_Ru_seg (g2 := (9, [(0, .ref 98), (1, .int 2)], [.int 0, .int 16], (q_cX q_AX (q_uI q_IX 34 3 0) q_J0, 40, 26520))) 5 (fun _ _ => rfl) ?_
        refine q_Ru_seg (g2 := (38, [(2, .int 16), (0, .ref 98), (1, .int 2)], [], (q_cX q_AX (q_uI q_IX 34 3 0) q_J0, 40, 26520))) 6 (fun _ _ => rfl) ?_
        exact q_Ru_ret rfl rfl
      show q_Ru _ _ _ (17, [(3, .int 2), (2, .int 0), (0, .ref 98), (1, .int a)], [], (q_cX q_AX (q_uI q_IX 34 3 0) q_J0, 40, 26520)) _
      refine q_Ru_seg (g2 := (18, [(3, .int 2), (2, .int 0), (0, .ref 98), (1, .int a)], [.ref 98], (q_cX q_AX (q_uI q_IX 34 3 0) q_J0, 40, 26520))) 1 (fun _ _ => rfl) ?_
      refine q_Ru_call (v := (some (.int 1))) (h2 := (q_cX q_AX (q_uI q_IX 34 3 0) q_J0, 40, 26520)) rfl rfl ?_ ?_
      · refine q_Ca_of (Nat.le_of_ble_eq_true rfl) ?_
        refine q_Ru_seg (g2 := (10, [(0, .ref 98)], [.int 0], (q_cX q_AX (q_uI q_IX 34 3 0) q_J0, 40, 26520))) 4 (fun _ _ => rfl) ?_
        refine q_Ru_seg (g2 := (18, [(0, .ref 98)], [.int 1], (q_cX q_AX (q_uI q_IX 34 3 0) q_J0, 40, 26520))) 3 (fun _ _ => rfl) ?_
        exact q_Ru_ret rfl rfl
      show q_Ru _ _ _ (21, [(3, .int 2), (2, .int 0), (0, .ref 98), (1, .int a)], [.int 1], (q_cX q_AX (q_uI q_IX 34 3 0) q_J0, 40, 26520)) _
      refine q_Ru_seg (g2 := (30, [(3, .int 2), (2, .int 0), (0, .ref 98), (1, .int a)], [.ref 99, .int 2, .int a], (q_cX q_AX (q_uI q_IX 34 3 0) q_J0, 40, 26520))) 5 (fun _ _ => rfl) ?_
      refine q_Ru_call (v := (some (.int 0))) (h2 := (q_cX (q_uA q_AX 35 (upd (upd (fun _ => 0) 1 (vp_nar .byte ((fun j => q_o6.getD j 0) ((-(-a)).toNatClampNeg)))) 0 (vp_nar .byte ((fun j => q_o7.getD j 0) ((-(-a)).toNatClampNeg))))) (q_uI q_IX 34 3 0) q_J0, 40, 26520)) rfl rfl ?_ ?_
      · refine q_Ca_of (Nat.le_of_ble_eq_true rfl) ?_
        refine q_Ru_seg (g2 := (4, [(5, .int 2), (0, .int a), (1, .int 2), (2, .ref 99)], [.int a], (q_cX q_AX (q_uI q_IX 34 3 0) q_J0, 40, 26520))) 3 (fun _ _ => rfl) ?_
        refine q_Ru_rsT (g2 := (11, [(5, .int 2), (0, .int a), (1, .int 2), (2, .ref 99)], [], (q_cX q_AX (q_uI q_IX 34 3 0) q_J0, 40, 26520))) rfl rfl (q_d_geF h210) ?_
        refine q_Ru_seg (g2 := (25, [(0, .int (-a)), (6, .int 0), (5, .int 2), (1, .int 2), (2, .ref 99)], [.int (-100), .int (-a)], (q_cX q_AX (q_uI q_IX 34 3 0) q_J0, 40, 26520))) 9 (fun _ _ => rfl) ?_
        refine q_Ru_rsT (g2 := (72, [(0, .int (-a)), (6, .int 0), (5, .int 2), (1, .int 2), (2, .ref 99)], [], (q_cX q_AX (q_uI q_IX 34 3 0) q_J0, 40, 26520))) rfl rfl h213 ?_
        refine q_Ru_seg (g2 := (83, [(5, .int 1), (0, .int (-a)), (6, .int 0), (1, .int 2), (2, .ref 99)], [.int (-(-a)), .ref 6, .int 1, .ref 99], (q_cX q_AX (q_uI q_IX 34 3 0) q_J0, 40, 26520))) 6 (fun _ _ => rfl) ?_
        refine q_Ru_rsT (g2 := (84, [(5, .int 1), (0, .int (-a)), (6, .int 0), (1, .int 2), (2, .ref 99)], [.int ((fun j => q_o6.getD j 0) ((-(-a)).toNatClampNeg)), .int 1, .ref 99], (q_cX q_AX (q_uI q_IX 34 3 0) q_J0, 40, 26520))) rfl rfl (q_tbl1 (fun a => q_in (-(-a)) 100) (l := 10) (n := 89) (by decide +kernel) hl_a hu_a) ?_
        generalize ((fun j => q_o6.getD j 0) ((-(-a)).toNatClampNeg)) = y515
        refine q_Ru_rsT (g2 := (85, [(5, .int 1), (0, .int (-a)), (6, .int 0), (1, .int 2), (2, .ref 99)], [], (q_cX (q_uA q_AX 35 (upd (fun _ => 0) 1 (vp_nar .byte y515))) (q_uI q_IX 34 3 0) q_J0, 40, 26520))) rfl q_astB_35 rfl ?_
        generalize (upd (fun _ => 0) 1 (vp_nar .byte y515)) = w516
        refine q_Ru_seg (g2 := (88, [(5, .int 1), (0, .int (-a)), (6, .int 0), (1, .int 2), (2, .ref 99)], [.int (-9), .int (-a)], (q_cX (q_uA q_AX 35 w516) (q_uI q_IX 34 3 0) q_J0, 40, 26520))) 2 (fun _ _ => rfl) ?_
        refine q_Ru_rsF (g2 := (91, [(5, .int 1), (0, .int (-a)), (6, .int 0), (1, .int 2), (2, .ref 99)], [], (q_cX (q_uA q_AX 35 w516) (q_uI q_IX 34 3 0) q_J0, 40, 26520))) rfl rfl (q_d_geT h214) ?_
        refine q_Ru_seg (g2 := (102, [(5, .int 0), (0, .int (-a)), (6, .int 0), (1, .int 2), (2, .ref 99)], [.int (-(-a)), .ref 7, .int 0, .ref 99], (q_cX (q_uA q_AX 35 w516) (q_uI q_IX 34 3 0) q_J0, 40, 26520))) 6 (fun _ _ => rfl) ?_
        refine q_Ru_rsT (g2 := (103, [(5, .int 0), (0, .int (-a)), (6, .int 0), (1, .int 2), (2, .ref 99)], [.int ((fun j => q_o7.getD j 0) ((-(-a)).toNatClampNeg)), .int 0, .ref 99], (q_cX (q_uA q_AX 35 w516) (q_uI q_IX 34 3 0) q_J0, 40, 26520))) rfl rfl (q_tbl1 (fun a => q_in (-(-a)) 100) (l := 10) (n := 89) (by decide +kernel) hl_a hu_a) ?_
        generalize ((fun j => q_o7.getD j 0) ((-(-a)).toNatClampNeg)) = y517
        refine q_Ru_rsT (g2 := (104, [(5, .int 0), (0, .int (-a)), (6, .int 0), (1, .int 2), (2, .ref 99)], [], (q_cX (q_uA q_AX 35 (upd w516 0 (vp_nar .byte y517))) (q_uI q_IX 34 3 0) q_J0, 40, 26520))) rfl q_astB_35 rfl ?_
        generalize (upd w516 0 (vp_nar .byte y517)) = w518
        refine q_Ru_seg (g2 := (120, [(5, .int 0), (0, .int (-a)), (6, .int 0), (1, .int 2), (2, .ref 99)], [.int 0], (q_cX (q_uA q_AX 35 w518) (q_uI q_IX 34 3 0) q_J0, 40, 26520))) 3 (fun _ _ => rfl) ?_
        exact q_Ru_ret rfl rfl
      show q_Ru _ _ _ (33, [(3, .int 2), (2, .int 0), (0, .ref 98), (1, .int a)], [.int 0], (q_cX (q_uA q_AX 35 (upd (upd (fun _ => 0) 1 (vp_nar .byte ((fun j => q_o6.getD j 0) ((-(-a)).toNatClampNeg)))) 0 (vp_nar .byte ((fun j => q_o7.getD j 0) ((-(-a)).toNatClampNeg))))) (q_uI q_IX 34 3 0) q_J0, 40, 26520)) _
      generalize (upd (upd (fun _ => 0) 1 (vp_nar .byte ((fun j => q_o6.getD j 0) ((-(-a)).toNatClampNeg)))) 0 (vp_nar .byte ((fun j => q_o7.getD j 0) ((-(-a)).toNatClampNeg)))) = w519
      refine q_Ru_seg (g2 := (54, [(3, .int 2), (2, .int 0), (0, .ref 98), (1, .int a)], [.ref 98], (q_cX (q_uA q_AX 35 w519) (q_uI q_IX 34 3 2) q_J0, 40, 26520))) 6 (fun _ _ => rfl) ?_
      exact q_Ru_ret rfl rfl
    show q_Ru _ _ _ (5, [(0, .ref 98), (1, .int a)], [.ref 98], (q_cX (q_uA q_AX 35 (upd (upd (fun _ => 0) 1 (vp_nar .byte ((fun j => q_o6.getD j 0) ((-(-a)).toNatClampNeg)))) 0 (vp_nar .byte ((fun j => q_o7.getD j 0) ((-(-a)).toNatClampNeg))))) (q_uI q_IX 34 3 2) q_J0, 40, 26520)) _
    generalize (upd (upd (fun _ => 0) 1 (vp_nar .byte ((fun j => q_o6.getD j 0) ((-(-a)).toNatClampNeg)))) 0 (vp_nar .byte ((fun j => q_o7.getD j 0) ((-(-a)).toNatClampNeg)))) = w520
    refine q_Ru_seg (g2 := (7, [(0, .ref 98), (1, .int a)], [.ref 98], (q_cX (q_uA q_AX 35 w520) (q_uI q_IX 34 3 2) q_J0, 40, 26520))) 2 (fun _ _ => rfl) ?_
    exact q_Ru_ret rfl rfl
  show q_Ru _ _ _ (35, [(5, .int 0), (4, .int 2), (3, .int 0), (0, .ref 98), (1, .ref 66), (2, .int a)], [.ref 98], (q_cX (q_uA q_AX 35 (upd (upd (fun _ => 0) 1 (vp_nar .byte ((fun j => q_o6.getD j 0) ((-(-a)).toNatClampNeg)))) 0 (vp_nar .byte ((fun j => q_o7.getD j 0) ((-(-a)).toNatClampNeg))))) (q_uI q_IX 34 3 2) q_J0, 40, 26520)) _
  generalize (upd (upd (fun _ => 0) 1 (vp_nar .byte ((fun j => q_o6.getD j 0) ((-(-a)).toNatClampNeg)))) 0 (vp_nar .byte ((fun j => q_o7.getD j 0) ((-(-a)).toNatClampNeg)))) = w521
  refine q_Ru_seg (g2 := (39, [(5, .int 0), (4, .int 2), (3, .int 0), (0, .ref 98), (1, .ref 66), (2, .int a)], [.int 32, .ref 98], (q_cX (q_uA q_AX 35 w521) (q_uI q_IX 34 3 2) q_J0, 40, 26520))) 3 (fun _ _ => rfl) ?_
  refine q_Ru_call (v := (some (.ref 98))) (h2 := (q_cX (q_uA q_AX 35 (upd w521 2 32)) (q_uI q_IX 34 3 3) q_J0, 40, 26520)) rfl rfl ?_ ?_
  · refine q_Ca_of (Nat.le_of_ble_eq_true rfl) ?_
    refine q_Ru_seg (g2 := (2, [(0, .ref 98), (1, .int 32)], [.int 32, .ref 98], (q_cX (q_uA q_AX 35 w521) (q_uI q_IX 34 3 2) q_J0, 40, 26520))) 2 (fun _ _ => rfl) ?_
    refine q_Ru_call (v := (some (.ref 98))) (h2 := (q_cX (q_uA q_AX 35 (upd w521 2 32)) (q_uI q_IX 34 3 3) q_J0, 40, 26520)) rfl rfl ?_ ?_
    · refine q_Ca_of (Nat.le_of_ble_eq_true rfl) ?_
      refine q_Ru_seg (g2 := (5, [(0, .ref 98), (1, .int 32)], [.int 2, .ref 98], (q_cX (q_uA q_AX 35 w521) (q_uI q_IX 34 3 2) q_J0, 40, 26520))) 3 (fun _ _ => rfl) ?_
      refine q_Ru_seg (g2 := (7, [(0, .ref 98), (1, .int 32)], [.int 3, .ref 98], (q_cX (q_uA q_AX 35 w521) (q_uI q_IX 34 3 2) q_J0, 40, 26520))) 2 (fun _ _ => rfl) ?_
      refine q_Ru_call (v := none) (h2 := (q_cX (q_uA q_AX 35 w521) (q_uI q_IX 34 3 2) q_J0, 40, 26520)) rfl rfl ?_ ?_
      · refine q_Ca_of (Nat.le_of_ble_eq_true rfl) ?_
        refine q_Ru_seg (g2 := (9, [(0, .ref 98), (1, .int 3)], [.int 0, .int 16], (q_cX (q_uA q_AX 35 w521) (q_uI q_IX 34 3 2) q_J0, 40, 26520))) 5 (fun _ _ => rfl) ?_
        refine q_Ru_seg (g2 := (38, [(2, .int 16), (0, .ref 98), (1, .int 3)], [], (q_cX (q_uA q_AX 35 w521) (q_uI q_IX 34 3 2) q_J0, 40, 26520))) 6 (fun _ _ => rfl) ?_
        exact q_Ru_ret rfl rfl
      show q_Ru _ _ _ (10, [(0, .ref 98), (1, .int 32)], [], (q_cX (q_uA q_AX 35 w521) (q_uI q_IX 34 3 2) q_J0, 40, 26520)) _
      refine q_Ru_seg (g2 := (11, [(0, .ref 98), (1, .int 32)], [.ref 98], (q_cX (q_uA q_AX 35 w521) (q_uI q_IX 34 3 2) q_J0, 40, 26520))) 1 (fun _ _ => rfl) ?_
      refine q_Ru_call (v := (some (.int 1))) (h2 := (q_cX (q_uA q_AX 35 w521) (q_uI q_IX 34 3 2) q_J0, 40, 26520)) rfl rfl ?_ ?_
      · refine q_Ca_of (Nat.le_of_ble_eq_true rfl) ?_
        refine q_Ru_seg (g2 := (10, [(0, .ref 98)], [.int 0], (q_cX (q_uA q_AX 35 w521) (q_uI q_IX 34 3 2) q_J0, 40, 26520))) 4 (fun _ _ => rfl) ?_
        refine q_Ru_seg (g2 := (18, [(0, .ref 98)], [.int 1], (q_cX (q_uA q_AX 35 w521) (q_uI q_IX 34 3 2) q_J0, 40, 26520))) 3 (fun _ _ => rfl) ?_
        exact q_Ru_ret rfl rfl
      show q_Ru _ _ _ (14, [(0, .ref 98), (1, .int 32)], [.int 1], (q_cX (q_uA q_AX 35 w521) (q_uI q_IX 34 3 2) q_J0, 40, 26520)) _
      refine q_Ru_seg (g2 := (18, [(0, .ref 98), (1, .int 32)], [.int 32], (q_cX (q_uA q_AX 35 w521) (q_uI q_IX 34 3 2) q_J0, 40, 26520))) 2 (fun _ _ => rfl) ?_
      refine q_Ru_call (v := (some (.int 1))) (h2 := (q_cX (q_uA q_AX 35 w521) (q_uI q_IX 34 3 2) q_J0, 40, 26520)) rfl rfl ?_ ?_
      · refine q_Ca_of (Nat.le_of_ble_eq_true rfl) ?_
        refine q_Ru_seg (g2 := (12, [(0, .int 32)], [.int 1], (q_cX (q_uA q_AX 35 w521) (q_uI q_IX 34 3 2) q_J0, 40, 26520))) 5 (fun _ _ => rfl) ?_
        exact q_Ru_ret rfl rfl
      show q_Ru _ _ _ (21, [(0, .ref 98), (1, .int 32)], [.int 1], (q_cX (q_uA q_AX 35 w521) (q_uI q_IX 34 3 2) q_J0, 40, 26520)) _
      refine q_Ru_seg (g2 := (33, [(0, .ref 98), (1, .int 32)], [.int 2, .ref 98, .ref 99], (q_cX (q_uA q_AX 35 w521) (q_uI q_IX 34 3 2) q_J0, 40, 26520))) 6 (fun _ _ => rfl) ?_
      refine q_Ru_seg (g2 := (41, [(0, .ref 98), (1, .int 32)], [.int 32, .int 2, .ref 99], (q_cX (q_uA q_AX 35 w521) (q_uI q_IX 34 3 3) q_J0, 40, 26520))) 6 (fun _ _ => rfl) ?_
      refine q_Ru_rsT (g2 := (42, [(0, .ref 98), (1, .int 32)], [], (q_cX (q_uA q_AX 35 (upd w521 2 32)) (q_uI q_IX 34 3 3) q_J0, 40, 26520))) rfl q_astB_35 rfl ?_
      generalize (upd w521 2 32) = w522
      refine q_Ru_seg (g2 := (76, [(0, .ref 98), (1, .int 32)], [.ref 98], (q_cX (q_uA q_AX 35 w522) (q_uI q_IX 34 3 3) q_J0, 40, 26520))) 2 (fun _ _ => rfl) ?_
      exact q_Ru_ret rfl rfl
    show q_Ru _ _ _ (5, [(0, .ref 98), (1, .int 32)], [.ref 98], (q_cX (q_uA q_AX 35 (upd w521 2 32)) (q_uI q_IX 34 3 3) q_J0, 40, 26520)) _
    refine q_Ru_seg (g2 := (7, [(0, .ref 98), (1, .int 32)], [.ref 98], (q_cX (q_uA q_AX 35 (upd w521 2 32)) (q_uI q_IX 34 3 3) q_J0, 40, 26520))) 2 (fun _ _ => rfl) ?_
    exact q_Ru_ret rfl rfl
  show q_Ru _ _ _ (42, [(5, .int 0), (4, .int 2), (3, .int 0), (0, .ref 98), (1, .ref 66), (2, .int a)], [.ref 98], (q_cX (q_uA q_AX 35 (upd w521 2 32)) (q_uI q_IX 34 3 3) q_J0, 40, 26520)) _
  exact q_Ru_le (Nat.le_of_ble_eq_true rfl) (q_xc228 L xs a hl_a hu_a w521)
set_option maxHeartbeats 20000000 in
theorem q_xc230 (L : Nat) (xs : Nat → Int32) (a : Int32) (hl_a : 10 ≤ a.toInt) (hu_a : a.toInt ≤ 99) (h210 : decide (a < 0) = false) (h212 : decide ((-10) < -a) = false) (h213 : decide ((-100) < -a) = true) (h214 : decide (-a < (-9)) = true) : q_Ru (q_TBs 99 L xs) 6 34 (4, [(0, .ref 64), (1, .int a)], [], (q_cX q_AX q_IX q_J0, 40, 26520)) (.inl (some (.int 9)), (q_cX (q_uA q_AX 35 (upd (upd (upd (upd (upd (upd (upd (upd (upd (fun _ => 0) 1 (vp_nar .byte ((fun j => q_o6.getD j 0) ((-(-a)).toNatClampNeg)))) 0 (vp_nar .byte ((fun j => q_o7.getD j 0) ((-(-a)).toNatClampNeg)))) 2 32) 3 108) 4 100) 5 97) 6 32) 7 35) 8 48)) (q_uI q_IX 34 3 9) q_J0, 40, 26520)) := by
  refine q_Ru_seg (g2 := (16, [(0, .ref 64), (1, .int a)], [.int a, .ref 66, .ref 98], (q_cX q_AX q_IX q_J0, 40, 26520))) 6 (fun _ _ => rfl) ?_
  refine q_Ru_call (v := none) (h2 := (q_cX (q_uA q_AX 35 (upd (upd (upd (upd (upd (upd (upd (upd (upd (fun _ => 0) 1 (vp_nar .byte ((fun j => q_o6.getD j 0) ((-(-a)).toNatClampNeg)))) 0 (vp_nar .byte ((fun j => q_o7.getD j 0) ((-(-a)).toNatClampNeg)))) 2 32) 3 108) 4 100) 5 97) 6 32) 7 35) 8 48)) (q_uI q_IX 34 3 9) q_J0, 40, 26520)) rfl rfl ?_ ?_
  · refine q_Ca_of (Nat.le_of_ble_eq_true rfl) ?_
    refine q_Ru_seg (g2 := (2, [(0, .ref 98), (1, .ref 66), (2, .int a)], [.int a, .ref 66], (q_cX q_AX q_IX q_J0, 40, 26520))) 2 (fun _ _ => rfl) ?_
    refine q_Ru_call (v := (some (.int 0))) (h2 := (q_cX q_AX q_IX q_J0, 40, 26520)) rfl rfl ?_ ?_
    · exact ((q_p_read0 a (Int.le_trans (by decide) hl_a) (Int.le_trans hu_a (by decide))).le (Nat.le_of_ble_eq_true rfl)).tb q_TB0_le
    show q_Ru _ _ _ (5, [(0, .ref 98), (1, .ref 66), (2, .int a)], [.int 0], (q_cX q_AX q_IX q_J0, 40, 26520)) _
    refine q_Ru_seg (g2 := (7, [(3, .int 0), (0, .ref 98), (1, .ref 66), (2, .int a)], [.int 0], (q_cX q_AX q_IX q_J0, 40, 26520))) 2 (fun _ _ => rfl) ?_
    refine q_Ru_call (v := (some (.int 2))) (h2 := (q_cX q_AX q_IX q_J0, 40, 26520)) rfl rfl ?_ ?_
    · refine q_Ca_of (Nat.le_of_ble_eq_true rfl) ?_
      refine q_Ru_seg (g2 := (1, [(0, .int 0)], [.int 0], (q_cX q_AX q_IX q_J0, 40, 26520))) 1 (fun _ _ => rfl) ?_
      refine q_Ru_call (v := (some (.int 0))) (h2 := (q_cX q_AX q_IX q_J0, 40, 26520)) rfl rfl ?_ ?_
      · refine q_Ca_of (Nat.le_of_ble_eq_true rfl) ?_
        refine q_Ru_seg (g2 := (11, [(0, .int 0)], [.int 0], (q_cX q_AX q_IX q_J0, 40, 26520))) 6 (fun _ _ => rfl) ?_
        exact q_Ru_ret rfl rfl
      show q_Ru _ _ _ (4, [(0, .int 0)], [.int 0], (q_cX q_AX q_IX q_J0, 40, 26520)) _
      refine q_Ru_seg (g2 := (27, [(1, .int 0), (0, .int 0)], [.int 2], (q_cX q_AX q_IX q_J0, 40, 26520))) 9 (fun _ _ => rfl) ?_
      exact q_Ru_ret rfl rfl
    show q_Ru _ _ _ (10, [(3, .int 0), (0, .ref 98), (1, .ref 66), (2, .int a)], [.int 2], (q_cX q_AX q_IX q_J0, 40, 26520)) _
    refine q_Ru_seg (g2 := (20, [(4, .int 2), (3, .int 0), (0, .ref 98), (1, .ref 66), (2, .int a)], [.int ((a + 1) &&& 4095), .ref 66], (q_cX q_AX q_IX q_J0, 40, 26520))) 7 (fun _ _ => rfl) ?_
    refine q_Ru_call (v := (some (.int 0))) (h2 := (q_cX q_AX q_IX q_J0, 40, 26520)) rfl rfl ?_ ?_
    · exact ((q_p_read0 ((a + 1) &&& 4095) (q_and_lo (a + 1) 4095) (q_and_hi (a + 1) 4095 4095)).le (Nat.le_of_ble_eq_true rfl)).tb q_TB0_le
    show q_Ru _ _ _ (23, [(4, .int 2), (3, .int 0), (0, .ref 98), (1, .ref 66), (2, .int a)], [.int 0], (q_cX q_AX q_IX q_J0, 40, 26520)) _
    refine q_Ru_seg (g2 := (27, [(5, .int 0), (4, .int 2), (3, .int 0), (0, .ref 98), (1, .ref 66), (2, .int a)], [.int 0, .ref 98], (q_cX q_AX q_IX q_J0, 40, 26520))) 3 (fun _ _ => rfl) ?_
    refine q_Ru_call (v := none) (h2 := (q_cX q_AX (q_uI q_IX 34 3 0) q_J0, 40, 26520)) rfl rfl ?_ ?_
    · refine q_Ca_of (Nat.le_of_ble_eq_true rfl) ?_
      refine q_Ru_seg (g2 := (2, [(0, .ref 98), (1, .int 0)], [.int 0, .ref 98], (q_cX q_AX q_IX q_J0, 40, 26520))) 2 (fun _ _ => rfl) ?_
      refine q_Ru_call (v := none) (h2 := (q_cX q_AX (q_uI q_IX 34 3 0) q_J0, 40, 26520)) rfl rfl ?_ ?_
      · refine q_Ca_of (Nat.le_of_ble_eq_true rfl) ?_
        refine q_Ru_seg (g2 := (15, [(0, .ref 98), (1, .int 0)], [.int 0, .ref 98], (q_cX q_AX q_IX q_J0, 40, 26520))) 4 (fun _ _ => rfl) ?_
        refine q_Ru_call (v := none) (h2 := (q_cX q_AX q_IX q_J0, 40, 26520)) rfl rfl ?_ ?_
        · refine q_Ca_of (Nat.le_of_ble_eq_true rfl) ?_
          refine q_Ru_seg (g2 := (9, [(0, .ref 98), (1, .int 0)], [.int 0, .int 16], (q_cX q_AX q_IX q_J0, 40, 26520))) 5 (fun _ _ => rfl) ?_
          refine q_Ru_seg (g2 := (38, [(2, .int 16), (0, .ref 98), (1, .int 0)], [], (q_cX q_AX q_IX q_J0, 40, 26520))) 6 (fun _ _ => rfl) ?_
          exact q_Ru_ret rfl rfl
        show q_Ru _ _ _ (18, [(0, .ref 98), (1, .int 0)], [], (q_cX q_AX q_IX q_J0, 40, 26520)) _
        refine q_Ru_seg (g2 := (22, [(0, .ref 98), (1, .int 0)], [.int 0], (q_cX q_AX q_IX q_J0, 40, 26520))) 2 (fun _ _ => rfl) ?_
        refine q_Ru_seg (g2 := (67, [(0, .ref 98), (1, .int 0)], [.int 0], (q_cX q_AX q_IX q_J0, 40, 26520))) 4 (fun _ _ => rfl) ?_
        refine q_Ru_seg (g2 := (81, [(0, .ref 98), (1, .int 0)], [], (q_cX q_AX (q_uI q_IX 34 3 0) q_J0, 40, 26520))) 5 (fun _ _ => rfl) ?_
        exact q_Ru_ret rfl rfl
      show q_Ru _ _ _ (5, [(0, .ref 98), (1, .int 0)], [], (q_cX q_AX (q_uI q_IX 34 3 0) q_J0, 40, 26520)) _
      exact q_Ru_ret rfl rfl
    show q_Ru _ _ _ (30, [(5, .int 0), (4, .int 2), (3, .int 0), (0, .ref 98), (1, .ref 66), (2, .int a)], [], (q_cX q_AX (q_uI q_IX 34 3 0) q_J0, 40, 26520)) _
    exact q_Ru_le (Nat.le_of_ble_eq_true rfl) (q_xc229 L xs a hl_a hu_a h210 h212 h213 h214)
  show q_Ru _ _ _ (19, [(0, .ref 64), (1, .int a)], [], (q_cX (q_uA q_AX 35 (upd (upd (upd (upd (upd (upd (upd (upd (upd (fun _ => 0) 1 (vp_nar .byte ((fun j => q_o6.getD j 0) ((-(-a)).toNatClampNeg)))) 0 (vp_nar .byte ((fun j => q_o7.getD j 0) ((-(-a)).toNatClampNeg)))) 2 32) 3 108) 4 100) 5 97) 6 32) 7 35) 8 48)) (q_uI q_IX 34 3 9) q_J0, 40, 26520)) _
  generalize (upd (upd (upd (upd (upd (upd (upd (upd (upd (fun _ => 0) 1 (vp_nar .byte ((fun j => q_o6.getD j 0) ((-(-a)).toNatClampNeg)))) 0 (vp_nar .byte ((fun j => q_o7.getD j 0) ((-(-a)).toNatClampNeg)))) 2 32) 3 108) 4 100) 5 97) 6 32) 7 35) 8 48) = w532
  refine q_Ru_seg (g2 := (23, [(0, .ref 64), (1, .int a)], [.ref 98], (q_cX (q_uA q_AX 35 w532) (q_uI q_IX 34 3 9) q_J0, 40, 26520))) 2 (fun _ _ => rfl) ?_
  refine q_Ru_call (v := (some (.int 9))) (h2 := (q_cX (q_uA q_AX 35 w532) (q_uI q_IX 34 3 9) q_J0, 40, 26520)) rfl rfl ?_ ?_
  · refine q_Ca_of (Nat.le_of_ble_eq_true rfl) ?_
    refine q_Ru_seg (g2 := (1, [(0, .ref 98)], [.ref 98], (q_cX (q_uA q_AX 35 w532) (q_uI q_IX 34 3 9) q_J0, 40, 26520))) 1 (fun _ _ => rfl) ?_
    refine q_Ru_call (v := (some (.int 9))) (h2 := (q_cX (q_uA q_AX 35 w532) (q_uI q_IX 34 3 9) q_J0, 40, 26520)) rfl rfl ?_ ?_
    · refine q_Ca_of (Nat.le_of_ble_eq_true rfl) ?_
      refine q_Ru_seg (g2 := (4, [(0, .ref 98)], [.int 9], (q_cX (q_uA q_AX 35 w532) (q_uI q_IX 34 3 9) q_J0, 40, 26520))) 2 (fun _ _ => rfl) ?_
      exact q_Ru_ret rfl rfl
    show q_Ru _ _ _ (4, [(0, .ref 98)], [.int 9], (q_cX (q_uA q_AX 35 w532) (q_uI q_IX 34 3 9) q_J0, 40, 26520)) _
    exact q_Ru_ret rfl rfl
  show q_Ru _ _ _ (26, [(0, .ref 64), (1, .int a)], [.int 9], (q_cX (q_uA q_AX 35 w532) (q_uI q_IX 34 3 9) q_J0, 40, 26520)) _
  exact q_Ru_ret rfl rfl
set_option maxHeartbeats 20000000 in
theorem q_xc231 (L : Nat) (xs : Nat → Int32) (a : Int32) (hl_a : 10 ≤ a.toInt) (hu_a : a.toInt ≤ 99) (f31 : Nat → Int32) (f32 : Nat → Int32) (p32 : q_Ca q_TB0 4 214 [.ref 64, .int ((a + 1) &&& 4095)] (q_cM (q_uA (q_uA q_AM 33 f31) 32 (upd (upd (upd (upd (upd (upd (upd (upd (fun _ => 0) 0 (vp_nar .char ((((48 : Int32) + ((a / 10) - (a / 10) / 10 * 10)).toUInt32 % 65536).toInt32))) 1 (vp_nar .char ((((48 : Int32) + (a - a / 10 * 10)).toUInt32 % 65536).toInt32))) 2 32) 3 108) 4 100) 5 97) 6 32) 7 35)) (q_uI (q_uI q_IM 0 39 0) 0 35 8) q_J0, 34, 31630) (.inl (some (.int 0)), (q_cM (q_uA (q_uA q_AM 33 f32) 32 (upd (upd (upd (upd (upd (upd (upd (upd (fun _ => 0) 0 (vp_nar .char ((((48 : Int32) + ((a / 10) - (a / 10) / 10 * 10)).toUInt32 % 65536).toInt32))) 1 (vp_nar .char ((((48 : Int32) + (a - a / 10 * 10)).toUInt32 % 65536).toInt32))) 2 32) 3 108) 4 100) 5 97) 6 32) 7 35)) (q_uI (q_uI q_IM 0 39 0) 0 35 8) q_J0, 34, 31630))) : q_Ru q_TB0 8 286 (82, [(2, .int 0), (0, .ref 64), (1, .int a)], [.int 0], (q_cM (q_uA (q_uA (q_uA q_AM 33 f31) 32 (fun _ => 0)) 32 (upd (upd (upd (upd (upd (upd (fun _ => 0) 0 (vp_nar .char ((((48 : Int32) + ((a / 10) - (a / 10) / 10 * 10)).toUInt32 % 65536).toInt32))) 1 (vp_nar .char ((((48 : Int32) + (a - a / 10 * 10)).toUInt32 % 65536).toInt32))) 2 32) 3 108) 4 100) 5 97)) (q_uI (q_uI q_IM 0 39 0) 0 35 6) q_J0, 34, 31630)) (.inl (some (.int 9)), (q_cM (q_uA (q_uA (q_uA q_AM 33 f32) 32 (upd (upd (upd (upd (upd (upd (upd (upd (fun _ => 0) 0 (vp_nar .char ((((48 : Int32) + ((a / 10) - (a / 10) / 10 * 10)).toUInt32 % 65536).toInt32))) 1 (vp_nar .char ((((48 : Int32) + (a - a / 10 * 10)).toUInt32 % 65536).toInt32))) 2 32) 3 108) 4 100) 5 97) 6 32) 7 35)) 32 (upd (upd (upd (upd (upd (upd (upd (upd (upd (fun _ => 0) 0 (vp_nar .char ((((48 : Int32) + ((a / 10) - (a / 10) / 10 * 10)).toUInt32 % 65536).toInt32))) 1 (vp_nar .char ((((48 : Int32) + (a - a / 10 * 10)).toUInt32 % 65536).toInt32))) 2 32) 3 108) 4 100) 5 97) 6 32) 7 35) 8 48)) (q_uI (q_uI q_IM 0 39 0) 0 35 9) q_J0, 34, 31630)) := by
  refine q_Ru_seg (g2 := (91, [(2, .int 0), (0, .ref 64), (1, .int a)], [.int a, .int 0, .ref 64], (q_cM (q_uA (q_uA (q_uA q_AM 33 f31) 32 (fun _ => 0)) 32 (upd (upd (upd (upd (upd (upd (fun _ => 0) 0 (vp_nar .char ((((48 : Int32) + ((a / 10) - (a / 10) / 10 * 10)).toUInt32 % 65536).toInt32))) 1 (vp_nar .char ((((48 : Int32) + (a - a / 10 * 10)).toUInt32 % 65536).toInt32))) 2 32) 3 108) 4 100) 5 97)) (q_uI (q_uI q_IM 0 39 0) 0 35 6) q_J0, 34, 31630))) 6 (fun _ _ => rfl) ?_
  refine q_Ru_call (v := none) (h2 := (q_cM (q_uA (q_uA (q_uA q_AM 33 f32) 32 (upd (upd (upd (upd (upd (upd (upd (upd (fun _ => 0) 0 (vp_nar .char ((((48 : Int32) + ((a / 10) - (a / 10) / 10 * 10)).toUInt32 % 65536).toInt32))) 1 (vp_nar .char ((((48 : Int32) + (a - a / 10 * 10)).toUInt32 % 65536).toInt32))) 2 32) 3 108) 4 100) 5 97) 6 32) 7 35)) 32 (upd (upd (upd (upd (upd (upd (upd (upd (upd (fun _ => 0) 0 (vp_nar .char ((((48 : Int32) + ((a / 10) - (a / 10) / 10 * 10)).toUInt32 % 65536).toInt32))) 1 (vp_nar .char ((((48 : Int32) + (a - a / 10 * 10)).toUInt32 % 65536).toInt32))) 2 32) 3 108) 4 100) 5 97) 6 32) 7 35) 8 48)) (q_uI (q_uI q_IM 0 39 0) 0 35 9) q_J0, 34, 31630)) rfl rfl ?_ ?_
  · refine q_Ca_of (Nat.le_of_ble_eq_true rfl) ?_
    refine q_Ru_seg (g2 := (3, [(0, .ref 64), (1, .int 0), (2, .int a)], [.int 32, .ref 64], (q_cM (q_uA (q_uA (q_uA q_AM 33 f31) 32 (fun _ => 0)) 32 (upd (upd (upd (upd (upd (upd (fun _ => 0) 0 (vp_nar .char ((((48 : Int32) + ((a / 10) - (a / 10) / 10 * 10)).toUInt32 % 65536).toInt32))) 1 (vp_nar .char ((((48 : Int32) + (a - a / 10 * 10)).toUInt32 % 65536).toInt32))) 2 32) 3 108) 4 100) 5 97)) (q_uI (q_uI q_IM 0 39 0) 0 35 6) q_J0, 34, 31630))) 2 (fun _ _ => rfl) ?_
    refine q_Ru_call (v := none) (h2 := (q_cM (q_uA (q_uA (q_uA q_AM 33 f31) 32 (fun _ => 0)) 32 (upd (upd (upd (upd (upd (upd (upd (fun _ => 0) 0 (vp_nar .char ((((48 : Int32) + ((a / 10) - (a / 10) / 10 * 10)).toUInt32 % 65536).toInt32))) 1 (vp_nar .char ((((48 : Int32) + (a - a / 10 * 10)).toUInt32 % 65536).toInt32))) 2 32) 3 108) 4 100) 5 97) 6 32)) (q_uI (q_uI q_IM 0 39 0) 0 35 7) q_J0, 34, 31630)) rfl rfl ?_ ?_
    · refine q_Ca_of (Nat.le_of_ble_eq_true rfl) ?_
      refine q_Ru_seg (g2 := (8, [(0, .ref 64), (1, .int 32)], [.int 6, .ref 96], (q_cM (q_uA (q_uA (q_uA q_AM 33 f31) 32 (fun _ => 0)) 32 (upd (upd (upd (upd (upd (upd (fun _ => 0) 0 (vp_nar .char ((((48 : Int32) + ((a / 10) - (a / 10) / 10 * 10)).toUInt32 % 65536).toInt32))) 1 (vp_nar .char ((((48 : Int32) + (a - a / 10 * 10)).toUInt32 % 65536).toInt32))) 2 32) 3 108) 4 100) 5 97)) (q_uI (q_uI q_IM 0 39 0) 0 35 6) q_J0, 34, 31630))) 4 (fun _ _ => rfl) ?_
      refine q_Ru_seg (g2 := (15, [(0, .ref 64), (1, .int 32)], [.int 6, .ref 64], (q_cM (q_uA (q_uA (q_uA q_AM 33 f31) 32 (fun _ => 0)) 32 (upd (upd (upd (upd (upd (upd (upd (fun _ => 0) 0 (vp_nar .char ((((48 : Int32) + ((a / 10) - (a / 10) / 10 * 10)).toUInt32 % 65536).toInt32))) 1 (vp_nar .char ((((48 : Int32) + (a - a / 10 * 10)).toUInt32 % 65536).toInt32))) 2 32) 3 108) 4 100) 5 97) 6 32)) (q_uI (q_uI q_IM 0 39 0) 0 35 6) q_J0, 34, 31630))) 5 (fun _ _ => rfl) ?_
      refine q_Ru_seg (g2 := (20, [(0, .ref 64), (1, .int 32)], [], (q_cM (q_uA (q_uA (q_uA q_AM 33 f31) 32 (fun _ => 0)) 32 (upd (upd (upd (upd (upd (upd (upd (fun _ => 0) 0 (vp_nar .char ((((48 : Int32) + ((a / 10) - (a / 10) / 10 * 10)).toUInt32 % 65536).toInt32))) 1 (vp_nar .char ((((48 : Int32) + (a - a / 10 * 10)).toUInt32 % 65536).toInt32))) 2 32) 3 108) 4 100) 5 97) 6 32)) (q_uI (q_uI q_IM 0 39 0) 0 35 7) q_J0, 34, 31630))) 3 (fun _ _ => rfl) ?_
      exact q_Ru_ret rfl rfl
    show q_Ru _ _ _ (6, [(0, .ref 64), (1, .int 0), (2, .int a)], [], (q_cM (q_uA (q_uA (q_uA q_AM 33 f31) 32 (fun _ => 0)) 32 (upd (upd (upd (upd (upd (upd (upd (fun _ => 0) 0 (vp_nar .char ((((48 : Int32) + ((a / 10) - (a / 10) / 10 * 10)).toUInt32 % 65536).toInt32))) 1 (vp_nar .char ((((48 : Int32) + (a - a / 10 * 10)).toUInt32 % 65536).toInt32))) 2 32) 3 108) 4 100) 5 97) 6 32)) (q_uI (q_uI q_IM 0 39 0) 0 35 7) q_J0, 34, 31630)) _
    refine q_Ru_seg (g2 := (13, [(0, .ref 64), (1, .int 0), (2, .int a)], [.int 35, .ref 64], (q_cM (q_uA (q_uA (q_uA q_AM 33 f31) 32 (fun _ => 0)) 32 (upd (upd (upd (upd (upd (upd (upd (fun _ => 0) 0 (vp_nar .char ((((48 : Int32) + ((a / 10) - (a / 10) / 10 * 10)).toUInt32 % 65536).toInt32))) 1 (vp_nar .char ((((48 : Int32) + (a - a / 10 * 10)).toUInt32 % 65536).toInt32))) 2 32) 3 108) 4 100) 5 97) 6 32)) (q_uI (q_uI q_IM 0 39 0) 0 35 7) q_J0, 34, 31630))) 4 (fun _ _ => rfl) ?_
    refine q_Ru_call (v := none) (h2 := (q_cM (q_uA (q_uA (q_uA q_AM 33 f31) 32 (fun _ => 0)) 32 (upd (upd (upd (upd (upd (upd (upd (upd (fun _ => 0) 0 (vp_nar .char ((((48 : Int32) + ((a / 10) - (a / 10) / 10 * 10)).toUInt32 % 65536).toInt32))) 1 (vp_nar .char ((((48 : Int32) + (a - a / 10 * 10)).toUInt32 % 65536).toInt32))) 2 32) 3 108) 4 100) 5 97) 6 32) 7 35)) (q_uI (q_uI q_IM 0 39 0) 0 35 8) q_J0, 34, 31630)) rfl rfl ?_ ?_
    · refine q_Ca_of (Nat.le_of_ble_eq_true rfl) ?_
      refine q_Ru_seg (g2 := (8, [(0, .ref 64), (1, .int 35)], [.int 7, .ref 96], (q_cM (q_uA (q_uA (q_uA q_AM 33 f31) 32 (fun _ => 0)) 32 (upd (upd (upd (upd (upd (upd (upd (fun _ => 0) 0 (vp_nar .char ((((48 : Int32) + ((a / 10) - (a / 10) / 10 * 10)).toUInt32 % 65536).toInt32))) 1 (vp_nar .char ((((48 : Int32) + (a - a / 10 * 10)).toUInt32 % 65536).toInt32))) 2 32) 3 108) 4 100) 5 97) 6 32)) (q_uI (q_uI q_IM 0 39 0) 0 35 7) q_J0, 34, 31630))) 4 (fun _ _ => rfl) ?_
      refine q_Ru_seg (g2 := (15, [(0, .ref 64), (1, .int 35)], [.int 7, .ref 64], (q_cM (q_uA (q_uA (q_uA q_AM 33 f31) 32 (fun _ => 0)) 32 (upd (upd (upd (upd (upd (upd (upd (upd (fun _ => 0) 0 (vp_nar .char ((((48 : Int32) + ((a / 10) - (a / 10) / 10 * 10)).toUInt32 % 65536).toInt32))) 1 (vp_nar .char ((((48 : Int32) + (a - a / 10 * 10)).toUInt32 % 65536).toInt32))) 2 32) 3 108) 4 100) 5 97) 6 32) 7 35)) (q_uI (q_uI q_IM 0 39 0) 0 35 7) q_J0, 34, 31630))) 5 (fun _ _ => rfl) ?_
      refine q_Ru_seg (g2 := (20, [(0, .ref 64), (1, .int 35)], [], (q_cM (q_uA (q_uA (q_uA q_AM 33 f31) 32 (fun _ => 0)) 32 (upd (upd (upd (upd (upd (upd (upd (upd (fun _ => 0) 0 (vp_nar .char ((((48 : Int32) + ((a / 10) - (a / 10) / 10 * 10)).toUInt32 % 65536).toInt32))) 1 (vp_nar .char ((((48 : Int32) + (a - a / 10 * 10)).toUInt32 % 65536).toInt32))) 2 32) 3 108) 4 100) 5 97) 6 32) 7 35)) (q_uI (q_uI q_IM 0 39 0) 0 35 8) q_J0, 34, 31630))) 3 (fun _ _ => rfl) ?_
      exact q_Ru_ret rfl rfl
    show q_Ru _ _ _ (16, [(0, .ref 64), (1, .int 0), (2, .int a)], [], (q_cM (q_uA (q_uA (q_uA q_AM 33 f31) 32 (fun _ => 0)) 32 (upd (upd (upd (upd (upd (upd (upd (upd (fun _ => 0) 0 (vp_nar .char ((((48 : Int32) + ((a / 10) - (a / 10) / 10 * 10)).toUInt32 % 65536).toInt32))) 1 (vp_nar .char ((((48 : Int32) + (a - a / 10 * 10)).toUInt32 % 65536).toInt32))) 2 32) 3 108) 4 100) 5 97) 6 32) 7 35)) (q_uI (q_uI q_IM 0 39 0) 0 35 8) q_J0, 34, 31630)) _
    refine q_Ru_seg (g2 := (31, [(0, .ref 64), (1, .int 0), (2, .int a)], [.int 5, .int 3, .int 0, .ref 64], (q_cM (q_uA (q_uA (q_uA q_AM 33 f31) 32 (fun _ => 0)) 32 (upd (upd (upd (upd (upd (upd (upd (upd (fun _ => 0) 0 (vp_nar .char ((((48 : Int32) + ((a / 10) - (a / 10) / 10 * 10)).toUInt32 % 65536).toInt32))) 1 (vp_nar .char ((((48 : Int32) + (a - a / 10 * 10)).toUInt32 % 65536).toInt32))) 2 32) 3 108) 4 100) 5 97) 6 32) 7 35)) (q_uI (q_uI q_IM 0 39 0) 0 35 8) q_J0, 34, 31630))) 7 (fun _ _ => rfl) ?_
    refine q_Ru_call (v := (some (.int 0))) (h2 := (q_cM (q_uA (q_uA (q_uA q_AM 33 f31) 32 (fun _ => 0)) 32 (upd (upd (upd (upd (upd (upd (upd (upd (fun _ => 0) 0 (vp_nar .char ((((48 : Int32) + ((a / 10) - (a / 10) / 10 * 10)).toUInt32 % 65536).toInt32))) 1 (vp_nar .char ((((48 : Int32) + (a - a / 10 * 10)).toUInt32 % 65536).toInt32))) 2 32) 3 108) 4 100) 5 97) 6 32) 7 35)) (q_uI (q_uI q_IM 0 39 0) 0 35 8) q_J0, 34, 31630)) rfl rfl ?_ ?_
    · refine q_Ca_of (Nat.le_of_ble_eq_true rfl) ?_
      refine q_Ru_seg (g2 := (15, [(0, .int 0), (1, .int 3), (2, .int 5)], [.int 0], (q_cM (q_uA (q_uA (q_uA q_AM 33 f31) 32 (fun _ => 0)) 32 (upd (upd (upd (upd (upd (upd (upd (upd (fun _ => 0) 0 (vp_nar .char ((((48 : Int32) + ((a / 10) - (a / 10) / 10 * 10)).toUInt32 % 65536).toInt32))) 1 (vp_nar .char ((((48 : Int32) + (a - a / 10 * 10)).toUInt32 % 65536).toInt32))) 2 32) 3 108) 4 100) 5 97) 6 32) 7 35)) (q_uI (q_uI q_IM 0 39 0) 0 35 8) q_J0, 34, 31630))) 4 (fun _ _ => rfl) ?_
      exact q_Ru_ret rfl rfl
    show q_Ru _ _ _ (34, [(0, .ref 64), (1, .int 0), (2, .int a)], [.int 0, .ref 64], (q_cM (q_uA (q_uA (q_uA q_AM 33 f31) 32 (fun _ => 0)) 32 (upd (upd (upd (upd (upd (upd (upd (upd (fun _ => 0) 0 (vp_nar .char ((((48 : Int32) + ((a / 10) - (a / 10) / 10 * 10)).toUInt32 % 65536).toInt32))) 1 (vp_nar .char ((((48 : Int32) + (a - a / 10 * 10)).toUInt32 % 65536).toInt32))) 2 32) 3 108) 4 100) 5 97) 6 32) 7 35)) (q_uI (q_uI q_IM 0 39 0) 0 35 8) q_J0, 34, 31630)) _
    refine q_Ru_seg (g2 := (51, [(0, .ref 64), (1, .int 0), (2, .int a)], [.int (a + 1), .ref 64, .ref 64], (q_cM (q_uA (q_uA (q_uA q_AM 33 f31) 32 (fun _ => 0)) 32 (upd (upd (upd (upd (upd (upd (upd (upd (fun _ => 0) 0 (vp_nar .char ((((48 : Int32) + ((a / 10) - (a / 10) / 10 * 10)).toUInt32 % 65536).toInt32))) 1 (vp_nar .char ((((48 : Int32) + (a - a / 10 * 10)).toUInt32 % 65536).toInt32))) 2 32) 3 108) 4 100) 5 97) 6 32) 7 35)) (q_uI (q_uI q_IM 0 39 0) 0 35 8) q_J0, 34, 31630))) 5 (fun _ _ => rfl) ?_
    refine q_Ru_call (v := (some (.int 0))) (h2 := (q_cM (q_uA (q_uA q_AM 33 f32) 32 (upd (upd (upd (upd (upd (upd (upd (upd (fun _ => 0) 0 (vp_nar .char ((((48 : Int32) + ((a / 10) - (a / 10) / 10 * 10)).toUInt32 % 65536).toInt32))) 1 (vp_nar .char ((((48 : Int32) + (a - a / 10 * 10)).toUInt32 % 65536).toInt32))) 2 32) 3 108) 4 100) 5 97) 6 32) 7 35)) (q_uI (q_uI q_IM 0 39 0) 0 35 8) q_J0, 34, 31630)) rfl rfl ?_ ?_
    · refine q_Ca_of (Nat.le_of_ble_eq_true rfl) ?_
      refine q_Ru_seg (g2 := (2, [(0, .ref 64), (1, .int (a + 1))], [.int (a + 1), .ref 64], (q_cM (q_uA (q_uA (q_uA q_AM 33 f31) 32 (fun _ => 0)) 32 (upd (upd (upd (upd (upd (upd (upd (upd (fun _ => 0) 0 (vp_nar .char ((((48 : Int32) + ((a / 10) - (a / 10) / 10 * 10)).toUInt32 % 65536).toInt32))) 1 (vp_nar .char ((((48 : Int32) + (a - a / 10 * 10)).toUInt32 % 65536).toInt32))) 2 32) 3 108) 4 100) 5 97) 6 32) 7 35)) (q_uI (q_uI q_IM 0 39 0) 0 35 8) q_J0, 34, 31630))) 2 (fun _ _ => rfl) ?_
      refine q_Ru_call (v := (some (.int ((a + 1) &&& 4095)))) (h2 := (q_cM (q_uA (q_uA (q_uA q_AM 33 f31) 32 (fun _ => 0)) 32 (upd (upd (upd (upd (upd (upd (upd (upd (fun _ => 0) 0 (vp_nar .char ((((48 : Int32) + ((a / 10) - (a / 10) / 10 * 10)).toUInt32 % 65536).toInt32))) 1 (vp_nar .char ((((48 : Int32) + (a - a / 10 * 10)).toUInt32 % 65536).toInt32))) 2 32) 3 108) 4 100) 5 97) 6 32) 7 35)) (q_uI (q_uI q_IM 0 39 0) 0 35 8) q_J0, 34, 31630)) rfl rfl ?_ ?_
      · refine q_Ca_of (Nat.le_of_ble_eq_true rfl) ?_
        refine q_Ru_seg (g2 := (5, [(0, .int (a + 1))], [.int ((a + 1) &&& 4095)], (q_cM (q_uA (q_uA (q_uA q_AM 33 f31) 32 (fun _ => 0)) 32 (upd (upd (upd (upd (upd (upd (upd (upd (fun _ => 0) 0 (vp_nar .char ((((48 : Int32) + ((a / 10) - (a / 10) / 10 * 10)).toUInt32 % 65536).toInt32))) 1 (vp_nar .char ((((48 : Int32) + (a - a / 10 * 10)).toUInt32 % 65536).toInt32))) 2 32) 3 108) 4 100) 5 97) 6 32) 7 35)) (q_uI (q_uI q_IM 0 39 0) 0 35 8) q_J0, 34, 31630))) 3 (fun _ _ => rfl) ?_
        exact q_Ru_ret rfl rfl
      show q_Ru _ _ _ (5, [(0, .ref 64), (1, .int (a + 1))], [.int ((a + 1) &&& 4095), .ref 64], (q_cM (q_uA (q_uA (q_uA q_AM 33 f31) 32 (fun _ => 0)) 32 (upd (upd (upd (upd (upd (upd (upd (upd (fun _ => 0) 0 (vp_nar .char ((((48 : Int32) + ((a / 10) - (a / 10) / 10 * 10)).toUInt32 % 65536).toInt32))) 1 (vp_nar .char ((((48 : Int32) + (a - a / 10 * 10)).toUInt32 % 65536).toInt32))) 2 32) 3 108) 4 100) 5 97) 6 32) 7 35)) (q_uI (q_uI q_IM 0 39 0) 0 35 8) q_J0, 34, 31630)) _
      refine q_Ru_call (v := (some (.int 0))) (h2 := (q_cM (q_uA (q_uA q_AM 33 f32) 32 (upd (upd (upd (upd (upd (upd (upd (upd (fun _ => 0) 0 (vp_nar .char ((((48 : Int32) + ((a / 10) - (a / 10) / 10 * 10)).toUInt32 % 65536).toInt32))) 1 (vp_nar .char ((((48 : Int32) + (a - a / 10 * 10)).toUInt32 % 65536).toInt32))) 2 32) 3 108) 4 100) 5 97) 6 32) 7 35)) (q_uI (q_uI q_IM 0 39 0) 0 35 8) q_J0, 34, 31630)) rfl rfl ?_ ?_
      · exact p32.le (Nat.le_of_ble_eq_true rfl)
      show q_Ru _ _ _ (8, [(0, .ref 64), (1, .int (a + 1))], [.int 0], (q_cM (q_uA (q_uA q_AM 33 f32) 32 (upd (upd (upd (upd (upd (upd (upd (upd (fun _ => 0) 0 (vp_nar .char ((((48 : Int32) + ((a / 10) - (a / 10) / 10 * 10)).toUInt32 % 65536).toInt32))) 1 (vp_nar .char ((((48 : Int32) + (a - a / 10 * 10)).toUInt32 % 65536).toInt32))) 2 32) 3 108) 4 100) 5 97) 6 32) 7 35)) (q_uI (q_uI q_IM 0 39 0) 0 35 8) q_J0, 34, 31630)) _
      exact q_Ru_ret rfl rfl
    show q_Ru _ _ _ (54, [(0, .ref 64), (1, .int 0), (2, .int a)], [.int 0, .ref 64], (q_cM (q_uA (q_uA q_AM 33 f32) 32 (upd (upd (upd (upd (upd (upd (upd (upd (fun _ => 0) 0 (vp_nar .char ((((48 : Int32) + ((a / 10) - (a / 10) / 10 * 10)).toUInt32 % 65536).toInt32))) 1 (vp_nar .char ((((48 : Int32) + (a - a / 10 * 10)).toUInt32 % 65536).toInt32))) 2 32) 3 108) 4 100) 5 97) 6 32) 7 35)) (q_uI (q_uI q_IM 0 39 0) 0 35 8) q_J0, 34, 31630)) _
    refine q_Ru_call (v := none) (h2 := (q_cM (q_uA (q_uA (q_uA q_AM 33 f32) 32 (upd (upd (upd (upd (upd (upd (upd (upd (fun _ => 0) 0 (vp_nar .char ((((48 : Int32) + ((a / 10) - (a / 10) / 10 * 10)).toUInt32 % 65536).toInt32))) 1 (vp_nar .char ((((48 : Int32) + (a - a / 10 * 10)).toUInt32 % 65536).toInt32))) 2 32) 3 108) 4 100) 5 97) 6 32) 7 35)) 32 (upd (upd (upd (upd (upd (upd (upd (upd (upd (fun _ => 0) 0 (vp_nar .char ((((48 : Int32) + ((a / 10) - (a / 10) / 10 * 10)).toUInt32 % 65536).toInt32))) 1 (vp_nar .char ((((48 : Int32) + (a - a / 10 * 10)).toUInt32 % 65536).toInt32))) 2 32) 3 108) 4 100) 5 97) 6 32) 7 35) 8 48)) (q_uI (q_uI q_IM 0 39 0) 0 35 9) q_J0, 34, 31630)) rfl rfl ?_ ?_
    · refine q_Ca_of (Nat.le_of_ble_eq_true rfl) ?_
      refine q_Ru_seg (g2 := (23, [(0, .ref 64), (1, .int 0)], [.int 48, .ref 64], (q_cM (q_uA (q_uA q_AM 33 f32) 32 (upd (upd (upd (upd (upd (upd (upd (upd (fun _ => 0) 0 (vp_nar .char ((((48 : Int32) + ((a / 10) - (a / 10) / 10 * 10)).toUInt32 % 65536).toInt32))) 1 (vp_nar .char ((((48 : Int32) + (a - a / 10 * 10)).toUInt32 % 65536).toInt32))) 2 32) 3 108) 4 100) 5 97) 6 32) 7 35)) (q_uI (q_uI q_IM 0 39 0) 0 35 8) q_J0, 34, 31630))) 10 (fun _ _ => rfl) ?_
      refine q_Ru_call (v := none) (h2 := (q_cM (q_uA (q_uA (q_uA q_AM 33 f32) 32 (upd (upd (upd (upd (upd (upd (upd (upd (fun _ => 0) 0 (vp_nar .char ((((48 : Int32) + ((a / 10) - (a / 10) / 10 * 10)).toUInt32 % 65536).toInt32))) 1 (vp_nar .char ((((48 : Int32) + (a - a / 10 * 10)).toUInt32 % 65536).toInt32))) 2 32) 3 108) 4 100) 5 97) 6 32) 7 35)) 32 (upd (upd (upd (upd (upd (upd (upd (upd (upd (fun _ => 0) 0 (vp_nar .char ((((48 : Int32) + ((a / 10) - (a / 10) / 10 * 10)).toUInt32 % 65536).toInt32))) 1 (vp_nar .char ((((48 : Int32) + (a - a / 10 * 10)).toUInt32 % 65536).toInt32))) 2 32) 3 108) 4 100) 5 97) 6 32) 7 35) 8 48)) (q_uI (q_uI q_IM 0 39 0) 0 35 9) q_J0, 34, 31630)) rfl rfl ?_ ?_
      · refine q_Ca_of (Nat.le_of_ble_eq_true rfl) ?_
        refine q_Ru_seg (g2 := (8, [(0, .ref 64), (1, .int 48)], [.int 8, .ref 96], (q_cM (q_uA (q_uA q_AM 33 f32) 32 (upd (upd (upd (upd (upd (upd (upd (upd (fun _ => 0) 0 (vp_nar .char ((((48 : Int32) + ((a / 10) - (a / 10) / 10 * 10)).toUInt32 % 65536).toInt32))) 1 (vp_nar .char ((((48 : Int32) + (a - a / 10 * 10)).toUInt32 % 65536).toInt32))) 2 32) 3 108) 4 100) 5 97) 6 32) 7 35)) (q_uI (q_uI q_IM 0 39 0) 0 35 8) q_J0, 34, 31630))) 4 (fun _ _ => rfl) ?_
        refine q_Ru_seg (g2 := (15, [(0, .ref 64), (1, .int 48)], [.int 8, .ref 64], (q_cM (q_uA (q_uA (q_uA q_AM 33 f32) 32 (upd (upd (upd (upd (upd (upd (upd (upd (fun _ => 0) 0 (vp_nar .char ((((48 : Int32) + ((a / 10) - (a / 10) / 10 * 10)).toUInt32 % 65536).toInt32))) 1 (vp_nar .char ((((48 : Int32) + (a - a / 10 * 10)).toUInt32 % 65536).toInt32))) 2 32) 3 108) 4 100) 5 97) 6 32) 7 35)) 32 (upd (upd (upd (upd (upd (upd (upd (upd (upd (fun _ => 0) 0 (vp_nar .char ((((48 : Int32) + ((a / 10) - (a / 10) / 10 * 10)).toUInt32 % 65536).toInt32))) 1 (vp_nar .char ((((48 : Int32) + (a - a / 10 * 10)).toUInt32 % 65536).toInt32))) 2 32) 3 108) 4 100) 5 97) 6 32) 7 35) 8 48)) (q_uI (q_uI q_IM 0 39 0) 0 35 8) q_J0, 34, 31630))) 5 (fun _ _ => rfl) ?_
        refine q_Ru_seg (g2 := (20, [(0, .ref 64), (1, .int 48)], [], (q_cM (q_uA (q_uA (q_uA q_AM 33 f32) 32 (upd (upd (upd (upd (upd (upd (upd (upd (fun _ => 0) 0 (vp_nar .char ((((48 : Int32) + ((a / 10) - (a / 10) / 10 * 10)).toUInt32 % 65536).toInt32))) 1 (vp_nar .char ((((48 : Int32) + (a - a / 10 * 10)).toUInt32 % 65536).toInt32))) 2 32) 3 108) 4 100) 5 97) 6 32) 7 35)) 32 (upd (upd (upd (upd (upd (upd (upd (upd (upd (fun _ => 0) 0 (vp_nar .char ((((48 : Int32) + ((a / 10) - (a / 10) / 10 * 10)).toUInt32 % 65536).toInt32))) 1 (vp_nar .char ((((48 : Int32) + (a - a / 10 * 10)).toUInt32 % 65536).toInt32))) 2 32) 3 108) 4 100) 5 97) 6 32) 7 35) 8 48)) (q_uI (q_uI q_IM 0 39 0) 0 35 9) q_J0, 34, 31630))) 3 (fun _ _ => rfl) ?_
        exact q_Ru_ret rfl rfl
      show q_Ru _ _ _ (26, [(0, .ref 64), (1, .int 0)], [], (q_cM (q_uA (q_uA (q_uA q_AM 33 f32) 32 (upd (upd (upd (upd (upd (upd (upd (upd (fun _ => 0) 0 (vp_nar .char ((((48 : Int32) + ((a / 10) - (a / 10) / 10 * 10)).toUInt32 % 65536).toInt32))) 1 (vp_nar .char ((((48 : Int32) + (a - a / 10 * 10)).toUInt32 % 65536).toInt32))) 2 32) 3 108) 4 100) 5 97) 6 32) 7 35)) 32 (upd (upd (upd (upd (upd (upd (upd (upd (upd (fun _ => 0) 0 (vp_nar .char ((((48 : Int32) + ((a / 10) - (a / 10) / 10 * 10)).toUInt32 % 65536).toInt32))) 1 (vp_nar .char ((((48 : Int32) + (a - a / 10 * 10)).toUInt32 % 65536).toInt32))) 2 32) 3 108) 4 100) 5 97) 6 32) 7 35) 8 48)) (q_uI (q_uI q_IM 0 39 0) 0 35 9) q_J0, 34, 31630)) _
      exact q_Ru_ret rfl rfl
    show q_Ru _ _ _ (57, [(0, .ref 64), (1, .int 0), (2, .int a)], [], (q_cM (q_uA (q_uA (q_uA q_AM 33 f32) 32 (upd (upd (upd (upd (upd (upd (upd (upd (fun _ => 0) 0 (vp_nar .char ((((48 : Int32) + ((a / 10) - (a / 10) / 10 * 10)).toUInt32 % 65536).toInt32))) 1 (vp_nar .char ((((48 : Int32) + (a - a / 10 * 10)).toUInt32 % 65536).toInt32))) 2 32) 3 108) 4 100) 5 97) 6 32) 7 35)) 32 (upd (upd (upd (upd (upd (upd (upd (upd (upd (fun _ => 0) 0 (vp_nar .char ((((48 : Int32) + ((a / 10) - (a / 10) / 10 * 10)).toUInt32 % 65536).toInt32))) 1 (vp_nar .char ((((48 : Int32) + (a - a / 10 * 10)).toUInt32 % 65536).toInt32))) 2 32) 3 108) 4 100) 5 97) 6 32) 7 35) 8 48)) (q_uI (q_uI q_IM 0 39 0) 0 35 9) q_J0, 34, 31630)) _
    refine q_Ru_seg (g2 := (136, [(0, .ref 64), (1, .int 0), (2, .int a)], [], (q_cM (q_uA (q_uA (q_uA q_AM 33 f32) 32 (upd (upd (upd (upd (upd (upd (upd (upd (fun _ => 0) 0 (vp_nar .char ((((48 : Int32) + ((a / 10) - (a / 10) / 10 * 10)).toUInt32 % 65536).toInt32))) 1 (vp_nar .char ((((48 : Int32) + (a - a / 10 * 10)).toUInt32 % 65536).toInt32))) 2 32) 3 108) 4 100) 5 97) 6 32) 7 35)) 32 (upd (upd (upd (upd (upd (upd (upd (upd (upd (fun _ => 0) 0 (vp_nar .char ((((48 : Int32) + ((a / 10) - (a / 10) / 10 * 10)).toUInt32 % 65536).toInt32))) 1 (vp_nar .char ((((48 : Int32) + (a - a / 10 * 10)).toUInt32 % 65536).toInt32))) 2 32) 3 108) 4 100) 5 97) 6 32) 7 35) 8 48)) (q_uI (q_uI q_IM 0 39 0) 0 35 9) q_J0, 34, 31630))) 27 (fun _ _ => rfl) ?_
    exact q_Ru_ret rfl rfl
  show q_Ru _ _ _ (94, [(2, .int 0), (0, .ref 64), (1, .int a)], [], (q_cM (q_uA (q_uA (q_uA q_AM 33 f32) 32 (upd (upd (upd (upd (upd (upd (upd (upd (fun _ => 0) 0 (vp_nar .char ((((48 : Int32) + ((a / 10) - (a / 10) / 10 * 10)).toUInt32 % 65536).toInt32))) 1 (vp_nar .char ((((48 : Int32) + (a - a / 10 * 10)).toUInt32 % 65536).toInt32))) 2 32) 3 108) 4 100) 5 97) 6 32) 7 35)) 32 (upd (upd (upd (upd (upd (upd (upd (upd (upd (fun _ => 0) 0 (vp_nar .char ((((48 : Int32) + ((a / 10) - (a / 10) / 10 * 10)).toUInt32 % 65536).toInt32))) 1 (vp_nar .char ((((48 : Int32) + (a - a / 10 * 10)).toUInt32 % 65536).toInt32))) 2 32) 3 108) 4 100) 5 97) 6 32) 7 35) 8 48)) (q_uI (q_uI q_IM 0 39 0) 0 35 9) q_J0, 34, 31630)) _
  refine q_Ru_seg (g2 := (107, [(2, .int 0), (0, .ref 64), (1, .int a)], [.int 9], (q_cM (q_uA (q_uA (q_uA q_AM 33 f32) 32 (upd (upd (upd (upd (upd (upd (upd (upd (fun _ => 0) 0 (vp_nar .char ((((48 : Int32) + ((a / 10) - (a / 10) / 10 * 10)).toUInt32 % 65536).toInt32))) 1 (vp_nar .char ((((48 : Int32) + (a - a / 10 * 10)).toUInt32 % 65536).toInt32))) 2 32) 3 108) 4 100) 5 97) 6 32) 7 35)) 32 (upd (upd (upd (upd (upd (upd (upd (upd (upd (fun _ => 0) 0 (vp_nar .char ((((48 : Int32) + ((a / 10) - (a / 10) / 10 * 10)).toUInt32 % 65536).toInt32))) 1 (vp_nar .char ((((48 : Int32) + (a - a / 10 * 10)).toUInt32 % 65536).toInt32))) 2 32) 3 108) 4 100) 5 97) 6 32) 7 35) 8 48)) (q_uI (q_uI q_IM 0 39 0) 0 35 9) q_J0, 34, 31630))) 3 (fun _ _ => rfl) ?_
  exact q_Ru_ret rfl rfl
set_option maxHeartbeats 20000000 in
theorem q_xc232 (L : Nat) (xs : Nat → Int32) (a : Int32) (hl_a : 10 ≤ a.toInt) (hu_a : a.toInt ≤ 99) (f31 : Nat → Int32) (f32 : Nat → Int32) (p32 : q_Ca q_TB0 4 214 [.ref 64, .int ((a + 1) &&& 4095)] (q_cM (q_uA (q_uA q_AM 33 f31) 32 (upd (upd (upd (upd (upd (upd (upd (upd (fun _ => 0) 0 (vp_nar .char ((((48 : Int32) + ((a / 10) - (a / 10) / 10 * 10)).toUInt32 % 65536).toInt32))) 1 (vp_nar .char ((((48 : Int32) + (a - a / 10 * 10)).toUInt32 % 65536).toInt32))) 2 32) 3 108) 4 100) 5 97) 6 32) 7 35)) (q_uI (q_uI q_IM 0 39 0) 0 35 8) q_J0, 34, 31630) (.inl (some (.int 0)), (q_cM (q_uA (q_uA q_AM 33 f32) 32 (upd (upd (upd (upd (upd (upd (upd (upd (fun _ => 0) 0 (vp_nar .char ((((48 : Int32) + ((a / 10) - (a / 10) / 10 * 10)).toUInt32 % 65536).toInt32))) 1 (vp_nar .char ((((48 : Int32) + (a - a / 10 * 10)).toUInt32 % 65536).toInt32))) 2 32) 3 108) 4 100) 5 97) 6 32) 7 35)) (q_uI (q_uI q_IM 0 39 0) 0 35 8) q_J0, 34, 31630))) : q_Ru q_TB0 8 286 (47, [(2, .int 0), (0, .ref 64), (1, .int a)], [.int 0], (q_cM (q_uA (q_uA (q_uA q_AM 33 f31) 32 (fun _ => 0)) 32 (upd (upd (upd (fun _ => 0) 0 (vp_nar .char ((((48 : Int32) + ((a / 10) - (a / 10) / 10 * 10)).toUInt32 % 65536).toInt32))) 1 (vp_nar .char ((((48 : Int32) + (a - a / 10 * 10)).toUInt32 % 65536).toInt32))) 2 32)) (q_uI (q_uI q_IM 0 39 0) 0 35 3) q_J0, 34, 31630)) (.inl (some (.int 9)), (q_cM (q_uA (q_uA (q_uA q_AM 33 f32) 32 (upd (upd (upd (upd (upd (upd (upd (upd (fun _ => 0) 0 (vp_nar .char ((((48 : Int32) + ((a / 10) - (a / 10) / 10 * 10)).toUInt32 % 65536).toInt32))) 1 (vp_nar .char ((((48 : Int32) + (a - a / 10 * 10)).toUInt32 % 65536).toInt32))) 2 32) 3 108) 4 100) 5 97) 6 32) 7 35)) 32 (upd (upd (upd (upd (upd (upd (upd (upd (upd (fun _ => 0) 0 (vp_nar .char ((((48 : Int32) + ((a / 10) - (a / 10) / 10 * 10)).toUInt32 % 65536).toInt32))) 1 (vp_nar .char ((((48 : Int32) + (a - a / 10 * 10)).toUInt32 % 65536).toInt32))) 2 32) 3 108) 4 100) 5 97) 6 32) 7 35) 8 48)) (q_uI (q_uI q_IM 0 39 0) 0 35 9) q_J0, 34, 31630)) := by
  refine q_Ru_seg (g2 := (75, [(2, .int 0), (0, .ref 64), (1, .int a)], [.int 0, .ref 64], (q_cM (q_uA (q_uA (q_uA q_AM 33 f31) 32 (fun _ => 0)) 32 (upd (upd (upd (fun _ => 0) 0 (vp_nar .char ((((48 : Int32) + ((a / 10) - (a / 10) / 10 * 10)).toUInt32 % 65536).toInt32))) 1 (vp_nar .char ((((48 : Int32) + (a - a / 10 * 10)).toUInt32 % 65536).toInt32))) 2 32)) (q_uI (q_uI q_IM 0 39 0) 0 35 3) q_J0, 34, 31630))) 3 (fun _ _ => rfl) ?_
  refine q_Ru_call (v := none) (h2 := (q_cM (q_uA (q_uA (q_uA q_AM 33 f31) 32 (fun _ => 0)) 32 (upd (upd (upd (upd (upd (upd (fun _ => 0) 0 (vp_nar .char ((((48 : Int32) + ((a / 10) - (a / 10) / 10 * 10)).toUInt32 % 65536).toInt32))) 1 (vp_nar .char ((((48 : Int32) + (a - a / 10 * 10)).toUInt32 % 65536).toInt32))) 2 32) 3 108) 4 100) 5 97)) (q_uI (q_uI q_IM 0 39 0) 0 35 6) q_J0, 34, 31630)) rfl rfl ?_ ?_
  · refine q_Ca_of (Nat.le_of_ble_eq_true rfl) ?_
    refine q_Ru_seg (g2 := (1, [(0, .ref 64), (1, .int 0)], [.int 0], (q_cM (q_uA (q_uA (q_uA q_AM 33 f31) 32 (fun _ => 0)) 32 (upd (upd (upd (fun _ => 0) 0 (vp_nar .char ((((48 : Int32) + ((a / 10) - (a / 10) / 10 * 10)).toUInt32 % 65536).toInt32))) 1 (vp_nar .char ((((48 : Int32) + (a - a / 10 * 10)).toUInt32 % 65536).toInt32))) 2 32)) (q_uI (q_uI q_IM 0 39 0) 0 35 3) q_J0, 34, 31630))) 1 (fun _ _ => rfl) ?_
    refine q_Ru_call (v := (some (.int 0))) (h2 := (q_cM (q_uA (q_uA (q_uA q_AM 33 f31) 32 (fun _ => 0)) 32 (upd (upd (upd (fun _ => 0) 0 (vp_nar .char ((((48 : Int32) + ((a / 10) - (a / 10) / 10 * 10)).toUInt32 % 65536).toInt32))) 1 (vp_nar .char ((((48 : Int32) + (a - a / 10 * 10)).toUInt32 % 65536).toInt32))) 2 32)) (q_uI (q_uI q_IM 0 39 0) 0 35 3) q_J0, 34, 31630)) rfl rfl ?_ ?_
    · refine q_Ca_of (Nat.le_of_ble_eq_true rfl) ?_
      refine q_Ru_seg (g2 := (42, [(0, .int 0)], [.int 0], (q_cM (q_uA (q_uA (q_uA q_AM 33 f31) 32 (fun _ => 0)) 32 (upd (upd (upd (fun _ => 0) 0 (vp_nar .char ((((48 : Int32) + ((a / 10) - (a / 10) / 10 * 10)).toUInt32 % 65536).toInt32))) 1 (vp_nar .char ((((48 : Int32) + (a - a / 10 * 10)).toUInt32 % 65536).toInt32))) 2 32)) (q_uI (q_uI q_IM 0 39 0) 0 35 3) q_J0, 34, 31630))) 7 (fun _ _ => rfl) ?_
      exact q_Ru_ret rfl rfl
    show q_Ru _ _ _ (4, [(0, .ref 64), (1, .int 0)], [.int 0], (q_cM (q_uA (q_uA (q_uA q_AM 33 f31) 32 (fun _ => 0)) 32 (upd (upd (upd (fun _ => 0) 0 (vp_nar .char ((((48 : Int32) + ((a / 10) - (a / 10) / 10 * 10)).toUInt32 % 65536).toInt32))) 1 (vp_nar .char ((((48 : Int32) + (a - a / 10 * 10)).toUInt32 % 65536).toInt32))) 2 32)) (q_uI (q_uI q_IM 0 39 0) 0 35 3) q_J0, 34, 31630)) _
    refine q_Ru_seg (g2 := (26, [(3, .int 0), (2, .int 0), (0, .ref 64), (1, .int 0)], [.int 108, .ref 64], (q_cM (q_uA (q_uA (q_uA q_AM 33 f31) 32 (fun _ => 0)) 32 (upd (upd (upd (fun _ => 0) 0 (vp_nar .char ((((48 : Int32) + ((a / 10) - (a / 10) / 10 * 10)).toUInt32 % 65536).toInt32))) 1 (vp_nar .char ((((48 : Int32) + (a - a / 10 * 10)).toUInt32 % 65536).toInt32))) 2 32)) (q_uI (q_uI q_IM 0 39 0) 0 35 3) q_J0, 34, 31630))) 16 (fun _ _ => rfl) ?_
    refine q_Ru_seg (g2 := (42, [(3, .int 0), (2, .int 0), (0, .ref 64), (1, .int 0)], [.int 108, .ref 64], (q_cM (q_uA (q_uA (q_uA q_AM 33 f31) 32 (fun _ => 0)) 32 (upd (upd (upd (fun _ => 0) 0 (vp_nar .char ((((48 : Int32) + ((a / 10) - (a / 10) / 10 * 10)).toUInt32 % 65536).toInt32))) 1 (vp_nar .char ((((48 : Int32) + (a - a / 10 * 10)).toUInt32 % 65536).toInt32))) 2 32)) (q_uI (q_uI q_IM 0 39 0) 0 35 3) q_J0, 34, 31630))) 1 (fun _ _ => rfl) ?_
    refine q_Ru_call (v := none) (h2 := (q_cM (q_uA (q_uA (q_uA q_AM 33 f31) 32 (fun _ => 0)) 32 (upd (upd (upd (upd (fun _ => 0) 0 (vp_nar .char ((((48 : Int32) + ((a / 10) - (a / 10) / 10 * 10)).toUInt32 % 65536).toInt32))) 1 (vp_nar .char ((((48 : Int32) + (a - a / 10 * 10)).toUInt32 % 65536).toInt32))) 2 32) 3 108)) (q_uI (q_uI q_IM 0 39 0) 0 35 4) q_J0, 34, 31630)) rfl rfl ?_ ?_
    · refine q_Ca_of (Nat.le_of_ble_eq_true rfl) ?_
      refine q_Ru_seg (g2 := (8, [(0, .ref 64), (1, .int 108)], [.int 3, .ref 96], (q_cM (q_uA (q_uA (q_uA q_AM 33 f31) 32 (fun _ => 0)) 32 (upd (upd (upd (fun _ => 0) 0 (vp_nar .char ((((48 : Int32) + ((a / 10) - (a / 10) / 10 * 10)).toUInt32 % 65536).toInt32))) 1 (vp_nar .char ((((48 : Int32) + (a - a / 10 * 10)).toUInt32 % 65536).toInt32))) 2 32)) (q_uI (q_uI q_IM 0 39 0) 0 35 3) q_J0, 34, 31630))) 4 (fun _ _ => rfl) ?_
      refine q_Ru_seg (g2 := (15, [(0, .ref 64), (1, .int 108)], [.int 3, .ref 64], (q_cM (q_uA (q_uA (q_uA q_AM 33 f31) 32 (fun _ => 0)) 32 (upd (upd (upd (upd (fun _ => 0) 0 (vp_nar .char ((((48 : Int32) + ((a / 10) - (a / 10) / 10 * 10)).toUInt32 % 65536).toInt32))) 1 (vp_nar .char ((((48 : Int32) + (a - a / 10 * 10)).toUInt32 % 65536).toInt32))) 2 32) 3 108)) (q_uI (q_uI q_IM 0 39 0) 0 35 3) q_J0, 34, 31630))) 5 (fun _ _ => rfl) ?_
      refine q_Ru_seg (g2 := (20, [(0, .ref 64), (1, .int 108)], [], (q_cM (q_uA (q_uA (q_uA q_AM 33 f31) 32 (fun _ => 0)) 32 (upd (upd (upd (upd (fun _ => 0) 0 (vp_nar .char ((((48 : Int32) + ((a / 10) - (a / 10) / 10 * 10)).toUInt32 % 65536).toInt32))) 1 (vp_nar .char ((((48 : Int32) + (a - a / 10 * 10)).toUInt32 % 65536).toInt32))) 2 32) 3 108)) (q_uI (q_uI q_IM 0 39 0) 0 35 4) q_J0, 34, 31630))) 3 (fun _ _ => rfl) ?_
      exact q_Ru_ret rfl rfl
    show q_Ru _ _ _ (45, [(3, .int 0), (2, .int 0), (0, .ref 64), (1, .int 0)], [], (q_cM (q_uA (q_uA (q_uA q_AM 33 f31) 32 (fun _ => 0)) 32 (upd (upd (upd (upd (fun _ => 0) 0 (vp_nar .char ((((48 : Int32) + ((a / 10) - (a / 10) / 10 * 10)).toUInt32 % 65536).toInt32))) 1 (vp_nar .char ((((48 : Int32) + (a - a / 10 * 10)).toUInt32 % 65536).toInt32))) 2 32) 3 108)) (q_uI (q_uI q_IM 0 39 0) 0 35 4) q_J0, 34, 31630)) _
    refine q_Ru_seg (g2 := (26, [(3, .int 1), (2, .int 0), (0, .ref 64), (1, .int 0)], [.int 100, .ref 64], (q_cM (q_uA (q_uA (q_uA q_AM 33 f31) 32 (fun _ => 0)) 32 (upd (upd (upd (upd (fun _ => 0) 0 (vp_nar .char ((((48 : Int32) + ((a / 10) - (a / 10) / 10 * 10)).toUInt32 % 65536).toInt32))) 1 (vp_nar .char ((((48 : Int32) + (a - a / 10 * 10)).toUInt32 % 65536).toInt32))) 2 32) 3 108)) (q_uI (q_uI q_IM 0 39 0) 0 35 4) q_J0, 34, 31630))) 15 (fun _ _ => rfl) ?_
    refine q_Ru_seg (g2 := (42, [(3, .int 1), (2, .int 0), (0, .ref 64), (1, .int 0)], [.int 100, .ref 64], (q_cM (q_uA (q_uA (q_uA q_AM 33 f31) 32 (fun _ => 0)) 32 (upd (upd (upd (upd (fun _ => 0) 0 (vp_nar .char ((((48 : Int32) + ((a / 10) - (a / 10) / 10 * 10)).toUInt32 % 65536).toInt32))) 1 (vp_nar .char ((((48 : Int32) + (a - a / 10 * 10)).toUInt32 % 65536).toInt32))) 2 32) 3 108)) (q_uI (q_uI q_IM 0 39 0) 0 35 4) q_J0, 34, 31630))) 1 (fun _ _ => rfl) ?_
    refine q_Ru_call (v := none) (h2 := (q_cM (q_uA (q_uA (q_uA q_AM 33 f31) 32 (fun _ => 0)) 32 (upd (upd (upd (upd (upd (fun _ => 0) 0 (vp_nar .char ((((48 : Int32) + ((a / 10) - (a / 10) / 10 * 10)).toUInt32 % 65536).toInt32))) 1 (vp_nar .char ((((48 : Int32) + (a - a / 10 * 10)).toUInt32 % 65536).toInt32))) 2 32) 3 108) 4 100)) (q_uI (q_uI q_IM 0 39 0) 0 35 5) q_J0, 34, 31630)) rfl rfl ?_ ?_
    · refine q_Ca_of (Nat.le_of_ble_eq_true rfl) ?_
      refine q_Ru_seg (g2 := (8, [(0, .ref 64), (1, .int 100)], [.int 4, .ref 96], (q_cM (q_uA (q_uA (q_uA q_AM 33 f31) 32 (fun _ => 0)) 32 (upd (upd (upd (upd (fun _ => 0) 0 (vp_nar .char ((((48 : Int32) + ((a / 10) - (a / 10) / 10 * 10)).toUInt32 % 65536).toInt32))) 1 (vp_nar .char ((((48 : Int32) + (a - a / 10 * 10)).toUInt32 % 65536).toInt32))) 2 32) 3 108)) (q_uI (q_uI q_IM 0 39 0) 0 35 4) q_J0, 34, 31630))) 4 (fun _ _ => rfl) ?_
      refine q_Ru_seg (g2 := (15, [(0, .ref 64), (1, .int 100)], [.int 4, .ref 64], (q_cM (q_uA (q_uA (q_uA q_AM 33 f31) 32 (fun _ => 0)) 32 (upd (upd (upd (upd (upd (fun _ => 0) 0 (vp_nar .char ((((48 : Int32) + ((a / 10) - (a / 10) / 10 * 10)).toUInt32 % 65536).toInt32))) 1 (vp_nar .char ((((48 : Int32) + (a - a / 10 * 10)).toUInt32 % 65536).toInt32))) 2 32) 3 108) 4 100)) (q_uI (q_uI q_IM 0 39 0) 0 35 4) q_J0, 34, 31630))) 5 (fun _ _ => rfl) ?_
      refine q_Ru_seg (g2 := (20, [(0, .ref 64), (1, .int 100)], [], (q_cM (q_uA (q_uA (q_uA q_AM 33 f31) 32 (fun _ => 0)) 32 (upd (upd (upd (upd (upd (fun _ => 0) 0 (vp_nar .char ((((48 : Int32) + ((a / 10) - (a / 10) / 10 * 10)).toUInt32 % 65536).toInt32))) 1 (vp_nar .char ((((48 : Int32) + (a - a / 10 * 10)).toUInt32 % 65536).toInt32))) 2 32) 3 108) 4 100)) (q_uI (q_uI q_IM 0 39 0) 0 35 5) q_J0, 34, 31630))) 3 (fun _ _ => rfl) ?_
      exact q_Ru_ret rfl rfl
    show q_Ru _ _ _ (45, [(3, .int 1), (2, .int 0), (0, .ref 64), (1, .int 0)], [], (q_cM (q_uA (q_uA (q_uA q_AM 33 f31) 32 (fun _ => 0)) 32 (upd (upd (upd (upd (upd (fun _ => 0) 0 (vp_nar .char ((((48 : Int32) + ((a / 10) - (a / 10) / 10 * 10)).toUInt32 % 65536).toInt32))) 1 (vp_nar .char ((((48 : Int32) + (a - a / 10 * 10)).toUInt32 % 65536).toInt32))) 2 32) 3 108) 4 100)) (q_uI (q_uI q_IM 0 39 0) 0 35 5) q_J0, 34, 31630)) _
    refine q_Ru_seg (g2 := (26, [(3, .int 2), (2, .int 0), (0, .ref 64), (1, .int 0)], [.int 97, .ref 64], (q_cM (q_uA (q_uA (q_uA q_AM 33 f31) 32 (fun _ => 0)) 32 (upd (upd (upd (upd (upd (fun _ => 0) 0 (vp_nar .char ((((48 : Int32) + ((a / 10) - (a / 10) / 10 * 10)).toUInt32 % 65536).toInt32))) 1 (vp_nar .char ((((48 : Int32) + (a - a / 10 * 10)).toUInt32 % 65536).toInt32))) 2 32) 3 108) 4 100)) (q_uI (q_uI q_IM 0 39 0) 0 35 5) q_J0, 34, 31630))) 15 (fun _ _ => rfl) ?_
    refine q_Ru_seg (g2 := (42, [(3, .int 2), (2, .int 0), (0, .ref 64), (1, .int 0)], [.int 97, .ref 64], (q_cM (q_uA (q_uA (q_uA q_AM 33 f31) 32 (fun _ => 0)) 32 (upd (upd (upd (upd (upd (fun _ => 0) 0 (vp_nar .char ((((48 : Int32) + ((a / 10) - (a / 10) / 10 * 10)).toUInt32 % 65536).toInt32))) 1 (vp_nar .char ((((48 : Int32) + (a - a / 10 * 10)).toUInt32 % 65536).toInt32))) 2 32) 3 108) 4 100)) (q_uI (q_uI q_IM 0 39 0) 0 35 5) q_J0, 34, 31630))) 1 (fun _ _ => rfl) ?_
    refine q_Ru_call (v := none) (h2 := (q_cM (q_uA (q_uA (q_uA q_AM 33 f31) 32 (fun _ => 0)) 32 (upd (upd (upd (upd (upd (upd (fun _ => 0) 0 (vp_nar .char ((((48 : Int32) + ((a / 10) - (a / 10) / 10 * 10)).toUInt32 % 65536).toInt32))) 1 (vp_nar .char ((((48 : Int32) + (a - a / 10 * 10)).toUInt32 % 65536).toInt32))) 2 32) 3 108) 4 100) 5 97)) (q_uI (q_uI q_IM 0 39 0) 0 35 6) q_J0, 34, 31630)) rfl rfl ?_ ?_
    · refine q_Ca_of (Nat.le_of_ble_eq_true rfl) ?_
      refine q_Ru_seg (g2 := (8, [(0, .ref 64), (1, .int 97)], [.int 5, .ref 96], (q_cM (q_uA (q_uA (q_uA q_AM 33 f31) 32 (fun _ => 0)) 32 (upd (upd (upd (upd (upd (fun _ => 0) 0 (vp_nar .char ((((48 : Int32) + ((a / 10) - (a / 10) / 10 * 10)).toUInt32 % 65536).toInt32))) 1 (vp_nar .char ((((48 : Int32) + (a - a / 10 * 10)).toUInt32 % 65536).toInt32))) 2 32) 3 108) 4 100)) (q_uI (q_uI q_IM 0 39 0) 0 35 5) q_J0, 34, 31630))) 4 (fun _ _ => rfl) ?_
      refine q_Ru_seg (g2 := (15, [(0, .ref 64), (1, .int 97)], [.int 5, .ref 64], (q_cM (q_uA (q_uA (q_uA q_AM 33 f31) 32 (fun _ => 0)) 32 (upd (upd (upd (upd (upd (upd (fun _ => 0) 0 (vp_nar .char ((((48 : Int32) + ((a / 10) - (a / 10) / 10 * 10)).toUInt32 % 65536).toInt32))) 1 (vp_nar .char ((((48 : Int32) + (a - a / 10 * 10)).toUInt32 % 65536).toInt32))) 2 32) 3 108) 4 100) 5 97)) (q_uI (q_uI q_IM 0 39 0) 0 35 5) q_J0, 34, 31630))) 5 (fun _ _ => rfl) ?_
      refine q_Ru_seg (g2 := (20, [(0, .ref 64), (1, .int 97)], [], (q_cM (q_uA (q_uA (q_uA q_AM 33 f31) 32 (fun _ => 0)) 32 (upd (upd (upd (upd (upd (upd (fun _ => 0) 0 (vp_nar .char ((((48 : Int32) + ((a / 10) - (a / 10) / 10 * 10)).toUInt32 % 65536).toInt32))) 1 (vp_nar .char ((((48 : Int32) + (a - a / 10 * 10)).toUInt32 % 65536).toInt32))) 2 32) 3 108) 4 100) 5 97)) (q_uI (q_uI q_IM 0 39 0) 0 35 6) q_J0, 34, 31630))) 3 (fun _ _ => rfl) ?_
      exact q_Ru_ret rfl rfl
    show q_Ru _ _ _ (45, [(3, .int 2), (2, .int 0), (0, .ref 64), (1, .int 0)], [], (q_cM (q_uA (q_uA (q_uA q_AM 33 f31) 32 (fun _ => 0)) 32 (upd (upd (upd (upd (upd (upd (fun _ => 0) 0 (vp_nar .char ((((48 : Int32) + ((a / 10) - (a / 10) / 10 * 10)).toUInt32 % 65536).toInt32))) 1 (vp_nar .char ((((48 : Int32) + (a - a / 10 * 10)).toUInt32 % 65536).toInt32))) 2 32) 3 108) 4 100) 5 97)) (q_uI (q_uI q_IM 0 39 0) 0 35 6) q_J0, 34, 31630)) _
    refine q_Ru_seg (g2 := (51, [(3, .int 3), (2, .int 0), (0, .ref 64), (1, .int 0)], [], (q_cM (q_uA (q_uA (q_uA q_AM 33 f31) 32 (fun _ => 0)) 32 (upd (upd (upd (upd (upd (upd (fun _ => 0) 0 (vp_nar .char ((((48 : Int32) + ((a / 10) - (a / 10) / 10 * 10)).toUInt32 % 65536).toInt32))) 1 (vp_nar .char ((((48 : Int32) + (a - a / 10 * 10)).toUInt32 % 65536).toInt32))) 2 32) 3 108) 4 100) 5 97)) (q_uI (q_uI q_IM 0 39 0) 0 35 6) q_J0, 34, 31630))) 5 (fun _ _ => rfl) ?_
    exact q_Ru_ret rfl rfl
  show q_Ru _ _ _ (78, [(2, .int 0), (0, .ref 64), (1, .int a)], [], (q_cM (q_uA (q_uA (q_uA q_AM 33 f31) 32 (fun _ => 0)) 32 (upd (upd (upd (upd (upd (upd (fun _ => 0) 0 (vp_nar .char ((((48 : Int32) + ((a / 10) - (a / 10) / 10 * 10)).toUInt32 % 65536).toInt32))) 1 (vp_nar .char ((((48 : Int32) + (a - a / 10 * 10)).toUInt32 % 65536).toInt32))) 2 32) 3 108) 4 100) 5 97)) (q_uI (q_uI q_IM 0 39 0) 0 35 6) q_J0, 34, 31630)) _
  refine q_Ru_seg (g2 := (79, [(2, .int 0), (0, .ref 64), (1, .int a)], [.int 0], (q_cM (q_uA (q_uA (q_uA q_AM 33 f31) 32 (fun _ => 0)) 32 (upd (upd (upd (upd (upd (upd (fun _ => 0) 0 (vp_nar .char ((((48 : Int32) + ((a / 10) - (a / 10) / 10 * 10)).toUInt32 % 65536).toInt32))) 1 (vp_nar .char ((((48 : Int32) + (a - a / 10 * 10)).toUInt32 % 65536).toInt32))) 2 32) 3 108) 4 100) 5 97)) (q_uI (q_uI q_IM 0 39 0) 0 35 6) q_J0, 34, 31630))) 1 (fun _ _ => rfl) ?_
  refine q_Ru_call (v := (some (.int 0))) (h2 := (q_cM (q_uA (q_uA (q_uA q_AM 33 f31) 32 (fun _ => 0)) 32 (upd (upd (upd (upd (upd (upd (fun _ => 0) 0 (vp_nar .char ((((48 : Int32) + ((a / 10) - (a / 10) / 10 * 10)).toUInt32 % 65536).toInt32))) 1 (vp_nar .char ((((48 : Int32) + (a - a / 10 * 10)).toUInt32 % 65536).toInt32))) 2 32) 3 108) 4 100) 5 97)) (q_uI (q_uI q_IM 0 39 0) 0 35 6) q_J0, 34, 31630)) rfl rfl ?_ ?_
  · refine q_Ca_of (Nat.le_of_ble_eq_true rfl) ?_
    refine q_Ru_seg (g2 := (42, [(0, .int 0)], [.int 0], (q_cM (q_uA (q_uA (q_uA q_AM 33 f31) 32 (fun _ => 0)) 32 (upd (upd (upd (upd (upd (upd (fun _ => 0) 0 (vp_nar .char ((((48 : Int32) + ((a / 10) - (a / 10) / 10 * 10)).toUInt32 % 65536).toInt32))) 1 (vp_nar .char ((((48 : Int32) + (a - a / 10 * 10)).toUInt32 % 65536).toInt32))) 2 32) 3 108) 4 100) 5 97)) (q_uI (q_uI q_IM 0 39 0) 0 35 6) q_J0, 34, 31630))) 7 (fun _ _ => rfl) ?_
    exact q_Ru_ret rfl rfl
  show q_Ru _ _ _ (82, [(2, .int 0), (0, .ref 64), (1, .int a)], [.int 0], (q_cM (q_uA (q_uA (q_uA q_AM 33 f31) 32 (fun _ => 0)) 32 (upd (upd (upd (upd (upd (upd (fun _ => 0) 0 (vp_nar .char ((((48 : Int32) + ((a / 10) - (a / 10) / 10 * 10)).toUInt32 % 65536).toInt32))) 1 (vp_nar .char ((((48 : Int32) + (a - a / 10 * 10)).toUInt32 % 65536).toInt32))) 2 32) 3 108) 4 100) 5 97)) (q_uI (q_uI q_IM 0 39 0) 0 35 6) q_J0, 34, 31630)) _
  exact q_Ru_le (Nat.le_of_ble_eq_true rfl) (q_xc231 L xs a hl_a hu_a f31 f32 p32)
set_option maxHeartbeats 20000000 in
theorem q_xc233 (L : Nat) (xs : Nat → Int32) (a : Int32) (hl_a : 10 ≤ a.toInt) (hu_a : a.toInt ≤ 99) (f31 : Nat → Int32) (f32 : Nat → Int32) (h216 : decide (a < 10) = false) (h217 : decide (a / 10 < 10) = true) (p32 : q_Ca q_TB0 4 214 [.ref 64, .int ((a + 1) &&& 4095)] (q_cM (q_uA (q_uA q_AM 33 f31) 32 (upd (upd (upd (upd (upd (upd (upd (upd (fun _ => 0) 0 (vp_nar .char ((((48 : Int32) + ((a / 10) - (a / 10) / 10 * 10)).toUInt32 % 65536).toInt32))) 1 (vp_nar .char ((((48 : Int32) + (a - a / 10 * 10)).toUInt32 % 65536).toInt32))) 2 32) 3 108) 4 100) 5 97) 6 32) 7 35)) (q_uI (q_uI q_IM 0 39 0) 0 35 8) q_J0, 34, 31630) (.inl (some (.int 0)), (q_cM (q_uA (q_uA q_AM 33 f32) 32 (upd (upd (upd (upd (upd (upd (upd (upd (fun _ => 0) 0 (vp_nar .char ((((48 : Int32) + ((a / 10) - (a / 10) / 10 * 10)).toUInt32 % 65536).toInt32))) 1 (vp_nar .char ((((48 : Int32) + (a - a / 10 * 10)).toUInt32 % 65536).toInt32))) 2 32) 3 108) 4 100) 5 97) 6 32) 7 35)) (q_uI (q_uI q_IM 0 39 0) 0 35 8) q_J0, 34, 31630))) : q_Ru q_TB0 8 286 (26, [(0, .ref 64), (1, .int a)], [.int 0], (q_cM (q_uA (q_uA q_AM 33 f31) 32 (fun _ => 0)) (q_uI q_IM 0 39 0) q_J0, 34, 31630)) (.inl (some (.int 9)), (q_cM (q_uA (q_uA (q_uA q_AM 33 f32) 32 (upd (upd (upd (upd (upd (upd (upd (upd (fun _ => 0) 0 (vp_nar .char ((((48 : Int32) + ((a / 10) - (a / 10) / 10 * 10)).toUInt32 % 65536).toInt32))) 1 (vp_nar .char ((((48 : Int32) + (a - a / 10 * 10)).toUInt32 % 65536).toInt32))) 2 32) 3 108) 4 100) 5 97) 6 32) 7 35)) 32 (upd (upd (upd (upd (upd (upd (upd (upd (upd (fun _ => 0) 0 (vp_nar .char ((((48 : Int32) + ((a / 10) - (a / 10) / 10 * 10)).toUInt32 % 65536).toInt32))) 1 (vp_nar .char ((((48 : Int32) + (a - a / 10 * 10)).toUInt32 % 65536).toInt32))) 2 32) 3 108) 4 100) 5 97) 6 32) 7 35) 8 48)) (q_uI (q_uI q_IM 0 39 0) 0 35 9) q_J0, 34, 31630)) := by
  refine q_Ru_seg (g2 := (34, [(2, .int 0), (0, .ref 64), (1, .int a)], [.int a, .ref 64], (q_cM (q_uA (q_uA q_AM 33 f31) 32 (fun _ => 0)) (q_uI (q_uI q_IM 0 39 0) 0 35 0) q_J0, 34, 31630))) 6 (fun _ _ => rfl) ?_
  refine q_Ru_call (v := none) (h2 := (q_cM (q_uA (q_uA (q_uA q_AM 33 f31) 32 (fun _ => 0)) 32 (upd (upd (fun _ => 0) 0 (vp_nar .char ((((48 : Int32) + ((a / 10) - (a / 10) / 10 * 10)).toUInt32 % 65536).toInt32))) 1 (vp_nar .char ((((48 : Int32) + (a - a / 10 * 10)).toUInt32 % 65536).toInt32)))) (q_uI (q_uI q_IM 0 39 0) 0 35 2) q_J0, 34, 31630)) rfl rfl ?_ ?_
  · refine q_Ca_of (Nat.le_of_ble_eq_true rfl) ?_
    refine q_Ru_seg (g2 := (3, [(0, .ref 64), (1, .int a)], [.int 10, .int a], (q_cM (q_uA (q_uA q_AM 33 f31) 32 (fun _ => 0)) (q_uI (q_uI q_IM 0 39 0) 0 35 0) q_J0, 34, 31630))) 2 (fun _ _ => rfl) ?_
    refine q_Ru_rsF (g2 := (6, [(0, .ref 64), (1, .int a)], [], (q_cM (q_uA (q_uA q_AM 33 f31) 32 (fun _ => 0)) (q_uI (q_uI q_IM 0 39 0) 0 35 0) q_J0, 34, 31630))) rfl rfl h216 ?_
    refine q_Ru_seg (g2 := (11, [(0, .ref 64), (1, .int a)], [.int (a / 10), .ref 64], (q_cM (q_uA (q_uA q_AM 33 f31) 32 (fun _ => 0)) (q_uI (q_uI q_IM 0 39 0) 0 35 0) q_J0, 34, 31630))) 4 (fun _ _ => rfl) ?_
    refine q_Ru_call (v := none) (h2 := (q_cM (q_uA (q_uA (q_uA q_AM 33 f31) 32 (fun _ => 0)) 32 (upd (fun _ => 0) 0 (vp_nar .char ((((48 : Int32) + ((a / 10) - (a / 10) / 10 * 10)).toUInt32 % 65536).toInt32)))) (q_uI (q_uI q_IM 0 39 0) 0 35 1) q_J0, 34, 31630)) rfl rfl ?_ ?_
    · refine q_Ca_of (Nat.le_of_ble_eq_true rfl) ?_
      refine q_Ru_seg (g2 := (3, [(0, .ref 64), (1, .int (a / 10))], [.int 10, .int (a / 10)], (q_cM (q_uA (q_uA q_AM 33 f31) 32 (fun _ => 0)) (q_uI (q_uI q_IM 0 39 0) 0 35 0) q_J0, 34, 31630))) 2 (fun _ _ => rfl) ?_
      refine q_Ru_rsT (g2 := (14, [(0, .ref 64), (1, .int (a / 10))], [], (q_cM (q_uA (q_uA q_AM 33 f31) 32 (fun _ => 0)) (q_uI (q_uI q_IM 0 39 0) 0 35 0) q_J0, 34, 31630))) rfl rfl h217 ?_
      refine q_Ru_seg (g2 := (23, [(0, .ref 64), (1, .int (a / 10))], [.int ((((48 : Int32) + ((a / 10) - (a / 10) / 10 * 10)).toUInt32 % 65536).toInt32), .ref 64], (q_cM (q_uA (q_uA q_AM 33 f31) 32 (fun _ => 0)) (q_uI (q_uI q_IM 0 39 0) 0 35 0) q_J0, 34, 31630))) 7 (fun _ _ => rfl) ?_
      refine q_Ru_call (v := none) (h2 := (q_cM (q_uA (q_uA (q_uA q_AM 33 f31) 32 (fun _ => 0)) 32 (upd (fun _ => 0) 0 (vp_nar .char ((((48 : Int32) + ((a / 10) - (a / 10) / 10 * 10)).toUInt32 % 65536).toInt32)))) (q_uI (q_uI q_IM 0 39 0) 0 35 1) q_J0, 34, 31630)) rfl rfl ?_ ?_
      · refine q_Ca_of (Nat.le_of_ble_eq_true rfl) ?_
        refine q_Ru_seg (g2 := (8, [(0, .ref 64), (1, .int ((((48 : Int32) + ((a / 10) - (a / 10) / 10 * 10)).toUInt32 % 65536).toInt32))], [.int 0, .ref 96], (q_cM (q_uA (q_uA q_AM 33 f31) 32 (fun _ => 0)) (q_uI (q_uI q_IM 0 39 0) 0 35 0) q_J0, 34, 31630))) 4 (fun _ _ => rfl) ?_
        refine q_Ru_seg (g2 := (15, [(0, .ref 64), (1, .int ((((48 : Int32) + ((a / 10) - (a / 10) / 10 * 10)).toUInt32 % 65536).toInt32))], [.int 0, .ref 64], (q_cM (q_uA (q_uA (q_uA q_AM 33 f31) 32 (fun _ => 0)) 32 (upd (fun _ => 0) 0 (vp_nar .char ((((48 : Int32) + ((a / 10) - (a / 10) / 10 * 10)).toUInt32 % 65536).toInt32)))) (q_uI (q_uI q_IM 0 39 0) 0 35 0) q_J0, 34, 31630))) 5 (fun _ _ => rfl) ?_
        refine q_Ru_seg (g2 := (20, [(0, .ref 64), (1, .int ((((48 : Int32) + ((a / 10) - (a / 10) / 10 * 10)).toUInt32 % 65536).toInt32))], [], (q_cM (q_uA (q_uA (q_uA q_AM 33 f31) 32 (fun _ => 0)) 32 (upd (fun _ => 0) 0 (vp_nar .char ((((48 : Int32) + ((a / 10) - (a / 10) / 10 * 10)).toUInt32 % 65536).toInt32)))) (q_uI (q_uI q_IM 0 39 0) 0 35 1) q_J0, 34, 31630))) 3 (fun _ _ => rfl) ?_
        exact q_Ru_ret rfl rfl
      show q_Ru _ _ _ (26, [(0, .ref 64), (1, .int (a / 10))], [], (q_cM (q_uA (q_uA (q_uA q_AM 33 f31) 32 (fun _ => 0)) 32 (upd (fun _ => 0) 0 (vp_nar .char ((((48 : Int32) + ((a / 10) - (a / 10) / 10 * 10)).toUInt32 % 65536).toInt32)))) (q_uI (q_uI q_IM 0 39 0) 0 35 1) q_J0, 34, 31630)) _
      exact q_Ru_ret rfl rfl
    show q_Ru _ _ _ (14, [(0, .ref 64), (1, .int a)], [], (q_cM (q_uA (q_uA (q_uA q_AM 33 f31) 32 (fun _ => 0)) 32 (upd (fun _ => 0) 0 (vp_nar .char ((((48 : Int32) + ((a / 10) - (a / 10) / 10 * 10)).toUInt32 % 65536).toInt32)))) (q_uI (q_uI q_IM 0 39 0) 0 35 1) q_J0, 34, 31630)) _
    refine q_Ru_seg (g2 := (23, [(0, .ref 64), (1, .int a)], [.int ((((48 : Int32) + (a - a / 10 * 10)).toUInt32 % 65536).toInt32), .ref 64], (q_cM (q_uA (q_uA (q_uA q_AM 33 f31) 32 (fun _ => 0)) 32 (upd (fun _ => 0) 0 (vp_nar .char ((((48 : Int32) + ((a / 10) - (a / 10) / 10 * 10)).toUInt32 % 65536).toInt32)))) (q_uI (q_uI q_IM 0 39 0) 0 35 1) q_J0, 34, 31630))) 7 (fun _ _ => rfl) ?_
    refine q_Ru_call (v := none) (h2 := (q_cM (q_uA (q_uA (q_uA q_AM 33 f31) 32 (fun _ => 0)) 32 (upd (upd (fun _ => 0) 0 (vp_nar .char ((((48 : Int32) + ((a / 10) - (a / 10) / 10 * 10)).toUInt32 % 65536).toInt32))) 1 (vp_nar .char ((((48 : Int32) + (a - a / 10 * 10)).toUInt32 % 65536).toInt32)))) (q_uI (q_uI q_IM 0 39 0) 0 35 2) q_J0, 34, 31630)) rfl rfl ?_ ?_
    · refine q_Ca_of (Nat.le_of_ble_eq_true rfl) ?_
      refine q_Ru_seg (g2 := (8, [(0, .ref 64), (1, .int ((((48 : Int32) + (a - a / 10 * 10)).toUInt32 % 65536).toInt32))], [.int 1, .ref 96], (q_cM (q_uA (q_uA (q_uA q_AM 33 f31) 32 (fun _ => 0)) 32 (upd (fun _ => 0) 0 (vp_nar .char ((((48 : Int32) + ((a / 10) - (a / 10) / 10 * 10)).toUInt32 % 65536).toInt32)))) (q_uI (q_uI q_IM 0 39 0) 0 35 1) q_J0, 34, 31630))) 4 (fun _ _ => rfl) ?_
      refine q_Ru_seg (g2 := (15, [(0, .ref 64), (1, .int ((((48 : Int32) + (a - a / 10 * 10)).toUInt32 % 65536).toInt32))], [.int 1, .ref 64], (q_cM (q_uA (q_uA (q_uA q_AM 33 f31) 32 (fun _ => 0)) 32 (upd (upd (fun _ => 0) 0 (vp_nar .char ((((48 : Int32) + ((a / 10) - (a / 10) / 10 * 10)).toUInt32 % 65536).toInt32))) 1 (vp_nar .char ((((48 : Int32) + (a - a / 10 * 10)).toUInt32 % 65536).toInt32)))) (q_uI (q_uI q_IM 0 39 0) 0 35 1) q_J0, 34, 31630))) 5 (fun _ _ => rfl) ?_
      refine q_Ru_seg (g2 := (20, [(0, .ref 64), (1, .int ((((48 : Int32) + (a - a / 10 * 10)).toUInt32 % 65536).toInt32))], [], (q_cM (q_uA (q_uA (q_uA q_AM 33 f31) 32 (fun _ => 0)) 32 (upd (upd (fun _ => 0) 0 (vp_nar .char ((((48 : Int32) + ((a / 10) - (a / 10) / 10 * 10)).toUInt32 % 65536).toInt32))) 1 (vp_nar .char ((((48 : Int32) + (a - a / 10 * 10)).toUInt32 % 65536).toInt32)))) (q_uI (q_uI q_IM 0 39 0) 0 35 2) q_J0, 34, 31630))) 3 (fun _ _ => rfl) ?_
      exact q_Ru_ret rfl rfl
    show q_Ru _ _ _ (26, [(0, .ref 64), (1, .int a)], [], (q_cM (q_uA (q_uA (q_uA q_AM 33 f31) 32 (fun _ => 0)) 32 (upd (upd (fun _ => 0) 0 (vp_nar .char ((((48 : Int32) + ((a / 10) - (a / 10) / 10 * 10)).toUInt32 % 65536).toInt32))) 1 (vp_nar .char ((((48 : Int32) + (a - a / 10 * 10)).toUInt32 % 65536).toInt32)))) (q_uI (q_uI q_IM 0 39 0) 0 35 2) q_J0, 34, 31630)) _
    exact q_Ru_ret rfl rfl
  show q_Ru _ _ _ (37, [(2, .int 0), (0, .ref 64), (1, .int a)], [], (q_cM (q_uA (q_uA (q_uA q_AM 33 f31) 32 (fun _ => 0)) 32 (upd (upd (fun _ => 0) 0 (vp_nar .char ((((48 : Int32) + ((a / 10) - (a / 10) / 10 * 10)).toUInt32 % 65536).toInt32))) 1 (vp_nar .char ((((48 : Int32) + (a - a / 10 * 10)).toUInt32 % 65536).toInt32)))) (q_uI (q_uI q_IM 0 39 0) 0 35 2) q_J0, 34, 31630)) _
  refine q_Ru_seg (g2 := (40, [(2, .int 0), (0, .ref 64), (1, .int a)], [.int 32, .ref 64], (q_cM (q_uA (q_uA (q_uA q_AM 33 f31) 32 (fun _ => 0)) 32 (upd (upd (fun _ => 0) 0 (vp_nar .char ((((48 : Int32) + ((a / 10) - (a / 10) / 10 * 10)).toUInt32 % 65536).toInt32))) 1 (vp_nar .char ((((48 : Int32) + (a - a / 10 * 10)).toUInt32 % 65536).toInt32)))) (q_uI (q_uI q_IM 0 39 0) 0 35 2) q_J0, 34, 31630))) 2 (fun _ _ => rfl) ?_
  refine q_Ru_call (v := none) (h2 := (q_cM (q_uA (q_uA (q_uA q_AM 33 f31) 32 (fun _ => 0)) 32 (upd (upd (upd (fun _ => 0) 0 (vp_nar .char ((((48 : Int32) + ((a / 10) - (a / 10) / 10 * 10)).toUInt32 % 65536).toInt32))) 1 (vp_nar .char ((((48 : Int32) + (a - a / 10 * 10)).toUInt32 % 65536).toInt32))) 2 32)) (q_uI (q_uI q_IM 0 39 0) 0 35 3) q_J0, 34, 31630)) rfl rfl ?_ ?_
  · refine q_Ca_of (Nat.le_of_ble_eq_true rfl) ?_
    refine q_Ru_seg (g2 := (8, [(0, .ref 64), (1, .int 32)], [.int 2, .ref 96], (q_cM (q_uA (q_uA (q_uA q_AM 33 f31) 32 (fun _ => 0)) 32 (upd (upd (fun _ => 0) 0 (vp_nar .char ((((48 : Int32) + ((a / 10) - (a / 10) / 10 * 10)).toUInt32 % 65536).toInt32))) 1 (vp_nar .char ((((48 : Int32) + (a - a / 10 * 10)).toUInt32 % 65536).toInt32)))) (q_uI (q_uI q_IM 0 39 0) 0 35 2) q_J0, 34, 31630))) 4 (fun _ _ => rfl) ?_
    refine q_Ru_seg (g2 := (15, [(0, .ref 64), (1, .int 32)], [.int 2, .ref 64], (q_cM (q_uA (q_uA (q_uA q_AM 33 f31) 32 (fun _ => 0)) 32 (upd (upd (upd (fun _ => 0) 0 (vp_nar .char ((((48 : Int32) + ((a / 10) - (a / 10) / 10 * 10)).toUInt32 % 65536).toInt32))) 1 (vp_nar .char ((((48 : Int32) + (a - a / 10 * 10)).toUInt32 % 65536).toInt32))) 2 32)) (q_uI (q_uI q_IM 0 39 0) 0 35 2) q_J0, 34, 31630))) 5 (fun _ _ => rfl) ?_
    refine q_Ru_seg (g2 := (20, [(0, .ref 64), (1, .int 32)], [], (q_cM (q_uA (q_uA (q_uA q_AM 33 f31) 32 (fun _ => 0)) 32 (upd (upd (upd (fun _ => 0) 0 (vp_nar .char ((((48 : Int32) + ((a / 10) - (a / 10) / 10 * 10)).toUInt32 % 65536).toInt32))) 1 (vp_nar .char ((((48 : Int32) + (a - a / 10 * 10)).toUInt32 % 65536).toInt32))) 2 32)) (q_uI (q_uI q_IM 0 39 0) 0 35 3) q_J0, 34, 31630))) 3 (fun _ _ => rfl) ?_
    exact q_Ru_ret rfl rfl
  show q_Ru _ _ _ (43, [(2, .int 0), (0, .ref 64), (1, .int a)], [], (q_cM (q_uA (q_uA (q_uA q_AM 33 f31) 32 (fun _ => 0)) 32 (upd (upd (upd (fun _ => 0) 0 (vp_nar .char ((((48 : Int32) + ((a / 10) - (a / 10) / 10 * 10)).toUInt32 % 65536).toInt32))) 1 (vp_nar .char ((((48 : Int32) + (a - a / 10 * 10)).toUInt32 % 65536).toInt32))) 2 32)) (q_uI (q_uI q_IM 0 39 0) 0 35 3) q_J0, 34, 31630)) _
  refine q_Ru_seg (g2 := (44, [(2, .int 0), (0, .ref 64), (1, .int a)], [.int 0], (q_cM (q_uA (q_uA (q_uA q_AM 33 f31) 32 (fun _ => 0)) 32 (upd (upd (upd (fun _ => 0) 0 (vp_nar .char ((((48 : Int32) + ((a / 10) - (a / 10) / 10 * 10)).toUInt32 % 65536).toInt32))) 1 (vp_nar .char ((((48 : Int32) + (a - a / 10 * 10)).toUInt32 % 65536).toInt32))) 2 32)) (q_uI (q_uI q_IM 0 39 0) 0 35 3) q_J0, 34, 31630))) 1 (fun _ _ => rfl) ?_
  refine q_Ru_call (v := (some (.int 0))) (h2 := (q_cM (q_uA (q_uA (q_uA q_AM 33 f31) 32 (fun _ => 0)) 32 (upd (upd (upd (fun _ => 0) 0 (vp_nar .char ((((48 : Int32) + ((a / 10) - (a / 10) / 10 * 10)).toUInt32 % 65536).toInt32))) 1 (vp_nar .char ((((48 : Int32) + (a - a / 10 * 10)).toUInt32 % 65536).toInt32))) 2 32)) (q_uI (q_uI q_IM 0 39 0) 0 35 3) q_J0, 34, 31630)) rfl rfl ?_ ?_
  · refine q_Ca_of (Nat.le_of_ble_eq_true rfl) ?_
    refine q_Ru_seg (g2 := (1, [(0, .int 0)], [.int 0], (q_cM (q_uA (q_uA (q_uA q_AM 33 f31) 32 (fun _ => 0)) 32 (upd (upd (upd (fun _ => 0) 0 (vp_nar .char ((((48 : Int32) + ((a / 10) - (a / 10) / 10 * 10)).toUInt32 % 65536).toInt32))) 1 (vp_nar .char ((((48 : Int32) + (a - a / 10 * 10)).toUInt32 % 65536).toInt32))) 2 32)) (q_uI (q_uI q_IM 0 39 0) 0 35 3) q_J0, 34, 31630))) 1 (fun _ _ => rfl) ?_
    refine q_Ru_call (v := (some (.int 0))) (h2 := (q_cM (q_uA (q_uA (q_uA q_AM 33 f31) 32 (fun _ => 0)) 32 (upd (upd (upd (fun _ => 0) 0 (vp_nar .char ((((48 : Int32) + ((a / 10) - (a / 10) / 10 * 10)).toUInt32 % 65536).toInt32))) 1 (vp_nar .char ((((48 : Int32) + (a - a / 10 * 10)).toUInt32 % 65536).toInt32))) 2 32)) (q_uI (q_uI q_IM 0 39 0) 0 35 3) q_J0, 34, 31630)) rfl rfl ?_ ?_
    · refine q_Ca_of (Nat.le_of_ble_eq_true rfl) ?_
      refine q_Ru_seg (g2 := (42, [(0, .int 0)], [.int 0], (q_cM (q_uA (q_uA (q_uA q_AM 33 f31) 32 (fun _ => 0)) 32 (upd (upd (upd (fun _ => 0) 0 (vp_nar .char ((((48 : Int32) + ((a / 10) - (a / 10) / 10 * 10)).toUInt32 % 65536).toInt32))) 1 (vp_nar .char ((((48 : Int32) + (a - a / 10 * 10)).toUInt32 % 65536).toInt32))) 2 32)) (q_uI (q_uI q_IM 0 39 0) 0 35 3) q_J0, 34, 31630))) 7 (fun _ _ => rfl) ?_
      exact q_Ru_ret rfl rfl
    show q_Ru _ _ _ (4, [(0, .int 0)], [.int 0], (q_cM (q_uA (q_uA (q_uA q_AM 33 f31) 32 (fun _ => 0)) 32 (upd (upd (upd (fun _ => 0) 0 (vp_nar .char ((((48 : Int32) + ((a / 10) - (a / 10) / 10 * 10)).toUInt32 % 65536).toInt32))) 1 (vp_nar .char ((((48 : Int32) + (a - a / 10 * 10)).toUInt32 % 65536).toInt32))) 2 32)) (q_uI (q_uI q_IM 0 39 0) 0 35 3) q_J0, 34, 31630)) _
    refine q_Ru_seg (g2 := (25, [(0, .int 0)], [.int 0], (q_cM (q_uA (q_uA (q_uA q_AM 33 f31) 32 (fun _ => 0)) 32 (upd (upd (upd (fun _ => 0) 0 (vp_nar .char ((((48 : Int32) + ((a / 10) - (a / 10) / 10 * 10)).toUInt32 % 65536).toInt32))) 1 (vp_nar .char ((((48 : Int32) + (a - a / 10 * 10)).toUInt32 % 65536).toInt32))) 2 32)) (q_uI (q_uI q_IM 0 39 0) 0 35 3) q_J0, 34, 31630))) 2 (fun _ _ => rfl) ?_
    exact q_Ru_ret rfl rfl
  show q_Ru _ _ _ (47, [(2, .int 0), (0, .ref 64), (1, .int a)], [.int 0], (q_cM (q_uA (q_uA (q_uA q_AM 33 f31) 32 (fun _ => 0)) 32 (upd (upd (upd (fun _ => 0) 0 (vp_nar .char ((((48 : Int32) + ((a / 10) - (a / 10) / 10 * 10)).toUInt32 % 65536).toInt32))) 1 (vp_nar .char ((((48 : Int32) + (a - a / 10 * 10)).toUInt32 % 65536).toInt32))) 2 32)) (q_uI (q_uI q_IM 0 39 0) 0 35 3) q_J0, 34, 31630)) _
  exact q_Ru_le (Nat.le_of_ble_eq_true rfl) (q_xc232 L xs a hl_a hu_a f31 f32 p32)
set_option maxHeartbeats 20000000 in
theorem q_op_writeLine99_1 (L : Nat) (xs : Nat → Int32) (a : Int32) (hl_a : 10 ≤ a.toInt) (hu_a : a.toInt ≤ 99) : ∃ (r b : Int32) (w : Int64), q_opXT (q_TBs 99 L xs) 6 [.int a] r w ∧ q_opM 286 [.int a] r (.int b) ∧ (r = 0 → w = b.toInt64) := by
  have h210 : decide (a < 0) = false := q_not_tr (q_tbl1 (fun a => !decide (a < 0)) (l := 10) (n := 89) (by decide +kernel) hl_a hu_a)
  have h211 : decide (a < 4096) = true := q_tbl1 (fun a => decide (a < 4096)) (l := 10) (n := 89) (by decide +kernel) hl_a hu_a
  have h212 : decide ((-10) < -a) = false := q_not_tr (q_tbl1 (fun a => !decide ((-10) < -a)) (l := 10) (n := 89) (by decide +kernel) hl_a hu_a)
  have h213 : decide ((-100) < -a) = true := q_tbl1 (fun a => decide ((-100) < -a)) (l := 10) (n := 89) (by decide +kernel) hl_a hu_a
  have h214 : decide (-a < (-9)) = true := q_tbl1 (fun a => decide (-a < (-9))) (l := 10) (n := 89) (by decide +kernel) hl_a hu_a
  have h215 : decide (4095 < a) = false := q_not_tr (q_tbl1 (fun a => !decide (4095 < a)) (l := 10) (n := 89) (by decide +kernel) hl_a hu_a)
  have h216 : decide (a < 10) = false := q_not_tr (q_tbl1 (fun a => !decide (a < 10)) (l := 10) (n := 89) (by decide +kernel) hl_a hu_a)
  have h217 : decide (a / 10 < 10) = true := q_tbl1 (fun a => decide (a / 10 < 10)) (l := 10) (n := 89) (by decide +kernel) hl_a hu_a
  obtain ⟨f31, p31⟩ := q_p_reads1 (fun _ => 0) (fun _ => 0) (q_uI q_IM 0 39 0) (a &&& 4095) (q_and_lo a 4095) (q_and_hi a 4095 4095)
  obtain ⟨f32, p32⟩ := q_p_reads1 f31 (upd (upd (upd (upd (upd (upd (upd (upd (fun _ => 0) 0 (vp_nar .char ((((48 : Int32) + ((a / 10) - (a / 10) / 10 * 10)).toUInt32 % 65536).toInt32))) 1 (vp_nar .char ((((48 : Int32) + (a - a / 10 * 10)).toUInt32 % 65536).toInt32))) 2 32) 3 108) 4 100) 5 97) 6 32) 7 35) (q_uI (q_uI q_IM 0 39 0) 0 35 8) ((a + 1) &&& 4095) (q_and_lo (a + 1) 4095) (q_and_hi (a + 1) 4095 4095)
  refine ⟨0, 9, 9, ⟨(q_cX (q_uA q_AX 35 (upd (upd (upd (upd (upd (upd (upd (upd (upd (fun _ => 0) 1 (vp_nar .byte ((fun j => q_o6.getD j 0) ((-(-a)).toNatClampNeg)))) 0 (vp_nar .byte ((fun j => q_o7.getD j 0) ((-(-a)).toNatClampNeg)))) 2 32) 3 108) 4 100) 5 97) 6 32) 7 35) 8 48)) (q_uI q_IX 34 3 9) (q_uA q_J0 39 (vp_updL (fun _ => 0) 0 9)), 40, 26520), (q_uA q_J0 39 (vp_updL (fun _ => 0) 0 9)) 39, ?_, rfl, fun _ => rfl, Nat.le_of_ble_eq_true rfl, Nat.le_of_ble_eq_true rfl⟩, ⟨(q_cM (q_uA (q_uA (q_uA q_AM 33 f32) 32 (upd (upd (upd (upd (upd (upd (upd (upd (fun _ => 0) 0 (vp_nar .char ((((48 : Int32) + ((a / 10) - (a / 10) / 10 * 10)).toUInt32 % 65536).toInt32))) 1 (vp_nar .char ((((48 : Int32) + (a - a / 10 * 10)).toUInt32 % 65536).toInt32))) 2 32) 3 108) 4 100) 5 97) 6 32) 7 35)) 32 (upd (upd (upd (upd (upd (upd (upd (upd (upd (fun _ => 0) 0 (vp_nar .char ((((48 : Int32) + ((a / 10) - (a / 10) / 10 * 10)).toUInt32 % 65536).toInt32))) 1 (vp_nar .char ((((48 : Int32) + (a - a / 10 * 10)).toUInt32 % 65536).toInt32))) 2 32) 3 108) 4 100) 5 97) 6 32) 7 35) 8 48)) (q_uI (q_uI q_IM 0 39 0) 0 35 9) q_J0, 34, 31630), _, ?_, rfl, rfl, Nat.le_of_ble_eq_true rfl, Nat.le_of_ble_eq_true rfl⟩, fun _ => rfl⟩
  · refine q_Ca_of (Nat.le_of_ble_eq_true rfl) ?_
    refine q_Ru_seg (g2 := (4, [(0, .ref 64), (1, .int a), (2, .ref 103)], [.int a, .ref 64, .int 0, .ref 103], (q_cX q_AX q_IX q_J0, 40, 26520))) 4 (fun _ _ => rfl) ?_
    refine q_Ru_call (v := (some (.int 9))) (h2 := (q_cX (q_uA q_AX 35 (upd (upd (upd (upd (upd (upd (upd (upd (upd (fun _ => 0) 1 (vp_nar .byte ((fun j => q_o6.getD j 0) ((-(-a)).toNatClampNeg)))) 0 (vp_nar .byte ((fun j => q_o7.getD j 0) ((-(-a)).toNatClampNeg)))) 2 32) 3 108) 4 100) 5 97) 6 32) 7 35) 8 48)) (q_uI q_IX 34 3 9) q_J0, 40, 26520)) rfl rfl ?_ ?_
    · refine q_Ca_of (Nat.le_of_ble_eq_true rfl) ?_
      refine q_Ru_seg (g2 := (1, [(0, .ref 64), (1, .int a)], [.int a], (q_cX q_AX q_IX q_J0, 40, 26520))) 1 (fun _ _ => rfl) ?_
      refine q_Ru_call (v := none) (h2 := (q_cX q_AX q_IX q_J0, 40, 26520)) rfl rfl ?_ ?_
      · refine q_Ca_of (Nat.le_of_ble_eq_true rfl) ?_
        refine q_Ru_seg (g2 := (4, [(0, .int a)], [.int 4096, .int a], (q_cX q_AX q_IX q_J0, 40, 26520))) 2 (fun _ _ => rfl) ?_
        refine q_Ru_call (v := none) (h2 := (q_cX q_AX q_IX q_J0, 40, 26520)) rfl rfl ?_ ?_
        · refine q_Ca_of (Nat.le_of_ble_eq_true rfl) ?_
          refine q_Ru_seg (g2 := (1, [(0, .int a), (1, .int 4096)], [.int a], (q_cX q_AX q_IX q_J0, 40, 26520))) 1 (fun _ _ => rfl) ?_
          refine q_Ru_rsF (g2 := (4, [(0, .int a), (1, .int 4096)], [], (q_cX q_AX q_IX q_J0, 40, 26520))) rfl rfl h210 ?_
          refine q_Ru_seg (g2 := (6, [(0, .int a), (1, .int 4096)], [.int 4096, .int a], (q_cX q_AX q_IX q_J0, 40, 26520))) 2 (fun _ _ => rfl) ?_
          refine q_Ru_rsT (g2 := (19, [(0, .int a), (1, .int 4096)], [], (q_cX q_AX q_IX q_J0, 40, 26520))) rfl rfl h211 ?_
          exact q_Ru_ret rfl rfl
        show q_Ru _ _ _ (7, [(0, .int a)], [], (q_cX q_AX q_IX q_J0, 40, 26520)) _
        exact q_Ru_ret rfl rfl
      show q_Ru _ _ _ (4, [(0, .ref 64), (1, .int a)], [], (q_cX q_AX q_IX q_J0, 40, 26520)) _
      exact q_Ru_le (Nat.le_of_ble_eq_true rfl) (q_xc230 L xs a hl_a hu_a h210 h212 h213 h214)
    show q_Ru _ _ _ (7, [(0, .ref 64), (1, .int a), (2, .ref 103)], [.int 9, .int 0, .ref 103], (q_cX (q_uA q_AX 35 (upd (upd (upd (upd (upd (upd (upd (upd (upd (fun _ => 0) 1 (vp_nar .byte ((fun j => q_o6.getD j 0) ((-(-a)).toNatClampNeg)))) 0 (vp_nar .byte ((fun j => q_o7.getD j 0) ((-(-a)).toNatClampNeg)))) 2 32) 3 108) 4 100) 5 97) 6 32) 7 35) 8 48)) (q_uI q_IX 34 3 9) q_J0, 40, 26520)) _
    generalize (upd (upd (upd (upd (upd (upd (upd (upd (upd (fun _ => 0) 1 (vp_nar .byte ((fun j => q_o6.getD j 0) ((-(-a)).toNatClampNeg)))) 0 (vp_nar .byte ((fun j => q_o7.getD j 0) ((-(-a)).toNatClampNeg)))) 2 32) 3 108) 4 100) 5 97) 6 32) 7 35) 8 48) = w533
    refine q_Ru_seg (g2 := (16, [(0, .ref 64), (1, .int a), (2, .ref 103)], [.int 0], (q_cX (q_uA q_AX 35 w533) (q_uI q_IX 34 3 9) (q_uA q_J0 39 (vp_updL (fun _ => 0) 0 9)), 40, 26520))) 4 (fun _ _ => rfl) ?_
    exact q_Ru_ret rfl rfl
  · refine q_Ca_of (Nat.le_of_ble_eq_true rfl) ?_
    refine q_Ru_seg (g2 := (2, [(0, .ref 64), (1, .int a)], [.int a, .ref 64], (q_cM q_AM q_IM q_J0, 34, 31630))) 2 (fun _ _ => rfl) ?_
    refine q_Ru_call (v := (some (.int 0))) (h2 := (q_cM q_AM q_IM q_J0, 34, 31630)) rfl rfl ?_ ?_
    · refine q_Ca_of (Nat.le_of_ble_eq_true rfl) ?_
      refine q_Ru_seg (g2 := (5, [(0, .int a)], [.int 4095, .int 0, .int a], (q_cM q_AM q_IM q_J0, 34, 31630))) 3 (fun _ _ => rfl) ?_
      refine q_Ru_call (v := (some (.int 1))) (h2 := (q_cM q_AM q_IM q_J0, 34, 31630)) rfl rfl ?_ ?_
      · refine q_Ca_of (Nat.le_of_ble_eq_true rfl) ?_
        refine q_Ru_seg (g2 := (2, [(0, .int a), (1, .int 0), (2, .int 4095)], [.int 0, .int a], (q_cM q_AM q_IM q_J0, 34, 31630))) 2 (fun _ _ => rfl) ?_
        refine q_Ru_rsF (g2 := (5, [(0, .int a), (1, .int 0), (2, .int 4095)], [], (q_cM q_AM q_IM q_J0, 34, 31630))) rfl rfl h210 ?_
        refine q_Ru_seg (g2 := (7, [(0, .int a), (1, .int 0), (2, .int 4095)], [.int 4095, .int a], (q_cM q_AM q_IM q_J0, 34, 31630))) 2 (fun _ _ => rfl) ?_
        refine q_Ru_rsF (g2 := (10, [(0, .int a), (1, .int 0), (2, .int 4095)], [], (q_cM q_AM q_IM q_J0, 34, 31630))) rfl rfl h215 ?_
        refine q_Ru_seg (g2 := (15, [(0, .int a), (1, .int 0), (2, .int 4095)], [.int 1], (q_cM q_AM q_IM q_J0, 34, 31630))) 2 (fun _ _ => rfl) ?_
        exact q_Ru_ret rfl rfl
      show q_Ru _ _ _ (8, [(0, .int a)], [.int 1], (q_cM q_AM q_IM q_J0, 34, 31630)) _
      refine q_Ru_seg (g2 := (16, [(0, .int a)], [.int 0], (q_cM q_AM q_IM q_J0, 34, 31630))) 2 (fun _ _ => rfl) ?_
      exact q_Ru_ret rfl rfl
    show q_Ru _ _ _ (5, [(0, .ref 64), (1, .int a)], [.int 0, .ref 64], (q_cM q_AM q_IM q_J0, 34, 31630)) _
    refine q_Ru_seg (g2 := (13, [(0, .ref 64), (1, .int a)], [.int 0, .ref 64], (q_cM q_AM q_IM q_J0, 34, 31630))) 2 (fun _ _ => rfl) ?_
    refine q_Ru_call (v := (some (.int 0))) (h2 := (q_cM q_AM (q_uI q_IM 0 39 0) q_J0, 34, 31630)) rfl rfl ?_ ?_
    · refine q_Ca_of (Nat.le_of_ble_eq_true rfl) ?_
      refine q_Ru_seg (g2 := (14, [(0, .ref 64), (1, .int 0)], [.int 0], (q_cM q_AM (q_uI q_IM 0 39 0) q_J0, 34, 31630))) 6 (fun _ _ => rfl) ?_
      exact q_Ru_ret rfl rfl
    show q_Ru _ _ _ (16, [(0, .ref 64), (1, .int a)], [.int 0], (q_cM q_AM (q_uI q_IM 0 39 0) q_J0, 34, 31630)) _
    refine q_Ru_seg (g2 := (23, [(0, .ref 64), (1, .int a)], [.int a, .ref 64], (q_cM q_AM (q_uI q_IM 0 39 0) q_J0, 34, 31630))) 3 (fun _ _ => rfl) ?_
    refine q_Ru_call (v := (some (.int 0))) (h2 := (q_cM (q_uA (q_uA q_AM 33 f31) 32 (fun _ => 0)) (q_uI q_IM 0 39 0) q_J0, 34, 31630)) rfl rfl ?_ ?_
    · refine q_Ca_of (Nat.le_of_ble_eq_true rfl) ?_
      refine q_Ru_seg (g2 := (2, [(0, .ref 64), (1, .int a)], [.int a, .ref 64], (q_cM q_AM (q_uI q_IM 0 39 0) q_J0, 34, 31630))) 2 (fun _ _ => rfl) ?_
      refine q_Ru_call (v := (some (.int (a &&& 4095)))) (h2 := (q_cM q_AM (q_uI q_IM 0 39 0) q_J0, 34, 31630)) rfl rfl ?_ ?_
      · refine q_Ca_of (Nat.le_of_ble_eq_true rfl) ?_
        refine q_Ru_seg (g2 := (5, [(0, .int a)], [.int (a &&& 4095)], (q_cM q_AM (q_uI q_IM 0 39 0) q_J0, 34, 31630))) 3 (fun _ _ => rfl) ?_
        exact q_Ru_ret rfl rfl
      show q_Ru _ _ _ (5, [(0, .ref 64), (1, .int a)], [.int (a &&& 4095), .ref 64], (q_cM q_AM (q_uI q_IM 0 39 0) q_J0, 34, 31630)) _
      refine q_Ru_call (v := (some (.int 0))) (h2 := (q_cM (q_uA (q_uA q_AM 33 f31) 32 (fun _ => 0)) (q_uI q_IM 0 39 0) q_J0, 34, 31630)) rfl rfl ?_ ?_
      · exact p31.le (Nat.le_of_ble_eq_true rfl)
      show q_Ru _ _ _ (8, [(0, .ref 64), (1, .int a)], [.int 0], (q_cM (q_uA (q_uA q_AM 33 f31) 32 (fun _ => 0)) (q_uI q_IM 0 39 0) q_J0, 34, 31630)) _
      exact q_Ru_ret rfl rfl
    show q_Ru _ _ _ (26, [(0, .ref 64), (1, .int a)], [.int 0], (q_cM (q_uA (q_uA q_AM 33 f31) 32 (fun _ => 0)) (q_uI q_IM 0 39 0) q_J0, 34, 31630)) _
    exact q_Ru_le (Nat.le_of_ble_eq_true rfl) (q_xc233 L xs a hl_a hu_a f31 f32 h216 h217 p32)
