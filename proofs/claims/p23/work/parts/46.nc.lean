section
-- 46.nc
def dz_N152_87 (s : q_S) (a1 : Int32) (a2 : Int32) : q_S :=
  cond (decide (a1 < 0)) (s) (cond (decide (20 < a1)) (s) (cond (decide (a1 = 0)) (q_let (dz_N150_87 s a2) fun r1 => (q_sI r1.1 23 0 r1.2)) (cond (decide (a1 = 1)) (q_let (dz_N150_87 s a2) fun r2 => (q_sI r2.1 23 1 r2.2)) (cond (decide (a1 = 2)) (q_let (dz_N150_87 s a2) fun r3 => (q_sI r3.1 23 2 r3.2)) (cond (decide (a1 = 3)) (s) (cond (decide (a1 = 4)) (s) (cond (decide (a1 = 5)) (s) (cond (decide (a1 = 6)) (q_let (dz_N154_87 s a2) fun r4 => r4) (cond (decide (a1 = 7)) (q_let (dz_N155_87 s a2) fun r5 => r5) (cond (decide (a1 = 8)) (q_let (dz_N150_87 s ((s.2.1 23 0) &&& a2)) fun r6 => (q_sI r6.1 23 0 r6.2)) (cond (decide (a1 = 9)) (q_let (dz_N150_87 s ((s.2.1 23 0) ||| a2)) fun r7 => (q_sI r7.1 23 0 r7.2)) (cond (decide (a1 = 10)) (q_let (dz_N150_87 s ((s.2.1 23 0) ^^^ a2)) fun r8 => (q_sI r8.1 23 0 r8.2)) (cond (decide (a1 = 11)) (q_let (dz_N151_87 s (s.2.1 23 0) a2) fun r9 => r9) (cond (decide (a1 = 12)) (q_let (dz_N151_87 s (s.2.1 23 1) a2) fun r10 => r10) (cond (decide (a1 = 13)) (q_let (dz_N151_87 s (s.2.1 23 2) a2) fun r11 => r11) (cond (decide (a1 = 14)) (s) (cond (decide (a1 = 15)) (s) (cond (decide (a1 = 16)) (q_let (dz_N150_87 s a2) fun r12 => (q_sI (q_sI r12.1 23 1 r12.2) 23 0 a2)) (cond (decide (a1 = 17)) (s) (cond (decide (a1 = 18)) (s) (cond (decide (a1 = 19)) (s) (cond (decide ((s.2.1 23 0) &&& a2 = 0)) (q_let (dz_N149_87_t s 2) fun r13 => cond (decide (a2 &&& 128 = 0)) (q_let (dz_N149_87_f r13 128) fun r14 => cond (decide (a2 &&& 64 = 0)) (q_let (dz_N149_87_f r14 64) fun r15 => r15) (q_let (dz_N149_87_t r14 64) fun r16 => r16)) (q_let (dz_N149_87_t r13 128) fun r17 => cond (decide (a2 &&& 64 = 0)) (q_let (dz_N149_87_f r17 64) fun r18 => r18) (q_let (dz_N149_87_t r17 64) fun r19 => r19))) (q_let (dz_N149_87_f s 2) fun r20 => cond (decide (a2 &&& 128 = 0)) (q_let (dz_N149_87_f r20 128) fun r21 => cond (decide (a2 &&& 64 = 0)) (q_let (dz_N149_87_f r21 64) fun r22 => r22) (q_let (dz_N149_87_t r21 64) fun r23 => r23)) (q_let (dz_N149_87_t r20 128) fun r24 => cond (decide (a2 &&& 64 = 0)) (q_let (dz_N149_87_f r24 64) fun r25 => r25) (q_let (dz_N149_87_t r24 64) fun r26 => r26)))))))))))))))))))))))))
set_option maxHeartbeats 4000000 in
theorem dzt_N152_87 (s : q_S) (c n : Nat) (a1 : Int32) (a2 : Int32) : q_Ca q_TB0 4 151 [.ref 87, .int a1, .int a2] (q_kN s c n) ((q_oSN c n) (dz_N152_87 s a1 a2)) := by
  refine q_CaT_of (φ := (q_oSN c n)) (Nat.le_of_ble_eq_true rfl) ?_
  unfold dz_N152_87
  refine q_RT_seg (g2 := (1, [(0, .ref 87), (1, .int a1), (2, .int a2)], [.int a1], (q_kN s c n))) 1 (fun _ _ => rfl) ?_
  cases h1 : decide (a1 < 0) with
  | true =>
    refine q_RT_cT ?_
    refine q_RT_st1 (g2 := (316, [(0, .ref 87), (1, .int a1), (2, .int a2)], [], (q_kN s c n))) rfl (if_pos (Or.inl (Int32.lt_iff_toInt_lt.mp (of_decide_eq_true h1)))) ?_
    exact q_RT_ret rfl rfl rfl
  | false =>
    refine q_RT_cF ?_
    cases h2 : decide (20 < a1) with
    | true =>
      refine q_RT_cT ?_
      refine q_RT_st1 (g2 := (316, [(0, .ref 87), (1, .int a1), (2, .int a2)], [], (q_kN s c n))) rfl (if_pos (Or.inr (Int32.lt_iff_toInt_lt.mp (of_decide_eq_true h2)))) ?_
      exact q_RT_ret rfl rfl rfl
    | false =>
      refine q_RT_cF ?_
      cases h3 : decide (a1 = 0) with
      | true =>
        refine q_RT_cT ?_
        refine q_RT_st1 (g2 := (100, [(0, .ref 87), (1, .int a1), (2, .int a2)], [], (q_kN s c n))) rfl (by rw [of_decide_eq_true h3]; rfl) ?_
        refine q_RT_seg (g2 := (103, [(0, .ref 87), (1, .int a1), (2, .int a2)], [.int a2, .ref 87, .ref 87], (q_kN s c n))) 3 (fun _ _ => rfl) ?_
        refine q_RT_call (v := (some (.int (dz_N150_87 s a2).2))) (h2 := (q_kN (dz_N150_87 s a2).1 c n)) rfl rfl ((dzt_N150_87 s c n a2).le (Nat.le_of_ble_eq_true rfl)) ?_
        generalize dz_N150_87 s a2 = r1
        refine q_RT_let ?_
        show q_RT _ _ _ (106, [(0, .ref 87), (1, .int a1), (2, .int a2)], [.int r1.2, .ref 87], (q_kN r1.1 c n)) _ _
        refine q_RT_seg (g2 := (316, [(0, .ref 87), (1, .int a1), (2, .int a2)], [], (q_kN (q_sI r1.1 23 0 r1.2) c n))) 2 (fun _ _ => rfl) ?_
        exact q_RT_ret rfl rfl rfl
      | false =>
        refine q_RT_cF ?_
        cases h4 : decide (a1 = 1) with
        | true =>
          refine q_RT_cT ?_
          refine q_RT_st1 (g2 := (112, [(0, .ref 87), (1, .int a1), (2, .int a2)], [], (q_kN s c n))) rfl (by rw [of_decide_eq_true h4]; rfl) ?_
          refine q_RT_seg (g2 := (115, [(0, .ref 87), (1, .int a1), (2, .int a2)], [.int a2, .ref 87, .ref 87], (q_kN s c n))) 3 (fun _ _ => rfl) ?_
          refine q_RT_call (v := (some (.int (dz_N150_87 s a2).2))) (h2 := (q_kN (dz_N150_87 s a2).1 c n)) rfl rfl ((dzt_N150_87 s c n a2).le (Nat.le_of_ble_eq_true rfl)) ?_
          generalize dz_N150_87 s a2 = r2
          refine q_RT_let ?_
          show q_RT _ _ _ (118, [(0, .ref 87), (1, .int a1), (2, .int a2)], [.int r2.2, .ref 87], (q_kN r2.1 c n)) _ _
          refine q_RT_seg (g2 := (316, [(0, .ref 87), (1, .int a1), (2, .int a2)], [], (q_kN (q_sI r2.1 23 1 r2.2) c n))) 2 (fun _ _ => rfl) ?_
          exact q_RT_ret rfl rfl rfl
        | false =>
          refine q_RT_cF ?_
          cases h5 : decide (a1 = 2) with
          | true =>
            refine q_RT_cT ?_
            refine q_RT_st1 (g2 := (124, [(0, .ref 87), (1, .int a1), (2, .int a2)], [], (q_kN s c n))) rfl (by rw [of_decide_eq_true h5]; rfl) ?_
            refine q_RT_seg (g2 := (127, [(0, .ref 87), (1, .int a1), (2, .int a2)], [.int a2, .ref 87, .ref 87], (q_kN s c n))) 3 (fun _ _ => rfl) ?_
            refine q_RT_call (v := (some (.int (dz_N150_87 s a2).2))) (h2 := (q_kN (dz_N150_87 s a2).1 c n)) rfl rfl ((dzt_N150_87 s c n a2).le (Nat.le_of_ble_eq_true rfl)) ?_
            generalize dz_N150_87 s a2 = r3
            refine q_RT_let ?_
            show q_RT _ _ _ (130, [(0, .ref 87), (1, .int a1), (2, .int a2)], [.int r3.2, .ref 87], (q_kN r3.1 c n)) _ _
            refine q_RT_seg (g2 := (316, [(0, .ref 87), (1, .int a1), (2, .int a2)], [], (q_kN (q_sI r3.1 23 2 r3.2) c n))) 2 (fun _ _ => rfl) ?_
            exact q_RT_ret rfl rfl rfl
          | false =>
            refine q_RT_cF ?_
            cases h6 : decide (a1 = 3) with
            | true =>
              refine q_RT_cT ?_
              refine q_RT_st1 (g2 := (316, [(0, .ref 87), (1, .int a1), (2, .int a2)], [], (q_kN s c n))) rfl (by rw [of_decide_eq_true h6]; rfl) ?_
              exact q_RT_ret rfl rfl rfl
            | false =>
              refine q_RT_cF ?_
              cases h7 : decide (a1 = 4) with
              | true =>
                refine q_RT_cT ?_
                refine q_RT_st1 (g2 := (316, [(0, .ref 87), (1, .int a1), (2, .int a2)], [], (q_kN s c n))) rfl (by rw [of_decide_eq_true h7]; rfl) ?_
                exact q_RT_ret rfl rfl rfl
              | false =>
                refine q_RT_cF ?_
                cases h8 : decide (a1 = 5) with
                | true =>
                  refine q_RT_cT ?_
                  refine q_RT_st1 (g2 := (316, [(0, .ref 87), (1, .int a1), (2, .int a2)], [], (q_kN s c n))) rfl (by rw [of_decide_eq_true h8]; rfl) ?_
                  exact q_RT_ret rfl rfl rfl
                | false =>
                  refine q_RT_cF ?_
                  cases h9 : decide (a1 = 6) with
                  | true =>
                    refine q_RT_cT ?_
                    refine q_RT_st1 (g2 := (136, [(0, .ref 87), (1, .int a1), (2, .int a2)], [], (q_kN s c n))) rfl (by rw [of_decide_eq_true h9]; rfl) ?_
                    refine q_RT_seg (g2 := (138, [(0, .ref 87), (1, .int a1), (2, .int a2)], [.int a2, .ref 87], (q_kN s c n))) 2 (fun _ _ => rfl) ?_
                    refine q_RT_call (v := none) (h2 := (q_kN (dz_N154_87 s a2) c n)) rfl rfl ((dzt_N154_87 s c n a2).le (Nat.le_of_ble_eq_true rfl)) ?_
                    generalize dz_N154_87 s a2 = r4
                    refine q_RT_let ?_
                    show q_RT _ _ _ (141, [(0, .ref 87), (1, .int a1), (2, .int a2)], [], (q_kN r4 c n)) _ _
                    refine q_RT_seg (g2 := (316, [(0, .ref 87), (1, .int a1), (2, .int a2)], [], (q_kN r4 c n))) 1 (fun _ _ => rfl) ?_
                    exact q_RT_ret rfl rfl rfl
                  | false =>
                    refine q_RT_cF ?_
                    cases h10 : decide (a1 = 7) with
                    | true =>
                      refine q_RT_cT ?_
                      refine q_RT_st1 (g2 := (144, [(0, .ref 87), (1, .int a1), (2, .int a2)], [], (q_kN s c n))) rfl (by rw [of_decide_eq_true h10]; rfl) ?_
                      refine q_RT_seg (g2 := (146, [(0, .ref 87), (1, .int a1), (2, .int a2)], [.int a2, .ref 87], (q_kN s c n))) 2 (fun _ _ => rfl) ?_
                      refine q_RT_call (v := none) (h2 := (q_kN (dz_N155_87 s a2) c n)) rfl rfl ((dzt_N155_87 s c n a2).le (Nat.le_of_ble_eq_true rfl)) ?_
                      generalize dz_N155_87 s a2 = r5
                      refine q_RT_let ?_
                      show q_RT _ _ _ (149, [(0, .ref 87), (1, .int a1), (2, .int a2)], [], (q_kN r5 c n)) _ _
                      refine q_RT_seg (g2 := (316, [(0, .ref 87), (1, .int a1), (2, .int a2)], [], (q_kN r5 c n))) 1 (fun _ _ => rfl) ?_
                      exact q_RT_ret rfl rfl rfl
                    | false =>
                      refine q_RT_cF ?_
                      cases h11 : decide (a1 = 8) with
                      | true =>
                        refine q_RT_cT ?_
                        refine q_RT_st1 (g2 := (152, [(0, .ref 87), (1, .int a1), (2, .int a2)], [], (q_kN s c n))) rfl (by rw [of_decide_eq_true h11]; rfl) ?_
                        refine q_RT_seg (g2 := (158, [(0, .ref 87), (1, .int a1), (2, .int a2)], [.int (s.2.1 23 0), .ref 87, .ref 87], (q_kN s c n))) 4 (fun _ _ => rfl) ?_
                        refine q_RT_seg (g2 := (160, [(0, .ref 87), (1, .int a1), (2, .int a2)], [.int ((s.2.1 23 0) &&& a2), .ref 87, .ref 87], (q_kN s c n))) 2 (fun _ _ => rfl) ?_
                        refine q_RT_call (v := (some (.int (dz_N150_87 s ((s.2.1 23 0) &&& a2)).2))) (h2 := (q_kN (dz_N150_87 s ((s.2.1 23 0) &&& a2)).1 c n)) rfl rfl ((dzt_N150_87 s c n ((s.2.1 23 0) &&& a2)).le (Nat.le_of_ble_eq_true rfl)) ?_
                        generalize dz_N150_87 s ((s.2.1 23 0) &&& a2) = r6
                        refine q_RT_let ?_
                        show q_RT _ _ _ (163, [(0, .ref 87), (1, .int a1), (2, .int a2)], [.int r6.2, .ref 87], (q_kN r6.1 c n)) _ _
                        refine q_RT_seg (g2 := (316, [(0, .ref 87), (1, .int a1), (2, .int a2)], [], (q_kN (q_sI r6.1 23 0 r6.2) c n))) 2 (fun _ _ => rfl) ?_
                        exact q_RT_ret rfl rfl rfl
                      | false =>
                        refine q_RT_cF ?_
                        cases h12 : decide (a1 = 9) with
                        | true =>
                          refine q_RT_cT ?_
                          refine q_RT_st1 (g2 := (169, [(0, .ref 87), (1, .int a1), (2, .int a2)], [], (q_kN s c n))) rfl (by rw [of_decide_eq_true h12]; rfl) ?_
                          refine q_RT_seg (g2 := (175, [(0, .ref 87), (1, .int a1), (2, .int a2)], [.int (s.2.1 23 0), .ref 87, .ref 87], (q_kN s c n))) 4 (fun _ _ => rfl) ?_
                          refine q_RT_seg (g2 := (177, [(0, .ref 87), (1, .int a1), (2, .int a2)], [.int ((s.2.1 23 0) ||| a2), .ref 87, .ref 87], (q_kN s c n))) 2 (fun _ _ => rfl) ?_
                          refine q_RT_call (v := (some (.int (dz_N150_87 s ((s.2.1 23 0) ||| a2)).2))) (h2 := (q_kN (dz_N150_87 s ((s.2.1 23 0) ||| a2)).1 c n)) rfl rfl ((dzt_N150_87 s c n ((s.2.1 23 0) ||| a2)).le (Nat.le_of_ble_eq_true rfl)) ?_
                          generalize dz_N150_87 s ((s.2.1 23 0) ||| a2) = r7
                          refine q_RT_let ?_
                          show q_RT _ _ _ (180, [(0, .ref 87), (1, .int a1), (2, .int a2)], [.int r7.2, .ref 87], (q_kN r7.1 c n)) _ _
                          refine q_RT_seg (g2 := (316, [(0, .ref 87), (1, .int a1), (2, .int a2)], [], (q_kN (q_sI r7.1 23 0 r7.2) c n))) 2 (fun _ _ => rfl) ?_
                          exact q_RT_ret rfl rfl rfl
                        | false =>
                          refine q_RT_cF ?_
                          cases h13 : decide (a1 = 10) with
                          | true =>
                            refine q_RT_cT ?_
                            refine q_RT_st1 (g2 := (186, [(0, .ref 87), (1, .int a1), (2, .int a2)], [], (q_kN s c n))) rfl (by rw [of_decide_eq_true h13]; rfl) ?_
                            refine q_RT_seg (g2 := (192, [(0, .ref 87), (1, .int a1), (2, .int a2)], [.int (s.2.1 23 0), .ref 87, .ref 87], (q_kN s c n))) 4 (fun _ _ => rfl) ?_
                            refine q_RT_seg (g2 := (194, [(0, .ref 87), (1, .int a1), (2, .int a2)], [.int ((s.2.1 23 0) ^^^ a2), .ref 87, .ref 87], (q_kN s c n))) 2 (fun _ _ => rfl) ?_
                            refine q_RT_call (v := (some (.int (dz_N150_87 s ((s.2.1 23 0) ^^^ a2)).2))) (h2 := (q_kN (dz_N150_87 s ((s.2.1 23 0) ^^^ a2)).1 c n)) rfl rfl ((dzt_N150_87 s c n ((s.2.1 23 0) ^^^ a2)).le (Nat.le_of_ble_eq_true rfl)) ?_
                            generalize dz_N150_87 s ((s.2.1 23 0) ^^^ a2) = r8
                            refine q_RT_let ?_
                            show q_RT _ _ _ (197, [(0, .ref 87), (1, .int a1), (2, .int a2)], [.int r8.2, .ref 87], (q_kN r8.1 c n)) _ _
                            refine q_RT_seg (g2 := (316, [(0, .ref 87), (1, .int a1), (2, .int a2)], [], (q_kN (q_sI r8.1 23 0 r8.2) c n))) 2 (fun _ _ => rfl) ?_
                            exact q_RT_ret rfl rfl rfl
                          | false =>
                            refine q_RT_cF ?_
                            cases h14 : decide (a1 = 11) with
                            | true =>
                              refine q_RT_cT ?_
                              refine q_RT_st1 (g2 := (203, [(0, .ref 87), (1, .int a1), (2, .int a2)], [], (q_kN s c n))) rfl (by rw [of_decide_eq_true h14]; rfl) ?_
                              refine q_RT_seg (g2 := (208, [(0, .ref 87), (1, .int a1), (2, .int a2)], [.int (s.2.1 23 0), .ref 87], (q_kN s c n))) 3 (fun _ _ => rfl) ?_
                              refine q_RT_seg (g2 := (209, [(0, .ref 87), (1, .int a1), (2, .int a2)], [.int a2, .int (s.2.1 23 0), .ref 87], (q_kN s c n))) 1 (fun _ _ => rfl) ?_
                              refine q_RT_call (v := none) (h2 := (q_kN (dz_N151_87 s (s.2.1 23 0) a2) c n)) rfl rfl ((dzt_N151_87 s c n (s.2.1 23 0) a2).le (Nat.le_of_ble_eq_true rfl)) ?_
                              generalize dz_N151_87 s (s.2.1 23 0) a2 = r9
                              refine q_RT_let ?_
                              show q_RT _ _ _ (212, [(0, .ref 87), (1, .int a1), (2, .int a2)], [], (q_kN r9 c n)) _ _
                              refine q_RT_seg (g2 := (316, [(0, .ref 87), (1, .int a1), (2, .int a2)], [], (q_kN r9 c n))) 1 (fun _ _ => rfl) ?_
                              exact q_RT_ret rfl rfl rfl
                            | false =>
                              refine q_RT_cF ?_
                              cases h15 : decide (a1 = 12) with
                              | true =>
                                refine q_RT_cT ?_
                                refine q_RT_st1 (g2 := (215, [(0, .ref 87), (1, .int a1), (2, .int a2)], [], (q_kN s c n))) rfl (by rw [of_decide_eq_true h15]; rfl) ?_
                                refine q_RT_seg (g2 := (220, [(0, .ref 87), (1, .int a1), (2, .int a2)], [.int (s.2.1 23 1), .ref 87], (q_kN s c n))) 3 (fun _ _ => rfl) ?_
                                refine q_RT_seg (g2 := (221, [(0, .ref 87), (1, .int a1), (2, .int a2)], [.int a2, .int (s.2.1 23 1), .ref 87], (q_kN s c n))) 1 (fun _ _ => rfl) ?_
                                refine q_RT_call (v := none) (h2 := (q_kN (dz_N151_87 s (s.2.1 23 1) a2) c n)) rfl rfl ((dzt_N151_87 s c n (s.2.1 23 1) a2).le (Nat.le_of_ble_eq_true rfl)) ?_
                                generalize dz_N151_87 s (s.2.1 23 1) a2 = r10
                                refine q_RT_let ?_
                                show q_RT _ _ _ (224, [(0, .ref 87), (1, .int a1), (2, .int a2)], [], (q_kN r10 c n)) _ _
                                refine q_RT_seg (g2 := (316, [(0, .ref 87), (1, .int a1), (2, .int a2)], [], (q_kN r10 c n))) 1 (fun _ _ => rfl) ?_
                                exact q_RT_ret rfl rfl rfl
                              | false =>
                                refine q_RT_cF ?_
                                cases h16 : decide (a1 = 13) with
                                | true =>
                                  refine q_RT_cT ?_
                                  refine q_RT_st1 (g2 := (227, [(0, .ref 87), (1, .int a1), (2, .int a2)], [], (q_kN s c n))) rfl (by rw [of_decide_eq_true h16]; rfl) ?_
                                  refine q_RT_seg (g2 := (232, [(0, .ref 87), (1, .int a1), (2, .int a2)], [.int (s.2.1 23 2), .ref 87], (q_kN s c n))) 3 (fun _ _ => rfl) ?_
                                  refine q_RT_seg (g2 := (233, [(0, .ref 87), (1, .int a1), (2, .int a2)], [.int a2, .int (s.2.1 23 2), .ref 87], (q_kN s c n))) 1 (fun _ _ => rfl) ?_
                                  refine q_RT_call (v := none) (h2 := (q_kN (dz_N151_87 s (s.2.1 23 2) a2) c n)) rfl rfl ((dzt_N151_87 s c n (s.2.1 23 2) a2).le (Nat.le_of_ble_eq_true rfl)) ?_
                                  generalize dz_N151_87 s (s.2.1 23 2) a2 = r11
                                  refine q_RT_let ?_
                                  show q_RT _ _ _ (236, [(0, .ref 87), (1, .int a1), (2, .int a2)], [], (q_kN r11 c n)) _ _
                                  refine q_RT_seg (g2 := (316, [(0, .ref 87), (1, .int a1), (2, .int a2)], [], (q_kN r11 c n))) 1 (fun _ _ => rfl) ?_
                                  exact q_RT_ret rfl rfl rfl
                                | false =>
                                  refine q_RT_cF ?_
                                  cases h17 : decide (a1 = 14) with
                                  | true =>
                                    refine q_RT_cT ?_
                                    refine q_RT_st1 (g2 := (316, [(0, .ref 87), (1, .int a1), (2, .int a2)], [], (q_kN s c n))) rfl (by rw [of_decide_eq_true h17]; rfl) ?_
                                    exact q_RT_ret rfl rfl rfl
                                  | false =>
                                    refine q_RT_cF ?_
                                    cases h18 : decide (a1 = 15) with
                                    | true =>
                                      refine q_RT_cT ?_
                                      refine q_RT_st1 (g2 := (316, [(0, .ref 87), (1, .int a1), (2, .int a2)], [], (q_kN s c n))) rfl (by rw [of_decide_eq_true h18]; rfl) ?_
                                      exact q_RT_ret rfl rfl rfl
                                    | false =>
                                      refine q_RT_cF ?_
                                      cases h19 : decide (a1 = 16) with
                                      | true =>
                                        refine q_RT_cT ?_
                                        refine q_RT_st1 (g2 := (239, [(0, .ref 87), (1, .int a1), (2, .int a2)], [], (q_kN s c n))) rfl (by rw [of_decide_eq_true h19]; rfl) ?_
                                        refine q_RT_seg (g2 := (242, [(0, .ref 87), (1, .int a1), (2, .int a2)], [.int a2, .ref 87, .ref 87], (q_kN s c n))) 3 (fun _ _ => rfl) ?_
                                        refine q_RT_call (v := (some (.int (dz_N150_87 s a2).2))) (h2 := (q_kN (dz_N150_87 s a2).1 c n)) rfl rfl ((dzt_N150_87 s c n a2).le (Nat.le_of_ble_eq_true rfl)) ?_
                                        generalize dz_N150_87 s a2 = r12
                                        refine q_RT_let ?_
                                        show q_RT _ _ _ (245, [(0, .ref 87), (1, .int a1), (2, .int a2)], [.int r12.2, .ref 87], (q_kN r12.1 c n)) _ _
                                        refine q_RT_seg (g2 := (316, [(0, .ref 87), (1, .int a1), (2, .int a2)], [], (q_kN (q_sI (q_sI r12.1 23 1 r12.2) 23 0 a2) c n))) 5 (fun _ _ => rfl) ?_
                                        exact q_RT_ret rfl rfl rfl
                                      | false =>
                                        refine q_RT_cF ?_
                                        cases h20 : decide (a1 = 17) with
                                        | true =>
                                          refine q_RT_cT ?_
                                          refine q_RT_st1 (g2 := (316, [(0, .ref 87), (1, .int a1), (2, .int a2)], [], (q_kN s c n))) rfl (by rw [of_decide_eq_true h20]; rfl) ?_
                                          exact q_RT_ret rfl rfl rfl
                                        | false =>
                                          refine q_RT_cF ?_
                                          cases h21 : decide (a1 = 18) with
                                          | true =>
                                            refine q_RT_cT ?_
                                            refine q_RT_st1 (g2 := (316, [(0, .ref 87), (1, .int a1), (2, .int a2)], [], (q_kN s c n))) rfl (by rw [of_decide_eq_true h21]; rfl) ?_
                                            exact q_RT_ret rfl rfl rfl
                                          | false =>
                                            refine q_RT_cF ?_
                                            cases h22 : decide (a1 = 19) with
                                            | true =>
                                              refine q_RT_cT ?_
                                              refine q_RT_st1 (g2 := (316, [(0, .ref 87), (1, .int a1), (2, .int a2)], [], (q_kN s c n))) rfl (by rw [of_decide_eq_true h22]; rfl) ?_
                                              exact q_RT_ret rfl rfl rfl
                                            | false =>
                                              refine q_RT_cF ?_
                                              have h23 : a1 = 20 := Int32.toInt_inj.mp (by have e0 := q_neI h3 (n := 0); have e1 := q_neI h4 (n := 1); have e2 := q_neI h5 (n := 2); have e3 := q_neI h6 (n := 3); have e4 := q_neI h7 (n := 4); have e5 := q_neI h8 (n := 5); have e6 := q_neI h9 (n := 6); have e7 := q_neI h10 (n := 7); have e8 := q_neI h11 (n := 8); have e9 := q_neI h12 (n := 9); have e10 := q_neI h13 (n := 10); have e11 := q_neI h14 (n := 11); have e12 := q_neI h15 (n := 12); have e13 := q_neI h16 (n := 13); have e14 := q_neI h17 (n := 14); have e15 := q_neI h18 (n := 15); have e16 := q_neI h19 (n := 16); have e17 := q_neI h20 (n := 17); have e18 := q_neI h21 (n := 18); have e19 := q_neI h22 (n := 19); have l1 : 0 ≤ (a1).toInt := q_lo1 h1; have l2 : (a1).toInt ≤ 20 := q_hi2 h2; show (a1).toInt = 20; omega)
                                              refine q_RT_st1 (g2 := (256, [(0, .ref 87), (1, .int a1), (2, .int a2)], [], (q_kN s c n))) rfl (by rw [h23]; rfl) ?_
                                              refine q_RT_seg (g2 := (262, [(0, .ref 87), (1, .int a1), (2, .int a2)], [.int (s.2.1 23 0), .int 2, .ref 87], (q_kN s c n))) 4 (fun _ _ => rfl) ?_
                                              refine q_RT_seg (g2 := (264, [(0, .ref 87), (1, .int a1), (2, .int a2)], [.int ((s.2.1 23 0) &&& a2), .int 2, .ref 87], (q_kN s c n))) 2 (fun _ _ => rfl) ?_
                                              cases h24 : decide ((s.2.1 23 0) &&& a2 = 0) with
                                              | true =>
                                                refine q_RT_cT ?_
                                                refine q_RT_rsF (g2 := (267, [(0, .ref 87), (1, .int a1), (2, .int a2)], [.int 2, .ref 87], (q_kN s c n))) rfl rfl (q_d_neT h24) ?_
                                                refine q_RT_seg (g2 := (272, [(0, .ref 87), (1, .int a1), (2, .int a2)], [.int 1, .int 2, .ref 87], (q_kN s c n))) 2 (fun _ _ => rfl) ?_
                                                refine q_RT_call (v := none) (h2 := (q_kN (dz_N149_87_t s 2) c n)) rfl rfl ((dzt_N149_87_t s c n 2).le (Nat.le_of_ble_eq_true rfl)) ?_
                                                generalize dz_N149_87_t s 2 = r13
                                                refine q_RT_let ?_
                                                show q_RT _ _ _ (275, [(0, .ref 87), (1, .int a1), (2, .int a2)], [], (q_kN r13 c n)) _ _
                                                refine q_RT_seg (g2 := (284, [(0, .ref 87), (1, .int a1), (2, .int a2)], [.int (a2 &&& 128), .int 128, .ref 87], (q_kN r13 c n))) 5 (fun _ _ => rfl) ?_
                                                cases h25 : decide (a2 &&& 128 = 0) with
                                                | true =>
                                                  refine q_RT_cT ?_
                                                  refine q_RT_rsT (g2 := (291, [(0, .ref 87), (1, .int a1), (2, .int a2)], [.int 128, .ref 87], (q_kN r13 c n))) rfl rfl h25 ?_
                                                  refine q_RT_seg (g2 := (292, [(0, .ref 87), (1, .int a1), (2, .int a2)], [.int 0, .int 128, .ref 87], (q_kN r13 c n))) 1 (fun _ _ => rfl) ?_
                                                  refine q_RT_call (v := none) (h2 := (q_kN (dz_N149_87_f r13 128) c n)) rfl rfl ((dzt_N149_87_f r13 c n 128).le (Nat.le_of_ble_eq_true rfl)) ?_
                                                  generalize dz_N149_87_f r13 128 = r14
                                                  refine q_RT_let ?_
                                                  show q_RT _ _ _ (295, [(0, .ref 87), (1, .int a1), (2, .int a2)], [], (q_kN r14 c n)) _ _
                                                  refine q_RT_seg (g2 := (302, [(0, .ref 87), (1, .int a1), (2, .int a2)], [.int (a2 &&& 64), .int 64, .ref 87], (q_kN r14 c n))) 5 (fun _ _ => rfl) ?_
                                                  cases h26 : decide (a2 &&& 64 = 0) with
                                                  | true =>
                                                    refine q_RT_cT ?_
                                                    refine q_RT_rsT (g2 := (309, [(0, .ref 87), (1, .int a1), (2, .int a2)], [.int 64, .ref 87], (q_kN r14 c n))) rfl rfl h26 ?_
                                                    refine q_RT_seg (g2 := (310, [(0, .ref 87), (1, .int a1), (2, .int a2)], [.int 0, .int 64, .ref 87], (q_kN r14 c n))) 1 (fun _ _ => rfl) ?_
                                                    refine q_RT_call (v := none) (h2 := (q_kN (dz_N149_87_f r14 64) c n)) rfl rfl ((dzt_N149_87_f r14 c n 64).le (Nat.le_of_ble_eq_true rfl)) ?_
                                                    generalize dz_N149_87_f r14 64 = r15
                                                    refine q_RT_let ?_
                                                    show q_RT _ _ _ (313, [(0, .ref 87), (1, .int a1), (2, .int a2)], [], (q_kN r15 c n)) _ _
                                                    refine q_RT_seg (g2 := (316, [(0, .ref 87), (1, .int a1), (2, .int a2)], [], (q_kN r15 c n))) 1 (fun _ _ => rfl) ?_
                                                    exact q_RT_ret rfl rfl rfl
                                                  | false =>
                                                    refine q_RT_cF ?_
                                                    refine q_RT_rsF (g2 := (305, [(0, .ref 87), (1, .int a1), (2, .int a2)], [.int 64, .ref 87], (q_kN r14 c n))) rfl rfl h26 ?_
                                                    refine q_RT_seg (g2 := (310, [(0, .ref 87), (1, .int a1), (2, .int a2)], [.int 1, .int 64, .ref 87], (q_kN r14 c n))) 2 (fun _ _ => rfl) ?_
                                                    refine q_RT_call (v := none) (h2 := (q_kN (dz_N149_87_t r14 64) c n)) rfl rfl ((dzt_N149_87_t r14 c n 64).le (Nat.le_of_ble_eq_true rfl)) ?_
                                                    generalize dz_N149_87_t r14 64 = r16
                                                    refine q_RT_let ?_
                                                    show q_RT _ _ _ (313, [(0, .ref 87), (1, .int a1), (2, .int a2)], [], (q_kN r16 c n)) _ _
                                                    refine q_RT_seg (g2 := (316, [(0, .ref 87), (1, .int a1), (2, .int a2)], [], (q_kN r16 c n))) 1 (fun _ _ => rfl) ?_
                                                    exact q_RT_ret rfl rfl rfl
                                                | false =>
                                                  refine q_RT_cF ?_
                                                  refine q_RT_rsF (g2 := (287, [(0, .ref 87), (1, .int a1), (2, .int a2)], [.int 128, .ref 87], (q_kN r13 c n))) rfl rfl h25 ?_
                                                  refine q_RT_seg (g2 := (292, [(0, .ref 87), (1, .int a1), (2, .int a2)], [.int 1, .int 128, .ref 87], (q_kN r13 c n))) 2 (fun _ _ => rfl) ?_
                                                  refine q_RT_call (v := none) (h2 := (q_kN (dz_N149_87_t r13 128) c n)) rfl rfl ((dzt_N149_87_t r13 c n 128).le (Nat.le_of_ble_eq_true rfl)) ?_
                                                  generalize dz_N149_87_t r13 128 = r17
                                                  refine q_RT_let ?_
                                                  show q_RT _ _ _ (295, [(0, .ref 87), (1, .int a1), (2, .int a2)], [], (q_kN r17 c n)) _ _
                                                  refine q_RT_seg (g2 := (302, [(0, .ref 87), (1, .int a1), (2, .int a2)], [.int (a2 &&& 64), .int 64, .ref 87], (q_kN r17 c n))) 5 (fun _ _ => rfl) ?_
                                                  cases h27 : decide (a2 &&& 64 = 0) with
                                                  | true =>
                                                    refine q_RT_cT ?_
                                                    refine q_RT_rsT (g2 := (309, [(0, .ref 87), (1, .int a1), (2, .int a2)], [.int 64, .ref 87], (q_kN r17 c n))) rfl rfl h27 ?_
                                                    refine q_RT_seg (g2 := (310, [(0, .ref 87), (1, .int a1), (2, .int a2)], [.int 0, .int 64, .ref 87], (q_kN r17 c n))) 1 (fun _ _ => rfl) ?_
                                                    refine q_RT_call (v := none) (h2 := (q_kN (dz_N149_87_f r17 64) c n)) rfl rfl ((dzt_N149_87_f r17 c n 64).le (Nat.le_of_ble_eq_true rfl)) ?_
                                                    generalize dz_N149_87_f r17 64 = r18
                                                    refine q_RT_let ?_
                                                    show q_RT _ _ _ (313, [(0, .ref 87), (1, .int a1), (2, .int a2)], [], (q_kN r18 c n)) _ _
                                                    refine q_RT_seg (g2 := (316, [(0, .ref 87), (1, .int a1), (2, .int a2)], [], (q_kN r18 c n))) 1 (fun _ _ => rfl) ?_
                                                    exact q_RT_ret rfl rfl rfl
                                                  | false =>
                                                    refine q_RT_cF ?_
                                                    refine q_RT_rsF (g2 := (305, [(0, .ref 87), (1, .int a1), (2, .int a2)], [.int 64, .ref 87], (q_kN r17 c n))) rfl rfl h27 ?_
                                                    refine q_RT_seg (g2 := (310, [(0, .ref 87), (1, .int a1), (2, .int a2)], [.int 1, .int 64, .ref 87], (q_kN r17 c n))) 2 (fun _ _ => rfl) ?_
                                                    refine q_RT_call (v := none) (h2 := (q_kN (dz_N149_87_t r17 64) c n)) rfl rfl ((dzt_N149_87_t r17 c n 64).le (Nat.le_of_ble_eq_true rfl)) ?_
                                                    generalize dz_N149_87_t r17 64 = r19
                                                    refine q_RT_let ?_
                                                    show q_RT _ _ _ (313, [(0, .ref 87), (1, .int a1), (2, .int a2)], [], (q_kN r19 c n)) _ _
                                                    refine q_RT_seg (g2 := (316, [(0, .ref 87), (1, .int a1), (2, .int a2)], [], (q_kN r19 c n))) 1 (fun _ _ => rfl) ?_
                                                    exact q_RT_ret rfl rfl rfl
                                              | false =>
                                                refine q_RT_cF ?_
                                                refine q_RT_rsT (g2 := (271, [(0, .ref 87), (1, .int a1), (2, .int a2)], [.int 2, .ref 87], (q_kN s c n))) rfl rfl (q_d_neF h24) ?_
                                                refine q_RT_seg (g2 := (272, [(0, .ref 87), (1, .int a1), (2, .int a2)], [.int 0, .int 2, .ref 87], (q_kN s c n))) 1 (fun _ _ => rfl) ?_
                                                refine q_RT_call (v := none) (h2 := (q_kN (dz_N149_87_f s 2) c n)) rfl rfl ((dzt_N149_87_f s c n 2).le (Nat.le_of_ble_eq_true rfl)) ?_
                                                generalize dz_N149_87_f s 2 = r20
                                                refine q_RT_let ?_
                                                show q_RT _ _ _ (275, [(0, .ref 87), (1, .int a1), (2, .int a2)], [], (q_kN r20 c n)) _ _
                                                refine q_RT_seg (g2 := (284, [(0, .ref 87), (1, .int a1), (2, .int a2)], [.int (a2 &&& 128), .int 128, .ref 87], (q_kN r20 c n))) 5 (fun _ _ => rfl) ?_
                                                cases h28 : decide (a2 &&& 128 = 0) with
                                                | true =>
                                                  refine q_RT_cT ?_
                                                  refine q_RT_rsT (g2 := (291, [(0, .ref 87), (1, .int a1), (2, .int a2)], [.int 128, .ref 87], (q_kN r20 c n))) rfl rfl h28 ?_
                                                  refine q_RT_seg (g2 := (292, [(0, .ref 87), (1, .int a1), (2, .int a2)], [.int 0, .int 128, .ref 87], (q_kN r20 c n))) 1 (fun _ _ => rfl) ?_
                                                  refine q_RT_call (v := none) (h2 := (q_kN (dz_N149_87_f r20 128) c n)) rfl rfl ((dzt_N149_87_f r20 c n 128).le (Nat.le_of_ble_eq_true rfl)) ?_
                                                  generalize dz_N149_87_f r20 128 = r21
                                                  refine q_RT_let ?_
                                                  show q_RT _ _ _ (295, [(0, .ref 87), (1, .int a1), (2, .int a2)], [], (q_kN r21 c n)) _ _
                                                  refine q_RT_seg (g2 := (302, [(0, .ref 87), (1, .int a1), (2, .int a2)], [.int (a2 &&& 64), .int 64, .ref 87], (q_kN r21 c n))) 5 (fun _ _ => rfl) ?_
                                                  cases h29 : decide (a2 &&& 64 = 0) with
                                                  | true =>
                                                    refine q_RT_cT ?_
                                                    refine q_RT_rsT (g2 := (309, [(0, .ref 87), (1, .int a1), (2, .int a2)], [.int 64, .ref 87], (q_kN r21 c n))) rfl rfl h29 ?_
                                                    refine q_RT_seg (g2 := (310, [(0, .ref 87), (1, .int a1), (2, .int a2)], [.int 0, .int 64, .ref 87], (q_kN r21 c n))) 1 (fun _ _ => rfl) ?_
                                                    refine q_RT_call (v := none) (h2 := (q_kN (dz_N149_87_f r21 64) c n)) rfl rfl ((dzt_N149_87_f r21 c n 64).le (Nat.le_of_ble_eq_true rfl)) ?_
                                                    generalize dz_N149_87_f r21 64 = r22
                                                    refine q_RT_let ?_
                                                    show q_RT _ _ _ (313, [(0, .ref 87), (1, .int a1), (2, .int a2)], [], (q_kN r22 c n)) _ _
                                                    refine q_RT_seg (g2 := (316, [(0, .ref 87), (1, .int a1), (2, .int a2)], [], (q_kN r22 c n))) 1 (fun _ _ => rfl) ?_
                                                    exact q_RT_ret rfl rfl rfl
                                                  | false =>
                                                    refine q_RT_cF ?_
                                                    refine q_RT_rsF (g2 := (305, [(0, .ref 87), (1, .int a1), (2, .int a2)], [.int 64, .ref 87], (q_kN r21 c n))) rfl rfl h29 ?_
                                                    refine q_RT_seg (g2 := (310, [(0, .ref 87), (1, .int a1), (2, .int a2)], [.int 1, .int 64, .ref 87], (q_kN r21 c n))) 2 (fun _ _ => rfl) ?_
                                                    refine q_RT_call (v := none) (h2 := (q_kN (dz_N149_87_t r21 64) c n)) rfl rfl ((dzt_N149_87_t r21 c n 64).le (Nat.le_of_ble_eq_true rfl)) ?_
                                                    generalize dz_N149_87_t r21 64 = r23
                                                    refine q_RT_let ?_
                                                    show q_RT _ _ _ (313, [(0, .ref 87), (1, .int a1), (2, .int a2)], [], (q_kN r23 c n)) _ _
                                                    refine q_RT_seg (g2 := (316, [(0, .ref 87), (1, .int a1), (2, .int a2)], [], (q_kN r23 c n))) 1 (fun _ _ => rfl) ?_
                                                    exact q_RT_ret rfl rfl rfl
                                                | false =>
                                                  refine q_RT_cF ?_
                                                  refine q_RT_rsF (g2 := (287, [(0, .ref 87), (1, .int a1), (2, .int a2)], [.int 128, .ref 87], (q_kN r20 c n))) rfl rfl h28 ?_
                                                  refine q_RT_seg (g2 := (292, [(0, .ref 87), (1, .int a1), (2, .int a2)], [.int 1, .int 128, .ref 87], (q_kN r20 c n))) 2 (fun _ _ => rfl) ?_
                                                  refine q_RT_call (v := none) (h2 := (q_kN (dz_N149_87_t r20 128) c n)) rfl rfl ((dzt_N149_87_t r20 c n 128).le (Nat.le_of_ble_eq_true rfl)) ?_
                                                  generalize dz_N149_87_t r20 128 = r24
                                                  refine q_RT_let ?_
                                                  show q_RT _ _ _ (295, [(0, .ref 87), (1, .int a1), (2, .int a2)], [], (q_kN r24 c n)) _ _
                                                  refine q_RT_seg (g2 := (302, [(0, .ref 87), (1, .int a1), (2, .int a2)], [.int (a2 &&& 64), .int 64, .ref 87], (q_kN r24 c n))) 5 (fun _ _ => rfl) ?_
                                                  cases h30 : decide (a2 &&& 64 = 0) with
                                                  | true =>
                                                    refine q_RT_cT ?_
                                                    refine q_RT_rsT (g2 := (309, [(0, .ref 87), (1, .int a1), (2, .int a2)], [.int 64, .ref 87], (q_kN r24 c n))) rfl rfl h30 ?_
                                                    refine q_RT_seg (g2 := (310, [(0, .ref 87), (1, .int a1), (2, .int a2)], [.int 0, .int 64, .ref 87], (q_kN r24 c n))) 1 (fun _ _ => rfl) ?_
                                                    refine q_RT_call (v := none) (h2 := (q_kN (dz_N149_87_f r24 64) c n)) rfl rfl ((dzt_N149_87_f r24 c n 64).le (Nat.le_of_ble_eq_true rfl)) ?_
                                                    generalize dz_N149_87_f r24 64 = r25
                                                    refine q_RT_let ?_
                                                    show q_RT _ _ _ (313, [(0, .ref 87), (1, .int a1), (2, .int a2)], [], (q_kN r25 c n)) _ _
                                                    refine q_RT_seg (g2 := (316, [(0, .ref 87), (1, .int a1), (2, .int a2)], [], (q_kN r25 c n))) 1 (fun _ _ => rfl) ?_
                                                    exact q_RT_ret rfl rfl rfl
                                                  | false =>
                                                    refine q_RT_cF ?_
                                                    refine q_RT_rsF (g2 := (305, [(0, .ref 87), (1, .int a1), (2, .int a2)], [.int 64, .ref 87], (q_kN r24 c n))) rfl rfl h30 ?_
                                                    refine q_RT_seg (g2 := (310, [(0, .ref 87), (1, .int a1), (2, .int a2)], [.int 1, .int 64, .ref 87], (q_kN r24 c n))) 2 (fun _ _ => rfl) ?_
                                                    refine q_RT_call (v := none) (h2 := (q_kN (dz_N149_87_t r24 64) c n)) rfl rfl ((dzt_N149_87_t r24 c n 64).le (Nat.le_of_ble_eq_true rfl)) ?_
                                                    generalize dz_N149_87_t r24 64 = r26
                                                    refine q_RT_let ?_
                                                    show q_RT _ _ _ (313, [(0, .ref 87), (1, .int a1), (2, .int a2)], [], (q_kN r26 c n)) _ _
                                                    refine q_RT_seg (g2 := (316, [(0, .ref 87), (1, .int a1), (2, .int a2)], [], (q_kN r26 c n))) 1 (fun _ _ => rfl) ?_
                                                    exact q_RT_ret rfl rfl rfl
def dz_N144_87_65 (s : q_S) (a2 : Int32) : Option (Int32) :=
  (dz_N145_87_65 s a2).bind fun r2 => q_let (dz_N143_87 s a2) fun r3 => some ((r2 + r3) &&& 4095)
set_option maxHeartbeats 4000000 in
theorem dzt_N144_87_65 (s : q_S) (c n : Nat) (a2 : Int32) (x : Int32) (h : dz_N144_87_65 s a2 = some x) : q_Ca q_TB0 4 143 [.ref 87, .ref 65, .int a2] (q_kN s c n) ((q_oP (q_kN s c n)) x) := by
  refine q_CaP_of (φ := (q_oP (q_kN s c n))) (Nat.le_of_ble_eq_true rfl) ?_ h
  clear h
  unfold dz_N144_87_65
  refine q_RP_seg (g2 := (3, [(0, .ref 87), (1, .ref 65), (2, .int a2)], [.int a2, .ref 65, .ref 87], (q_kN s c n))) 3 (fun _ _ => rfl) ?_
  refine q_RP_bd fun r2 er2 => ?_
  refine q_RP_call (v := (some (.int r2))) (h2 := (q_kN s c n)) rfl rfl ((dzt_N145_87_65 s c n a2 r2 er2).le (Nat.le_of_ble_eq_true rfl)) ?_
  show q_RP _ _ _ (6, [(0, .ref 87), (1, .ref 65), (2, .int a2)], [.int r2], (q_kN s c n)) _ _
  refine q_RP_seg (g2 := (8, [(0, .ref 87), (1, .ref 65), (2, .int a2)], [.int a2, .ref 87, .int r2], (q_kN s c n))) 2 (fun _ _ => rfl) ?_
  refine q_RP_call (v := (some (.int (dz_N143_87 s a2)))) (h2 := (q_kN s c n)) rfl rfl ((dzt_N143_87 s c n a2).le (Nat.le_of_ble_eq_true rfl)) ?_
  generalize dz_N143_87 s a2 = r3
  refine q_RP_let ?_
  show q_RP _ _ _ (11, [(0, .ref 87), (1, .ref 65), (2, .int a2)], [.int r3, .int r2], (q_kN s c n)) _ _
  refine q_RP_seg (g2 := (16, [(0, .ref 87), (1, .ref 65), (2, .int a2)], [.int ((r2 + r3) &&& 4095)], (q_kN s c n))) 3 (fun _ _ => rfl) ?_
  exact q_RP_ret rfl rfl rfl
def dz_N93_65 (s : q_S) (a1 : Int32) : Option (q_S × Int32) :=
  (dz_N90_65 s a1).bind fun r2 => cond (decide (a1 = 3869)) (some ((q_sA s 4 (upd (s.1 4) 29 0)), r2)) (cond (decide (a1 = 3870)) (some ((q_sA s 4 (upd (s.1 4) 30 0)), r2)) (some (s, r2)))
set_option maxHeartbeats 4000000 in
theorem dzt_N93_65 (s : q_S) (c n : Nat) (a1 : Int32) (x : q_S × Int32) (h : dz_N93_65 s a1 = some x) : q_Ca q_TB0 3 92 [.ref 65, .int a1] (q_kN s c n) ((q_oIN c n) x) := by
  refine q_CaP_of (φ := (q_oIN c n)) (Nat.le_of_ble_eq_true rfl) ?_ h
  clear h
  unfold dz_N93_65
  refine q_RP_seg (g2 := (2, [(0, .ref 65), (1, .int a1)], [.int a1, .ref 65], (q_kN s c n))) 2 (fun _ _ => rfl) ?_
  refine q_RP_bd fun r2 er2 => ?_
  refine q_RP_call (v := (some (.int r2))) (h2 := (q_kN s c n)) rfl rfl ((dzt_N90_65 s c n a1 r2 er2).le (Nat.le_of_ble_eq_true rfl)) ?_
  show q_RP _ _ _ (5, [(0, .ref 65), (1, .int a1)], [.int r2], (q_kN s c n)) _ _
  refine q_RP_seg (g2 := (10, [(2, .int r2), (0, .ref 65), (1, .int a1)], [.int 3869, .int a1], (q_kN s c n))) 3 (fun _ _ => rfl) ?_
  cases h1 : decide (a1 = 3869) with
  | true =>
    refine q_RP_cT ?_
    refine q_RP_rsF (g2 := (13, [(2, .int r2), (0, .ref 65), (1, .int a1)], [], (q_kN s c n))) rfl rfl (q_d_neT h1) ?_
    refine q_RP_seg (g2 := (46, [(2, .int r2), (0, .ref 65), (1, .int a1)], [.int r2], (q_kN (q_sA s 4 (upd (s.1 4) 29 0)) c n))) 8 (fun _ _ => rfl) ?_
    exact q_RP_ret rfl rfl rfl
  | false =>
    refine q_RP_cF ?_
    refine q_RP_rsT (g2 := (27, [(2, .int r2), (0, .ref 65), (1, .int a1)], [], (q_kN s c n))) rfl rfl (q_d_neF h1) ?_
    refine q_RP_seg (g2 := (31, [(2, .int r2), (0, .ref 65), (1, .int a1)], [.int 3870, .int a1], (q_kN s c n))) 2 (fun _ _ => rfl) ?_
    cases h2 : decide (a1 = 3870) with
    | true =>
      refine q_RP_cT ?_
      refine q_RP_rsF (g2 := (34, [(2, .int r2), (0, .ref 65), (1, .int a1)], [], (q_kN s c n))) rfl rfl (q_d_neT h2) ?_
      refine q_RP_seg (g2 := (46, [(2, .int r2), (0, .ref 65), (1, .int a1)], [.int r2], (q_kN (q_sA s 4 (upd (s.1 4) 30 0)) c n))) 7 (fun _ _ => rfl) ?_
      exact q_RP_ret rfl rfl rfl
    | false =>
      refine q_RP_cF ?_
      refine q_RP_rsT (g2 := (45, [(2, .int r2), (0, .ref 65), (1, .int a1)], [], (q_kN s c n))) rfl rfl (q_d_neF h2) ?_
      refine q_RP_seg (g2 := (46, [(2, .int r2), (0, .ref 65), (1, .int a1)], [.int r2], (q_kN s c n))) 1 (fun _ _ => rfl) ?_
      exact q_RP_ret rfl rfl rfl
def dz_N153_87_65_101 (s : q_S) (v2 : Int32) (v3 : Int32) : Option (q_S) :=
  (dz_N93_65 s v3).bind fun r6 => (dz_N94_65 r6.1 v3 ((r6.2 + 1) &&& 255)).bind fun r7 => cond (decide (v2 = 18)) (q_let (dz_N151_87 r7 (r7.2.1 23 0) ((r6.2 + 1) &&& 255)) fun r8 => some r8) (cond (decide (v2 = 19)) (q_let (dz_N155_87 r7 ((r6.2 + 1) &&& 255)) fun r9 => some r9) (q_let (dz_N150_87 r7 ((r6.2 + 1) &&& 255)) fun r10 => some r10.1))
set_option maxHeartbeats 4000000 in
theorem dzt_N153_87_65_101 (c n : Nat) (s : q_S) (v2 : Int32) (v3 : Int32) : q_RP q_TB0 3 152 (101, [(0, .ref 87), (1, .ref 65), (2, .int v2), (3, .int v3)], [], (q_kN s c n)) (q_oSN c n) (dz_N153_87_65_101 s v2 v3) := by
  unfold dz_N153_87_65_101
  refine q_RP_seg (g2 := (110, [(4, .int 1), (0, .ref 87), (1, .ref 65), (2, .int v2), (3, .int v3)], [.int v3, .ref 65], (q_kN s c n))) 5 (fun _ _ => rfl) ?_
  refine q_RP_bd fun r6 er6 => ?_
  refine q_RP_call (v := (some (.int r6.2))) (h2 := (q_kN r6.1 c n)) rfl rfl ((dzt_N93_65 s c n v3 r6 er6).le (Nat.le_of_ble_eq_true rfl)) ?_
  show q_RP _ _ _ (113, [(4, .int 1), (0, .ref 87), (1, .ref 65), (2, .int v2), (3, .int v3)], [.int r6.2], (q_kN r6.1 c n)) _ _
  refine q_RP_seg (g2 := (126, [(5, .int ((r6.2 + 1) &&& 255)), (4, .int 1), (0, .ref 87), (1, .ref 65), (2, .int v2), (3, .int v3)], [.int ((r6.2 + 1) &&& 255), .int v3, .ref 65], (q_kN r6.1 c n))) 8 (fun _ _ => rfl) ?_
  refine q_RP_bd fun r7 er7 => ?_
  refine q_RP_call (v := none) (h2 := (q_kN r7 c n)) rfl rfl ((dzt_N94_65 r6.1 c n v3 ((r6.2 + 1) &&& 255) r7 er7).le (Nat.le_of_ble_eq_true rfl)) ?_
  show q_RP _ _ _ (129, [(5, .int ((r6.2 + 1) &&& 255)), (4, .int 1), (0, .ref 87), (1, .ref 65), (2, .int v2), (3, .int v3)], [], (q_kN r7 c n)) _ _
  refine q_RP_seg (g2 := (132, [(5, .int ((r6.2 + 1) &&& 255)), (4, .int 1), (0, .ref 87), (1, .ref 65), (2, .int v2), (3, .int v3)], [.int 18, .int v2], (q_kN r7 c n))) 2 (fun _ _ => rfl) ?_
  cases h7 : decide (v2 = 18) with
  | true =>
    refine q_RP_cT ?_
    refine q_RP_rsF (g2 := (135, [(5, .int ((r6.2 + 1) &&& 255)), (4, .int 1), (0, .ref 87), (1, .ref 65), (2, .int v2), (3, .int v3)], [], (q_kN r7 c n))) rfl rfl (q_d_neT h7) ?_
    refine q_RP_seg (g2 := (140, [(5, .int ((r6.2 + 1) &&& 255)), (4, .int 1), (0, .ref 87), (1, .ref 65), (2, .int v2), (3, .int v3)], [.int (r7.2.1 23 0), .ref 87], (q_kN r7 c n))) 3 (fun _ _ => rfl) ?_
    refine q_RP_seg (g2 := (142, [(5, .int ((r6.2 + 1) &&& 255)), (4, .int 1), (0, .ref 87), (1, .ref 65), (2, .int v2), (3, .int v3)], [.int ((r6.2 + 1) &&& 255), .int (r7.2.1 23 0), .ref 87], (q_kN r7 c n))) 1 (fun _ _ => rfl) ?_
    refine q_RP_call (v := none) (h2 := (q_kN (dz_N151_87 r7 (r7.2.1 23 0) ((r6.2 + 1) &&& 255)) c n)) rfl rfl ((dzt_N151_87 r7 c n (r7.2.1 23 0) ((r6.2 + 1) &&& 255)).le (Nat.le_of_ble_eq_true rfl)) ?_
    generalize dz_N151_87 r7 (r7.2.1 23 0) ((r6.2 + 1) &&& 255) = r8
    refine q_RP_let ?_
    show q_RP _ _ _ (145, [(5, .int ((r6.2 + 1) &&& 255)), (4, .int 1), (0, .ref 87), (1, .ref 65), (2, .int v2), (3, .int v3)], [], (q_kN r8 c n)) _ _
    refine q_RP_seg (g2 := (170, [(5, .int ((r6.2 + 1) &&& 255)), (4, .int 1), (0, .ref 87), (1, .ref 65), (2, .int v2), (3, .int v3)], [], (q_kN r8 c n))) 1 (fun _ _ => rfl) ?_
    exact q_RP_ret rfl rfl rfl
  | false =>
    refine q_RP_cF ?_
    refine q_RP_rsT (g2 := (148, [(5, .int ((r6.2 + 1) &&& 255)), (4, .int 1), (0, .ref 87), (1, .ref 65), (2, .int v2), (3, .int v3)], [], (q_kN r7 c n))) rfl rfl (q_d_neF h7) ?_
    refine q_RP_seg (g2 := (151, [(5, .int ((r6.2 + 1) &&& 255)), (4, .int 1), (0, .ref 87), (1, .ref 65), (2, .int v2), (3, .int v3)], [.int 19, .int v2], (q_kN r7 c n))) 2 (fun _ _ => rfl) ?_
    cases h8 : decide (v2 = 19) with
    | true =>
      refine q_RP_cT ?_
      refine q_RP_rsF (g2 := (154, [(5, .int ((r6.2 + 1) &&& 255)), (4, .int 1), (0, .ref 87), (1, .ref 65), (2, .int v2), (3, .int v3)], [], (q_kN r7 c n))) rfl rfl (q_d_neT h8) ?_
      refine q_RP_seg (g2 := (157, [(5, .int ((r6.2 + 1) &&& 255)), (4, .int 1), (0, .ref 87), (1, .ref 65), (2, .int v2), (3, .int v3)], [.int ((r6.2 + 1) &&& 255), .ref 87], (q_kN r7 c n))) 2 (fun _ _ => rfl) ?_
      refine q_RP_call (v := none) (h2 := (q_kN (dz_N155_87 r7 ((r6.2 + 1) &&& 255)) c n)) rfl rfl ((dzt_N155_87 r7 c n ((r6.2 + 1) &&& 255)).le (Nat.le_of_ble_eq_true rfl)) ?_
      generalize dz_N155_87 r7 ((r6.2 + 1) &&& 255) = r9
      refine q_RP_let ?_
      show q_RP _ _ _ (160, [(5, .int ((r6.2 + 1) &&& 255)), (4, .int 1), (0, .ref 87), (1, .ref 65), (2, .int v2), (3, .int v3)], [], (q_kN r9 c n)) _ _
      refine q_RP_seg (g2 := (170, [(5, .int ((r6.2 + 1) &&& 255)), (4, .int 1), (0, .ref 87), (1, .ref 65), (2, .int v2), (3, .int v3)], [], (q_kN r9 c n))) 1 (fun _ _ => rfl) ?_
      exact q_RP_ret rfl rfl rfl
    | false =>
      refine q_RP_cF ?_
      refine q_RP_rsT (g2 := (163, [(5, .int ((r6.2 + 1) &&& 255)), (4, .int 1), (0, .ref 87), (1, .ref 65), (2, .int v2), (3, .int v3)], [], (q_kN r7 c n))) rfl rfl (q_d_neF h8) ?_
      refine q_RP_seg (g2 := (166, [(5, .int ((r6.2 + 1) &&& 255)), (4, .int 1), (0, .ref 87), (1, .ref 65), (2, .int v2), (3, .int v3)], [.int ((r6.2 + 1) &&& 255), .ref 87], (q_kN r7 c n))) 2 (fun _ _ => rfl) ?_
      refine q_RP_call (v := (some (.int (dz_N150_87 r7 ((r6.2 + 1) &&& 255)).2))) (h2 := (q_kN (dz_N150_87 r7 ((r6.2 + 1) &&& 255)).1 c n)) rfl rfl ((dzt_N150_87 r7 c n ((r6.2 + 1) &&& 255)).le (Nat.le_of_ble_eq_true rfl)) ?_
      generalize dz_N150_87 r7 ((r6.2 + 1) &&& 255) = r10
      refine q_RP_let ?_
      show q_RP _ _ _ (169, [(5, .int ((r6.2 + 1) &&& 255)), (4, .int 1), (0, .ref 87), (1, .ref 65), (2, .int v2), (3, .int v3)], [.int r10.2], (q_kN r10.1 c n)) _ _
      refine q_RP_seg (g2 := (170, [(5, .int ((r6.2 + 1) &&& 255)), (4, .int 1), (0, .ref 87), (1, .ref 65), (2, .int v2), (3, .int v3)], [], (q_kN r10.1 c n))) 1 (fun _ _ => rfl) ?_
      exact q_RP_ret rfl rfl rfl
def dz_N153_87_65 (s : q_S) (a2 : Int32) (a3 : Int32) : Option (q_S) :=
  cond (decide (a2 = 3)) ((dz_N94_65 s a3 (s.2.1 23 0)).bind fun r2 => some r2) (cond (decide (a2 = 4)) ((dz_N94_65 s a3 (s.2.1 23 1)).bind fun r3 => some r3) (cond (decide (a2 = 5)) ((dz_N94_65 s a3 (s.2.1 23 2)).bind fun r4 => some r4) (cond (decide (a2 = 17)) ((dz_N94_65 s a3 ((s.2.1 23 0) &&& (s.2.1 23 1))).bind fun r5 => some r5) (cond (decide (a2 = 14)) (dz_N153_87_65_101 s a2 a3) (cond (decide (a2 = 19)) (dz_N153_87_65_101 s a2 a3) ((dz_N93_65 s a3).bind fun r11 => (dz_N94_65 r11.1 a3 ((r11.2 + (-1)) &&& 255)).bind fun r12 => cond (decide (a2 = 18)) (q_let (dz_N151_87 r12 (r12.2.1 23 0) ((r11.2 + (-1)) &&& 255)) fun r13 => some r13) (q_let (dz_N150_87 r12 ((r11.2 + (-1)) &&& 255)) fun r14 => some r14.1)))))))
set_option maxHeartbeats 4000000 in
theorem dzt_N153_87_65 (s : q_S) (c n : Nat) (a2 : Int32) (a3 : Int32) (x : q_S) (h : dz_N153_87_65 s a2 a3 = some x) : q_Ca q_TB0 4 152 [.ref 87, .ref 65, .int a2, .int a3] (q_kN s c n) ((q_oSN c n) x) := by
  refine q_CaP_of (φ := (q_oSN c n)) (Nat.le_of_ble_eq_true rfl) ?_ h
  clear h
  unfold dz_N153_87_65
  refine q_RP_seg (g2 := (1, [(0, .ref 87), (1, .ref 65), (2, .int a2), (3, .int a3)], [.int a2], (q_kN s c n))) 1 (fun _ _ => rfl) ?_
  cases h2 : decide (a2 = 3) with
  | true =>
    refine q_RP_cT ?_
    refine q_RP_st1 (g2 := (44, [(0, .ref 87), (1, .ref 65), (2, .int a2), (3, .int a3)], [], (q_kN s c n))) rfl (by rw [of_decide_eq_true h2]; rfl) ?_
    refine q_RP_seg (g2 := (50, [(0, .ref 87), (1, .ref 65), (2, .int a2), (3, .int a3)], [.int (s.2.1 23 0), .int a3, .ref 65], (q_kN s c n))) 4 (fun _ _ => rfl) ?_
    refine q_RP_bd fun r2 er2 => ?_
    refine q_RP_call (v := none) (h2 := (q_kN r2 c n)) rfl rfl ((dzt_N94_65 s c n a3 (s.2.1 23 0) r2 er2).le (Nat.le_of_ble_eq_true rfl)) ?_
    show q_RP _ _ _ (53, [(0, .ref 87), (1, .ref 65), (2, .int a2), (3, .int a3)], [], (q_kN r2 c n)) _ _
    exact q_RP_ret rfl rfl rfl
  | false =>
    refine q_RP_cF ?_
    cases h3 : decide (a2 = 4) with
    | true =>
      refine q_RP_cT ?_
      refine q_RP_st1 (g2 := (54, [(0, .ref 87), (1, .ref 65), (2, .int a2), (3, .int a3)], [], (q_kN s c n))) rfl (by rw [of_decide_eq_true h3]; rfl) ?_
      refine q_RP_seg (g2 := (60, [(0, .ref 87), (1, .ref 65), (2, .int a2), (3, .int a3)], [.int (s.2.1 23 1), .int a3, .ref 65], (q_kN s c n))) 4 (fun _ _ => rfl) ?_
      refine q_RP_bd fun r3 er3 => ?_
      refine q_RP_call (v := none) (h2 := (q_kN r3 c n)) rfl rfl ((dzt_N94_65 s c n a3 (s.2.1 23 1) r3 er3).le (Nat.le_of_ble_eq_true rfl)) ?_
      show q_RP _ _ _ (63, [(0, .ref 87), (1, .ref 65), (2, .int a2), (3, .int a3)], [], (q_kN r3 c n)) _ _
      exact q_RP_ret rfl rfl rfl
    | false =>
      refine q_RP_cF ?_
      cases h4 : decide (a2 = 5) with
      | true =>
        refine q_RP_cT ?_
        refine q_RP_st1 (g2 := (64, [(0, .ref 87), (1, .ref 65), (2, .int a2), (3, .int a3)], [], (q_kN s c n))) rfl (by rw [of_decide_eq_true h4]; rfl) ?_
        refine q_RP_seg (g2 := (70, [(0, .ref 87), (1, .ref 65), (2, .int a2), (3, .int a3)], [.int (s.2.1 23 2), .int a3, .ref 65], (q_kN s c n))) 4 (fun _ _ => rfl) ?_
        refine q_RP_bd fun r4 er4 => ?_
        refine q_RP_call (v := none) (h2 := (q_kN r4 c n)) rfl rfl ((dzt_N94_65 s c n a3 (s.2.1 23 2) r4 er4).le (Nat.le_of_ble_eq_true rfl)) ?_
        show q_RP _ _ _ (73, [(0, .ref 87), (1, .ref 65), (2, .int a2), (3, .int a3)], [], (q_kN r4 c n)) _ _
        exact q_RP_ret rfl rfl rfl
      | false =>
        refine q_RP_cF ?_
        cases h5 : decide (a2 = 17) with
        | true =>
          refine q_RP_cT ?_
          refine q_RP_st1 (g2 := (74, [(0, .ref 87), (1, .ref 65), (2, .int a2), (3, .int a3)], [], (q_kN s c n))) rfl (by rw [of_decide_eq_true h5]; rfl) ?_
          refine q_RP_seg (g2 := (80, [(0, .ref 87), (1, .ref 65), (2, .int a2), (3, .int a3)], [.int (s.2.1 23 0), .int a3, .ref 65], (q_kN s c n))) 4 (fun _ _ => rfl) ?_
          refine q_RP_seg (g2 := (84, [(0, .ref 87), (1, .ref 65), (2, .int a2), (3, .int a3)], [.int (s.2.1 23 1), .int (s.2.1 23 0), .int a3, .ref 65], (q_kN s c n))) 2 (fun _ _ => rfl) ?_
          refine q_RP_seg (g2 := (85, [(0, .ref 87), (1, .ref 65), (2, .int a2), (3, .int a3)], [.int ((s.2.1 23 0) &&& (s.2.1 23 1)), .int a3, .ref 65], (q_kN s c n))) 1 (fun _ _ => rfl) ?_
          refine q_RP_bd fun r5 er5 => ?_
          refine q_RP_call (v := none) (h2 := (q_kN r5 c n)) rfl rfl ((dzt_N94_65 s c n a3 ((s.2.1 23 0) &&& (s.2.1 23 1)) r5 er5).le (Nat.le_of_ble_eq_true rfl)) ?_
          show q_RP _ _ _ (88, [(0, .ref 87), (1, .ref 65), (2, .int a2), (3, .int a3)], [], (q_kN r5 c n)) _ _
          exact q_RP_ret rfl rfl rfl
        | false =>
          refine q_RP_cF ?_
          refine q_RP_st1 (g2 := (89, [(0, .ref 87), (1, .ref 65), (2, .int a2), (3, .int a3)], [], (q_kN s c n))) rfl (by unfold q_lsw; dsimp only; rw [Op.lookupswitch.offset_cons, if_neg (q_neJ h2 (n := 3)), Op.lookupswitch.offset_cons, if_neg (q_neJ h3 (n := 4)), Op.lookupswitch.offset_cons, if_neg (q_neJ h4 (n := 5)), Op.lookupswitch.offset_cons, if_neg (q_neJ h5 (n := 17))]; rfl) ?_
          refine q_RP_seg (g2 := (92, [(0, .ref 87), (1, .ref 65), (2, .int a2), (3, .int a3)], [.int 14, .int a2], (q_kN s c n))) 2 (fun _ _ => rfl) ?_
          cases h6 : decide (a2 = 14) with
          | true =>
            refine q_RP_cT ?_
            refine q_RP_rsT (g2 := (101, [(0, .ref 87), (1, .ref 65), (2, .int a2), (3, .int a3)], [], (q_kN s c n))) rfl rfl h6 ?_
            exact (dzt_N153_87_65_101 c n s a2 a3)
          | false =>
            refine q_RP_cF ?_
            refine q_RP_rsF (g2 := (95, [(0, .ref 87), (1, .ref 65), (2, .int a2), (3, .int a3)], [], (q_kN s c n))) rfl rfl h6 ?_
            refine q_RP_seg (g2 := (98, [(0, .ref 87), (1, .ref 65), (2, .int a2), (3, .int a3)], [.int 19, .int a2], (q_kN s c n))) 2 (fun _ _ => rfl) ?_
            cases h9 : decide (a2 = 19) with
            | true =>
              refine q_RP_cT ?_
              refine q_RP_rsF (g2 := (101, [(0, .ref 87), (1, .ref 65), (2, .int a2), (3, .int a3)], [], (q_kN s c n))) rfl rfl (q_d_neT h9) ?_
              exact (dzt_N153_87_65_101 c n s a2 a3)
            | false =>
              refine q_RP_cF ?_
              refine q_RP_rsT (g2 := (105, [(0, .ref 87), (1, .ref 65), (2, .int a2), (3, .int a3)], [], (q_kN s c n))) rfl rfl (q_d_neF h9) ?_
              refine q_RP_seg (g2 := (110, [(4, .int (-1)), (0, .ref 87), (1, .ref 65), (2, .int a2), (3, .int a3)], [.int a3, .ref 65], (q_kN s c n))) 4 (fun _ _ => rfl) ?_
              refine q_RP_bd fun r11 er11 => ?_
              refine q_RP_call (v := (some (.int r11.2))) (h2 := (q_kN r11.1 c n)) rfl rfl ((dzt_N93_65 s c n a3 r11 er11).le (Nat.le_of_ble_eq_true rfl)) ?_
              show q_RP _ _ _ (113, [(4, .int (-1)), (0, .ref 87), (1, .ref 65), (2, .int a2), (3, .int a3)], [.int r11.2], (q_kN r11.1 c n)) _ _
              refine q_RP_seg (g2 := (126, [(5, .int ((r11.2 + (-1)) &&& 255)), (4, .int (-1)), (0, .ref 87), (1, .ref 65), (2, .int a2), (3, .int a3)], [.int ((r11.2 + (-1)) &&& 255), .int a3, .ref 65], (q_kN r11.1 c n))) 8 (fun _ _ => rfl) ?_
              refine q_RP_bd fun r12 er12 => ?_
              refine q_RP_call (v := none) (h2 := (q_kN r12 c n)) rfl rfl ((dzt_N94_65 r11.1 c n a3 ((r11.2 + (-1)) &&& 255) r12 er12).le (Nat.le_of_ble_eq_true rfl)) ?_
              show q_RP _ _ _ (129, [(5, .int ((r11.2 + (-1)) &&& 255)), (4, .int (-1)), (0, .ref 87), (1, .ref 65), (2, .int a2), (3, .int a3)], [], (q_kN r12 c n)) _ _
              refine q_RP_seg (g2 := (132, [(5, .int ((r11.2 + (-1)) &&& 255)), (4, .int (-1)), (0, .ref 87), (1, .ref 65), (2, .int a2), (3, .int a3)], [.int 18, .int a2], (q_kN r12 c n))) 2 (fun _ _ => rfl) ?_
              cases h10 : decide (a2 = 18) with
              | true =>
                refine q_RP_cT ?_
                refine q_RP_rsF (g2 := (135, [(5, .int ((r11.2 + (-1)) &&& 255)), (4, .int (-1)), (0, .ref 87), (1, .ref 65), (2, .int a2), (3, .int a3)], [], (q_kN r12 c n))) rfl rfl (q_d_neT h10) ?_
                refine q_RP_seg (g2 := (140, [(5, .int ((r11.2 + (-1)) &&& 255)), (4, .int (-1)), (0, .ref 87), (1, .ref 65), (2, .int a2), (3, .int a3)], [.int (r12.2.1 23 0), .ref 87], (q_kN r12 c n))) 3 (fun _ _ => rfl) ?_
                refine q_RP_seg (g2 := (142, [(5, .int ((r11.2 + (-1)) &&& 255)), (4, .int (-1)), (0, .ref 87), (1, .ref 65), (2, .int a2), (3, .int a3)], [.int ((r11.2 + (-1)) &&& 255), .int (r12.2.1 23 0), .ref 87], (q_kN r12 c n))) 1 (fun _ _ => rfl) ?_
                refine q_RP_call (v := none) (h2 := (q_kN (dz_N151_87 r12 (r12.2.1 23 0) ((r11.2 + (-1)) &&& 255)) c n)) rfl rfl ((dzt_N151_87 r12 c n (r12.2.1 23 0) ((r11.2 + (-1)) &&& 255)).le (Nat.le_of_ble_eq_true rfl)) ?_
                generalize dz_N151_87 r12 (r12.2.1 23 0) ((r11.2 + (-1)) &&& 255) = r13
                refine q_RP_let ?_
                show q_RP _ _ _ (145, [(5, .int ((r11.2 + (-1)) &&& 255)), (4, .int (-1)), (0, .ref 87), (1, .ref 65), (2, .int a2), (3, .int a3)], [], (q_kN r13 c n)) _ _
                refine q_RP_seg (g2 := (170, [(5, .int ((r11.2 + (-1)) &&& 255)), (4, .int (-1)), (0, .ref 87), (1, .ref 65), (2, .int a2), (3, .int a3)], [], (q_kN r13 c n))) 1 (fun _ _ => rfl) ?_
                exact q_RP_ret rfl rfl rfl
              | false =>
                refine q_RP_cF ?_
                refine q_RP_rsT (g2 := (148, [(5, .int ((r11.2 + (-1)) &&& 255)), (4, .int (-1)), (0, .ref 87), (1, .ref 65), (2, .int a2), (3, .int a3)], [], (q_kN r12 c n))) rfl rfl (q_d_neF h10) ?_
                refine q_RP_seg (g2 := (151, [(5, .int ((r11.2 + (-1)) &&& 255)), (4, .int (-1)), (0, .ref 87), (1, .ref 65), (2, .int a2), (3, .int a3)], [.int 19, .int a2], (q_kN r12 c n))) 2 (fun _ _ => rfl) ?_
                refine q_RP_rsT (g2 := (163, [(5, .int ((r11.2 + (-1)) &&& 255)), (4, .int (-1)), (0, .ref 87), (1, .ref 65), (2, .int a2), (3, .int a3)], [], (q_kN r12 c n))) rfl rfl (q_d_neF h9) ?_
                refine q_RP_seg (g2 := (166, [(5, .int ((r11.2 + (-1)) &&& 255)), (4, .int (-1)), (0, .ref 87), (1, .ref 65), (2, .int a2), (3, .int a3)], [.int ((r11.2 + (-1)) &&& 255), .ref 87], (q_kN r12 c n))) 2 (fun _ _ => rfl) ?_
                refine q_RP_call (v := (some (.int (dz_N150_87 r12 ((r11.2 + (-1)) &&& 255)).2))) (h2 := (q_kN (dz_N150_87 r12 ((r11.2 + (-1)) &&& 255)).1 c n)) rfl rfl ((dzt_N150_87 r12 c n ((r11.2 + (-1)) &&& 255)).le (Nat.le_of_ble_eq_true rfl)) ?_
                generalize dz_N150_87 r12 ((r11.2 + (-1)) &&& 255) = r14
                refine q_RP_let ?_
                show q_RP _ _ _ (169, [(5, .int ((r11.2 + (-1)) &&& 255)), (4, .int (-1)), (0, .ref 87), (1, .ref 65), (2, .int a2), (3, .int a3)], [.int r14.2], (q_kN r14.1 c n)) _ _
                refine q_RP_seg (g2 := (170, [(5, .int ((r11.2 + (-1)) &&& 255)), (4, .int (-1)), (0, .ref 87), (1, .ref 65), (2, .int a2), (3, .int a3)], [], (q_kN r14.1 c n))) 1 (fun _ _ => rfl) ?_
                exact q_RP_ret rfl rfl rfl
def dz_N142_87_65_142 (s : q_S) (v2 : Int32) (v3 : Int32) (v4 : Int32) (v5 : Int32) : Option (q_S) :=
  cond (decide (v3 < 0)) ((dz_N158_87_65 s v2 v5).bind fun r8 => some (q_sI r8.1 23 4 r8.2)) (cond (decide (v4 = 0)) (q_let (dz_N140_87 s 1) fun r9 => (dz_N90_65 s r9).bind fun r10 => q_let (dz_N152_87 s v3 r10) fun r11 => some (q_sI r11 23 4 v5)) (q_let (dz_N188 s v3) fun r12 => cond r12 ((dz_N144_87_65 s v4).bind fun r13 => (dz_N153_87_65 s v3 r13).bind fun r14 => some (q_sI r14 23 4 v5)) ((dz_N144_87_65 s v4).bind fun r15 => (dz_N93_65 s r15).bind fun r16 => q_let (dz_N152_87 r16.1 v3 r16.2) fun r17 => some (q_sI r17 23 4 v5))))
set_option maxHeartbeats 4000000 in
theorem dzt_N142_87_65_142 (c n : Nat) (s : q_S) (v2 : Int32) (v3 : Int32) (v4 : Int32) (v5 : Int32) : q_RP q_TB0 4 141 (142, [(0, .ref 87), (1, .ref 65), (2, .int v2), (3, .int v3), (4, .int v4), (5, .int v5)], [], (q_kN s c n)) (q_oSN c n) (dz_N142_87_65_142 s v2 v3 v4 v5) := by
  unfold dz_N142_87_65_142
  refine q_RP_seg (g2 := (143, [(0, .ref 87), (1, .ref 65), (2, .int v2), (3, .int v3), (4, .int v4), (5, .int v5)], [.int v3], (q_kN s c n))) 1 (fun _ _ => rfl) ?_
  cases h6 : decide (v3 < 0) with
  | true =>
    refine q_RP_cT ?_
    refine q_RP_rsF (g2 := (146, [(0, .ref 87), (1, .ref 65), (2, .int v2), (3, .int v3), (4, .int v4), (5, .int v5)], [], (q_kN s c n))) rfl rfl (q_d_geT h6) ?_
    refine q_RP_seg (g2 := (151, [(0, .ref 87), (1, .ref 65), (2, .int v2), (3, .int v3), (4, .int v4), (5, .int v5)], [.int v5, .int v2, .ref 65, .ref 87], (q_kN s c n))) 4 (fun _ _ => rfl) ?_
    refine q_RP_bd fun r8 er8 => ?_
    refine q_RP_call (v := (some (.int r8.2))) (h2 := (q_kN r8.1 c n)) rfl rfl ((dzt_N158_87_65 s c n v2 v5 r8 er8).le (Nat.le_of_ble_eq_true rfl)) ?_
    show q_RP _ _ _ (154, [(0, .ref 87), (1, .ref 65), (2, .int v2), (3, .int v3), (4, .int v4), (5, .int v5)], [.int r8.2], (q_kN r8.1 c n)) _ _
    refine q_RP_seg (g2 := (226, [(5, .int r8.2), (0, .ref 87), (1, .ref 65), (2, .int v2), (3, .int v3), (4, .int v4)], [], (q_kN (q_sI r8.1 23 4 r8.2) c n))) 5 (fun _ _ => rfl) ?_
    exact q_RP_ret rfl rfl rfl
  | false =>
    refine q_RP_cF ?_
    refine q_RP_rsT (g2 := (159, [(0, .ref 87), (1, .ref 65), (2, .int v2), (3, .int v3), (4, .int v4), (5, .int v5)], [], (q_kN s c n))) rfl rfl (q_d_geF h6) ?_
    refine q_RP_seg (g2 := (161, [(0, .ref 87), (1, .ref 65), (2, .int v2), (3, .int v3), (4, .int v4), (5, .int v5)], [.int v4], (q_kN s c n))) 1 (fun _ _ => rfl) ?_
    cases h7 : decide (v4 = 0) with
    | true =>
      refine q_RP_cT ?_
      refine q_RP_rsF (g2 := (164, [(0, .ref 87), (1, .ref 65), (2, .int v2), (3, .int v3), (4, .int v4), (5, .int v5)], [], (q_kN s c n))) rfl rfl (q_d_neT h7) ?_
      refine q_RP_seg (g2 := (169, [(0, .ref 87), (1, .ref 65), (2, .int v2), (3, .int v3), (4, .int v4), (5, .int v5)], [.int 1, .ref 87, .ref 65, .int v3, .ref 87], (q_kN s c n))) 5 (fun _ _ => rfl) ?_
      refine q_RP_call (v := (some (.int (dz_N140_87 s 1)))) (h2 := (q_kN s c n)) rfl rfl ((dzt_N140_87 s c n 1).le (Nat.le_of_ble_eq_true rfl)) ?_
      generalize dz_N140_87 s 1 = r9
      refine q_RP_let ?_
      show q_RP _ _ _ (172, [(0, .ref 87), (1, .ref 65), (2, .int v2), (3, .int v3), (4, .int v4), (5, .int v5)], [.int r9, .ref 65, .int v3, .ref 87], (q_kN s c n)) _ _
      refine q_RP_bd fun r10 er10 => ?_
      refine q_RP_call (v := (some (.int r10))) (h2 := (q_kN s c n)) rfl rfl ((dzt_N90_65 s c n r9 r10 er10).le (Nat.le_of_ble_eq_true rfl)) ?_
      show q_RP _ _ _ (175, [(0, .ref 87), (1, .ref 65), (2, .int v2), (3, .int v3), (4, .int v4), (5, .int v5)], [.int r10, .int v3, .ref 87], (q_kN s c n)) _ _
      refine q_RP_call (v := none) (h2 := (q_kN (dz_N152_87 s v3 r10) c n)) rfl rfl ((dzt_N152_87 s c n v3 r10).le (Nat.le_of_ble_eq_true rfl)) ?_
      generalize dz_N152_87 s v3 r10 = r11
      refine q_RP_let ?_
      show q_RP _ _ _ (178, [(0, .ref 87), (1, .ref 65), (2, .int v2), (3, .int v3), (4, .int v4), (5, .int v5)], [], (q_kN r11 c n)) _ _
      refine q_RP_seg (g2 := (226, [(0, .ref 87), (1, .ref 65), (2, .int v2), (3, .int v3), (4, .int v4), (5, .int v5)], [], (q_kN (q_sI r11 23 4 v5) c n))) 4 (fun _ _ => rfl) ?_
      exact q_RP_ret rfl rfl rfl
    | false =>
      refine q_RP_cF ?_
      refine q_RP_rsT (g2 := (181, [(0, .ref 87), (1, .ref 65), (2, .int v2), (3, .int v3), (4, .int v4), (5, .int v5)], [], (q_kN s c n))) rfl rfl (q_d_neF h7) ?_
      refine q_RP_seg (g2 := (182, [(0, .ref 87), (1, .ref 65), (2, .int v2), (3, .int v3), (4, .int v4), (5, .int v5)], [.int v3], (q_kN s c n))) 1 (fun _ _ => rfl) ?_
      refine q_RP_call (v := (some (.int (q_b (dz_N188 s v3))))) (h2 := (q_kN s c n)) rfl rfl ((dzt_N188 s c n v3).le (Nat.le_of_ble_eq_true rfl)) ?_
      generalize dz_N188 s v3 = r12
      refine q_RP_let ?_
      show q_RP _ _ _ (185, [(0, .ref 87), (1, .ref 65), (2, .int v2), (3, .int v3), (4, .int v4), (5, .int v5)], [.int (q_b r12)], (q_kN s c n)) _ _
      cases h8 : r12 with
      | true =>
        refine q_RP_cT ?_
        show q_RP _ _ _ (185, [(0, .ref 87), (1, .ref 65), (2, .int v2), (3, .int v3), (4, .int v4), (5, .int v5)], [.int 1], (q_kN s c n)) _ _
        refine q_RP_seg (g2 := (195, [(0, .ref 87), (1, .ref 65), (2, .int v2), (3, .int v3), (4, .int v4), (5, .int v5)], [.int v4, .ref 65, .ref 87, .int v3, .ref 65, .ref 87], (q_kN s c n))) 7 (fun _ _ => rfl) ?_
        refine q_RP_bd fun r13 er13 => ?_
        refine q_RP_call (v := (some (.int r13))) (h2 := (q_kN s c n)) rfl rfl ((dzt_N144_87_65 s c n v4 r13 er13).le (Nat.le_of_ble_eq_true rfl)) ?_
        show q_RP _ _ _ (198, [(0, .ref 87), (1, .ref 65), (2, .int v2), (3, .int v3), (4, .int v4), (5, .int v5)], [.int r13, .int v3, .ref 65, .ref 87], (q_kN s c n)) _ _
        refine q_RP_bd fun r14 er14 => ?_
        refine q_RP_call (v := none) (h2 := (q_kN r14 c n)) rfl rfl ((dzt_N153_87_65 s c n v3 r13 r14 er14).le (Nat.le_of_ble_eq_true rfl)) ?_
        show q_RP _ _ _ (201, [(0, .ref 87), (1, .ref 65), (2, .int v2), (3, .int v3), (4, .int v4), (5, .int v5)], [], (q_kN r14 c n)) _ _
        refine q_RP_seg (g2 := (226, [(0, .ref 87), (1, .ref 65), (2, .int v2), (3, .int v3), (4, .int v4), (5, .int v5)], [], (q_kN (q_sI r14 23 4 v5) c n))) 4 (fun _ _ => rfl) ?_
        exact q_RP_ret rfl rfl rfl
      | false =>
        refine q_RP_cF ?_
        show q_RP _ _ _ (185, [(0, .ref 87), (1, .ref 65), (2, .int v2), (3, .int v3), (4, .int v4), (5, .int v5)], [.int 0], (q_kN s c n)) _ _
        refine q_RP_seg (g2 := (211, [(0, .ref 87), (1, .ref 65), (2, .int v2), (3, .int v3), (4, .int v4), (5, .int v5)], [.int v4, .ref 65, .ref 87, .ref 65, .int v3, .ref 87], (q_kN s c n))) 7 (fun _ _ => rfl) ?_
        refine q_RP_bd fun r15 er15 => ?_
        refine q_RP_call (v := (some (.int r15))) (h2 := (q_kN s c n)) rfl rfl ((dzt_N144_87_65 s c n v4 r15 er15).le (Nat.le_of_ble_eq_true rfl)) ?_
        show q_RP _ _ _ (214, [(0, .ref 87), (1, .ref 65), (2, .int v2), (3, .int v3), (4, .int v4), (5, .int v5)], [.int r15, .ref 65, .int v3, .ref 87], (q_kN s c n)) _ _
        refine q_RP_bd fun r16 er16 => ?_
        refine q_RP_call (v := (some (.int r16.2))) (h2 := (q_kN r16.1 c n)) rfl rfl ((dzt_N93_65 s c n r15 r16 er16).le (Nat.le_of_ble_eq_true rfl)) ?_
        show q_RP _ _ _ (217, [(0, .ref 87), (1, .ref 65), (2, .int v2), (3, .int v3), (4, .int v4), (5, .int v5)], [.int r16.2, .int v3, .ref 87], (q_kN r16.1 c n)) _ _
        refine q_RP_call (v := none) (h2 := (q_kN (dz_N152_87 r16.1 v3 r16.2) c n)) rfl rfl ((dzt_N152_87 r16.1 c n v3 r16.2).le (Nat.le_of_ble_eq_true rfl)) ?_
        generalize dz_N152_87 r16.1 v3 r16.2 = r17
        refine q_RP_let ?_
        show q_RP _ _ _ (220, [(0, .ref 87), (1, .ref 65), (2, .int v2), (3, .int v3), (4, .int v4), (5, .int v5)], [], (q_kN r17 c n)) _ _
        refine q_RP_seg (g2 := (226, [(0, .ref 87), (1, .ref 65), (2, .int v2), (3, .int v3), (4, .int v4), (5, .int v5)], [], (q_kN (q_sI r17 23 4 v5) c n))) 3 (fun _ _ => rfl) ?_
        exact q_RP_ret rfl rfl rfl
def dz_N142_87_65 (s : q_S) : Option (q_S) :=
  cond (decide (s.2.1 23 8 = 0)) ((dz_N90_65 (q_sI (q_sA (q_sI s 23 10 ((s.2.1 23 10) + 1)) 24 (upd (s.1 24) (((s.2.1 23 11) &&& 15).toNatClampNeg) (s.2.1 23 4))) 23 11 ((s.2.1 23 11) + 1)) (s.2.1 23 4)).bind fun r2 => q_let (dz_N186 (q_sI (q_sA (q_sI s 23 10 ((s.2.1 23 10) + 1)) 24 (upd (s.1 24) (((s.2.1 23 11) &&& 15).toNatClampNeg) (s.2.1 23 4))) 23 11 ((s.2.1 23 11) + 1)) r2) fun r3 => q_let (dz_N190 (q_sI (q_sA (q_sI s 23 10 ((s.2.1 23 10) + 1)) 24 (upd (s.1 24) (((s.2.1 23 11) &&& 15).toNatClampNeg) (s.2.1 23 4))) 23 11 ((s.2.1 23 11) + 1)) r2) fun r4 => q_let (dz_N140_87 (q_sI (q_sA (q_sI s 23 10 ((s.2.1 23 10) + 1)) 24 (upd (s.1 24) (((s.2.1 23 11) &&& 15).toNatClampNeg) (s.2.1 23 4))) 23 11 ((s.2.1 23 11) + 1)) r4) fun r5 => cond (decide (r2 = 154)) ((dz_N148_87_65 (q_sI (q_sA (q_sI s 23 10 ((s.2.1 23 10) + 1)) 24 (upd (s.1 24) (((s.2.1 23 11) &&& 15).toNatClampNeg) (s.2.1 23 4))) 23 11 ((s.2.1 23 11) + 1)) r5 (((s.2.1 23 5) ||| 32) ||| 16) 3838).bind fun r6 => some r6) (cond (decide (r3 < 0)) (cond (decide (r2 < 154)) ((dz_N157_87_65 (q_sI (q_sA (q_sI s 23 10 ((s.2.1 23 10) + 1)) 24 (upd (s.1 24) (((s.2.1 23 11) &&& 15).toNatClampNeg) (s.2.1 23 4))) 23 11 ((s.2.1 23 11) + 1)) r2).bind fun r7 => some (q_sI r7 23 4 r5)) (dz_N142_87_65_142 (q_sI (q_sA (q_sI s 23 10 ((s.2.1 23 10) + 1)) 24 (upd (s.1 24) (((s.2.1 23 11) &&& 15).toNatClampNeg) (s.2.1 23 4))) 23 11 ((s.2.1 23 11) + 1)) r2 r3 (r2 &&& 7) r5)) (dz_N142_87_65_142 (q_sI (q_sA (q_sI s 23 10 ((s.2.1 23 10) + 1)) 24 (upd (s.1 24) (((s.2.1 23 11) &&& 15).toNatClampNeg) (s.2.1 23 4))) 23 11 ((s.2.1 23 11) + 1)) r2 r3 (r2 &&& 7) r5))) ((dz_N148_87_65 (q_sI s 23 10 ((s.2.1 23 10) + 1)) (s.2.1 23 4) ((s.2.1 23 5) ||| 32) (s.2.1 23 8)).bind fun r18 => some r18)
set_option maxHeartbeats 4000000 in
theorem dzt_N142_87_65 (s : q_S) (c n : Nat) (x : q_S) (h : dz_N142_87_65 s = some x) : q_Ca q_TB0 5 141 [.ref 87, .ref 65] (q_kN s c n) ((q_oSN c n) x) := by
  refine q_CaP_of (φ := (q_oSN c n)) (Nat.le_of_ble_eq_true rfl) ?_ h
  clear h
  unfold dz_N142_87_65
  refine q_RP_seg (g2 := (5, [(0, .ref 87), (1, .ref 65)], [.int (s.2.1 23 10), .ref 87], (q_kN s c n))) 3 (fun _ _ => rfl) ?_
  refine q_RP_seg (g2 := (14, [(0, .ref 87), (1, .ref 65)], [.int (s.2.1 23 8)], (q_kN (q_sI s 23 10 ((s.2.1 23 10) + 1)) c n))) 5 (fun _ _ => rfl) ?_
  cases h2 : decide (s.2.1 23 8 = 0) with
  | true =>
    refine q_RP_cT ?_
    refine q_RP_rsT (g2 := (38, [(0, .ref 87), (1, .ref 65)], [], (q_kN (q_sI s 23 10 ((s.2.1 23 10) + 1)) c n))) rfl rfl h2 ?_
    refine q_RP_seg (g2 := (46, [(0, .ref 87), (1, .ref 65)], [.int (s.2.1 23 11), .ref 88], (q_kN (q_sI s 23 10 ((s.2.1 23 10) + 1)) c n))) 4 (fun _ _ => rfl) ?_
    refine q_RP_seg (g2 := (53, [(0, .ref 87), (1, .ref 65)], [.int (s.2.1 23 4), .int ((s.2.1 23 11) &&& 15), .ref 88], (q_kN (q_sI s 23 10 ((s.2.1 23 10) + 1)) c n))) 4 (fun _ _ => rfl) ?_
    refine q_RP_rsT (g2 := (54, [(0, .ref 87), (1, .ref 65)], [], (q_kN (q_sA (q_sI s 23 10 ((s.2.1 23 10) + 1)) 24 (upd (s.1 24) (((s.2.1 23 11) &&& 15).toNatClampNeg) (s.2.1 23 4))) c n))) rfl rfl (q_in_bd (x := (s.2.1 23 11) &&& 15) (n := 16) (U := 15) (L := 0) (q_and_lo (s.2.1 23 11) 15) (q_and_hi (s.2.1 23 11) 15 15)) ?_
    refine q_RP_seg (g2 := (59, [(0, .ref 87), (1, .ref 65)], [.int (s.2.1 23 11), .ref 87], (q_kN (q_sA (q_sI s 23 10 ((s.2.1 23 10) + 1)) 24 (upd (s.1 24) (((s.2.1 23 11) &&& 15).toNatClampNeg) (s.2.1 23 4))) c n))) 3 (fun _ _ => rfl) ?_
    refine q_RP_seg (g2 := (69, [(0, .ref 87), (1, .ref 65)], [.int (s.2.1 23 4), .ref 65], (q_kN (q_sI (q_sA (q_sI s 23 10 ((s.2.1 23 10) + 1)) 24 (upd (s.1 24) (((s.2.1 23 11) &&& 15).toNatClampNeg) (s.2.1 23 4))) 23 11 ((s.2.1 23 11) + 1)) c n))) 6 (fun _ _ => rfl) ?_
    refine q_RP_bd fun r2 er2 => ?_
    refine q_RP_call (v := (some (.int r2))) (h2 := (q_kN (q_sI (q_sA (q_sI s 23 10 ((s.2.1 23 10) + 1)) 24 (upd (s.1 24) (((s.2.1 23 11) &&& 15).toNatClampNeg) (s.2.1 23 4))) 23 11 ((s.2.1 23 11) + 1)) c n)) rfl rfl ((dzt_N90_65 (q_sI (q_sA (q_sI s 23 10 ((s.2.1 23 10) + 1)) 24 (upd (s.1 24) (((s.2.1 23 11) &&& 15).toNatClampNeg) (s.2.1 23 4))) 23 11 ((s.2.1 23 11) + 1)) c n (s.2.1 23 4) r2 er2).le (Nat.le_of_ble_eq_true rfl)) ?_
    show q_RP _ _ _ (72, [(0, .ref 87), (1, .ref 65)], [.int r2], (q_kN (q_sI (q_sA (q_sI s 23 10 ((s.2.1 23 10) + 1)) 24 (upd (s.1 24) (((s.2.1 23 11) &&& 15).toNatClampNeg) (s.2.1 23 4))) 23 11 ((s.2.1 23 11) + 1)) c n)) _ _
    refine q_RP_seg (g2 := (74, [(2, .int r2), (0, .ref 87), (1, .ref 65)], [.int r2], (q_kN (q_sI (q_sA (q_sI s 23 10 ((s.2.1 23 10) + 1)) 24 (upd (s.1 24) (((s.2.1 23 11) &&& 15).toNatClampNeg) (s.2.1 23 4))) 23 11 ((s.2.1 23 11) + 1)) c n))) 2 (fun _ _ => rfl) ?_
    refine q_RP_call (v := (some (.int (dz_N186 (q_sI (q_sA (q_sI s 23 10 ((s.2.1 23 10) + 1)) 24 (upd (s.1 24) (((s.2.1 23 11) &&& 15).toNatClampNeg) (s.2.1 23 4))) 23 11 ((s.2.1 23 11) + 1)) r2)))) (h2 := (q_kN (q_sI (q_sA (q_sI s 23 10 ((s.2.1 23 10) + 1)) 24 (upd (s.1 24) (((s.2.1 23 11) &&& 15).toNatClampNeg) (s.2.1 23 4))) 23 11 ((s.2.1 23 11) + 1)) c n)) rfl rfl ((dzt_N186 (q_sI (q_sA (q_sI s 23 10 ((s.2.1 23 10) + 1)) 24 (upd (s.1 24) (((s.2.1 23 11) &&& 15).toNatClampNeg) (s.2.1 23 4))) 23 11 ((s.2.1 23 11) + 1)) c n r2).le (Nat.le_of_ble_eq_true rfl)) ?_
    generalize dz_N186 (q_sI (q_sA (q_sI s 23 10 ((s.2.1 23 10) + 1)) 24 (upd (s.1 24) (((s.2.1 23 11) &&& 15).toNatClampNeg) (s.2.1 23 4))) 23 11 ((s.2.1 23 11) + 1)) r2 = r3
    refine q_RP_let ?_
    show q_RP _ _ _ (77, [(2, .int r2), (0, .ref 87), (1, .ref 65)], [.int r3], (q_kN (q_sI (q_sA (q_sI s 23 10 ((s.2.1 23 10) + 1)) 24 (upd (s.1 24) (((s.2.1 23 11) &&& 15).toNatClampNeg) (s.2.1 23 4))) 23 11 ((s.2.1 23 11) + 1)) c n)) _ _
    refine q_RP_seg (g2 := (86, [(4, .int (r2 &&& 7)), (3, .int r3), (2, .int r2), (0, .ref 87), (1, .ref 65)], [.int r2, .ref 87], (q_kN (q_sI (q_sA (q_sI s 23 10 ((s.2.1 23 10) + 1)) 24 (upd (s.1 24) (((s.2.1 23 11) &&& 15).toNatClampNeg) (s.2.1 23 4))) 23 11 ((s.2.1 23 11) + 1)) c n))) 7 (fun _ _ => rfl) ?_
    refine q_RP_call (v := (some (.int (dz_N190 (q_sI (q_sA (q_sI s 23 10 ((s.2.1 23 10) + 1)) 24 (upd (s.1 24) (((s.2.1 23 11) &&& 15).toNatClampNeg) (s.2.1 23 4))) 23 11 ((s.2.1 23 11) + 1)) r2)))) (h2 := (q_kN (q_sI (q_sA (q_sI s 23 10 ((s.2.1 23 10) + 1)) 24 (upd (s.1 24) (((s.2.1 23 11) &&& 15).toNatClampNeg) (s.2.1 23 4))) 23 11 ((s.2.1 23 11) + 1)) c n)) rfl rfl ((dzt_N190 (q_sI (q_sA (q_sI s 23 10 ((s.2.1 23 10) + 1)) 24 (upd (s.1 24) (((s.2.1 23 11) &&& 15).toNatClampNeg) (s.2.1 23 4))) 23 11 ((s.2.1 23 11) + 1)) c n r2).le (Nat.le_of_ble_eq_true rfl)) ?_
    generalize dz_N190 (q_sI (q_sA (q_sI s 23 10 ((s.2.1 23 10) + 1)) 24 (upd (s.1 24) (((s.2.1 23 11) &&& 15).toNatClampNeg) (s.2.1 23 4))) 23 11 ((s.2.1 23 11) + 1)) r2 = r4
    refine q_RP_let ?_
    show q_RP _ _ _ (89, [(4, .int (r2 &&& 7)), (3, .int r3), (2, .int r2), (0, .ref 87), (1, .ref 65)], [.int r4, .ref 87], (q_kN (q_sI (q_sA (q_sI s 23 10 ((s.2.1 23 10) + 1)) 24 (upd (s.1 24) (((s.2.1 23 11) &&& 15).toNatClampNeg) (s.2.1 23 4))) 23 11 ((s.2.1 23 11) + 1)) c n)) _ _
    refine q_RP_call (v := (some (.int (dz_N140_87 (q_sI (q_sA (q_sI s 23 10 ((s.2.1 23 10) + 1)) 24 (upd (s.1 24) (((s.2.1 23 11) &&& 15).toNatClampNeg) (s.2.1 23 4))) 23 11 ((s.2.1 23 11) + 1)) r4)))) (h2 := (q_kN (q_sI (q_sA (q_sI s 23 10 ((s.2.1 23 10) + 1)) 24 (upd (s.1 24) (((s.2.1 23 11) &&& 15).toNatClampNeg) (s.2.1 23 4))) 23 11 ((s.2.1 23 11) + 1)) c n)) rfl rfl ((dzt_N140_87 (q_sI (q_sA (q_sI s 23 10 ((s.2.1 23 10) + 1)) 24 (upd (s.1 24) (((s.2.1 23 11) &&& 15).toNatClampNeg) (s.2.1 23 4))) 23 11 ((s.2.1 23 11) + 1)) c n r4).le (Nat.le_of_ble_eq_true rfl)) ?_
    generalize dz_N140_87 (q_sI (q_sA (q_sI s 23 10 ((s.2.1 23 10) + 1)) 24 (upd (s.1 24) (((s.2.1 23 11) &&& 15).toNatClampNeg) (s.2.1 23 4))) 23 11 ((s.2.1 23 11) + 1)) r4 = r5
    refine q_RP_let ?_
    show q_RP _ _ _ (92, [(4, .int (r2 &&& 7)), (3, .int r3), (2, .int r2), (0, .ref 87), (1, .ref 65)], [.int r5], (q_kN (q_sI (q_sA (q_sI s 23 10 ((s.2.1 23 10) + 1)) 24 (upd (s.1 24) (((s.2.1 23 11) &&& 15).toNatClampNeg) (s.2.1 23 4))) 23 11 ((s.2.1 23 11) + 1)) c n)) _ _
    refine q_RP_seg (g2 := (98, [(5, .int r5), (4, .int (r2 &&& 7)), (3, .int r3), (2, .int r2), (0, .ref 87), (1, .ref 65)], [.int 154, .int r2], (q_kN (q_sI (q_sA (q_sI s 23 10 ((s.2.1 23 10) + 1)) 24 (upd (s.1 24) (((s.2.1 23 11) &&& 15).toNatClampNeg) (s.2.1 23 4))) 23 11 ((s.2.1 23 11) + 1)) c n))) 3 (fun _ _ => rfl) ?_
    cases h3 : decide (r2 = 154) with
    | true =>
      refine q_RP_cT ?_
      refine q_RP_rsF (g2 := (101, [(5, .int r5), (4, .int (r2 &&& 7)), (3, .int r3), (2, .int r2), (0, .ref 87), (1, .ref 65)], [], (q_kN (q_sI (q_sA (q_sI s 23 10 ((s.2.1 23 10) + 1)) 24 (upd (s.1 24) (((s.2.1 23 11) &&& 15).toNatClampNeg) (s.2.1 23 4))) 23 11 ((s.2.1 23 11) + 1)) c n))) rfl rfl (q_d_neT h3) ?_
      refine q_RP_seg (g2 := (109, [(5, .int r5), (4, .int (r2 &&& 7)), (3, .int r3), (2, .int r2), (0, .ref 87), (1, .ref 65)], [.int (s.2.1 23 5), .int r5, .ref 65, .ref 87], (q_kN (q_sI (q_sA (q_sI s 23 10 ((s.2.1 23 10) + 1)) 24 (upd (s.1 24) (((s.2.1 23 11) &&& 15).toNatClampNeg) (s.2.1 23 4))) 23 11 ((s.2.1 23 11) + 1)) c n))) 5 (fun _ _ => rfl) ?_
      refine q_RP_seg (g2 := (118, [(5, .int r5), (4, .int (r2 &&& 7)), (3, .int r3), (2, .int r2), (0, .ref 87), (1, .ref 65)], [.int 3838, .int (((s.2.1 23 5) ||| 32) ||| 16), .int r5, .ref 65, .ref 87], (q_kN (q_sI (q_sA (q_sI s 23 10 ((s.2.1 23 10) + 1)) 24 (upd (s.1 24) (((s.2.1 23 11) &&& 15).toNatClampNeg) (s.2.1 23 4))) 23 11 ((s.2.1 23 11) + 1)) c n))) 5 (fun _ _ => rfl) ?_
      refine q_RP_bd fun r6 er6 => ?_
      refine q_RP_call (v := none) (h2 := (q_kN r6 c n)) rfl rfl ((dzt_N148_87_65 (q_sI (q_sA (q_sI s 23 10 ((s.2.1 23 10) + 1)) 24 (upd (s.1 24) (((s.2.1 23 11) &&& 15).toNatClampNeg) (s.2.1 23 4))) 23 11 ((s.2.1 23 11) + 1)) c n r5 (((s.2.1 23 5) ||| 32) ||| 16) 3838 r6 er6).le (Nat.le_of_ble_eq_true rfl)) ?_
      show q_RP _ _ _ (121, [(5, .int r5), (4, .int (r2 &&& 7)), (3, .int r3), (2, .int r2), (0, .ref 87), (1, .ref 65)], [], (q_kN r6 c n)) _ _
      exact q_RP_ret rfl rfl rfl
    | false =>
      refine q_RP_cF ?_
      refine q_RP_rsT (g2 := (122, [(5, .int r5), (4, .int (r2 &&& 7)), (3, .int r3), (2, .int r2), (0, .ref 87), (1, .ref 65)], [], (q_kN (q_sI (q_sA (q_sI s 23 10 ((s.2.1 23 10) + 1)) 24 (upd (s.1 24) (((s.2.1 23 11) &&& 15).toNatClampNeg) (s.2.1 23 4))) 23 11 ((s.2.1 23 11) + 1)) c n))) rfl rfl (q_d_neF h3) ?_
      refine q_RP_seg (g2 := (123, [(5, .int r5), (4, .int (r2 &&& 7)), (3, .int r3), (2, .int r2), (0, .ref 87), (1, .ref 65)], [.int r3], (q_kN (q_sI (q_sA (q_sI s 23 10 ((s.2.1 23 10) + 1)) 24 (upd (s.1 24) (((s.2.1 23 11) &&& 15).toNatClampNeg) (s.2.1 23 4))) 23 11 ((s.2.1 23 11) + 1)) c n))) 1 (fun _ _ => rfl) ?_
      cases h4 : decide (r3 < 0) with
      | true =>
        refine q_RP_cT ?_
        refine q_RP_rsF (g2 := (126, [(5, .int r5), (4, .int (r2 &&& 7)), (3, .int r3), (2, .int r2), (0, .ref 87), (1, .ref 65)], [], (q_kN (q_sI (q_sA (q_sI s 23 10 ((s.2.1 23 10) + 1)) 24 (upd (s.1 24) (((s.2.1 23 11) &&& 15).toNatClampNeg) (s.2.1 23 4))) 23 11 ((s.2.1 23 11) + 1)) c n))) rfl rfl (q_d_geT h4) ?_
        refine q_RP_seg (g2 := (130, [(5, .int r5), (4, .int (r2 &&& 7)), (3, .int r3), (2, .int r2), (0, .ref 87), (1, .ref 65)], [.int 154, .int r2], (q_kN (q_sI (q_sA (q_sI s 23 10 ((s.2.1 23 10) + 1)) 24 (upd (s.1 24) (((s.2.1 23 11) &&& 15).toNatClampNeg) (s.2.1 23 4))) 23 11 ((s.2.1 23 11) + 1)) c n))) 2 (fun _ _ => rfl) ?_
        cases h5 : decide (r2 < 154) with
        | true =>
          refine q_RP_cT ?_
          refine q_RP_rsF (g2 := (133, [(5, .int r5), (4, .int (r2 &&& 7)), (3, .int r3), (2, .int r2), (0, .ref 87), (1, .ref 65)], [], (q_kN (q_sI (q_sA (q_sI s 23 10 ((s.2.1 23 10) + 1)) 24 (upd (s.1 24) (((s.2.1 23 11) &&& 15).toNatClampNeg) (s.2.1 23 4))) 23 11 ((s.2.1 23 11) + 1)) c n))) rfl rfl (q_d_geT h5) ?_
          refine q_RP_seg (g2 := (136, [(5, .int r5), (4, .int (r2 &&& 7)), (3, .int r3), (2, .int r2), (0, .ref 87), (1, .ref 65)], [.int r2, .ref 65, .ref 87], (q_kN (q_sI (q_sA (q_sI s 23 10 ((s.2.1 23 10) + 1)) 24 (upd (s.1 24) (((s.2.1 23 11) &&& 15).toNatClampNeg) (s.2.1 23 4))) 23 11 ((s.2.1 23 11) + 1)) c n))) 3 (fun _ _ => rfl) ?_
          refine q_RP_bd fun r7 er7 => ?_
          refine q_RP_call (v := none) (h2 := (q_kN r7 c n)) rfl rfl ((dzt_N157_87_65 (q_sI (q_sA (q_sI s 23 10 ((s.2.1 23 10) + 1)) 24 (upd (s.1 24) (((s.2.1 23 11) &&& 15).toNatClampNeg) (s.2.1 23 4))) 23 11 ((s.2.1 23 11) + 1)) c n r2 r7 er7).le (Nat.le_of_ble_eq_true rfl)) ?_
          show q_RP _ _ _ (139, [(5, .int r5), (4, .int (r2 &&& 7)), (3, .int r3), (2, .int r2), (0, .ref 87), (1, .ref 65)], [], (q_kN r7 c n)) _ _
          refine q_RP_seg (g2 := (226, [(5, .int r5), (4, .int (r2 &&& 7)), (3, .int r3), (2, .int r2), (0, .ref 87), (1, .ref 65)], [], (q_kN (q_sI r7 23 4 r5) c n))) 4 (fun _ _ => rfl) ?_
          exact q_RP_ret rfl rfl rfl
        | false =>
          refine q_RP_cF ?_
          refine q_RP_rsT (g2 := (142, [(5, .int r5), (4, .int (r2 &&& 7)), (3, .int r3), (2, .int r2), (0, .ref 87), (1, .ref 65)], [], (q_kN (q_sI (q_sA (q_sI s 23 10 ((s.2.1 23 10) + 1)) 24 (upd (s.1 24) (((s.2.1 23 11) &&& 15).toNatClampNeg) (s.2.1 23 4))) 23 11 ((s.2.1 23 11) + 1)) c n))) rfl rfl (q_d_geF h5) ?_
          exact q_RP_xt (q_xt_mk (q_mn1 4 rfl (q_mn1 5 rfl (q_mn1 3 rfl (q_mn1 2 rfl (q_mn1 1 rfl (q_mn1 0 rfl q_mn0)))))) rfl) (dzt_N142_87_65_142 c n (q_sI (q_sA (q_sI s 23 10 ((s.2.1 23 10) + 1)) 24 (upd (s.1 24) (((s.2.1 23 11) &&& 15).toNatClampNeg) (s.2.1 23 4))) 23 11 ((s.2.1 23 11) + 1)) r2 r3 (r2 &&& 7) r5)
      | false =>
        refine q_RP_cF ?_
        refine q_RP_rsT (g2 := (142, [(5, .int r5), (4, .int (r2 &&& 7)), (3, .int r3), (2, .int r2), (0, .ref 87), (1, .ref 65)], [], (q_kN (q_sI (q_sA (q_sI s 23 10 ((s.2.1 23 10) + 1)) 24 (upd (s.1 24) (((s.2.1 23 11) &&& 15).toNatClampNeg) (s.2.1 23 4))) 23 11 ((s.2.1 23 11) + 1)) c n))) rfl rfl (q_d_geF h4) ?_
        exact q_RP_xt (q_xt_mk (q_mn1 4 rfl (q_mn1 5 rfl (q_mn1 3 rfl (q_mn1 2 rfl (q_mn1 1 rfl (q_mn1 0 rfl q_mn0)))))) rfl) (dzt_N142_87_65_142 c n (q_sI (q_sA (q_sI s 23 10 ((s.2.1 23 10) + 1)) 24 (upd (s.1 24) (((s.2.1 23 11) &&& 15).toNatClampNeg) (s.2.1 23 4))) 23 11 ((s.2.1 23 11) + 1)) r2 r3 (r2 &&& 7) r5)
  | false =>
    refine q_RP_cF ?_
    refine q_RP_rsF (g2 := (17, [(0, .ref 87), (1, .ref 65)], [], (q_kN (q_sI s 23 10 ((s.2.1 23 10) + 1)) c n))) rfl rfl h2 ?_
    refine q_RP_seg (g2 := (23, [(0, .ref 87), (1, .ref 65)], [.int (s.2.1 23 4), .ref 65, .ref 87], (q_kN (q_sI s 23 10 ((s.2.1 23 10) + 1)) c n))) 4 (fun _ _ => rfl) ?_
    refine q_RP_seg (g2 := (27, [(0, .ref 87), (1, .ref 65)], [.int (s.2.1 23 5), .int (s.2.1 23 4), .ref 65, .ref 87], (q_kN (q_sI s 23 10 ((s.2.1 23 10) + 1)) c n))) 2 (fun _ _ => rfl) ?_
    refine q_RP_seg (g2 := (34, [(0, .ref 87), (1, .ref 65)], [.int (s.2.1 23 8), .int ((s.2.1 23 5) ||| 32), .int (s.2.1 23 4), .ref 65, .ref 87], (q_kN (q_sI s 23 10 ((s.2.1 23 10) + 1)) c n))) 4 (fun _ _ => rfl) ?_
    refine q_RP_bd fun r18 er18 => ?_
    refine q_RP_call (v := none) (h2 := (q_kN r18 c n)) rfl rfl ((dzt_N148_87_65 (q_sI s 23 10 ((s.2.1 23 10) + 1)) c n (s.2.1 23 4) ((s.2.1 23 5) ||| 32) (s.2.1 23 8) r18 er18).le (Nat.le_of_ble_eq_true rfl)) ?_
    show q_RP _ _ _ (37, [(0, .ref 87), (1, .ref 65)], [], (q_kN r18 c n)) _ _
    exact q_RP_ret rfl rfl rfl
def dz_N82_64_f_69 (k14 : q_S → Int32 → Int32 → Int32 → Int32 → Int32 → Option (q_S × Int32)) (s : q_S) (v1 : Int32) (v2 : Int32) (v3 : Int32) (v4 : Int32) (v5 : Int32) : Option (q_S × Int32) :=
  q_let (dz_N141_87 s) fun r4 => cond r4.2 ((dz_N142_87_65 r4.1).bind fun r5 => q_let (dz_N107_65 r5) fun r6 => k14 r6 v1 v2 v3 (v4 + 1) v5) (q_let (dz_N107_65 r4.1) fun r7 => k14 r7 v1 v2 v3 (v4 + 1) v5)
set_option maxHeartbeats 4000000 in
theorem dzt_N82_64_f_69 (c n : Nat) (k14 : q_S → Int32 → Int32 → Int32 → Int32 → Int32 → Option (q_S × Int32)) (s : q_S) (hk14 : ∀ (s : q_S) (v1 : Int32) (v2 : Int32) (v3 : Int32) (v4 : Int32) (v5 : Int32), q_RP q_TB0 5 81 (14, [(0, .ref 64), (1, .int v1), (2, .int v2), (3, .int v3), (4, .int v4), (5, .int v5)], [], (q_kN s c n)) (q_oIN c n) (k14 s v1 v2 v3 v4 v5)) (v1 : Int32) (v2 : Int32) (v3 : Int32) (v4 : Int32) (v5 : Int32) : q_RP q_TB0 5 81 (69, [(0, .ref 64), (1, .int v1), (2, .int v2), (3, .int v3), (4, .int v4), (5, .int v5)], [], (q_kN s c n)) (q_oIN c n) (dz_N82_64_f_69 k14 s v1 v2 v3 v4 v5) := by
  unfold dz_N82_64_f_69
  refine q_RP_seg (g2 := (73, [(0, .ref 64), (1, .int v1), (2, .int v2), (3, .int v3), (4, .int v4), (5, .int v5)], [.ref 87], (q_kN s c n))) 2 (fun _ _ => rfl) ?_
  refine q_RP_call (v := (some (.int (q_b (dz_N141_87 s).2)))) (h2 := (q_kN (dz_N141_87 s).1 c n)) rfl rfl ((dzt_N141_87 s c n).le (Nat.le_of_ble_eq_true rfl)) ?_
  generalize dz_N141_87 s = r4
  refine q_RP_let ?_
  show q_RP _ _ _ (76, [(0, .ref 64), (1, .int v1), (2, .int v2), (3, .int v3), (4, .int v4), (5, .int v5)], [.int (q_b r4.2)], (q_kN r4.1 c n)) _ _
  cases h5 : r4.2 with
  | true =>
    refine q_RP_cT ?_
    show q_RP _ _ _ (76, [(0, .ref 64), (1, .int v1), (2, .int v2), (3, .int v3), (4, .int v4), (5, .int v5)], [.int 1], (q_kN r4.1 c n)) _ _
    refine q_RP_seg (g2 := (87, [(0, .ref 64), (1, .int v1), (2, .int v2), (3, .int v3), (4, .int v4), (5, .int v5)], [.ref 65, .ref 87], (q_kN r4.1 c n))) 5 (fun _ _ => rfl) ?_
    refine q_RP_bd fun r5 er5 => ?_
    refine q_RP_call (v := none) (h2 := (q_kN r5 c n)) rfl rfl ((dzt_N142_87_65 r4.1 c n r5 er5).le (Nat.le_of_ble_eq_true rfl)) ?_
    show q_RP _ _ _ (90, [(0, .ref 64), (1, .int v1), (2, .int v2), (3, .int v3), (4, .int v4), (5, .int v5)], [], (q_kN r5 c n)) _ _
    refine q_RP_seg (g2 := (94, [(0, .ref 64), (1, .int v1), (2, .int v2), (3, .int v3), (4, .int v4), (5, .int v5)], [.ref 65], (q_kN r5 c n))) 2 (fun _ _ => rfl) ?_
    refine q_RP_call (v := none) (h2 := (q_kN (dz_N107_65 r5) c n)) rfl rfl ((dzt_N107_65 r5 c n).le (Nat.le_of_ble_eq_true rfl)) ?_
    generalize dz_N107_65 r5 = r6
    refine q_RP_let ?_
    show q_RP _ _ _ (97, [(0, .ref 64), (1, .int v1), (2, .int v2), (3, .int v3), (4, .int v4), (5, .int v5)], [], (q_kN r6 c n)) _ _
    refine q_RP_seg (g2 := (14, [(4, .int (v4 + 1)), (0, .ref 64), (1, .int v1), (2, .int v2), (3, .int v3), (5, .int v5)], [], (q_kN r6 c n))) 2 (fun _ _ => rfl) ?_
    exact q_RP_xt (q_xt_mk (q_mn1 1 rfl (q_mn1 2 rfl (q_mn1 3 rfl (q_mn1 4 rfl (q_mn1 0 rfl (q_mn1 5 rfl q_mn0)))))) rfl) (hk14 r6 v1 v2 v3 (v4 + 1) v5)
  | false =>
    refine q_RP_cF ?_
    show q_RP _ _ _ (76, [(0, .ref 64), (1, .int v1), (2, .int v2), (3, .int v3), (4, .int v4), (5, .int v5)], [.int 0], (q_kN r4.1 c n)) _ _
    refine q_RP_seg (g2 := (94, [(0, .ref 64), (1, .int v1), (2, .int v2), (3, .int v3), (4, .int v4), (5, .int v5)], [.ref 65], (q_kN r4.1 c n))) 3 (fun _ _ => rfl) ?_
    refine q_RP_call (v := none) (h2 := (q_kN (dz_N107_65 r4.1) c n)) rfl rfl ((dzt_N107_65 r4.1 c n).le (Nat.le_of_ble_eq_true rfl)) ?_
    generalize dz_N107_65 r4.1 = r7
    refine q_RP_let ?_
    show q_RP _ _ _ (97, [(0, .ref 64), (1, .int v1), (2, .int v2), (3, .int v3), (4, .int v4), (5, .int v5)], [], (q_kN r7 c n)) _ _
    refine q_RP_seg (g2 := (14, [(4, .int (v4 + 1)), (0, .ref 64), (1, .int v1), (2, .int v2), (3, .int v3), (5, .int v5)], [], (q_kN r7 c n))) 2 (fun _ _ => rfl) ?_
    exact q_RP_xt (q_xt_mk (q_mn1 1 rfl (q_mn1 2 rfl (q_mn1 3 rfl (q_mn1 4 rfl (q_mn1 0 rfl (q_mn1 5 rfl q_mn0)))))) rfl) (hk14 r7 v1 v2 v3 (v4 + 1) v5)
def dz_N82_64_f_35 (k14 : q_S → Int32 → Int32 → Int32 → Int32 → Int32 → Option (q_S × Int32)) (s : q_S) (v1 : Int32) (v2 : Int32) (v3 : Int32) (v4 : Int32) (v5 : Int32) : Option (q_S × Int32) :=
  (dz_N83_64 s).bind fun r1 => cond r1.2 (q_let (dz_N107_65 r1.1) fun r2 => k14 r2 v1 v2 v3 (v4 + 1) (v5 + 1)) (cond (decide (r1.1.2.1 23 9 = 0)) ((dz_N136_87_65 r1.1).bind fun r3 => dz_N82_64_f_69 k14 r3 v1 v2 v3 v4 v5) (dz_N82_64_f_69 k14 r1.1 v1 v2 v3 v4 v5))
set_option maxHeartbeats 4000000 in
theorem dzt_N82_64_f_35 (c n : Nat) (k14 : q_S → Int32 → Int32 → Int32 → Int32 → Int32 → Option (q_S × Int32)) (s : q_S) (hk14 : ∀ (s : q_S) (v1 : Int32) (v2 : Int32) (v3 : Int32) (v4 : Int32) (v5 : Int32), q_RP q_TB0 5 81 (14, [(0, .ref 64), (1, .int v1), (2, .int v2), (3, .int v3), (4, .int v4), (5, .int v5)], [], (q_kN s c n)) (q_oIN c n) (k14 s v1 v2 v3 v4 v5)) (v1 : Int32) (v2 : Int32) (v3 : Int32) (v4 : Int32) (v5 : Int32) : q_RP q_TB0 5 81 (35, [(0, .ref 64), (1, .int v1), (2, .int v2), (3, .int v3), (4, .int v4), (5, .int v5)], [], (q_kN s c n)) (q_oIN c n) (dz_N82_64_f_35 k14 s v1 v2 v3 v4 v5) := by
  unfold dz_N82_64_f_35
  refine q_RP_seg (g2 := (36, [(0, .ref 64), (1, .int v1), (2, .int v2), (3, .int v3), (4, .int v4), (5, .int v5)], [.ref 64], (q_kN s c n))) 1 (fun _ _ => rfl) ?_
  refine q_RP_bd fun r1 er1 => ?_
  refine q_RP_call (v := (some (.int (q_b r1.2)))) (h2 := (q_kN r1.1 c n)) rfl rfl ((dzt_N83_64 s c n r1 er1).le (Nat.le_of_ble_eq_true rfl)) ?_
  show q_RP _ _ _ (39, [(0, .ref 64), (1, .int v1), (2, .int v2), (3, .int v3), (4, .int v4), (5, .int v5)], [.int (q_b r1.2)], (q_kN r1.1 c n)) _ _
  cases h3 : r1.2 with
  | true =>
    refine q_RP_cT ?_
    show q_RP _ _ _ (39, [(0, .ref 64), (1, .int v1), (2, .int v2), (3, .int v3), (4, .int v4), (5, .int v5)], [.int 1], (q_kN r1.1 c n)) _ _
    refine q_RP_seg (g2 := (94, [(5, .int (v5 + 1)), (0, .ref 64), (1, .int v1), (2, .int v2), (3, .int v3), (4, .int v4)], [.ref 65], (q_kN r1.1 c n))) 5 (fun _ _ => rfl) ?_
    refine q_RP_call (v := none) (h2 := (q_kN (dz_N107_65 r1.1) c n)) rfl rfl ((dzt_N107_65 r1.1 c n).le (Nat.le_of_ble_eq_true rfl)) ?_
    generalize dz_N107_65 r1.1 = r2
    refine q_RP_let ?_
    show q_RP _ _ _ (97, [(5, .int (v5 + 1)), (0, .ref 64), (1, .int v1), (2, .int v2), (3, .int v3), (4, .int v4)], [], (q_kN r2 c n)) _ _
    refine q_RP_seg (g2 := (14, [(4, .int (v4 + 1)), (5, .int (v5 + 1)), (0, .ref 64), (1, .int v1), (2, .int v2), (3, .int v3)], [], (q_kN r2 c n))) 2 (fun _ _ => rfl) ?_
    exact q_RP_xt (q_xt_mk (q_mn1 2 rfl (q_mn1 3 rfl (q_mn1 4 rfl (q_mn1 5 rfl (q_mn1 0 rfl (q_mn1 1 rfl q_mn0)))))) rfl) (hk14 r2 v1 v2 v3 (v4 + 1) (v5 + 1))
  | false =>
    refine q_RP_cF ?_
    show q_RP _ _ _ (39, [(0, .ref 64), (1, .int v1), (2, .int v2), (3, .int v3), (4, .int v4), (5, .int v5)], [.int 0], (q_kN r1.1 c n)) _ _
    refine q_RP_seg (g2 := (55, [(0, .ref 64), (1, .int v1), (2, .int v2), (3, .int v3), (4, .int v4), (5, .int v5)], [.int (r1.1.2.1 23 9)], (q_kN r1.1 c n))) 4 (fun _ _ => rfl) ?_
    cases h4 : decide (r1.1.2.1 23 9 = 0) with
    | true =>
      refine q_RP_cT ?_
      refine q_RP_rsF (g2 := (58, [(0, .ref 64), (1, .int v1), (2, .int v2), (3, .int v3), (4, .int v4), (5, .int v5)], [], (q_kN r1.1 c n))) rfl rfl (q_d_neT h4) ?_
      refine q_RP_seg (g2 := (66, [(0, .ref 64), (1, .int v1), (2, .int v2), (3, .int v3), (4, .int v4), (5, .int v5)], [.ref 65, .ref 87], (q_kN r1.1 c n))) 4 (fun _ _ => rfl) ?_
      refine q_RP_bd fun r3 er3 => ?_
      refine q_RP_call (v := none) (h2 := (q_kN r3 c n)) rfl rfl ((dzt_N136_87_65 r1.1 c n r3 er3).le (Nat.le_of_ble_eq_true rfl)) ?_
      show q_RP _ _ _ (69, [(0, .ref 64), (1, .int v1), (2, .int v2), (3, .int v3), (4, .int v4), (5, .int v5)], [], (q_kN r3 c n)) _ _
      exact (dzt_N82_64_f_69 c n k14 r3 hk14 v1 v2 v3 v4 v5)
    | false =>
      refine q_RP_cF ?_
      refine q_RP_rsT (g2 := (69, [(0, .ref 64), (1, .int v1), (2, .int v2), (3, .int v3), (4, .int v4), (5, .int v5)], [], (q_kN r1.1 c n))) rfl rfl (q_d_neF h4) ?_
      exact (dzt_N82_64_f_69 c n k14 r1.1 hk14 v1 v2 v3 v4 v5)
def dz_N82_64_f_103 (s : q_S) (v2 : Int32) (v4 : Int32) (v5 : Int32) : Option (q_S × Int32) :=
  cond (decide (v2 = 0)) (some ((q_sJ s 0 4 ((s.2.2 0 4) + v5.toInt64)), v5)) (some ((q_sJ s 0 4 ((s.2.2 0 4) + v5.toInt64)), v4))
set_option maxHeartbeats 4000000 in
theorem dzt_N82_64_f_103 (c n : Nat) (s : q_S) (v2 : Int32) (v4 : Int32) (v5 : Int32) : q_RP q_TB0 5 81 (103, [(0, .ref 64), (2, .int v2), (4, .int v4), (5, .int v5)], [], (q_kN s c n)) (q_oIN c n) (dz_N82_64_f_103 s v2 v4 v5) := by
  unfold dz_N82_64_f_103
  refine q_RP_seg (g2 := (108, [(0, .ref 64), (2, .int v2), (4, .int v4), (5, .int v5)], [.long (s.2.2 0 4), .ref 64], (q_kN s c n))) 3 (fun _ _ => rfl) ?_
  refine q_RP_seg (g2 := (116, [(0, .ref 64), (2, .int v2), (4, .int v4), (5, .int v5)], [.int v2], (q_kN (q_sJ s 0 4 ((s.2.2 0 4) + v5.toInt64)) c n))) 5 (fun _ _ => rfl) ?_
  cases h7 : decide (v2 = 0) with
  | true =>
    refine q_RP_cT ?_
    refine q_RP_rsT (g2 := (124, [(0, .ref 64), (2, .int v2), (4, .int v4), (5, .int v5)], [], (q_kN (q_sJ s 0 4 ((s.2.2 0 4) + v5.toInt64)) c n))) rfl rfl h7 ?_
    refine q_RP_seg (g2 := (126, [(0, .ref 64), (2, .int v2), (4, .int v4), (5, .int v5)], [.int v5], (q_kN (q_sJ s 0 4 ((s.2.2 0 4) + v5.toInt64)) c n))) 1 (fun _ _ => rfl) ?_
    exact q_RP_ret rfl rfl rfl
  | false =>
    refine q_RP_cF ?_
    refine q_RP_rsF (g2 := (119, [(0, .ref 64), (2, .int v2), (4, .int v4), (5, .int v5)], [], (q_kN (q_sJ s 0 4 ((s.2.2 0 4) + v5.toInt64)) c n))) rfl rfl h7 ?_
    refine q_RP_seg (g2 := (126, [(0, .ref 64), (2, .int v2), (4, .int v4), (5, .int v5)], [.int v4], (q_kN (q_sJ s 0 4 ((s.2.2 0 4) + v5.toInt64)) c n))) 2 (fun _ _ => rfl) ?_
    exact q_RP_ret rfl rfl rfl
def dz_N82_64_f_14 (m : Nat) : q_S → Int32 → Int32 → Int32 → Int32 → Int32 → Option (q_S × Int32) := Nat.rec (motive := fun _ => q_S → Int32 → Int32 → Int32 → Int32 → Int32 → Option (q_S × Int32)) (fun _ _ _ _ _ _ => none) (fun _ k14 s v1 v2 v3 v4 v5 =>
  cond (decide (v4 < v1)) (cond (decide (v2 = 0)) (dz_N82_64_f_35 k14 s v1 v2 v3 v4 v5) (cond (decide (s.2.1 23 10 = v3)) (dz_N82_64_f_35 k14 s v1 v2 v3 v4 v5) (dz_N82_64_f_103 s v2 v4 v5))) (dz_N82_64_f_103 s v2 v4 v5)) m
theorem dzs_N82_64_f_14 (m : Nat) (s : q_S) (v1 : Int32) (v2 : Int32) (v3 : Int32) (v4 : Int32) (v5 : Int32) : dz_N82_64_f_14 (m + 1) s v1 v2 v3 v4 v5 = (fun k14 : q_S → Int32 → Int32 → Int32 → Int32 → Int32 → Option (q_S × Int32) =>
  cond (decide (v4 < v1)) (cond (decide (v2 = 0)) (dz_N82_64_f_35 k14 s v1 v2 v3 v4 v5) (cond (decide (s.2.1 23 10 = v3)) (dz_N82_64_f_35 k14 s v1 v2 v3 v4 v5) (dz_N82_64_f_103 s v2 v4 v5))) (dz_N82_64_f_103 s v2 v4 v5)) (dz_N82_64_f_14 m) := rfl
set_option maxHeartbeats 4000000 in
theorem dzt_N82_64_f_14 (c n : Nat) : ∀ (m : Nat) (s : q_S) (v1 : Int32) (v2 : Int32) (v3 : Int32) (v4 : Int32) (v5 : Int32), q_RP q_TB0 5 81 (14, [(0, .ref 64), (1, .int v1), (2, .int v2), (3, .int v3), (4, .int v4), (5, .int v5)], [], (q_kN s c n)) (q_oIN c n) (dz_N82_64_f_14 m s v1 v2 v3 v4 v5) := by
  intro m
  induction m with
  | zero => intro s v1 v2 v3 v4 v5; exact q_RP_no
  | succ m ih =>
    intro s v1 v2 v3 v4 v5
    have hk14 := ih
    clear ih
    rw [dzs_N82_64_f_14]
    generalize dz_N82_64_f_14 m = k14 at hk14 ⊢
    dsimp only
    refine q_RP_seg (g2 := (17, [(0, .ref 64), (1, .int v1), (2, .int v2), (3, .int v3), (4, .int v4), (5, .int v5)], [.int v1, .int v4], (q_kN s c n))) 2 (fun _ _ => rfl) ?_
    cases h1 : decide (v4 < v1) with
    | true =>
      refine q_RP_cT ?_
      refine q_RP_rsF (g2 := (20, [(0, .ref 64), (1, .int v1), (2, .int v2), (3, .int v3), (4, .int v4), (5, .int v5)], [], (q_kN s c n))) rfl rfl (q_d_geT h1) ?_
      refine q_RP_seg (g2 := (21, [(0, .ref 64), (1, .int v1), (2, .int v2), (3, .int v3), (4, .int v4), (5, .int v5)], [.int v2], (q_kN s c n))) 1 (fun _ _ => rfl) ?_
      cases h2 : decide (v2 = 0) with
      | true =>
        refine q_RP_cT ?_
        refine q_RP_rsT (g2 := (35, [(0, .ref 64), (1, .int v1), (2, .int v2), (3, .int v3), (4, .int v4), (5, .int v5)], [], (q_kN s c n))) rfl rfl h2 ?_
        exact (dzt_N82_64_f_35 c n k14 s hk14 v1 v2 v3 v4 v5)
      | false =>
        refine q_RP_cF ?_
        refine q_RP_rsF (g2 := (24, [(0, .ref 64), (1, .int v1), (2, .int v2), (3, .int v3), (4, .int v4), (5, .int v5)], [], (q_kN s c n))) rfl rfl h2 ?_
        refine q_RP_seg (g2 := (31, [(0, .ref 64), (1, .int v1), (2, .int v2), (3, .int v3), (4, .int v4), (5, .int v5)], [.int (s.2.1 23 10)], (q_kN s c n))) 3 (fun _ _ => rfl) ?_
        refine q_RP_seg (g2 := (32, [(0, .ref 64), (1, .int v1), (2, .int v2), (3, .int v3), (4, .int v4), (5, .int v5)], [.int v3, .int (s.2.1 23 10)], (q_kN s c n))) 1 (fun _ _ => rfl) ?_
        cases h6 : decide (s.2.1 23 10 = v3) with
        | true =>
          refine q_RP_cT ?_
          refine q_RP_rsF (g2 := (35, [(0, .ref 64), (1, .int v1), (2, .int v2), (3, .int v3), (4, .int v4), (5, .int v5)], [], (q_kN s c n))) rfl rfl (q_d_neT h6) ?_
          exact (dzt_N82_64_f_35 c n k14 s hk14 v1 v2 v3 v4 v5)
        | false =>
          refine q_RP_cF ?_
          refine q_RP_rsT (g2 := (103, [(0, .ref 64), (1, .int v1), (2, .int v2), (3, .int v3), (4, .int v4), (5, .int v5)], [], (q_kN s c n))) rfl rfl (q_d_neF h6) ?_
          exact q_RP_xt (q_xt_mk (q_mn1 0 rfl (q_mn1 2 rfl (q_mn1 4 rfl (q_mn1 5 rfl q_mn0)))) rfl) (dzt_N82_64_f_103 c n s v2 v4 v5)
    | false =>
      refine q_RP_cF ?_
      refine q_RP_rsT (g2 := (103, [(0, .ref 64), (1, .int v1), (2, .int v2), (3, .int v3), (4, .int v4), (5, .int v5)], [], (q_kN s c n))) rfl rfl (q_d_geF h1) ?_
      exact q_RP_xt (q_xt_mk (q_mn1 0 rfl (q_mn1 2 rfl (q_mn1 4 rfl (q_mn1 5 rfl q_mn0)))) rfl) (dzt_N82_64_f_103 c n s v2 v4 v5)
def dz_N82_64_f (s : q_S) (a1 : Int32) : Option (q_S × Int32) :=
  dz_N82_64_f_14 2147483650 s a1 0 (s.2.1 23 10) 0 0
set_option maxHeartbeats 4000000 in
theorem dzt_N82_64_f (s : q_S) (c n : Nat) (a1 : Int32) (x : q_S × Int32) (h : dz_N82_64_f s a1 = some x) : q_Ca q_TB0 6 81 [.ref 64, .int a1, .int 0] (q_kN s c n) ((q_oIN c n) x) := by
  refine q_CaP_of (φ := (q_oIN c n)) (Nat.le_of_ble_eq_true rfl) ?_ h
  clear h
  unfold dz_N82_64_f
  refine q_RP_seg (g2 := (7, [(0, .ref 64), (1, .int a1), (2, .int 0)], [.int (s.2.1 23 10)], (q_kN s c n))) 3 (fun _ _ => rfl) ?_
  refine q_RP_seg (g2 := (14, [(5, .int 0), (4, .int 0), (3, .int (s.2.1 23 10)), (0, .ref 64), (1, .int a1), (2, .int 0)], [], (q_kN s c n))) 5 (fun _ _ => rfl) ?_
  exact q_RP_xt (q_xt_mk (q_mn1 3 rfl (q_mn1 4 rfl (q_mn1 5 rfl (q_mn1 2 rfl (q_mn1 1 rfl (q_mn1 0 rfl q_mn0)))))) rfl) (dzt_N82_64_f_14 c n 2147483650 s a1 0 (s.2.1 23 10) 0 0)
def dz_N82_64_t_69 (k14 : q_S → Int32 → Int32 → Int32 → Int32 → Int32 → Option (q_S × Int32)) (s : q_S) (v1 : Int32) (v2 : Int32) (v3 : Int32) (v4 : Int32) (v5 : Int32) : Option (q_S × Int32) :=
  q_let (dz_N141_87 s) fun r4 => cond r4.2 ((dz_N142_87_65 r4.1).bind fun r5 => q_let (dz_N107_65 r5) fun r6 => k14 r6 v1 v2 v3 (v4 + 1) v5) (q_let (dz_N107_65 r4.1) fun r7 => k14 r7 v1 v2 v3 (v4 + 1) v5)
set_option maxHeartbeats 4000000 in
theorem dzt_N82_64_t_69 (c n : Nat) (k14 : q_S → Int32 → Int32 → Int32 → Int32 → Int32 → Option (q_S × Int32)) (s : q_S) (hk14 : ∀ (s : q_S) (v1 : Int32) (v2 : Int32) (v3 : Int32) (v4 : Int32) (v5 : Int32), q_RP q_TB0 5 81 (14, [(0, .ref 64), (1, .int v1), (2, .int v2), (3, .int v3), (4, .int v4), (5, .int v5)], [], (q_kN s c n)) (q_oIN c n) (k14 s v1 v2 v3 v4 v5)) (v1 : Int32) (v2 : Int32) (v3 : Int32) (v4 : Int32) (v5 : Int32) : q_RP q_TB0 5 81 (69, [(0, .ref 64), (1, .int v1), (2, .int v2), (3, .int v3), (4, .int v4), (5, .int v5)], [], (q_kN s c n)) (q_oIN c n) (dz_N82_64_t_69 k14 s v1 v2 v3 v4 v5) := by
  unfold dz_N82_64_t_69
  refine q_RP_seg (g2 := (73, [(0, .ref 64), (1, .int v1), (2, .int v2), (3, .int v3), (4, .int v4), (5, .int v5)], [.ref 87], (q_kN s c n))) 2 (fun _ _ => rfl) ?_
  refine q_RP_call (v := (some (.int (q_b (dz_N141_87 s).2)))) (h2 := (q_kN (dz_N141_87 s).1 c n)) rfl rfl ((dzt_N141_87 s c n).le (Nat.le_of_ble_eq_true rfl)) ?_
  generalize dz_N141_87 s = r4
  refine q_RP_let ?_
  show q_RP _ _ _ (76, [(0, .ref 64), (1, .int v1), (2, .int v2), (3, .int v3), (4, .int v4), (5, .int v5)], [.int (q_b r4.2)], (q_kN r4.1 c n)) _ _
  cases h5 : r4.2 with
  | true =>
    refine q_RP_cT ?_
    show q_RP _ _ _ (76, [(0, .ref 64), (1, .int v1), (2, .int v2), (3, .int v3), (4, .int v4), (5, .int v5)], [.int 1], (q_kN r4.1 c n)) _ _
    refine q_RP_seg (g2 := (87, [(0, .ref 64), (1, .int v1), (2, .int v2), (3, .int v3), (4, .int v4), (5, .int v5)], [.ref 65, .ref 87], (q_kN r4.1 c n))) 5 (fun _ _ => rfl) ?_
    refine q_RP_bd fun r5 er5 => ?_
    refine q_RP_call (v := none) (h2 := (q_kN r5 c n)) rfl rfl ((dzt_N142_87_65 r4.1 c n r5 er5).le (Nat.le_of_ble_eq_true rfl)) ?_
    show q_RP _ _ _ (90, [(0, .ref 64), (1, .int v1), (2, .int v2), (3, .int v3), (4, .int v4), (5, .int v5)], [], (q_kN r5 c n)) _ _
    refine q_RP_seg (g2 := (94, [(0, .ref 64), (1, .int v1), (2, .int v2), (3, .int v3), (4, .int v4), (5, .int v5)], [.ref 65], (q_kN r5 c n))) 2 (fun _ _ => rfl) ?_
    refine q_RP_call (v := none) (h2 := (q_kN (dz_N107_65 r5) c n)) rfl rfl ((dzt_N107_65 r5 c n).le (Nat.le_of_ble_eq_true rfl)) ?_
    generalize dz_N107_65 r5 = r6
    refine q_RP_let ?_
    show q_RP _ _ _ (97, [(0, .ref 64), (1, .int v1), (2, .int v2), (3, .int v3), (4, .int v4), (5, .int v5)], [], (q_kN r6 c n)) _ _
    refine q_RP_seg (g2 := (14, [(4, .int (v4 + 1)), (0, .ref 64), (1, .int v1), (2, .int v2), (3, .int v3), (5, .int v5)], [], (q_kN r6 c n))) 2 (fun _ _ => rfl) ?_
    exact q_RP_xt (q_xt_mk (q_mn1 1 rfl (q_mn1 2 rfl (q_mn1 3 rfl (q_mn1 4 rfl (q_mn1 0 rfl (q_mn1 5 rfl q_mn0)))))) rfl) (hk14 r6 v1 v2 v3 (v4 + 1) v5)
  | false =>
    refine q_RP_cF ?_
    show q_RP _ _ _ (76, [(0, .ref 64), (1, .int v1), (2, .int v2), (3, .int v3), (4, .int v4), (5, .int v5)], [.int 0], (q_kN r4.1 c n)) _ _
    refine q_RP_seg (g2 := (94, [(0, .ref 64), (1, .int v1), (2, .int v2), (3, .int v3), (4, .int v4), (5, .int v5)], [.ref 65], (q_kN r4.1 c n))) 3 (fun _ _ => rfl) ?_
    refine q_RP_call (v := none) (h2 := (q_kN (dz_N107_65 r4.1) c n)) rfl rfl ((dzt_N107_65 r4.1 c n).le (Nat.le_of_ble_eq_true rfl)) ?_
    generalize dz_N107_65 r4.1 = r7
    refine q_RP_let ?_
    show q_RP _ _ _ (97, [(0, .ref 64), (1, .int v1), (2, .int v2), (3, .int v3), (4, .int v4), (5, .int v5)], [], (q_kN r7 c n)) _ _
    refine q_RP_seg (g2 := (14, [(4, .int (v4 + 1)), (0, .ref 64), (1, .int v1), (2, .int v2), (3, .int v3), (5, .int v5)], [], (q_kN r7 c n))) 2 (fun _ _ => rfl) ?_
    exact q_RP_xt (q_xt_mk (q_mn1 1 rfl (q_mn1 2 rfl (q_mn1 3 rfl (q_mn1 4 rfl (q_mn1 0 rfl (q_mn1 5 rfl q_mn0)))))) rfl) (hk14 r7 v1 v2 v3 (v4 + 1) v5)
def dz_N82_64_t_35 (k14 : q_S → Int32 → Int32 → Int32 → Int32 → Int32 → Option (q_S × Int32)) (s : q_S) (v1 : Int32) (v2 : Int32) (v3 : Int32) (v4 : Int32) (v5 : Int32) : Option (q_S × Int32) :=
  (dz_N83_64 s).bind fun r1 => cond r1.2 (q_let (dz_N107_65 r1.1) fun r2 => k14 r2 v1 v2 v3 (v4 + 1) (v5 + 1)) (cond (decide (r1.1.2.1 23 9 = 0)) ((dz_N136_87_65 r1.1).bind fun r3 => dz_N82_64_t_69 k14 r3 v1 v2 v3 v4 v5) (dz_N82_64_t_69 k14 r1.1 v1 v2 v3 v4 v5))
set_option maxHeartbeats 4000000 in
theorem dzt_N82_64_t_35 (c n : Nat) (k14 : q_S → Int32 → Int32 → Int32 → Int32 → Int32 → Option (q_S × Int32)) (s : q_S) (hk14 : ∀ (s : q_S) (v1 : Int32) (v2 : Int32) (v3 : Int32) (v4 : Int32) (v5 : Int32), q_RP q_TB0 5 81 (14, [(0, .ref 64), (1, .int v1), (2, .int v2), (3, .int v3), (4, .int v4), (5, .int v5)], [], (q_kN s c n)) (q_oIN c n) (k14 s v1 v2 v3 v4 v5)) (v1 : Int32) (v2 : Int32) (v3 : Int32) (v4 : Int32) (v5 : Int32) : q_RP q_TB0 5 81 (35, [(0, .ref 64), (1, .int v1), (2, .int v2), (3, .int v3), (4, .int v4), (5, .int v5)], [], (q_kN s c n)) (q_oIN c n) (dz_N82_64_t_35 k14 s v1 v2 v3 v4 v5) := by
  unfold dz_N82_64_t_35
  refine q_RP_seg (g2 := (36, [(0, .ref 64), (1, .int v1), (2, .int v2), (3, .int v3), (4, .int v4), (5, .int v5)], [.ref 64], (q_kN s c n))) 1 (fun _ _ => rfl) ?_
  refine q_RP_bd fun r1 er1 => ?_
  refine q_RP_call (v := (some (.int (q_b r1.2)))) (h2 := (q_kN r1.1 c n)) rfl rfl ((dzt_N83_64 s c n r1 er1).le (Nat.le_of_ble_eq_true rfl)) ?_
  show q_RP _ _ _ (39, [(0, .ref 64), (1, .int v1), (2, .int v2), (3, .int v3), (4, .int v4), (5, .int v5)], [.int (q_b r1.2)], (q_kN r1.1 c n)) _ _
  cases h3 : r1.2 with
  | true =>
    refine q_RP_cT ?_
    show q_RP _ _ _ (39, [(0, .ref 64), (1, .int v1), (2, .int v2), (3, .int v3), (4, .int v4), (5, .int v5)], [.int 1], (q_kN r1.1 c n)) _ _
    refine q_RP_seg (g2 := (94, [(5, .int (v5 + 1)), (0, .ref 64), (1, .int v1), (2, .int v2), (3, .int v3), (4, .int v4)], [.ref 65], (q_kN r1.1 c n))) 5 (fun _ _ => rfl) ?_
    refine q_RP_call (v := none) (h2 := (q_kN (dz_N107_65 r1.1) c n)) rfl rfl ((dzt_N107_65 r1.1 c n).le (Nat.le_of_ble_eq_true rfl)) ?_
    generalize dz_N107_65 r1.1 = r2
    refine q_RP_let ?_
    show q_RP _ _ _ (97, [(5, .int (v5 + 1)), (0, .ref 64), (1, .int v1), (2, .int v2), (3, .int v3), (4, .int v4)], [], (q_kN r2 c n)) _ _
    refine q_RP_seg (g2 := (14, [(4, .int (v4 + 1)), (5, .int (v5 + 1)), (0, .ref 64), (1, .int v1), (2, .int v2), (3, .int v3)], [], (q_kN r2 c n))) 2 (fun _ _ => rfl) ?_
    exact q_RP_xt (q_xt_mk (q_mn1 2 rfl (q_mn1 3 rfl (q_mn1 4 rfl (q_mn1 5 rfl (q_mn1 0 rfl (q_mn1 1 rfl q_mn0)))))) rfl) (hk14 r2 v1 v2 v3 (v4 + 1) (v5 + 1))
  | false =>
    refine q_RP_cF ?_
    show q_RP _ _ _ (39, [(0, .ref 64), (1, .int v1), (2, .int v2), (3, .int v3), (4, .int v4), (5, .int v5)], [.int 0], (q_kN r1.1 c n)) _ _
    refine q_RP_seg (g2 := (55, [(0, .ref 64), (1, .int v1), (2, .int v2), (3, .int v3), (4, .int v4), (5, .int v5)], [.int (r1.1.2.1 23 9)], (q_kN r1.1 c n))) 4 (fun _ _ => rfl) ?_
    cases h4 : decide (r1.1.2.1 23 9 = 0) with
    | true =>
      refine q_RP_cT ?_
      refine q_RP_rsF (g2 := (58, [(0, .ref 64), (1, .int v1), (2, .int v2), (3, .int v3), (4, .int v4), (5, .int v5)], [], (q_kN r1.1 c n))) rfl rfl (q_d_neT h4) ?_
      refine q_RP_seg (g2 := (66, [(0, .ref 64), (1, .int v1), (2, .int v2), (3, .int v3), (4, .int v4), (5, .int v5)], [.ref 65, .ref 87], (q_kN r1.1 c n))) 4 (fun _ _ => rfl) ?_
      refine q_RP_bd fun r3 er3 => ?_
      refine q_RP_call (v := none) (h2 := (q_kN r3 c n)) rfl rfl ((dzt_N136_87_65 r1.1 c n r3 er3).le (Nat.le_of_ble_eq_true rfl)) ?_
      show q_RP _ _ _ (69, [(0, .ref 64), (1, .int v1), (2, .int v2), (3, .int v3), (4, .int v4), (5, .int v5)], [], (q_kN r3 c n)) _ _
      exact (dzt_N82_64_t_69 c n k14 r3 hk14 v1 v2 v3 v4 v5)
    | false =>
      refine q_RP_cF ?_
      refine q_RP_rsT (g2 := (69, [(0, .ref 64), (1, .int v1), (2, .int v2), (3, .int v3), (4, .int v4), (5, .int v5)], [], (q_kN r1.1 c n))) rfl rfl (q_d_neF h4) ?_
      exact (dzt_N82_64_t_69 c n k14 r1.1 hk14 v1 v2 v3 v4 v5)
def dz_N82_64_t_103 (s : q_S) (v2 : Int32) (v4 : Int32) (v5 : Int32) : Option (q_S × Int32) :=
  cond (decide (v2 = 0)) (some ((q_sJ s 0 4 ((s.2.2 0 4) + v5.toInt64)), v5)) (some ((q_sJ s 0 4 ((s.2.2 0 4) + v5.toInt64)), v4))
set_option maxHeartbeats 4000000 in
theorem dzt_N82_64_t_103 (c n : Nat) (s : q_S) (v2 : Int32) (v4 : Int32) (v5 : Int32) : q_RP q_TB0 5 81 (103, [(0, .ref 64), (2, .int v2), (4, .int v4), (5, .int v5)], [], (q_kN s c n)) (q_oIN c n) (dz_N82_64_t_103 s v2 v4 v5) := by
  unfold dz_N82_64_t_103
  refine q_RP_seg (g2 := (108, [(0, .ref 64), (2, .int v2), (4, .int v4), (5, .int v5)], [.long (s.2.2 0 4), .ref 64], (q_kN s c n))) 3 (fun _ _ => rfl) ?_
  refine q_RP_seg (g2 := (116, [(0, .ref 64), (2, .int v2), (4, .int v4), (5, .int v5)], [.int v2], (q_kN (q_sJ s 0 4 ((s.2.2 0 4) + v5.toInt64)) c n))) 5 (fun _ _ => rfl) ?_
  cases h7 : decide (v2 = 0) with
  | true =>
    refine q_RP_cT ?_
    refine q_RP_rsT (g2 := (124, [(0, .ref 64), (2, .int v2), (4, .int v4), (5, .int v5)], [], (q_kN (q_sJ s 0 4 ((s.2.2 0 4) + v5.toInt64)) c n))) rfl rfl h7 ?_
    refine q_RP_seg (g2 := (126, [(0, .ref 64), (2, .int v2), (4, .int v4), (5, .int v5)], [.int v5], (q_kN (q_sJ s 0 4 ((s.2.2 0 4) + v5.toInt64)) c n))) 1 (fun _ _ => rfl) ?_
    exact q_RP_ret rfl rfl rfl
  | false =>
    refine q_RP_cF ?_
    refine q_RP_rsF (g2 := (119, [(0, .ref 64), (2, .int v2), (4, .int v4), (5, .int v5)], [], (q_kN (q_sJ s 0 4 ((s.2.2 0 4) + v5.toInt64)) c n))) rfl rfl h7 ?_
    refine q_RP_seg (g2 := (126, [(0, .ref 64), (2, .int v2), (4, .int v4), (5, .int v5)], [.int v4], (q_kN (q_sJ s 0 4 ((s.2.2 0 4) + v5.toInt64)) c n))) 2 (fun _ _ => rfl) ?_
    exact q_RP_ret rfl rfl rfl
def dz_N82_64_t_14 (m : Nat) : q_S → Int32 → Int32 → Int32 → Int32 → Int32 → Option (q_S × Int32) := Nat.rec (motive := fun _ => q_S → Int32 → Int32 → Int32 → Int32 → Int32 → Option (q_S × Int32)) (fun _ _ _ _ _ _ => none) (fun _ k14 s v1 v2 v3 v4 v5 =>
  cond (decide (v4 < v1)) (cond (decide (v2 = 0)) (dz_N82_64_t_35 k14 s v1 v2 v3 v4 v5) (cond (decide (s.2.1 23 10 = v3)) (dz_N82_64_t_35 k14 s v1 v2 v3 v4 v5) (dz_N82_64_t_103 s v2 v4 v5))) (dz_N82_64_t_103 s v2 v4 v5)) m
theorem dzs_N82_64_t_14 (m : Nat) (s : q_S) (v1 : Int32) (v2 : Int32) (v3 : Int32) (v4 : Int32) (v5 : Int32) : dz_N82_64_t_14 (m + 1) s v1 v2 v3 v4 v5 = (fun k14 : q_S → Int32 → Int32 → Int32 → Int32 → Int32 → Option (q_S × Int32) =>
  cond (decide (v4 < v1)) (cond (decide (v2 = 0)) (dz_N82_64_t_35 k14 s v1 v2 v3 v4 v5) (cond (decide (s.2.1 23 10 = v3)) (dz_N82_64_t_35 k14 s v1 v2 v3 v4 v5) (dz_N82_64_t_103 s v2 v4 v5))) (dz_N82_64_t_103 s v2 v4 v5)) (dz_N82_64_t_14 m) := rfl
set_option maxHeartbeats 4000000 in
theorem dzt_N82_64_t_14 (c n : Nat) : ∀ (m : Nat) (s : q_S) (v1 : Int32) (v2 : Int32) (v3 : Int32) (v4 : Int32) (v5 : Int32), q_RP q_TB0 5 81 (14, [(0, .ref 64), (1, .int v1), (2, .int v2), (3, .int v3), (4, .int v4), (5, .int v5)], [], (q_kN s c n)) (q_oIN c n) (dz_N82_64_t_14 m s v1 v2 v3 v4 v5) := by
  intro m
  induction m with
  | zero => intro s v1 v2 v3 v4 v5; exact q_RP_no
  | succ m ih =>
    intro s v1 v2 v3 v4 v5
    have hk14 := ih
    clear ih
    rw [dzs_N82_64_t_14]
    generalize dz_N82_64_t_14 m = k14 at hk14 ⊢
    dsimp only
    refine q_RP_seg (g2 := (17, [(0, .ref 64), (1, .int v1), (2, .int v2), (3, .int v3), (4, .int v4), (5, .int v5)], [.int v1, .int v4], (q_kN s c n))) 2 (fun _ _ => rfl) ?_
    cases h1 : decide (v4 < v1) with
    | true =>
      refine q_RP_cT ?_
      refine q_RP_rsF (g2 := (20, [(0, .ref 64), (1, .int v1), (2, .int v2), (3, .int v3), (4, .int v4), (5, .int v5)], [], (q_kN s c n))) rfl rfl (q_d_geT h1) ?_
      refine q_RP_seg (g2 := (21, [(0, .ref 64), (1, .int v1), (2, .int v2), (3, .int v3), (4, .int v4), (5, .int v5)], [.int v2], (q_kN s c n))) 1 (fun _ _ => rfl) ?_
      cases h2 : decide (v2 = 0) with
      | true =>
        refine q_RP_cT ?_
        refine q_RP_rsT (g2 := (35, [(0, .ref 64), (1, .int v1), (2, .int v2), (3, .int v3), (4, .int v4), (5, .int v5)], [], (q_kN s c n))) rfl rfl h2 ?_
        exact (dzt_N82_64_t_35 c n k14 s hk14 v1 v2 v3 v4 v5)
      | false =>
        refine q_RP_cF ?_
        refine q_RP_rsF (g2 := (24, [(0, .ref 64), (1, .int v1), (2, .int v2), (3, .int v3), (4, .int v4), (5, .int v5)], [], (q_kN s c n))) rfl rfl h2 ?_
        refine q_RP_seg (g2 := (31, [(0, .ref 64), (1, .int v1), (2, .int v2), (3, .int v3), (4, .int v4), (5, .int v5)], [.int (s.2.1 23 10)], (q_kN s c n))) 3 (fun _ _ => rfl) ?_
        refine q_RP_seg (g2 := (32, [(0, .ref 64), (1, .int v1), (2, .int v2), (3, .int v3), (4, .int v4), (5, .int v5)], [.int v3, .int (s.2.1 23 10)], (q_kN s c n))) 1 (fun _ _ => rfl) ?_
        cases h6 : decide (s.2.1 23 10 = v3) with
        | true =>
          refine q_RP_cT ?_
          refine q_RP_rsF (g2 := (35, [(0, .ref 64), (1, .int v1), (2, .int v2), (3, .int v3), (4, .int v4), (5, .int v5)], [], (q_kN s c n))) rfl rfl (q_d_neT h6) ?_
          exact (dzt_N82_64_t_35 c n k14 s hk14 v1 v2 v3 v4 v5)
        | false =>
          refine q_RP_cF ?_
          refine q_RP_rsT (g2 := (103, [(0, .ref 64), (1, .int v1), (2, .int v2), (3, .int v3), (4, .int v4), (5, .int v5)], [], (q_kN s c n))) rfl rfl (q_d_neF h6) ?_
          exact q_RP_xt (q_xt_mk (q_mn1 0 rfl (q_mn1 2 rfl (q_mn1 4 rfl (q_mn1 5 rfl q_mn0)))) rfl) (dzt_N82_64_t_103 c n s v2 v4 v5)
    | false =>
      refine q_RP_cF ?_
      refine q_RP_rsT (g2 := (103, [(0, .ref 64), (1, .int v1), (2, .int v2), (3, .int v3), (4, .int v4), (5, .int v5)], [], (q_kN s c n))) rfl rfl (q_d_geF h1) ?_
      exact q_RP_xt (q_xt_mk (q_mn1 0 rfl (q_mn1 2 rfl (q_mn1 4 rfl (q_mn1 5 rfl q_mn0)))) rfl) (dzt_N82_64_t_103 c n s v2 v4 v5)
def dz_N82_64_t (s : q_S) (a1 : Int32) : Option (q_S × Int32) :=
  dz_N82_64_t_14 2147483650 s a1 1 (s.2.1 23 10) 0 0
set_option maxHeartbeats 4000000 in
theorem dzt_N82_64_t (s : q_S) (c n : Nat) (a1 : Int32) (x : q_S × Int32) (h : dz_N82_64_t s a1 = some x) : q_Ca q_TB0 6 81 [.ref 64, .int a1, .int 1] (q_kN s c n) ((q_oIN c n) x) := by
  refine q_CaP_of (φ := (q_oIN c n)) (Nat.le_of_ble_eq_true rfl) ?_ h
  clear h
  unfold dz_N82_64_t
  refine q_RP_seg (g2 := (7, [(0, .ref 64), (1, .int a1), (2, .int 1)], [.int (s.2.1 23 10)], (q_kN s c n))) 3 (fun _ _ => rfl) ?_
  refine q_RP_seg (g2 := (14, [(5, .int 0), (4, .int 0), (3, .int (s.2.1 23 10)), (0, .ref 64), (1, .int a1), (2, .int 1)], [], (q_kN s c n))) 5 (fun _ _ => rfl) ?_
  exact q_RP_xt (q_xt_mk (q_mn1 3 rfl (q_mn1 4 rfl (q_mn1 5 rfl (q_mn1 2 rfl (q_mn1 1 rfl (q_mn1 0 rfl q_mn0)))))) rfl) (dzt_N82_64_t_14 c n 2147483650 s a1 1 (s.2.1 23 10) 0 0)
def dz_N182_74_51 (k7 : q_S → Int32 → Int32 → Int32 → Option (Int32)) (m : Nat) : q_S → Int32 → Int32 → Int32 → Int32 → Option (Int32) := Nat.rec (motive := fun _ => q_S → Int32 → Int32 → Int32 → Int32 → Option (Int32)) (fun _ _ _ _ _ => none) (fun _ k51 s v2 v3 v4 v5 =>
  cond (decide (v5 < 4)) (cond (q_in v5 4) (cond (decide (((s.1 11) (v5.toNatClampNeg)) &&& v3 = 0)) (k51 s v2 v3 v4 (v5 + 1)) (k51 s (v2 ||| ((1 : Int32) <<< (v5 &&& 31))) v3 v4 (v5 + 1))) none) (k7 s v2 v3 (v4 + 1))) m
theorem dzs_N182_74_51 (k7 : q_S → Int32 → Int32 → Int32 → Option (Int32)) (m : Nat) (s : q_S) (v2 : Int32) (v3 : Int32) (v4 : Int32) (v5 : Int32) : dz_N182_74_51 k7 (m + 1) s v2 v3 v4 v5 = (fun k51 : q_S → Int32 → Int32 → Int32 → Int32 → Option (Int32) =>
  cond (decide (v5 < 4)) (cond (q_in v5 4) (cond (decide (((s.1 11) (v5.toNatClampNeg)) &&& v3 = 0)) (k51 s v2 v3 v4 (v5 + 1)) (k51 s (v2 ||| ((1 : Int32) <<< (v5 &&& 31))) v3 v4 (v5 + 1))) none) (k7 s v2 v3 (v4 + 1))) (dz_N182_74_51 k7 m) := rfl
set_option maxHeartbeats 4000000 in
theorem dzt_N182_74_51 (c n : Nat) (k7 : q_S → Int32 → Int32 → Int32 → Option (Int32)) (s : q_S) (hk7 : ∀ (v2 : Int32) (v3 : Int32) (v4 : Int32), q_RP q_TB0 0 181 (7, [(0, .ref 74), (2, .int v2), (3, .int v3), (4, .int v4)], [], (q_kN s c n)) (q_oP (q_kN s c n)) (k7 s v2 v3 v4)) : ∀ (m : Nat) (v2 : Int32) (v3 : Int32) (v4 : Int32) (v5 : Int32), q_RP q_TB0 0 181 (51, [(0, .ref 74), (2, .int v2), (3, .int v3), (4, .int v4), (5, .int v5)], [], (q_kN s c n)) (q_oP (q_kN s c n)) (dz_N182_74_51 k7 m s v2 v3 v4 v5) := by
  intro m
  induction m with
  | zero => intro v2 v3 v4 v5; exact q_RP_no
  | succ m ih =>
    intro v2 v3 v4 v5
    have hk51 := ih
    clear ih
    rw [dzs_N182_74_51]
    generalize dz_N182_74_51 k7 m = k51 at hk51 ⊢
    dsimp only
    refine q_RP_seg (g2 := (54, [(0, .ref 74), (2, .int v2), (3, .int v3), (4, .int v4), (5, .int v5)], [.int 4, .int v5], (q_kN s c n))) 2 (fun _ _ => rfl) ?_
    cases h5 : decide (v5 < 4) with
    | true =>
      refine q_RP_cT ?_
      refine q_RP_rsF (g2 := (57, [(0, .ref 74), (2, .int v2), (3, .int v3), (4, .int v4), (5, .int v5)], [], (q_kN s c n))) rfl rfl (q_d_geT h5) ?_
      refine q_RP_seg (g2 := (63, [(0, .ref 74), (2, .int v2), (3, .int v3), (4, .int v4), (5, .int v5)], [.int v5, .ref 75], (q_kN s c n))) 3 (fun _ _ => rfl) ?_
      refine q_RP_as fun i6 => ?_
      refine q_RP_rsT (g2 := (64, [(0, .ref 74), (2, .int v2), (3, .int v3), (4, .int v4), (5, .int v5)], [.int ((s.1 11) (v5.toNatClampNeg))], (q_kN s c n))) rfl rfl i6 ?_
      refine q_RP_seg (g2 := (66, [(0, .ref 74), (2, .int v2), (3, .int v3), (4, .int v4), (5, .int v5)], [.int (((s.1 11) (v5.toNatClampNeg)) &&& v3)], (q_kN s c n))) 2 (fun _ _ => rfl) ?_
      cases h7 : decide (((s.1 11) (v5.toNatClampNeg)) &&& v3 = 0) with
      | true =>
        refine q_RP_cT ?_
        refine q_RP_rsT (g2 := (76, [(0, .ref 74), (2, .int v2), (3, .int v3), (4, .int v4), (5, .int v5)], [], (q_kN s c n))) rfl rfl h7 ?_
        refine q_RP_seg (g2 := (51, [(5, .int (v5 + 1)), (0, .ref 74), (2, .int v2), (3, .int v3), (4, .int v4)], [], (q_kN s c n))) 2 (fun _ _ => rfl) ?_
        exact q_RP_xt (q_xt_mk (q_mn1 1 rfl (q_mn1 2 rfl (q_mn1 3 rfl (q_mn1 4 rfl (q_mn1 0 rfl q_mn0))))) rfl) (hk51 v2 v3 v4 (v5 + 1))
      | false =>
        refine q_RP_cF ?_
        refine q_RP_rsF (g2 := (69, [(0, .ref 74), (2, .int v2), (3, .int v3), (4, .int v4), (5, .int v5)], [], (q_kN s c n))) rfl rfl h7 ?_
        refine q_RP_seg (g2 := (51, [(5, .int (v5 + 1)), (2, .int (v2 ||| ((1 : Int32) <<< (v5 &&& 31)))), (0, .ref 74), (3, .int v3), (4, .int v4)], [], (q_kN s c n))) 8 (fun _ _ => rfl) ?_
        exact q_RP_xt (q_xt_mk (q_mn1 2 rfl (q_mn1 1 rfl (q_mn1 3 rfl (q_mn1 4 rfl (q_mn1 0 rfl q_mn0))))) rfl) (hk51 (v2 ||| ((1 : Int32) <<< (v5 &&& 31))) v3 v4 (v5 + 1))
    | false =>
      refine q_RP_cF ?_
      refine q_RP_rsT (g2 := (82, [(0, .ref 74), (2, .int v2), (3, .int v3), (4, .int v4), (5, .int v5)], [], (q_kN s c n))) rfl rfl (q_d_geF h5) ?_
      refine q_RP_seg (g2 := (7, [(4, .int (v4 + 1)), (0, .ref 74), (2, .int v2), (3, .int v3), (5, .int v5)], [], (q_kN s c n))) 2 (fun _ _ => rfl) ?_
      exact q_RP_xt (q_xt_mk (q_mn1 1 rfl (q_mn1 2 rfl (q_mn1 3 rfl (q_mn1 0 rfl q_mn0)))) rfl) (hk7 v2 v3 (v4 + 1))
def dz_N182_74_16 (k7 : q_S → Int32 → Int32 → Int32 → Option (Int32)) (m : Nat) : q_S → Int32 → Int32 → Int32 → Int32 → Option (Int32) := Nat.rec (motive := fun _ => q_S → Int32 → Int32 → Int32 → Int32 → Option (Int32)) (fun _ _ _ _ _ => none) (fun _ k16 s v2 v3 v4 v5 =>
  cond (decide (v5 < 4)) (cond (decide ((v2 >>> (v5 &&& 31)) &&& 1 = 1)) (cond (q_in v5 4) (k16 s v2 (v3 ||| ((s.1 11) (v5.toNatClampNeg))) v4 (v5 + 1)) none) (k16 s v2 v3 v4 (v5 + 1))) (dz_N182_74_51 k7 5000 s v2 v3 v4 0)) m
theorem dzs_N182_74_16 (k7 : q_S → Int32 → Int32 → Int32 → Option (Int32)) (m : Nat) (s : q_S) (v2 : Int32) (v3 : Int32) (v4 : Int32) (v5 : Int32) : dz_N182_74_16 k7 (m + 1) s v2 v3 v4 v5 = (fun k16 : q_S → Int32 → Int32 → Int32 → Int32 → Option (Int32) =>
  cond (decide (v5 < 4)) (cond (decide ((v2 >>> (v5 &&& 31)) &&& 1 = 1)) (cond (q_in v5 4) (k16 s v2 (v3 ||| ((s.1 11) (v5.toNatClampNeg))) v4 (v5 + 1)) none) (k16 s v2 v3 v4 (v5 + 1))) (dz_N182_74_51 k7 5000 s v2 v3 v4 0)) (dz_N182_74_16 k7 m) := rfl
set_option maxHeartbeats 4000000 in
theorem dzt_N182_74_16 (c n : Nat) (k7 : q_S → Int32 → Int32 → Int32 → Option (Int32)) (s : q_S) (hk7 : ∀ (v2 : Int32) (v3 : Int32) (v4 : Int32), q_RP q_TB0 0 181 (7, [(0, .ref 74), (2, .int v2), (3, .int v3), (4, .int v4)], [], (q_kN s c n)) (q_oP (q_kN s c n)) (k7 s v2 v3 v4)) : ∀ (m : Nat) (v2 : Int32) (v3 : Int32) (v4 : Int32) (v5 : Int32), q_RP q_TB0 0 181 (16, [(0, .ref 74), (2, .int v2), (3, .int v3), (4, .int v4), (5, .int v5)], [], (q_kN s c n)) (q_oP (q_kN s c n)) (dz_N182_74_16 k7 m s v2 v3 v4 v5) := by
  intro m
  induction m with
  | zero => intro v2 v3 v4 v5; exact q_RP_no
  | succ m ih =>
    intro v2 v3 v4 v5
    have hk16 := ih
    clear ih
    rw [dzs_N182_74_16]
    generalize dz_N182_74_16 k7 m = k16 at hk16 ⊢
    dsimp only
    refine q_RP_seg (g2 := (19, [(0, .ref 74), (2, .int v2), (3, .int v3), (4, .int v4), (5, .int v5)], [.int 4, .int v5], (q_kN s c n))) 2 (fun _ _ => rfl) ?_
    cases h2 : decide (v5 < 4) with
    | true =>
      refine q_RP_cT ?_
      refine q_RP_rsF (g2 := (22, [(0, .ref 74), (2, .int v2), (3, .int v3), (4, .int v4), (5, .int v5)], [], (q_kN s c n))) rfl rfl (q_d_geT h2) ?_
      refine q_RP_seg (g2 := (29, [(0, .ref 74), (2, .int v2), (3, .int v3), (4, .int v4), (5, .int v5)], [.int 1, .int ((v2 >>> (v5 &&& 31)) &&& 1)], (q_kN s c n))) 6 (fun _ _ => rfl) ?_
      cases h3 : decide ((v2 >>> (v5 &&& 31)) &&& 1 = 1) with
      | true =>
        refine q_RP_cT ?_
        refine q_RP_rsF (g2 := (32, [(0, .ref 74), (2, .int v2), (3, .int v3), (4, .int v4), (5, .int v5)], [], (q_kN s c n))) rfl rfl (q_d_neT h3) ?_
        refine q_RP_seg (g2 := (39, [(0, .ref 74), (2, .int v2), (3, .int v3), (4, .int v4), (5, .int v5)], [.int v5, .ref 75, .int v3], (q_kN s c n))) 4 (fun _ _ => rfl) ?_
        refine q_RP_as fun i4 => ?_
        refine q_RP_rsT (g2 := (40, [(0, .ref 74), (2, .int v2), (3, .int v3), (4, .int v4), (5, .int v5)], [.int ((s.1 11) (v5.toNatClampNeg)), .int v3], (q_kN s c n))) rfl rfl i4 ?_
        refine q_RP_seg (g2 := (16, [(5, .int (v5 + 1)), (3, .int (v3 ||| ((s.1 11) (v5.toNatClampNeg)))), (0, .ref 74), (2, .int v2), (4, .int v4)], [], (q_kN s c n))) 4 (fun _ _ => rfl) ?_
        exact q_RP_xt (q_xt_mk (q_mn1 2 rfl (q_mn1 3 rfl (q_mn1 1 rfl (q_mn1 4 rfl (q_mn1 0 rfl q_mn0))))) rfl) (hk16 v2 (v3 ||| ((s.1 11) (v5.toNatClampNeg))) v4 (v5 + 1))
      | false =>
        refine q_RP_cF ?_
        refine q_RP_rsT (g2 := (42, [(0, .ref 74), (2, .int v2), (3, .int v3), (4, .int v4), (5, .int v5)], [], (q_kN s c n))) rfl rfl (q_d_neF h3) ?_
        refine q_RP_seg (g2 := (16, [(5, .int (v5 + 1)), (0, .ref 74), (2, .int v2), (3, .int v3), (4, .int v4)], [], (q_kN s c n))) 2 (fun _ _ => rfl) ?_
        exact q_RP_xt (q_xt_mk (q_mn1 1 rfl (q_mn1 2 rfl (q_mn1 3 rfl (q_mn1 4 rfl (q_mn1 0 rfl q_mn0))))) rfl) (hk16 v2 v3 v4 (v5 + 1))
    | false =>
      refine q_RP_cF ?_
      refine q_RP_rsT (g2 := (48, [(0, .ref 74), (2, .int v2), (3, .int v3), (4, .int v4), (5, .int v5)], [], (q_kN s c n))) rfl rfl (q_d_geF h2) ?_
      refine q_RP_seg (g2 := (51, [(5, .int 0), (0, .ref 74), (2, .int v2), (3, .int v3), (4, .int v4)], [], (q_kN s c n))) 2 (fun _ _ => rfl) ?_
      exact q_RP_xt (q_xt_mk (q_mn1 1 rfl (q_mn1 2 rfl (q_mn1 3 rfl (q_mn1 4 rfl (q_mn1 0 rfl q_mn0))))) rfl) (dzt_N182_74_51 c n k7 s hk7 5000 v2 v3 v4 0)
def dz_N182_74_7 (m : Nat) : q_S → Int32 → Int32 → Int32 → Option (Int32) := Nat.rec (motive := fun _ => q_S → Int32 → Int32 → Int32 → Option (Int32)) (fun _ _ _ _ => none) (fun _ k7 s v2 v3 v4 =>
  cond (decide (v4 < 4)) (dz_N182_74_16 k7 5000 s v2 v3 v4 0) (some v3)) m
theorem dzs_N182_74_7 (m : Nat) (s : q_S) (v2 : Int32) (v3 : Int32) (v4 : Int32) : dz_N182_74_7 (m + 1) s v2 v3 v4 = (fun k7 : q_S → Int32 → Int32 → Int32 → Option (Int32) =>
  cond (decide (v4 < 4)) (dz_N182_74_16 k7 5000 s v2 v3 v4 0) (some v3)) (dz_N182_74_7 m) := rfl
set_option maxHeartbeats 4000000 in
theorem dzt_N182_74_7 (c n : Nat) (s : q_S) : ∀ (m : Nat) (v2 : Int32) (v3 : Int32) (v4 : Int32), q_RP q_TB0 0 181 (7, [(0, .ref 74), (2, .int v2), (3, .int v3), (4, .int v4)], [], (q_kN s c n)) (q_oP (q_kN s c n)) (dz_N182_74_7 m s v2 v3 v4) := by
  intro m
  induction m with
  | zero => intro v2 v3 v4; exact q_RP_no
  | succ m ih =>
    intro v2 v3 v4
    have hk7 := ih
    clear ih
    rw [dzs_N182_74_7]
    generalize dz_N182_74_7 m = k7 at hk7 ⊢
    dsimp only
    refine q_RP_seg (g2 := (10, [(0, .ref 74), (2, .int v2), (3, .int v3), (4, .int v4)], [.int 4, .int v4], (q_kN s c n))) 2 (fun _ _ => rfl) ?_
    cases h1 : decide (v4 < 4) with
    | true =>
      refine q_RP_cT ?_
      refine q_RP_rsF (g2 := (13, [(0, .ref 74), (2, .int v2), (3, .int v3), (4, .int v4)], [], (q_kN s c n))) rfl rfl (q_d_geT h1) ?_
      refine q_RP_seg (g2 := (16, [(5, .int 0), (0, .ref 74), (2, .int v2), (3, .int v3), (4, .int v4)], [], (q_kN s c n))) 2 (fun _ _ => rfl) ?_
      exact q_RP_xt (q_xt_mk (q_mn1 1 rfl (q_mn1 2 rfl (q_mn1 3 rfl (q_mn1 4 rfl (q_mn1 0 rfl q_mn0))))) rfl) (dzt_N182_74_16 c n k7 s hk7 5000 v2 v3 v4 0)
    | false =>
      refine q_RP_cF ?_
      refine q_RP_rsT (g2 := (88, [(0, .ref 74), (2, .int v2), (3, .int v3), (4, .int v4)], [], (q_kN s c n))) rfl rfl (q_d_geF h1) ?_
      refine q_RP_seg (g2 := (89, [(0, .ref 74), (2, .int v2), (3, .int v3), (4, .int v4)], [.int v3], (q_kN s c n))) 1 (fun _ _ => rfl) ?_
      exact q_RP_ret rfl rfl rfl
def dz_N182_74 (s : q_S) (a1 : Int32) : Option (Int32) :=
  dz_N182_74_7 5000 s a1 0 0
set_option maxHeartbeats 4000000 in
theorem dzt_N182_74 (s : q_S) (c n : Nat) (a1 : Int32) (x : Int32) (h : dz_N182_74 s a1 = some x) : q_Ca q_TB0 1 181 [.ref 74, .int a1] (q_kN s c n) ((q_oP (q_kN s c n)) x) := by
  refine q_CaP_of (φ := (q_oP (q_kN s c n))) (Nat.le_of_ble_eq_true rfl) ?_ h
  clear h
  unfold dz_N182_74
  refine q_RP_seg (g2 := (7, [(4, .int 0), (3, .int 0), (2, .int a1), (0, .ref 74), (1, .int a1)], [], (q_kN s c n))) 6 (fun _ _ => rfl) ?_
  exact q_RP_xt (q_xt_mk (q_mn1 3 rfl (q_mn1 2 rfl (q_mn1 1 rfl (q_mn1 0 rfl q_mn0)))) rfl) (dzt_N182_74_7 c n s 5000 a1 0 0)
def dz_N181_74_45 (m : Nat) : q_S → Int32 → Int32 → Option (q_S × Int32) := Nat.rec (motive := fun _ => q_S → Int32 → Int32 → Option (q_S × Int32)) (fun _ _ _ => none) (fun _ k45 s v5 v6 =>
  cond (decide (15 < v6)) (some (s, v5)) ((dz_N182_74 s v6).bind fun r2 => cond (q_in v6 16) (k45 (q_sA s 12 (upd (s.1 12) (v6.toNatClampNeg) r2)) v5 (v6 + 1)) none)) m
theorem dzs_N181_74_45 (m : Nat) (s : q_S) (v5 : Int32) (v6 : Int32) : dz_N181_74_45 (m + 1) s v5 v6 = (fun k45 : q_S → Int32 → Int32 → Option (q_S × Int32) =>
  cond (decide (15 < v6)) (some (s, v5)) ((dz_N182_74 s v6).bind fun r2 => cond (q_in v6 16) (k45 (q_sA s 12 (upd (s.1 12) (v6.toNatClampNeg) r2)) v5 (v6 + 1)) none)) (dz_N181_74_45 m) := rfl
set_option maxHeartbeats 4000000 in
theorem dzt_N181_74_45 (c n : Nat) : ∀ (m : Nat) (s : q_S) (v5 : Int32) (v6 : Int32), q_RP q_TB0 1 180 (45, [(0, .ref 74), (5, .int v5), (6, .int v6)], [], (q_kN s c n)) (q_oIN c n) (dz_N181_74_45 m s v5 v6) := by
  intro m
  induction m with
  | zero => intro s v5 v6; exact q_RP_no
  | succ m ih =>
    intro s v5 v6
    have hk45 := ih
    clear ih
    rw [dzs_N181_74_45]
    generalize dz_N181_74_45 m = k45 at hk45 ⊢
    dsimp only
    refine q_RP_seg (g2 := (49, [(0, .ref 74), (5, .int v5), (6, .int v6)], [.int 15, .int v6], (q_kN s c n))) 2 (fun _ _ => rfl) ?_
    cases h1 : decide (15 < v6) with
    | true =>
      refine q_RP_cT ?_
      refine q_RP_rsT (g2 := (71, [(0, .ref 74), (5, .int v5), (6, .int v6)], [], (q_kN s c n))) rfl rfl h1 ?_
      refine q_RP_seg (g2 := (73, [(0, .ref 74), (5, .int v5), (6, .int v6)], [.int v5], (q_kN s c n))) 1 (fun _ _ => rfl) ?_
      exact q_RP_ret rfl rfl rfl
    | false =>
      refine q_RP_cF ?_
      refine q_RP_rsF (g2 := (52, [(0, .ref 74), (5, .int v5), (6, .int v6)], [], (q_kN s c n))) rfl rfl h1 ?_
      refine q_RP_seg (g2 := (61, [(0, .ref 74), (5, .int v5), (6, .int v6)], [.int v6, .ref 74, .int v6, .ref 76], (q_kN s c n))) 5 (fun _ _ => rfl) ?_
      refine q_RP_bd fun r2 er2 => ?_
      refine q_RP_call (v := (some (.int r2))) (h2 := (q_kN s c n)) rfl rfl ((dzt_N182_74 s c n v6 r2 er2).le (Nat.le_of_ble_eq_true rfl)) ?_
      show q_RP _ _ _ (64, [(0, .ref 74), (5, .int v5), (6, .int v6)], [.int r2, .int v6, .ref 76], (q_kN s c n)) _ _
      refine q_RP_as fun i2 => ?_
      refine q_RP_rsT (g2 := (65, [(0, .ref 74), (5, .int v5), (6, .int v6)], [], (q_kN (q_sA s 12 (upd (s.1 12) (v6.toNatClampNeg) r2)) c n))) rfl rfl i2 ?_
      refine q_RP_seg (g2 := (45, [(6, .int (v6 + 1)), (0, .ref 74), (5, .int v5)], [], (q_kN (q_sA s 12 (upd (s.1 12) (v6.toNatClampNeg) r2)) c n))) 2 (fun _ _ => rfl) ?_
      exact q_RP_xt (q_xt_mk (q_mn1 1 rfl (q_mn1 2 rfl (q_mn1 0 rfl q_mn0))) rfl) (hk45 (q_sA s 12 (upd (s.1 12) (v6.toNatClampNeg) r2)) v5 (v6 + 1))
def dz_N181_74 (s : q_S) (a1 : Int32) (a2 : Int32) (a3 : Int32) : Option (q_S × Int32) :=
  q_let ((((s.1 11) ((a1 &&& 3).toNatClampNeg)) >>> (a2 &&& 31)) &&& 1) fun x1 => dz_N181_74_45 5000 (q_sA s 11 (upd (s.1 11) ((a1 &&& 3).toNatClampNeg) ((((s.1 11) ((a1 &&& 3).toNatClampNeg)) &&& (((1 : Int32) <<< (a2 &&& 31)) ^^^ (-1))) ||| (a3 <<< (a2 &&& 31))))) x1 0
set_option maxHeartbeats 4000000 in
theorem dzt_N181_74 (s : q_S) (c n : Nat) (a1 : Int32) (a2 : Int32) (a3 : Int32) (x : q_S × Int32) (h : dz_N181_74 s a1 a2 a3 = some x) : q_Ca q_TB0 2 180 [.ref 74, .int a1, .int a2, .int a3] (q_kN s c n) ((q_oIN c n) x) := by
  refine q_CaP_of (φ := (q_oIN c n)) (Nat.le_of_ble_eq_true rfl) ?_ h
  clear h
  unfold dz_N181_74
  refine q_RP_seg (g2 := (11, [(4, .int (a1 &&& 3)), (0, .ref 74), (1, .int a1), (2, .int a2), (3, .int a3)], [.int (a1 &&& 3), .ref 75], (q_kN s c n))) 7 (fun _ _ => rfl) ?_
  refine q_RP_rsT (g2 := (12, [(4, .int (a1 &&& 3)), (0, .ref 74), (1, .int a1), (2, .int a2), (3, .int a3)], [.int ((s.1 11) ((a1 &&& 3).toNatClampNeg))], (q_kN s c n))) rfl rfl (q_in_bd (x := a1 &&& 3) (n := 4) (U := 3) (L := 0) (q_and_lo a1 3) (q_and_hi a1 3 3)) ?_
  refine q_RP_seg (g2 := (16, [(4, .int (a1 &&& 3)), (0, .ref 74), (1, .int a1), (2, .int a2), (3, .int a3)], [.int ((((s.1 11) ((a1 &&& 3).toNatClampNeg)) >>> (a2 &&& 31)) &&& 1)], (q_kN s c n))) 4 (fun _ _ => rfl) ?_
  generalize ((((s.1 11) ((a1 &&& 3).toNatClampNeg)) >>> (a2 &&& 31)) &&& 1) = x1
  refine q_RP_let ?_
  show q_RP _ _ _ (16, [(4, .int (a1 &&& 3)), (0, .ref 74), (1, .int a1), (2, .int a2), (3, .int a3)], [.int x1], (q_kN s c n)) _ _
  refine q_RP_seg (g2 := (30, [(5, .int x1), (4, .int (a1 &&& 3)), (0, .ref 74), (1, .int a1), (2, .int a2), (3, .int a3)], [.int (a1 &&& 3), .ref 75, .int (a1 &&& 3), .ref 75], (q_kN s c n))) 7 (fun _ _ => rfl) ?_
  refine q_RP_rsT (g2 := (31, [(5, .int x1), (4, .int (a1 &&& 3)), (0, .ref 74), (1, .int a1), (2, .int a2), (3, .int a3)], [.int ((s.1 11) ((a1 &&& 3).toNatClampNeg)), .int (a1 &&& 3), .ref 75], (q_kN s c n))) rfl rfl (q_in_bd (x := a1 &&& 3) (n := 4) (U := 3) (L := 0) (q_and_lo a1 3) (q_and_hi a1 3 3)) ?_
  refine q_RP_seg (g2 := (41, [(5, .int x1), (4, .int (a1 &&& 3)), (0, .ref 74), (1, .int a1), (2, .int a2), (3, .int a3)], [.int ((((s.1 11) ((a1 &&& 3).toNatClampNeg)) &&& (((1 : Int32) <<< (a2 &&& 31)) ^^^ (-1))) ||| (a3 <<< (a2 &&& 31))), .int (a1 &&& 3), .ref 75], (q_kN s c n))) 10 (fun _ _ => rfl) ?_
  refine q_RP_rsT (g2 := (42, [(5, .int x1), (4, .int (a1 &&& 3)), (0, .ref 74), (1, .int a1), (2, .int a2), (3, .int a3)], [], (q_kN (q_sA s 11 (upd (s.1 11) ((a1 &&& 3).toNatClampNeg) ((((s.1 11) ((a1 &&& 3).toNatClampNeg)) &&& (((1 : Int32) <<< (a2 &&& 31)) ^^^ (-1))) ||| (a3 <<< (a2 &&& 31))))) c n))) rfl rfl (q_in_bd (x := a1 &&& 3) (n := 4) (U := 3) (L := 0) (q_and_lo a1 3) (q_and_hi a1 3 3)) ?_
  refine q_RP_seg (g2 := (45, [(6, .int 0), (5, .int x1), (4, .int (a1 &&& 3)), (0, .ref 74), (1, .int a1), (2, .int a2), (3, .int a3)], [], (q_kN (q_sA s 11 (upd (s.1 11) ((a1 &&& 3).toNatClampNeg) ((((s.1 11) ((a1 &&& 3).toNatClampNeg)) &&& (((1 : Int32) <<< (a2 &&& 31)) ^^^ (-1))) ||| (a3 <<< (a2 &&& 31))))) c n))) 2 (fun _ _ => rfl) ?_
  exact q_RP_xt (q_xt_mk (q_mn1 3 rfl (q_mn1 1 rfl (q_mn1 0 rfl q_mn0))) rfl) (dzt_N181_74_45 c n 5000 (q_sA s 11 (upd (s.1 11) ((a1 &&& 3).toNatClampNeg) ((((s.1 11) ((a1 &&& 3).toNatClampNeg)) &&& (((1 : Int32) <<< (a2 &&& 31)) ^^^ (-1))) ||| (a3 <<< (a2 &&& 31))))) x1 0)
def dz_N180_74 (s : q_S) (a1 : Int32) : q_S × Int32 :=
  ((q_sI s 10 2 a1), (s.2.1 10 2))
set_option maxHeartbeats 4000000 in
theorem dzt_N180_74 (s : q_S) (c n : Nat) (a1 : Int32) : q_Ca q_TB0 1 179 [.ref 74, .int a1] (q_kN s c n) ((q_oIN c n) (dz_N180_74 s a1)) := by
  refine q_CaT_of (φ := (q_oIN c n)) (Nat.le_of_ble_eq_true rfl) ?_
  unfold dz_N180_74
  refine q_RT_seg (g2 := (4, [(0, .ref 74), (1, .int a1)], [.int (s.2.1 10 2)], (q_kN s c n))) 2 (fun _ _ => rfl) ?_
  refine q_RT_seg (g2 := (11, [(2, .int (s.2.1 10 2)), (0, .ref 74), (1, .int a1)], [.int (s.2.1 10 2)], (q_kN (q_sI s 10 2 a1) c n))) 5 (fun _ _ => rfl) ?_
  exact q_RT_ret rfl rfl rfl
def dz_N175_72 (s : q_S) (a1 : Int32) : q_S × Int32 :=
  cond (decide (s.2.1 8 1 < 0)) ((s, (s.2.1 8 1))) (cond (decide (s.2.1 8 1 < 40)) (((q_sI (q_sA s 9 (upd (s.1 9) ((s.2.1 8 1).toNatClampNeg) a1)) 8 1 ((s.2.1 8 1) + 1)), ((s.2.1 8 1) + 1))) ((s, (s.2.1 8 1))))
set_option maxHeartbeats 4000000 in
theorem dzt_N175_72 (s : q_S) (c n : Nat) (a1 : Int32) : q_Ca q_TB0 1 174 [.ref 72, .int a1] (q_kN s c n) ((q_oIN c n) (dz_N175_72 s a1)) := by
  refine q_CaT_of (φ := (q_oIN c n)) (Nat.le_of_ble_eq_true rfl) ?_
  unfold dz_N175_72
  refine q_RT_seg (g2 := (4, [(0, .ref 72), (1, .int a1)], [.int (s.2.1 8 1)], (q_kN s c n))) 2 (fun _ _ => rfl) ?_
  cases h1 : decide (s.2.1 8 1 < 0) with
  | true =>
    refine q_RT_cT ?_
    refine q_RT_rsT (g2 := (36, [(0, .ref 72), (1, .int a1)], [], (q_kN s c n))) rfl rfl h1 ?_
    refine q_RT_seg (g2 := (40, [(0, .ref 72), (1, .int a1)], [.int (s.2.1 8 1)], (q_kN s c n))) 2 (fun _ _ => rfl) ?_
    exact q_RT_ret rfl rfl rfl
  | false =>
    refine q_RT_cF ?_
    refine q_RT_rsF (g2 := (7, [(0, .ref 72), (1, .int a1)], [], (q_kN s c n))) rfl rfl h1 ?_
    refine q_RT_seg (g2 := (11, [(0, .ref 72), (1, .int a1)], [.int (s.2.1 8 1)], (q_kN s c n))) 2 (fun _ _ => rfl) ?_
    refine q_RT_seg (g2 := (13, [(0, .ref 72), (1, .int a1)], [.int 40, .int (s.2.1 8 1)], (q_kN s c n))) 1 (fun _ _ => rfl) ?_
    cases h2 : decide (s.2.1 8 1 < 40) with
    | true =>
      refine q_RT_cT ?_
      refine q_RT_rsF (g2 := (16, [(0, .ref 72), (1, .int a1)], [], (q_kN s c n))) rfl rfl (q_d_geT h2) ?_
      refine q_RT_seg (g2 := (24, [(0, .ref 72), (1, .int a1)], [.int (s.2.1 8 1), .ref 73], (q_kN s c n))) 4 (fun _ _ => rfl) ?_
      refine q_RT_seg (g2 := (25, [(0, .ref 72), (1, .int a1)], [.int a1, .int (s.2.1 8 1), .ref 73], (q_kN s c n))) 1 (fun _ _ => rfl) ?_
      refine q_RT_rsT (g2 := (26, [(0, .ref 72), (1, .int a1)], [], (q_kN (q_sA s 9 (upd (s.1 9) ((s.2.1 8 1).toNatClampNeg) a1)) c n))) rfl rfl (q_in_bd (x := s.2.1 8 1) (n := 40) (U := 39) (L := 0) (q_lo1 h1) (q_hi1 h2)) ?_
      refine q_RT_seg (g2 := (31, [(0, .ref 72), (1, .int a1)], [.int (s.2.1 8 1), .ref 72], (q_kN (q_sA s 9 (upd (s.1 9) ((s.2.1 8 1).toNatClampNeg) a1)) c n))) 3 (fun _ _ => rfl) ?_
      refine q_RT_seg (g2 := (40, [(0, .ref 72), (1, .int a1)], [.int ((s.2.1 8 1) + 1)], (q_kN (q_sI (q_sA s 9 (upd (s.1 9) ((s.2.1 8 1).toNatClampNeg) a1)) 8 1 ((s.2.1 8 1) + 1)) c n))) 5 (fun _ _ => rfl) ?_
      exact q_RT_ret rfl rfl rfl
    | false =>
      refine q_RT_cF ?_
      refine q_RT_rsT (g2 := (36, [(0, .ref 72), (1, .int a1)], [], (q_kN s c n))) rfl rfl (q_d_geF h2) ?_
      refine q_RT_seg (g2 := (40, [(0, .ref 72), (1, .int a1)], [.int (s.2.1 8 1)], (q_kN s c n))) 2 (fun _ _ => rfl) ?_
      exact q_RT_ret rfl rfl rfl
def dz_N176_72 (s : q_S) : q_S × Int32 :=
  ((q_sI (q_sI s 8 2 0) 8 3 0), (s.2.1 8 2))
set_option maxHeartbeats 4000000 in
theorem dzt_N176_72 (s : q_S) (c n : Nat) : q_Ca q_TB0 1 175 [.ref 72] (q_kN s c n) ((q_oIN c n) (dz_N176_72 s)) := by
  refine q_CaT_of (φ := (q_oIN c n)) (Nat.le_of_ble_eq_true rfl) ?_
  unfold dz_N176_72
  refine q_RT_seg (g2 := (4, [(0, .ref 72)], [.int (s.2.1 8 2)], (q_kN s c n))) 2 (fun _ _ => rfl) ?_
  refine q_RT_seg (g2 := (16, [(1, .int (s.2.1 8 2)), (0, .ref 72)], [.int (s.2.1 8 2)], (q_kN (q_sI (q_sI s 8 2 0) 8 3 0) c n))) 8 (fun _ _ => rfl) ?_
  exact q_RT_ret rfl rfl rfl
def dz_N79_64 (s : q_S) (a1 : Int32) (a2 : Int32) (a3 : Int32) (a4 : Int32) : Option (q_S × Int32) :=
  cond (decide (a1 < 0)) (some (s, 0)) (cond (decide (12 < a1)) (some (s, 0)) (cond (decide (a1 = 0)) ((dz_N97_65 s a2 a3).bind fun r2 => some (r2.1, r2.2)) (cond (decide (a1 = 1)) (q_let (dz_N98_65 s a2 a3) fun r3 => some (r3.1, r3.2)) (cond (decide (a1 = 2)) (q_let (dz_N99_65 s ((512 * a2) + a3) a4) fun r4 => some (r4.1, r4.2)) (cond (decide (a1 = 3)) ((dz_N100_65 s a2 a3 a4).bind fun r5 => some (r5.1, r5.2)) (cond (decide (a1 = 4)) (q_let (dz_N134_87 s a2 a3) fun r6 => some (r6.1, r6.2)) (cond (decide (a1 = 5)) ((dz_N80_64 s).bind fun r7 => some (r7.1, r7.2)) (cond (decide (a1 = 6)) ((dz_N81_64 s).bind fun r8 => some (r8.1, r8.2)) (cond (decide (a1 = 7)) ((dz_N82_64_f s a2).bind fun r9 => some (r9.1, r9.2)) (cond (decide (a1 = 8)) ((dz_N82_64_t s 200).bind fun r10 => some (r10.1, r10.2)) (cond (decide (a1 = 9)) ((dz_N181_74 s a2 a3 a4).bind fun r11 => some (r11.1, r11.2)) (cond (decide (a1 = 10)) (q_let (dz_N180_74 s a2) fun r12 => some (r12.1, r12.2)) (cond (decide (a1 = 11)) (q_let (dz_N175_72 s a2) fun r13 => some (r13.1, r13.2)) (q_let (dz_N176_72 s) fun r14 => some (r14.1, r14.2)))))))))))))))
set_option maxHeartbeats 4000000 in
theorem dzt_N79_64 (s : q_S) (c n : Nat) (a1 : Int32) (a2 : Int32) (a3 : Int32) (a4 : Int32) (x : q_S × Int32) (h : dz_N79_64 s a1 a2 a3 a4 = some x) : q_Ca q_TB0 7 78 [.ref 64, .int a1, .int a2, .int a3, .int a4] (q_kN s c n) ((q_oIN c n) x) := by
  refine q_CaP_of (φ := (q_oIN c n)) (Nat.le_of_ble_eq_true rfl) ?_ h
  clear h
  unfold dz_N79_64
  refine q_RP_seg (g2 := (1, [(0, .ref 64), (1, .int a1), (2, .int a2), (3, .int a3), (4, .int a4)], [.int a1], (q_kN s c n))) 1 (fun _ _ => rfl) ?_
  cases h4 : decide (a1 < 0) with
  | true =>
    refine q_RP_cT ?_
    refine q_RP_st1 (g2 := (203, [(0, .ref 64), (1, .int a1), (2, .int a2), (3, .int a3), (4, .int a4)], [], (q_kN s c n))) rfl (if_pos (Or.inl (Int32.lt_iff_toInt_lt.mp (of_decide_eq_true h4)))) ?_
    refine q_RP_seg (g2 := (204, [(0, .ref 64), (1, .int a1), (2, .int a2), (3, .int a3), (4, .int a4)], [.int 0], (q_kN s c n))) 1 (fun _ _ => rfl) ?_
    exact q_RP_ret rfl rfl rfl
  | false =>
    refine q_RP_cF ?_
    cases h5 : decide (12 < a1) with
    | true =>
      refine q_RP_cT ?_
      refine q_RP_st1 (g2 := (203, [(0, .ref 64), (1, .int a1), (2, .int a2), (3, .int a3), (4, .int a4)], [], (q_kN s c n))) rfl (if_pos (Or.inr (Int32.lt_iff_toInt_lt.mp (of_decide_eq_true h5)))) ?_
      refine q_RP_seg (g2 := (204, [(0, .ref 64), (1, .int a1), (2, .int a2), (3, .int a3), (4, .int a4)], [.int 0], (q_kN s c n))) 1 (fun _ _ => rfl) ?_
      exact q_RP_ret rfl rfl rfl
    | false =>
      refine q_RP_cF ?_
      cases h6 : decide (a1 = 0) with
      | true =>
        refine q_RP_cT ?_
        refine q_RP_st1 (g2 := (68, [(0, .ref 64), (1, .int a1), (2, .int a2), (3, .int a3), (4, .int a4)], [], (q_kN s c n))) rfl (by rw [of_decide_eq_true h6]; rfl) ?_
        refine q_RP_seg (g2 := (74, [(0, .ref 64), (1, .int a1), (2, .int a2), (3, .int a3), (4, .int a4)], [.int a3, .int a2, .ref 65], (q_kN s c n))) 4 (fun _ _ => rfl) ?_
        refine q_RP_bd fun r2 er2 => ?_
        refine q_RP_call (v := (some (.int r2.2))) (h2 := (q_kN r2.1 c n)) rfl rfl ((dzt_N97_65 s c n a2 a3 r2 er2).le (Nat.le_of_ble_eq_true rfl)) ?_
        show q_RP _ _ _ (77, [(0, .ref 64), (1, .int a1), (2, .int a2), (3, .int a3), (4, .int a4)], [.int r2.2], (q_kN r2.1 c n)) _ _
        exact q_RP_ret rfl rfl rfl
      | false =>
        refine q_RP_cF ?_
        cases h7 : decide (a1 = 1) with
        | true =>
          refine q_RP_cT ?_
          refine q_RP_st1 (g2 := (78, [(0, .ref 64), (1, .int a1), (2, .int a2), (3, .int a3), (4, .int a4)], [], (q_kN s c n))) rfl (by rw [of_decide_eq_true h7]; rfl) ?_
          refine q_RP_seg (g2 := (84, [(0, .ref 64), (1, .int a1), (2, .int a2), (3, .int a3), (4, .int a4)], [.int a3, .int a2, .ref 65], (q_kN s c n))) 4 (fun _ _ => rfl) ?_
          refine q_RP_call (v := (some (.int (dz_N98_65 s a2 a3).2))) (h2 := (q_kN (dz_N98_65 s a2 a3).1 c n)) rfl rfl ((dzt_N98_65 s c n a2 a3).le (Nat.le_of_ble_eq_true rfl)) ?_
          generalize dz_N98_65 s a2 a3 = r3
          refine q_RP_let ?_
          show q_RP _ _ _ (87, [(0, .ref 64), (1, .int a1), (2, .int a2), (3, .int a3), (4, .int a4)], [.int r3.2], (q_kN r3.1 c n)) _ _
          exact q_RP_ret rfl rfl rfl
        | false =>
          refine q_RP_cF ?_
          cases h8 : decide (a1 = 2) with
          | true =>
            refine q_RP_cT ?_
            refine q_RP_st1 (g2 := (88, [(0, .ref 64), (1, .int a1), (2, .int a2), (3, .int a3), (4, .int a4)], [], (q_kN s c n))) rfl (by rw [of_decide_eq_true h8]; rfl) ?_
            refine q_RP_seg (g2 := (101, [(0, .ref 64), (1, .int a1), (2, .int a2), (3, .int a3), (4, .int a4)], [.int a4, .int ((512 * a2) + a3), .ref 65], (q_kN s c n))) 8 (fun _ _ => rfl) ?_
            refine q_RP_call (v := (some (.int (dz_N99_65 s ((512 * a2) + a3) a4).2))) (h2 := (q_kN (dz_N99_65 s ((512 * a2) + a3) a4).1 c n)) rfl rfl ((dzt_N99_65 s c n ((512 * a2) + a3) a4).le (Nat.le_of_ble_eq_true rfl)) ?_
            generalize dz_N99_65 s ((512 * a2) + a3) a4 = r4
            refine q_RP_let ?_
            show q_RP _ _ _ (104, [(0, .ref 64), (1, .int a1), (2, .int a2), (3, .int a3), (4, .int a4)], [.int r4.2], (q_kN r4.1 c n)) _ _
            exact q_RP_ret rfl rfl rfl
          | false =>
            refine q_RP_cF ?_
            cases h9 : decide (a1 = 3) with
            | true =>
              refine q_RP_cT ?_
              refine q_RP_st1 (g2 := (105, [(0, .ref 64), (1, .int a1), (2, .int a2), (3, .int a3), (4, .int a4)], [], (q_kN s c n))) rfl (by rw [of_decide_eq_true h9]; rfl) ?_
              refine q_RP_seg (g2 := (113, [(0, .ref 64), (1, .int a1), (2, .int a2), (3, .int a3), (4, .int a4)], [.int a4, .int a3, .int a2, .ref 65], (q_kN s c n))) 5 (fun _ _ => rfl) ?_
              refine q_RP_bd fun r5 er5 => ?_
              refine q_RP_call (v := (some (.int r5.2))) (h2 := (q_kN r5.1 c n)) rfl rfl ((dzt_N100_65 s c n a2 a3 a4 r5 er5).le (Nat.le_of_ble_eq_true rfl)) ?_
              show q_RP _ _ _ (116, [(0, .ref 64), (1, .int a1), (2, .int a2), (3, .int a3), (4, .int a4)], [.int r5.2], (q_kN r5.1 c n)) _ _
              exact q_RP_ret rfl rfl rfl
            | false =>
              refine q_RP_cF ?_
              cases h10 : decide (a1 = 4) with
              | true =>
                refine q_RP_cT ?_
                refine q_RP_st1 (g2 := (117, [(0, .ref 64), (1, .int a1), (2, .int a2), (3, .int a3), (4, .int a4)], [], (q_kN s c n))) rfl (by rw [of_decide_eq_true h10]; rfl) ?_
                refine q_RP_seg (g2 := (123, [(0, .ref 64), (1, .int a1), (2, .int a2), (3, .int a3), (4, .int a4)], [.int a3, .int a2, .ref 87], (q_kN s c n))) 4 (fun _ _ => rfl) ?_
                refine q_RP_call (v := (some (.int (dz_N134_87 s a2 a3).2))) (h2 := (q_kN (dz_N134_87 s a2 a3).1 c n)) rfl rfl ((dzt_N134_87 s c n a2 a3).le (Nat.le_of_ble_eq_true rfl)) ?_
                generalize dz_N134_87 s a2 a3 = r6
                refine q_RP_let ?_
                show q_RP _ _ _ (126, [(0, .ref 64), (1, .int a1), (2, .int a2), (3, .int a3), (4, .int a4)], [.int r6.2], (q_kN r6.1 c n)) _ _
                exact q_RP_ret rfl rfl rfl
              | false =>
                refine q_RP_cF ?_
                cases h11 : decide (a1 = 5) with
                | true =>
                  refine q_RP_cT ?_
                  refine q_RP_st1 (g2 := (127, [(0, .ref 64), (1, .int a1), (2, .int a2), (3, .int a3), (4, .int a4)], [], (q_kN s c n))) rfl (by rw [of_decide_eq_true h11]; rfl) ?_
                  refine q_RP_seg (g2 := (128, [(0, .ref 64), (1, .int a1), (2, .int a2), (3, .int a3), (4, .int a4)], [.ref 64], (q_kN s c n))) 1 (fun _ _ => rfl) ?_
                  refine q_RP_bd fun r7 er7 => ?_
                  refine q_RP_call (v := (some (.int r7.2))) (h2 := (q_kN r7.1 c n)) rfl rfl ((dzt_N80_64 s c n r7 er7).le (Nat.le_of_ble_eq_true rfl)) ?_
                  show q_RP _ _ _ (131, [(0, .ref 64), (1, .int a1), (2, .int a2), (3, .int a3), (4, .int a4)], [.int r7.2], (q_kN r7.1 c n)) _ _
                  exact q_RP_ret rfl rfl rfl
                | false =>
                  refine q_RP_cF ?_
                  cases h12 : decide (a1 = 6) with
                  | true =>
                    refine q_RP_cT ?_
                    refine q_RP_st1 (g2 := (132, [(0, .ref 64), (1, .int a1), (2, .int a2), (3, .int a3), (4, .int a4)], [], (q_kN s c n))) rfl (by rw [of_decide_eq_true h12]; rfl) ?_
                    refine q_RP_seg (g2 := (133, [(0, .ref 64), (1, .int a1), (2, .int a2), (3, .int a3), (4, .int a4)], [.ref 64], (q_kN s c n))) 1 (fun _ _ => rfl) ?_
                    refine q_RP_bd fun r8 er8 => ?_
                    refine q_RP_call (v := (some (.int r8.2))) (h2 := (q_kN r8.1 c n)) rfl rfl ((dzt_N81_64 s c n r8 er8).le (Nat.le_of_ble_eq_true rfl)) ?_
                    show q_RP _ _ _ (136, [(0, .ref 64), (1, .int a1), (2, .int a2), (3, .int a3), (4, .int a4)], [.int r8.2], (q_kN r8.1 c n)) _ _
                    exact q_RP_ret rfl rfl rfl
                  | false =>
                    refine q_RP_cF ?_
                    cases h13 : decide (a1 = 7) with
                    | true =>
                      refine q_RP_cT ?_
                      refine q_RP_st1 (g2 := (137, [(0, .ref 64), (1, .int a1), (2, .int a2), (3, .int a3), (4, .int a4)], [], (q_kN s c n))) rfl (by rw [of_decide_eq_true h13]; rfl) ?_
                      refine q_RP_seg (g2 := (140, [(0, .ref 64), (1, .int a1), (2, .int a2), (3, .int a3), (4, .int a4)], [.int 0, .int a2, .ref 64], (q_kN s c n))) 3 (fun _ _ => rfl) ?_
                      refine q_RP_bd fun r9 er9 => ?_
                      refine q_RP_call (v := (some (.int r9.2))) (h2 := (q_kN r9.1 c n)) rfl rfl ((dzt_N82_64_f s c n a2 r9 er9).le (Nat.le_of_ble_eq_true rfl)) ?_
                      show q_RP _ _ _ (143, [(0, .ref 64), (1, .int a1), (2, .int a2), (3, .int a3), (4, .int a4)], [.int r9.2], (q_kN r9.1 c n)) _ _
                      exact q_RP_ret rfl rfl rfl
                    | false =>
                      refine q_RP_cF ?_
                      cases h14 : decide (a1 = 8) with
                      | true =>
                        refine q_RP_cT ?_
                        refine q_RP_st1 (g2 := (144, [(0, .ref 64), (1, .int a1), (2, .int a2), (3, .int a3), (4, .int a4)], [], (q_kN s c n))) rfl (by rw [of_decide_eq_true h14]; rfl) ?_
                        refine q_RP_seg (g2 := (149, [(0, .ref 64), (1, .int a1), (2, .int a2), (3, .int a3), (4, .int a4)], [.int 1, .int 200, .ref 64], (q_kN s c n))) 3 (fun _ _ => rfl) ?_
                        refine q_RP_bd fun r10 er10 => ?_
                        refine q_RP_call (v := (some (.int r10.2))) (h2 := (q_kN r10.1 c n)) rfl rfl ((dzt_N82_64_t s c n 200 r10 er10).le (Nat.le_of_ble_eq_true rfl)) ?_
                        show q_RP _ _ _ (152, [(0, .ref 64), (1, .int a1), (2, .int a2), (3, .int a3), (4, .int a4)], [.int r10.2], (q_kN r10.1 c n)) _ _
                        exact q_RP_ret rfl rfl rfl
                      | false =>
                        refine q_RP_cF ?_
                        cases h15 : decide (a1 = 9) with
                        | true =>
                          refine q_RP_cT ?_
                          refine q_RP_st1 (g2 := (153, [(0, .ref 64), (1, .int a1), (2, .int a2), (3, .int a3), (4, .int a4)], [], (q_kN s c n))) rfl (by rw [of_decide_eq_true h15]; rfl) ?_
                          refine q_RP_seg (g2 := (164, [(0, .ref 64), (1, .int a1), (2, .int a2), (3, .int a3), (4, .int a4)], [.int a4, .int a3, .int a2, .ref 74], (q_kN s c n))) 6 (fun _ _ => rfl) ?_
                          refine q_RP_bd fun r11 er11 => ?_
                          refine q_RP_call (v := (some (.int r11.2))) (h2 := (q_kN r11.1 c n)) rfl rfl ((dzt_N181_74 s c n a2 a3 a4 r11 er11).le (Nat.le_of_ble_eq_true rfl)) ?_
                          show q_RP _ _ _ (167, [(0, .ref 64), (1, .int a1), (2, .int a2), (3, .int a3), (4, .int a4)], [.int r11.2], (q_kN r11.1 c n)) _ _
                          exact q_RP_ret rfl rfl rfl
                        | false =>
                          refine q_RP_cF ?_
                          cases h16 : decide (a1 = 10) with
                          | true =>
                            refine q_RP_cT ?_
                            refine q_RP_st1 (g2 := (168, [(0, .ref 64), (1, .int a1), (2, .int a2), (3, .int a3), (4, .int a4)], [], (q_kN s c n))) rfl (by rw [of_decide_eq_true h16]; rfl) ?_
                            refine q_RP_seg (g2 := (176, [(0, .ref 64), (1, .int a1), (2, .int a2), (3, .int a3), (4, .int a4)], [.int a2, .ref 74], (q_kN s c n))) 4 (fun _ _ => rfl) ?_
                            refine q_RP_call (v := (some (.int (dz_N180_74 s a2).2))) (h2 := (q_kN (dz_N180_74 s a2).1 c n)) rfl rfl ((dzt_N180_74 s c n a2).le (Nat.le_of_ble_eq_true rfl)) ?_
                            generalize dz_N180_74 s a2 = r12
                            refine q_RP_let ?_
                            show q_RP _ _ _ (179, [(0, .ref 64), (1, .int a1), (2, .int a2), (3, .int a3), (4, .int a4)], [.int r12.2], (q_kN r12.1 c n)) _ _
                            exact q_RP_ret rfl rfl rfl
                          | false =>
                            refine q_RP_cF ?_
                            cases h17 : decide (a1 = 11) with
                            | true =>
                              refine q_RP_cT ?_
                              refine q_RP_st1 (g2 := (180, [(0, .ref 64), (1, .int a1), (2, .int a2), (3, .int a3), (4, .int a4)], [], (q_kN s c n))) rfl (by rw [of_decide_eq_true h17]; rfl) ?_
                              refine q_RP_seg (g2 := (188, [(0, .ref 64), (1, .int a1), (2, .int a2), (3, .int a3), (4, .int a4)], [.int a2, .ref 72], (q_kN s c n))) 4 (fun _ _ => rfl) ?_
                              refine q_RP_call (v := (some (.int (dz_N175_72 s a2).2))) (h2 := (q_kN (dz_N175_72 s a2).1 c n)) rfl rfl ((dzt_N175_72 s c n a2).le (Nat.le_of_ble_eq_true rfl)) ?_
                              generalize dz_N175_72 s a2 = r13
                              refine q_RP_let ?_
                              show q_RP _ _ _ (191, [(0, .ref 64), (1, .int a1), (2, .int a2), (3, .int a3), (4, .int a4)], [.int r13.2], (q_kN r13.1 c n)) _ _
                              exact q_RP_ret rfl rfl rfl
                            | false =>
                              refine q_RP_cF ?_
                              have h18 : a1 = 12 := Int32.toInt_inj.mp (by have e0 := q_neI h6 (n := 0); have e1 := q_neI h7 (n := 1); have e2 := q_neI h8 (n := 2); have e3 := q_neI h9 (n := 3); have e4 := q_neI h10 (n := 4); have e5 := q_neI h11 (n := 5); have e6 := q_neI h12 (n := 6); have e7 := q_neI h13 (n := 7); have e8 := q_neI h14 (n := 8); have e9 := q_neI h15 (n := 9); have e10 := q_neI h16 (n := 10); have e11 := q_neI h17 (n := 11); have l1 : 0 ≤ (a1).toInt := q_lo1 h4; have l2 : (a1).toInt ≤ 12 := q_hi2 h5; show (a1).toInt = 12; omega)
                              refine q_RP_st1 (g2 := (192, [(0, .ref 64), (1, .int a1), (2, .int a2), (3, .int a3), (4, .int a4)], [], (q_kN s c n))) rfl (by rw [h18]; rfl) ?_
                              refine q_RP_seg (g2 := (199, [(0, .ref 64), (1, .int a1), (2, .int a2), (3, .int a3), (4, .int a4)], [.ref 72], (q_kN s c n))) 3 (fun _ _ => rfl) ?_
                              refine q_RP_call (v := (some (.int (dz_N176_72 s).2))) (h2 := (q_kN (dz_N176_72 s).1 c n)) rfl rfl ((dzt_N176_72 s c n).le (Nat.le_of_ble_eq_true rfl)) ?_
                              generalize dz_N176_72 s = r14
                              refine q_RP_let ?_
                              show q_RP _ _ _ (202, [(0, .ref 64), (1, .int a1), (2, .int a2), (3, .int a3), (4, .int a4)], [.int r14.2], (q_kN r14.1 c n)) _ _
                              exact q_RP_ret rfl rfl rfl
def dz_N110_96_78 (s : q_S) : q_S :=
  (q_sA (q_sA s 33 (va_cpy (s.1 15) (s.1 33) 0 0 4096)) 34 (va_cpy (s.1 16) (s.1 34) 0 0 48))
set_option maxHeartbeats 4000000 in
theorem dzt_N110_96_78 (s : q_S) (c n : Nat) : q_Ca q_TB0 1 109 [.ref 96, .ref 78] (q_kN s c n) ((q_oSN c n) (dz_N110_96_78 s)) := by
  refine q_CaT_of (φ := (q_oSN c n)) (Nat.le_of_ble_eq_true rfl) ?_
  unfold dz_N110_96_78
  refine q_RT_seg (g2 := (13, [(0, .ref 96), (1, .ref 78)], [.int 4096, .int 0, .ref 97, .int 0, .ref 79], (q_kN s c n))) 7 (fun _ _ => rfl) ?_
  refine q_RT_rsT (g2 := (16, [(0, .ref 96), (1, .ref 78)], [], (q_kN (q_sA s 33 (va_cpy (s.1 15) (s.1 33) 0 0 4096)) c n))) rfl rfl (q_acb rfl) ?_
  refine q_RT_seg (g2 := (28, [(0, .ref 96), (1, .ref 78)], [.int 48, .int 0, .ref 98, .int 0, .ref 80], (q_kN (q_sA s 33 (va_cpy (s.1 15) (s.1 33) 0 0 4096)) c n))) 7 (fun _ _ => rfl) ?_
  refine q_RT_rsT (g2 := (31, [(0, .ref 96), (1, .ref 78)], [], (q_kN (q_sA (q_sA s 33 (va_cpy (s.1 15) (s.1 33) 0 0 4096)) 34 (va_cpy (s.1 16) (s.1 34) 0 0 48)) c n))) rfl rfl (q_acb rfl) ?_
  exact q_RT_ret rfl rfl rfl
def dz_N318_98_5 (m : Nat) : q_S → Int32 → Int32 → Int32 → Option (q_S) := Nat.rec (motive := fun _ => q_S → Int32 → Int32 → Int32 → Option (q_S)) (fun _ _ _ _ => none) (fun _ k5 s v1 v2 v3 =>
  cond (decide (v2 < v3)) (cond (q_in v2 48) (k5 (q_sA s 34 (upd (s.1 34) (v2.toNatClampNeg) v1)) v1 (v2 + 1) v3) none) (some s)) m
theorem dzs_N318_98_5 (m : Nat) (s : q_S) (v1 : Int32) (v2 : Int32) (v3 : Int32) : dz_N318_98_5 (m + 1) s v1 v2 v3 = (fun k5 : q_S → Int32 → Int32 → Int32 → Option (q_S) =>
  cond (decide (v2 < v3)) (cond (q_in v2 48) (k5 (q_sA s 34 (upd (s.1 34) (v2.toNatClampNeg) v1)) v1 (v2 + 1) v3) none) (some s)) (dz_N318_98_5 m) := rfl
set_option maxHeartbeats 4000000 in
theorem dzt_N318_98_5 (c n : Nat) : ∀ (m : Nat) (s : q_S) (v1 : Int32) (v2 : Int32) (v3 : Int32), q_RP q_TB0 0 317 (5, [(0, .ref 98), (1, .int v1), (2, .int v2), (3, .int v3)], [], (q_kN s c n)) (q_oSN c n) (dz_N318_98_5 m s v1 v2 v3) := by
  intro m
  induction m with
  | zero => intro s v1 v2 v3; exact q_RP_no
  | succ m ih =>
    intro s v1 v2 v3
    have hk5 := ih
    clear ih
    rw [dzs_N318_98_5]
    generalize dz_N318_98_5 m = k5 at hk5 ⊢
    dsimp only
    refine q_RP_seg (g2 := (7, [(0, .ref 98), (1, .int v1), (2, .int v2), (3, .int v3)], [.int v3, .int v2], (q_kN s c n))) 2 (fun _ _ => rfl) ?_
    cases h1 : decide (v2 < v3) with
    | true =>
      refine q_RP_cT ?_
      refine q_RP_rsF (g2 := (10, [(0, .ref 98), (1, .int v1), (2, .int v2), (3, .int v3)], [], (q_kN s c n))) rfl rfl (q_d_geT h1) ?_
      refine q_RP_seg (g2 := (13, [(0, .ref 98), (1, .int v1), (2, .int v2), (3, .int v3)], [.int v1, .int v2, .ref 98], (q_kN s c n))) 3 (fun _ _ => rfl) ?_
      refine q_RP_as fun i2 => ?_
      refine q_RP_rsT (g2 := (14, [(0, .ref 98), (1, .int v1), (2, .int v2), (3, .int v3)], [], (q_kN (q_sA s 34 (upd (s.1 34) (v2.toNatClampNeg) v1)) c n))) rfl rfl i2 ?_
      refine q_RP_seg (g2 := (5, [(2, .int (v2 + 1)), (0, .ref 98), (1, .int v1), (3, .int v3)], [], (q_kN (q_sA s 34 (upd (s.1 34) (v2.toNatClampNeg) v1)) c n))) 2 (fun _ _ => rfl) ?_
      exact q_RP_xt (q_xt_mk (q_mn1 1 rfl (q_mn1 2 rfl (q_mn1 0 rfl (q_mn1 3 rfl q_mn0)))) rfl) (hk5 (q_sA s 34 (upd (s.1 34) (v2.toNatClampNeg) v1)) v1 (v2 + 1) v3)
    | false =>
      refine q_RP_cF ?_
      refine q_RP_rsT (g2 := (20, [(0, .ref 98), (1, .int v1), (2, .int v2), (3, .int v3)], [], (q_kN s c n))) rfl rfl (q_d_geF h1) ?_
      exact q_RP_ret rfl rfl rfl
def dz_N318_98 (s : q_S) (a1 : Int32) : Option (q_S) :=
  dz_N318_98_5 5000 s a1 0 48
set_option maxHeartbeats 4000000 in
theorem dzt_N318_98 (s : q_S) (c n : Nat) (a1 : Int32) (x : q_S) (h : dz_N318_98 s a1 = some x) : q_Ca q_TB0 1 317 [.ref 98, .int a1] (q_kN s c n) ((q_oSN c n) x) := by
  refine q_CaP_of (φ := (q_oSN c n)) (Nat.le_of_ble_eq_true rfl) ?_ h
  clear h
  unfold dz_N318_98
  refine q_RP_seg (g2 := (5, [(3, .int 48), (2, .int 0), (0, .ref 98), (1, .int a1)], [], (q_kN s c n))) 5 (fun _ _ => rfl) ?_
  exact q_RP_xt (q_xt_mk (q_mn1 2 rfl (q_mn1 3 rfl (q_mn1 1 rfl (q_mn1 0 rfl q_mn0)))) rfl) (dzt_N318_98_5 c n 5000 s a1 0 48)
def dz_N113_96 (s : q_S) : Option (q_S) :=
  (dz_N318_98 s 0).bind fun r2 => some r2
set_option maxHeartbeats 4000000 in
theorem dzt_N113_96 (s : q_S) (c n : Nat) (x : q_S) (h : dz_N113_96 s = some x) : q_Ca q_TB0 2 112 [.ref 96] (q_kN s c n) ((q_oSN c n) x) := by
  refine q_CaP_of (φ := (q_oSN c n)) (Nat.le_of_ble_eq_true rfl) ?_ h
  clear h
  unfold dz_N113_96
  refine q_RP_seg (g2 := (5, [(0, .ref 96)], [.int 0, .ref 98], (q_kN s c n))) 3 (fun _ _ => rfl) ?_
  refine q_RP_bd fun r2 er2 => ?_
  refine q_RP_call (v := none) (h2 := (q_kN r2 c n)) rfl rfl ((dzt_N318_98 s c n 0 r2 er2).le (Nat.le_of_ble_eq_true rfl)) ?_
  show q_RP _ _ _ (8, [(0, .ref 96)], [], (q_kN r2 c n)) _ _
  exact q_RP_ret rfl rfl rfl
def dz_N112_96 (s : q_S) (a1 : Int32) (a2 : Int32) : q_S :=
  cond (decide (a1 - 3840 < 0)) ((q_sA s 33 (upd (s.1 33) ((a1 &&& 4095).toNatClampNeg) (a2 &&& 255)))) (cond (decide (a1 - 3840 < 48)) (cond (decide ((fun j => q_o1.getD j 0) ((a1 - 3840).toNatClampNeg) = 0)) (s) ((q_sA s 34 (upd (s.1 34) ((a1 - 3840).toNatClampNeg) (a2 &&& ((fun j => q_o1.getD j 0) ((a1 - 3840).toNatClampNeg))))))) ((q_sA s 33 (upd (s.1 33) ((a1 &&& 4095).toNatClampNeg) (a2 &&& 255)))))
set_option maxHeartbeats 4000000 in
theorem dzt_N112_96 (s : q_S) (c n : Nat) (a1 : Int32) (a2 : Int32) : q_Ca q_TB0 1 111 [.ref 96, .int a1, .int a2] (q_kN s c n) ((q_oSN c n) (dz_N112_96 s a1 a2)) := by
  refine q_CaT_of (φ := (q_oSN c n)) (Nat.le_of_ble_eq_true rfl) ?_
  unfold dz_N112_96
  refine q_RT_seg (g2 := (7, [(3, .int (a1 - 3840)), (0, .ref 96), (1, .int a1), (2, .int a2)], [.int (a1 - 3840)], (q_kN s c n))) 5 (fun _ _ => rfl) ?_
  cases h1 : decide (a1 - 3840 < 0) with
  | true =>
    refine q_RT_cT ?_
    refine q_RT_rsT (g2 := (16, [(3, .int (a1 - 3840)), (0, .ref 96), (1, .int a1), (2, .int a2)], [], (q_kN s c n))) rfl rfl h1 ?_
    refine q_RT_seg (g2 := (30, [(3, .int (a1 - 3840)), (0, .ref 96), (1, .int a1), (2, .int a2)], [.int (a2 &&& 255), .int (a1 &&& 4095), .ref 97], (q_kN s c n))) 8 (fun _ _ => rfl) ?_
    refine q_RT_rsT (g2 := (31, [(3, .int (a1 - 3840)), (0, .ref 96), (1, .int a1), (2, .int a2)], [], (q_kN (q_sA s 33 (upd (s.1 33) ((a1 &&& 4095).toNatClampNeg) (a2 &&& 255))) c n))) rfl rfl (q_in_bd (x := a1 &&& 4095) (n := 4096) (U := 4095) (L := 0) (q_and_lo a1 4095) (q_and_hi a1 4095 4095)) ?_
    refine q_RT_seg (g2 := (55, [(3, .int (a1 - 3840)), (0, .ref 96), (1, .int a1), (2, .int a2)], [], (q_kN (q_sA s 33 (upd (s.1 33) ((a1 &&& 4095).toNatClampNeg) (a2 &&& 255))) c n))) 1 (fun _ _ => rfl) ?_
    exact q_RT_ret rfl rfl rfl
  | false =>
    refine q_RT_cF ?_
    refine q_RT_rsF (g2 := (10, [(3, .int (a1 - 3840)), (0, .ref 96), (1, .int a1), (2, .int a2)], [], (q_kN s c n))) rfl rfl h1 ?_
    refine q_RT_seg (g2 := (13, [(3, .int (a1 - 3840)), (0, .ref 96), (1, .int a1), (2, .int a2)], [.int 48, .int (a1 - 3840)], (q_kN s c n))) 2 (fun _ _ => rfl) ?_
    cases h2 : decide (a1 - 3840 < 48) with
    | true =>
      refine q_RT_cT ?_
      refine q_RT_rsT (g2 := (34, [(3, .int (a1 - 3840)), (0, .ref 96), (1, .int a1), (2, .int a2)], [], (q_kN s c n))) rfl rfl h2 ?_
      refine q_RT_seg (g2 := (38, [(3, .int (a1 - 3840)), (0, .ref 96), (1, .int a1), (2, .int a2)], [.int (a1 - 3840), .ref 1], (q_kN s c n))) 2 (fun _ _ => rfl) ?_
      refine q_RT_rsT (g2 := (39, [(3, .int (a1 - 3840)), (0, .ref 96), (1, .int a1), (2, .int a2)], [.int ((fun j => q_o1.getD j 0) ((a1 - 3840).toNatClampNeg))], (q_kN s c n))) rfl rfl (q_in_bd (x := a1 - 3840) (n := 48) (U := 47) (L := 0) (q_lo1 h1) (q_hi1 h2)) ?_
      cases h3 : decide ((fun j => q_o1.getD j 0) ((a1 - 3840).toNatClampNeg) = 0) with
      | true =>
        refine q_RT_cT ?_
        refine q_RT_rsT (g2 := (55, [(3, .int (a1 - 3840)), (0, .ref 96), (1, .int a1), (2, .int a2)], [], (q_kN s c n))) rfl rfl h3 ?_
        exact q_RT_ret rfl rfl rfl
      | false =>
        refine q_RT_cF ?_
        refine q_RT_rsF (g2 := (42, [(3, .int (a1 - 3840)), (0, .ref 96), (1, .int a1), (2, .int a2)], [], (q_kN s c n))) rfl rfl h3 ?_
        refine q_RT_seg (g2 := (52, [(3, .int (a1 - 3840)), (0, .ref 96), (1, .int a1), (2, .int a2)], [.int (a1 - 3840), .ref 1, .int a2, .int (a1 - 3840), .ref 98], (q_kN s c n))) 6 (fun _ _ => rfl) ?_
        refine q_RT_rsT (g2 := (53, [(3, .int (a1 - 3840)), (0, .ref 96), (1, .int a1), (2, .int a2)], [.int ((fun j => q_o1.getD j 0) ((a1 - 3840).toNatClampNeg)), .int a2, .int (a1 - 3840), .ref 98], (q_kN s c n))) rfl rfl (q_in_bd (x := a1 - 3840) (n := 48) (U := 47) (L := 0) (q_lo1 h1) (q_hi1 h2)) ?_
        refine q_RT_seg (g2 := (54, [(3, .int (a1 - 3840)), (0, .ref 96), (1, .int a1), (2, .int a2)], [.int (a2 &&& ((fun j => q_o1.getD j 0) ((a1 - 3840).toNatClampNeg))), .int (a1 - 3840), .ref 98], (q_kN s c n))) 1 (fun _ _ => rfl) ?_
        refine q_RT_rsT (g2 := (55, [(3, .int (a1 - 3840)), (0, .ref 96), (1, .int a1), (2, .int a2)], [], (q_kN (q_sA s 34 (upd (s.1 34) ((a1 - 3840).toNatClampNeg) (a2 &&& ((fun j => q_o1.getD j 0) ((a1 - 3840).toNatClampNeg))))) c n))) rfl rfl (q_in_bd (x := a1 - 3840) (n := 48) (U := 47) (L := 0) (q_lo1 h1) (q_hi1 h2)) ?_
        exact q_RT_ret rfl rfl rfl
    | false =>
      refine q_RT_cF ?_
      refine q_RT_rsF (g2 := (16, [(3, .int (a1 - 3840)), (0, .ref 96), (1, .int a1), (2, .int a2)], [], (q_kN s c n))) rfl rfl h2 ?_
      refine q_RT_seg (g2 := (30, [(3, .int (a1 - 3840)), (0, .ref 96), (1, .int a1), (2, .int a2)], [.int (a2 &&& 255), .int (a1 &&& 4095), .ref 97], (q_kN s c n))) 8 (fun _ _ => rfl) ?_
      refine q_RT_rsT (g2 := (31, [(3, .int (a1 - 3840)), (0, .ref 96), (1, .int a1), (2, .int a2)], [], (q_kN (q_sA s 33 (upd (s.1 33) ((a1 &&& 4095).toNatClampNeg) (a2 &&& 255))) c n))) rfl rfl (q_in_bd (x := a1 &&& 4095) (n := 4096) (U := 4095) (L := 0) (q_and_lo a1 4095) (q_and_hi a1 4095 4095)) ?_
      refine q_RT_seg (g2 := (55, [(3, .int (a1 - 3840)), (0, .ref 96), (1, .int a1), (2, .int a2)], [], (q_kN (q_sA s 33 (upd (s.1 33) ((a1 &&& 4095).toNatClampNeg) (a2 &&& 255))) c n))) 1 (fun _ _ => rfl) ?_
      exact q_RT_ret rfl rfl rfl
def dz_N129_77_96_10 (m : Nat) : q_S → Int32 → Int32 → Option (q_S) := Nat.rec (motive := fun _ => q_S → Int32 → Int32 → Option (q_S)) (fun _ _ _ => none) (fun _ k10 s v1 v3 =>
  cond (decide (v3 < s.2.1 13 2)) (cond (decide (v3 < 3072)) (cond (q_in v3 3072) (cond (decide (v1 < ((s.1 17) (v3.toNatClampNeg)) >>> ((21 &&& 31) : Int32))) (some s) (cond (decide ((((s.1 17) (v3.toNatClampNeg)) >>> ((8 &&& 31) : Int32)) &&& 8191 = 4096)) ((dz_N113_96 s).bind fun r2 => k10 r2 v1 (v3 + 1)) (q_let (dz_N112_96 s ((((s.1 17) (v3.toNatClampNeg)) >>> ((8 &&& 31) : Int32)) &&& 8191) (((s.1 17) (v3.toNatClampNeg)) &&& 255)) fun r3 => k10 r3 v1 (v3 + 1)))) none) (some s)) (some s)) m
theorem dzs_N129_77_96_10 (m : Nat) (s : q_S) (v1 : Int32) (v3 : Int32) : dz_N129_77_96_10 (m + 1) s v1 v3 = (fun k10 : q_S → Int32 → Int32 → Option (q_S) =>
  cond (decide (v3 < s.2.1 13 2)) (cond (decide (v3 < 3072)) (cond (q_in v3 3072) (cond (decide (v1 < ((s.1 17) (v3.toNatClampNeg)) >>> ((21 &&& 31) : Int32))) (some s) (cond (decide ((((s.1 17) (v3.toNatClampNeg)) >>> ((8 &&& 31) : Int32)) &&& 8191 = 4096)) ((dz_N113_96 s).bind fun r2 => k10 r2 v1 (v3 + 1)) (q_let (dz_N112_96 s ((((s.1 17) (v3.toNatClampNeg)) >>> ((8 &&& 31) : Int32)) &&& 8191) (((s.1 17) (v3.toNatClampNeg)) &&& 255)) fun r3 => k10 r3 v1 (v3 + 1)))) none) (some s)) (some s)) (dz_N129_77_96_10 m) := rfl
set_option maxHeartbeats 4000000 in
theorem dzt_N129_77_96_10 (c n : Nat) : ∀ (m : Nat) (s : q_S) (v1 : Int32) (v3 : Int32), q_RP q_TB0 2 128 (10, [(0, .ref 77), (1, .int v1), (2, .ref 96), (3, .int v3)], [], (q_kN s c n)) (q_oSN c n) (dz_N129_77_96_10 m s v1 v3) := by
  intro m
  induction m with
  | zero => intro s v1 v3; exact q_RP_no
  | succ m ih =>
    intro s v1 v3
    have hk10 := ih
    clear ih
    rw [dzs_N129_77_96_10]
    generalize dz_N129_77_96_10 m = k10 at hk10 ⊢
    dsimp only
    refine q_RP_seg (g2 := (15, [(0, .ref 77), (1, .int v1), (2, .ref 96), (3, .int v3)], [.int (s.2.1 13 2), .int v3], (q_kN s c n))) 3 (fun _ _ => rfl) ?_
    cases h1 : decide (v3 < s.2.1 13 2) with
    | true =>
      refine q_RP_cT ?_
      refine q_RP_rsF (g2 := (18, [(0, .ref 77), (1, .int v1), (2, .ref 96), (3, .int v3)], [], (q_kN s c n))) rfl rfl (q_d_geT h1) ?_
      refine q_RP_seg (g2 := (22, [(0, .ref 77), (1, .int v1), (2, .ref 96), (3, .int v3)], [.int 3072, .int v3], (q_kN s c n))) 2 (fun _ _ => rfl) ?_
      cases h2 : decide (v3 < 3072) with
      | true =>
        refine q_RP_cT ?_
        refine q_RP_rsF (g2 := (25, [(0, .ref 77), (1, .int v1), (2, .ref 96), (3, .int v3)], [], (q_kN s c n))) rfl rfl (q_d_geT h2) ?_
        refine q_RP_seg (g2 := (30, [(0, .ref 77), (1, .int v1), (2, .ref 96), (3, .int v3)], [.int v3, .ref 81], (q_kN s c n))) 3 (fun _ _ => rfl) ?_
        refine q_RP_as fun i3 => ?_
        refine q_RP_rsT (g2 := (31, [(0, .ref 77), (1, .int v1), (2, .ref 96), (3, .int v3)], [.int ((s.1 17) (v3.toNatClampNeg))], (q_kN s c n))) rfl rfl i3 ?_
        refine q_RP_seg (g2 := (35, [(0, .ref 77), (1, .int v1), (2, .ref 96), (3, .int v3)], [.int v1, .int (((s.1 17) (v3.toNatClampNeg)) >>> ((21 &&& 31) : Int32))], (q_kN s c n))) 3 (fun _ _ => rfl) ?_
        cases h4 : decide (v1 < ((s.1 17) (v3.toNatClampNeg)) >>> ((21 &&& 31) : Int32)) with
        | true =>
          refine q_RP_cT ?_
          refine q_RP_rsF (g2 := (38, [(0, .ref 77), (1, .int v1), (2, .ref 96), (3, .int v3)], [], (q_kN s c n))) rfl rfl (q_d_geT h4) ?_
          exact q_RP_ret rfl rfl rfl
        | false =>
          refine q_RP_cF ?_
          refine q_RP_rsT (g2 := (39, [(0, .ref 77), (1, .int v1), (2, .ref 96), (3, .int v3)], [], (q_kN s c n))) rfl rfl (q_d_geF h4) ?_
          refine q_RP_seg (g2 := (44, [(0, .ref 77), (1, .int v1), (2, .ref 96), (3, .int v3)], [.int v3, .ref 81], (q_kN s c n))) 3 (fun _ _ => rfl) ?_
          refine q_RP_rsT (g2 := (45, [(0, .ref 77), (1, .int v1), (2, .ref 96), (3, .int v3)], [.int ((s.1 17) (v3.toNatClampNeg))], (q_kN s c n))) rfl rfl i3 ?_
          refine q_RP_seg (g2 := (59, [(4, .int ((((s.1 17) (v3.toNatClampNeg)) >>> ((8 &&& 31) : Int32)) &&& 8191)), (0, .ref 77), (1, .int v1), (2, .ref 96), (3, .int v3)], [.int 4096, .int ((((s.1 17) (v3.toNatClampNeg)) >>> ((8 &&& 31) : Int32)) &&& 8191)], (q_kN s c n))) 7 (fun _ _ => rfl) ?_
          cases h5 : decide ((((s.1 17) (v3.toNatClampNeg)) >>> ((8 &&& 31) : Int32)) &&& 8191 = 4096) with
          | true =>
            refine q_RP_cT ?_
            refine q_RP_rsF (g2 := (62, [(4, .int ((((s.1 17) (v3.toNatClampNeg)) >>> ((8 &&& 31) : Int32)) &&& 8191)), (0, .ref 77), (1, .int v1), (2, .ref 96), (3, .int v3)], [], (q_kN s c n))) rfl rfl (q_d_neT h5) ?_
            refine q_RP_seg (g2 := (63, [(4, .int ((((s.1 17) (v3.toNatClampNeg)) >>> ((8 &&& 31) : Int32)) &&& 8191)), (0, .ref 77), (1, .int v1), (2, .ref 96), (3, .int v3)], [.ref 96], (q_kN s c n))) 1 (fun _ _ => rfl) ?_
            refine q_RP_bd fun r2 er2 => ?_
            refine q_RP_call (v := none) (h2 := (q_kN r2 c n)) rfl rfl ((dzt_N113_96 s c n r2 er2).le (Nat.le_of_ble_eq_true rfl)) ?_
            show q_RP _ _ _ (66, [(4, .int ((((s.1 17) (v3.toNatClampNeg)) >>> ((8 &&& 31) : Int32)) &&& 8191)), (0, .ref 77), (1, .int v1), (2, .ref 96), (3, .int v3)], [], (q_kN r2 c n)) _ _
            refine q_RP_seg (g2 := (10, [(3, .int (v3 + 1)), (4, .int ((((s.1 17) (v3.toNatClampNeg)) >>> ((8 &&& 31) : Int32)) &&& 8191)), (0, .ref 77), (1, .int v1), (2, .ref 96)], [], (q_kN r2 c n))) 3 (fun _ _ => rfl) ?_
            exact q_RP_xt (q_xt_mk (q_mn1 2 rfl (q_mn1 3 rfl (q_mn1 4 rfl (q_mn1 0 rfl q_mn0)))) rfl) (hk10 r2 v1 (v3 + 1))
          | false =>
            refine q_RP_cF ?_
            refine q_RP_rsT (g2 := (69, [(4, .int ((((s.1 17) (v3.toNatClampNeg)) >>> ((8 &&& 31) : Int32)) &&& 8191)), (0, .ref 77), (1, .int v1), (2, .ref 96), (3, .int v3)], [], (q_kN s c n))) rfl rfl (q_d_neF h5) ?_
            refine q_RP_seg (g2 := (77, [(4, .int ((((s.1 17) (v3.toNatClampNeg)) >>> ((8 &&& 31) : Int32)) &&& 8191)), (0, .ref 77), (1, .int v1), (2, .ref 96), (3, .int v3)], [.int v3, .ref 81, .int ((((s.1 17) (v3.toNatClampNeg)) >>> ((8 &&& 31) : Int32)) &&& 8191), .ref 96], (q_kN s c n))) 5 (fun _ _ => rfl) ?_
            refine q_RP_rsT (g2 := (78, [(4, .int ((((s.1 17) (v3.toNatClampNeg)) >>> ((8 &&& 31) : Int32)) &&& 8191)), (0, .ref 77), (1, .int v1), (2, .ref 96), (3, .int v3)], [.int ((s.1 17) (v3.toNatClampNeg)), .int ((((s.1 17) (v3.toNatClampNeg)) >>> ((8 &&& 31) : Int32)) &&& 8191), .ref 96], (q_kN s c n))) rfl rfl i3 ?_
            refine q_RP_seg (g2 := (82, [(4, .int ((((s.1 17) (v3.toNatClampNeg)) >>> ((8 &&& 31) : Int32)) &&& 8191)), (0, .ref 77), (1, .int v1), (2, .ref 96), (3, .int v3)], [.int (((s.1 17) (v3.toNatClampNeg)) &&& 255), .int ((((s.1 17) (v3.toNatClampNeg)) >>> ((8 &&& 31) : Int32)) &&& 8191), .ref 96], (q_kN s c n))) 2 (fun _ _ => rfl) ?_
            refine q_RP_call (v := none) (h2 := (q_kN (dz_N112_96 s ((((s.1 17) (v3.toNatClampNeg)) >>> ((8 &&& 31) : Int32)) &&& 8191) (((s.1 17) (v3.toNatClampNeg)) &&& 255)) c n)) rfl rfl ((dzt_N112_96 s c n ((((s.1 17) (v3.toNatClampNeg)) >>> ((8 &&& 31) : Int32)) &&& 8191) (((s.1 17) (v3.toNatClampNeg)) &&& 255)).le (Nat.le_of_ble_eq_true rfl)) ?_
            generalize dz_N112_96 s ((((s.1 17) (v3.toNatClampNeg)) >>> ((8 &&& 31) : Int32)) &&& 8191) (((s.1 17) (v3.toNatClampNeg)) &&& 255) = r3
            refine q_RP_let ?_
            show q_RP _ _ _ (85, [(4, .int ((((s.1 17) (v3.toNatClampNeg)) >>> ((8 &&& 31) : Int32)) &&& 8191)), (0, .ref 77), (1, .int v1), (2, .ref 96), (3, .int v3)], [], (q_kN r3 c n)) _ _
            refine q_RP_seg (g2 := (10, [(3, .int (v3 + 1)), (4, .int ((((s.1 17) (v3.toNatClampNeg)) >>> ((8 &&& 31) : Int32)) &&& 8191)), (0, .ref 77), (1, .int v1), (2, .ref 96)], [], (q_kN r3 c n))) 2 (fun _ _ => rfl) ?_
            exact q_RP_xt (q_xt_mk (q_mn1 2 rfl (q_mn1 3 rfl (q_mn1 4 rfl (q_mn1 0 rfl q_mn0)))) rfl) (hk10 r3 v1 (v3 + 1))
      | false =>
        refine q_RP_cF ?_
        refine q_RP_rsT (g2 := (91, [(0, .ref 77), (1, .int v1), (2, .ref 96), (3, .int v3)], [], (q_kN s c n))) rfl rfl (q_d_geF h2) ?_
        exact q_RP_ret rfl rfl rfl
    | false =>
      refine q_RP_cF ?_
      refine q_RP_rsT (g2 := (91, [(0, .ref 77), (1, .int v1), (2, .ref 96), (3, .int v3)], [], (q_kN s c n))) rfl rfl (q_d_geF h1) ?_
      exact q_RP_ret rfl rfl rfl
def dz_N129_77_96 (s : q_S) (a1 : Int32) : Option (q_S) :=
  q_let (dz_N110_96_78 s) fun r1 => dz_N129_77_96_10 5000 r1 a1 0
set_option maxHeartbeats 4000000 in
theorem dzt_N129_77_96 (s : q_S) (c n : Nat) (a1 : Int32) (x : q_S) (h : dz_N129_77_96 s a1 = some x) : q_Ca q_TB0 3 128 [.ref 77, .int a1, .ref 96] (q_kN s c n) ((q_oSN c n) x) := by
  refine q_CaP_of (φ := (q_oSN c n)) (Nat.le_of_ble_eq_true rfl) ?_ h
  clear h
  unfold dz_N129_77_96
  refine q_RP_seg (g2 := (5, [(0, .ref 77), (1, .int a1), (2, .ref 96)], [.ref 78, .ref 96], (q_kN s c n))) 3 (fun _ _ => rfl) ?_
  refine q_RP_call (v := none) (h2 := (q_kN (dz_N110_96_78 s) c n)) rfl rfl ((dzt_N110_96_78 s c n).le (Nat.le_of_ble_eq_true rfl)) ?_
  generalize dz_N110_96_78 s = r1
  refine q_RP_let ?_
  show q_RP _ _ _ (8, [(0, .ref 77), (1, .int a1), (2, .ref 96)], [], (q_kN r1 c n)) _ _
  refine q_RP_seg (g2 := (10, [(3, .int 0), (0, .ref 77), (1, .int a1), (2, .ref 96)], [], (q_kN r1 c n))) 2 (fun _ _ => rfl) ?_
  exact q_RP_xt (q_xt_mk (q_mn1 1 rfl (q_mn1 2 rfl (q_mn1 3 rfl (q_mn1 0 rfl q_mn0)))) rfl) (dzt_N129_77_96_10 c n 5000 r1 a1 0)
def dz_N114_96 (s : q_S) : Int32 :=
  (((s.1 34) 2) &&& 3)
set_option maxHeartbeats 4000000 in
theorem dzt_N114_96 (s : q_S) (c n : Nat) : q_Ca q_TB0 1 113 [.ref 96] (q_kN s c n) ((q_oP (q_kN s c n)) (dz_N114_96 s)) := by
  refine q_CaT_of (φ := (q_oP (q_kN s c n))) (Nat.le_of_ble_eq_true rfl) ?_
  unfold dz_N114_96
  refine q_RT_seg (g2 := (6, [(0, .ref 96)], [.int ((s.1 34) 2)], (q_kN s c n))) 4 (fun _ _ => rfl) ?_
  refine q_RT_seg (g2 := (8, [(0, .ref 96)], [.int (((s.1 34) 2) &&& 3)], (q_kN s c n))) 2 (fun _ _ => rfl) ?_
  exact q_RT_ret rfl rfl rfl
def dz_N115_96 (s : q_S) : Int32 :=
  (((s.1 34) 2) >>> ((2 &&& 31) : Int32))
set_option maxHeartbeats 4000000 in
theorem dzt_N115_96 (s : q_S) (c n : Nat) : q_Ca q_TB0 1 114 [.ref 96] (q_kN s c n) ((q_oP (q_kN s c n)) (dz_N115_96 s)) := by
  refine q_CaT_of (φ := (q_oP (q_kN s c n))) (Nat.le_of_ble_eq_true rfl) ?_
  unfold dz_N115_96
  refine q_RT_seg (g2 := (6, [(0, .ref 96)], [.int ((s.1 34) 2)], (q_kN s c n))) 4 (fun _ _ => rfl) ?_
  refine q_RT_seg (g2 := (8, [(0, .ref 96)], [.int (((s.1 34) 2) >>> ((2 &&& 31) : Int32))], (q_kN s c n))) 2 (fun _ _ => rfl) ?_
  exact q_RT_ret rfl rfl rfl
def dz_N120_96 (s : q_S) (a1 : Int32) : Int32 :=
  ((s.1 33) ((a1 &&& 4095).toNatClampNeg))
set_option maxHeartbeats 4000000 in
theorem dzt_N120_96 (s : q_S) (c n : Nat) (a1 : Int32) : q_Ca q_TB0 1 119 [.ref 96, .int a1] (q_kN s c n) ((q_oP (q_kN s c n)) (dz_N120_96 s a1)) := by
  refine q_CaT_of (φ := (q_oP (q_kN s c n))) (Nat.le_of_ble_eq_true rfl) ?_
  unfold dz_N120_96
  refine q_RT_seg (g2 := (9, [(0, .ref 96), (1, .int a1)], [.int (a1 &&& 4095), .ref 97], (q_kN s c n))) 5 (fun _ _ => rfl) ?_
  refine q_RT_rsT (g2 := (10, [(0, .ref 96), (1, .int a1)], [.int ((s.1 33) ((a1 &&& 4095).toNatClampNeg))], (q_kN s c n))) rfl rfl (q_in_bd (x := a1 &&& 4095) (n := 4096) (U := 4095) (L := 0) (q_and_lo a1 4095) (q_and_hi a1 4095 4095)) ?_
  exact q_RT_ret rfl rfl rfl
def dz_N119_96 (s : q_S) (a1 : Int32) (a2 : Int32) : Int32 :=
  q_let (dz_N114_96 s) fun r1 => q_let (dz_N115_96 s) fun r2 => q_let (dz_N120_96 s (((256 * ((s.1 34) 7)) + (4 * ((a2 + r2) - (a2 + r2) / 32 * 32))) + (((a1 + r1) - (a1 + r1) / 32 * 32) / 8))) fun r3 => cond (decide ((s.1 34) 1 < 0)) (0) (cond (decide (2 < (s.1 34) 1)) (0) (cond (decide ((s.1 34) 1 = 0)) (q_let (dz_N120_96 s (((256 * ((s.1 34) 7)) + (8 * (((a2 + r2) - (a2 + r2) / 32 * 32) / 8))) + (((a1 + r1) - (a1 + r1) / 32 * 32) / 4))) fun r4 => q_let (dz_N120_96 s (((256 * ((s.1 34) 8)) + (8 * r4)) + (((a2 + r2) - (a2 + r2) / 32 * 32) - ((a2 + r2) - (a2 + r2) / 32 * 32) / 8 * 8))) fun r5 => ((r5 >>> (((3 : Int32) - (((a1 + r1) - (a1 + r1) / 32 * 32) - ((a1 + r1) - (a1 + r1) / 32 * 32) / 4 * 4)) &&& 31)) &&& 1)) (cond (decide ((s.1 34) 1 = 1)) (((r3 >>> (((7 : Int32) - (((a1 + r1) - (a1 + r1) / 32 * 32) - ((a1 + r1) - (a1 + r1) / 32 * 32) / 8 * 8)) &&& 31)) &&& 1)) (((r3 >>> (((6 : Int32) - (2 * ((((a1 + r1) - (a1 + r1) / 32 * 32) - ((a1 + r1) - (a1 + r1) / 32 * 32) / 8 * 8) / 2))) &&& 31)) &&& 3)))))
set_option maxHeartbeats 4000000 in
theorem dzt_N119_96 (s : q_S) (c n : Nat) (a1 : Int32) (a2 : Int32) : q_Ca q_TB0 2 118 [.ref 96, .int a1, .int a2] (q_kN s c n) ((q_oP (q_kN s c n)) (dz_N119_96 s a1 a2)) := by
  refine q_CaT_of (φ := (q_oP (q_kN s c n))) (Nat.le_of_ble_eq_true rfl) ?_
  unfold dz_N119_96
  refine q_RT_seg (g2 := (2, [(0, .ref 96), (1, .int a1), (2, .int a2)], [.ref 96, .int a1], (q_kN s c n))) 2 (fun _ _ => rfl) ?_
  refine q_RT_call (v := (some (.int (dz_N114_96 s)))) (h2 := (q_kN s c n)) rfl rfl ((dzt_N114_96 s c n).le (Nat.le_of_ble_eq_true rfl)) ?_
  generalize dz_N114_96 s = r1
  refine q_RT_let ?_
  show q_RT _ _ _ (5, [(0, .ref 96), (1, .int a1), (2, .int a2)], [.int r1, .int a1], (q_kN s c n)) _ _
  refine q_RT_seg (g2 := (12, [(3, .int ((a1 + r1) - (a1 + r1) / 32 * 32)), (0, .ref 96), (1, .int a1), (2, .int a2)], [.ref 96, .int a2], (q_kN s c n))) 6 (fun _ _ => rfl) ?_
  refine q_RT_call (v := (some (.int (dz_N115_96 s)))) (h2 := (q_kN s c n)) rfl rfl ((dzt_N115_96 s c n).le (Nat.le_of_ble_eq_true rfl)) ?_
  generalize dz_N115_96 s = r2
  refine q_RT_let ?_
  show q_RT _ _ _ (15, [(3, .int ((a1 + r1) - (a1 + r1) / 32 * 32)), (0, .ref 96), (1, .int a1), (2, .int a2)], [.int r2, .int a2], (q_kN s c n)) _ _
  refine q_RT_seg (g2 := (31, [(4, .int ((a2 + r2) - (a2 + r2) / 32 * 32)), (3, .int ((a1 + r1) - (a1 + r1) / 32 * 32)), (0, .ref 96), (1, .int a1), (2, .int a2)], [.int ((s.1 34) 7), .int 256], (q_kN s c n))) 9 (fun _ _ => rfl) ?_
  refine q_RT_seg (g2 := (47, [(5, .int (256 * ((s.1 34) 7))), (4, .int ((a2 + r2) - (a2 + r2) / 32 * 32)), (3, .int ((a1 + r1) - (a1 + r1) / 32 * 32)), (0, .ref 96), (1, .int a1), (2, .int a2)], [.int (((256 * ((s.1 34) 7)) + (4 * ((a2 + r2) - (a2 + r2) / 32 * 32))) + (((a1 + r1) - (a1 + r1) / 32 * 32) / 8)), .ref 96], (q_kN s c n))) 12 (fun _ _ => rfl) ?_
  refine q_RT_call (v := (some (.int (dz_N120_96 s (((256 * ((s.1 34) 7)) + (4 * ((a2 + r2) - (a2 + r2) / 32 * 32))) + (((a1 + r1) - (a1 + r1) / 32 * 32) / 8)))))) (h2 := (q_kN s c n)) rfl rfl ((dzt_N120_96 s c n (((256 * ((s.1 34) 7)) + (4 * ((a2 + r2) - (a2 + r2) / 32 * 32))) + (((a1 + r1) - (a1 + r1) / 32 * 32) / 8))).le (Nat.le_of_ble_eq_true rfl)) ?_
  generalize dz_N120_96 s (((256 * ((s.1 34) 7)) + (4 * ((a2 + r2) - (a2 + r2) / 32 * 32))) + (((a1 + r1) - (a1 + r1) / 32 * 32) / 8)) = r3
  refine q_RT_let ?_
  show q_RT _ _ _ (50, [(5, .int (256 * ((s.1 34) 7))), (4, .int ((a2 + r2) - (a2 + r2) / 32 * 32)), (3, .int ((a1 + r1) - (a1 + r1) / 32 * 32)), (0, .ref 96), (1, .int a1), (2, .int a2)], [.int r3], (q_kN s c n)) _ _
  refine q_RT_seg (g2 := (58, [(6, .int r3), (5, .int (256 * ((s.1 34) 7))), (4, .int ((a2 + r2) - (a2 + r2) / 32 * 32)), (3, .int ((a1 + r1) - (a1 + r1) / 32 * 32)), (0, .ref 96), (1, .int a1), (2, .int a2)], [.int ((s.1 34) 1)], (q_kN s c n))) 5 (fun _ _ => rfl) ?_
  cases h1 : decide ((s.1 34) 1 < 0) with
  | true =>
    refine q_RT_cT ?_
    refine q_RT_st1 (g2 := (171, [(6, .int r3), (5, .int (256 * ((s.1 34) 7))), (4, .int ((a2 + r2) - (a2 + r2) / 32 * 32)), (3, .int ((a1 + r1) - (a1 + r1) / 32 * 32)), (0, .ref 96), (1, .int a1), (2, .int a2)], [], (q_kN s c n))) rfl (if_pos (Or.inl (Int32.lt_iff_toInt_lt.mp (of_decide_eq_true h1)))) ?_
    refine q_RT_seg (g2 := (172, [(6, .int r3), (5, .int (256 * ((s.1 34) 7))), (4, .int ((a2 + r2) - (a2 + r2) / 32 * 32)), (3, .int ((a1 + r1) - (a1 + r1) / 32 * 32)), (0, .ref 96), (1, .int a1), (2, .int a2)], [.int 0], (q_kN s c n))) 1 (fun _ _ => rfl) ?_
    exact q_RT_ret rfl rfl rfl
  | false =>
    refine q_RT_cF ?_
    cases h2 : decide (2 < (s.1 34) 1) with
    | true =>
      refine q_RT_cT ?_
      refine q_RT_st1 (g2 := (171, [(6, .int r3), (5, .int (256 * ((s.1 34) 7))), (4, .int ((a2 + r2) - (a2 + r2) / 32 * 32)), (3, .int ((a1 + r1) - (a1 + r1) / 32 * 32)), (0, .ref 96), (1, .int a1), (2, .int a2)], [], (q_kN s c n))) rfl (if_pos (Or.inr (Int32.lt_iff_toInt_lt.mp (of_decide_eq_true h2)))) ?_
      refine q_RT_seg (g2 := (172, [(6, .int r3), (5, .int (256 * ((s.1 34) 7))), (4, .int ((a2 + r2) - (a2 + r2) / 32 * 32)), (3, .int ((a1 + r1) - (a1 + r1) / 32 * 32)), (0, .ref 96), (1, .int a1), (2, .int a2)], [.int 0], (q_kN s c n))) 1 (fun _ _ => rfl) ?_
      exact q_RT_ret rfl rfl rfl
    | false =>
      refine q_RT_cF ?_
      cases h3 : decide ((s.1 34) 1 = 0) with
      | true =>
        refine q_RT_cT ?_
        refine q_RT_st1 (g2 := (84, [(6, .int r3), (5, .int (256 * ((s.1 34) 7))), (4, .int ((a2 + r2) - (a2 + r2) / 32 * 32)), (3, .int ((a1 + r1) - (a1 + r1) / 32 * 32)), (0, .ref 96), (1, .int a1), (2, .int a2)], [], (q_kN s c n))) rfl (by rw [of_decide_eq_true h3]; rfl) ?_
        refine q_RT_seg (g2 := (100, [(6, .int r3), (5, .int (256 * ((s.1 34) 7))), (4, .int ((a2 + r2) - (a2 + r2) / 32 * 32)), (3, .int ((a1 + r1) - (a1 + r1) / 32 * 32)), (0, .ref 96), (1, .int a1), (2, .int a2)], [.int (((256 * ((s.1 34) 7)) + (8 * (((a2 + r2) - (a2 + r2) / 32 * 32) / 8))) + (((a1 + r1) - (a1 + r1) / 32 * 32) / 4)), .ref 96], (q_kN s c n))) 12 (fun _ _ => rfl) ?_
        refine q_RT_call (v := (some (.int (dz_N120_96 s (((256 * ((s.1 34) 7)) + (8 * (((a2 + r2) - (a2 + r2) / 32 * 32) / 8))) + (((a1 + r1) - (a1 + r1) / 32 * 32) / 4)))))) (h2 := (q_kN s c n)) rfl rfl ((dzt_N120_96 s c n (((256 * ((s.1 34) 7)) + (8 * (((a2 + r2) - (a2 + r2) / 32 * 32) / 8))) + (((a1 + r1) - (a1 + r1) / 32 * 32) / 4))).le (Nat.le_of_ble_eq_true rfl)) ?_
        generalize dz_N120_96 s (((256 * ((s.1 34) 7)) + (8 * (((a2 + r2) - (a2 + r2) / 32 * 32) / 8))) + (((a1 + r1) - (a1 + r1) / 32 * 32) / 4)) = r4
        refine q_RT_let ?_
        show q_RT _ _ _ (103, [(6, .int r3), (5, .int (256 * ((s.1 34) 7))), (4, .int ((a2 + r2) - (a2 + r2) / 32 * 32)), (3, .int ((a1 + r1) - (a1 + r1) / 32 * 32)), (0, .ref 96), (1, .int a1), (2, .int a2)], [.int r4], (q_kN s c n)) _ _
        refine q_RT_seg (g2 := (116, [(7, .int r4), (6, .int r3), (5, .int (256 * ((s.1 34) 7))), (4, .int ((a2 + r2) - (a2 + r2) / 32 * 32)), (3, .int ((a1 + r1) - (a1 + r1) / 32 * 32)), (0, .ref 96), (1, .int a1), (2, .int a2)], [.int ((s.1 34) 8), .int 256, .ref 96], (q_kN s c n))) 7 (fun _ _ => rfl) ?_
        refine q_RT_seg (g2 := (129, [(7, .int r4), (6, .int r3), (5, .int (256 * ((s.1 34) 7))), (4, .int ((a2 + r2) - (a2 + r2) / 32 * 32)), (3, .int ((a1 + r1) - (a1 + r1) / 32 * 32)), (0, .ref 96), (1, .int a1), (2, .int a2)], [.int (((256 * ((s.1 34) 8)) + (8 * r4)) + (((a2 + r2) - (a2 + r2) / 32 * 32) - ((a2 + r2) - (a2 + r2) / 32 * 32) / 8 * 8)), .ref 96], (q_kN s c n))) 9 (fun _ _ => rfl) ?_
        refine q_RT_call (v := (some (.int (dz_N120_96 s (((256 * ((s.1 34) 8)) + (8 * r4)) + (((a2 + r2) - (a2 + r2) / 32 * 32) - ((a2 + r2) - (a2 + r2) / 32 * 32) / 8 * 8)))))) (h2 := (q_kN s c n)) rfl rfl ((dzt_N120_96 s c n (((256 * ((s.1 34) 8)) + (8 * r4)) + (((a2 + r2) - (a2 + r2) / 32 * 32) - ((a2 + r2) - (a2 + r2) / 32 * 32) / 8 * 8))).le (Nat.le_of_ble_eq_true rfl)) ?_
        generalize dz_N120_96 s (((256 * ((s.1 34) 8)) + (8 * r4)) + (((a2 + r2) - (a2 + r2) / 32 * 32) - ((a2 + r2) - (a2 + r2) / 32 * 32) / 8 * 8)) = r5
        refine q_RT_let ?_
        show q_RT _ _ _ (132, [(7, .int r4), (6, .int r3), (5, .int (256 * ((s.1 34) 7))), (4, .int ((a2 + r2) - (a2 + r2) / 32 * 32)), (3, .int ((a1 + r1) - (a1 + r1) / 32 * 32)), (0, .ref 96), (1, .int a1), (2, .int a2)], [.int r5], (q_kN s c n)) _ _
        refine q_RT_seg (g2 := (140, [(7, .int r4), (6, .int r3), (5, .int (256 * ((s.1 34) 7))), (4, .int ((a2 + r2) - (a2 + r2) / 32 * 32)), (3, .int ((a1 + r1) - (a1 + r1) / 32 * 32)), (0, .ref 96), (1, .int a1), (2, .int a2)], [.int ((r5 >>> (((3 : Int32) - (((a1 + r1) - (a1 + r1) / 32 * 32) - ((a1 + r1) - (a1 + r1) / 32 * 32) / 4 * 4)) &&& 31)) &&& 1)], (q_kN s c n))) 8 (fun _ _ => rfl) ?_
        exact q_RT_ret rfl rfl rfl
      | false =>
        refine q_RT_cF ?_
        cases h4 : decide ((s.1 34) 1 = 1) with
        | true =>
          refine q_RT_cT ?_
          refine q_RT_st1 (g2 := (141, [(6, .int r3), (5, .int (256 * ((s.1 34) 7))), (4, .int ((a2 + r2) - (a2 + r2) / 32 * 32)), (3, .int ((a1 + r1) - (a1 + r1) / 32 * 32)), (0, .ref 96), (1, .int a1), (2, .int a2)], [], (q_kN s c n))) rfl (by rw [of_decide_eq_true h4]; rfl) ?_
          refine q_RT_seg (g2 := (153, [(6, .int r3), (5, .int (256 * ((s.1 34) 7))), (4, .int ((a2 + r2) - (a2 + r2) / 32 * 32)), (3, .int ((a1 + r1) - (a1 + r1) / 32 * 32)), (0, .ref 96), (1, .int a1), (2, .int a2)], [.int ((r3 >>> (((7 : Int32) - (((a1 + r1) - (a1 + r1) / 32 * 32) - ((a1 + r1) - (a1 + r1) / 32 * 32) / 8 * 8)) &&& 31)) &&& 1)], (q_kN s c n))) 9 (fun _ _ => rfl) ?_
          exact q_RT_ret rfl rfl rfl
        | false =>
          refine q_RT_cF ?_
          have h5 : (s.1 34) 1 = 2 := Int32.toInt_inj.mp (by have e0 := q_neI h3 (n := 0); have e1 := q_neI h4 (n := 1); have l1 : 0 ≤ ((s.1 34) 1).toInt := q_lo1 h1; have l2 : ((s.1 34) 1).toInt ≤ 2 := q_hi2 h2; show ((s.1 34) 1).toInt = 2; omega)
          refine q_RT_st1 (g2 := (154, [(6, .int r3), (5, .int (256 * ((s.1 34) 7))), (4, .int ((a2 + r2) - (a2 + r2) / 32 * 32)), (3, .int ((a1 + r1) - (a1 + r1) / 32 * 32)), (0, .ref 96), (1, .int a1), (2, .int a2)], [], (q_kN s c n))) rfl (by rw [h5]; rfl) ?_
          refine q_RT_seg (g2 := (170, [(6, .int r3), (5, .int (256 * ((s.1 34) 7))), (4, .int ((a2 + r2) - (a2 + r2) / 32 * 32)), (3, .int ((a1 + r1) - (a1 + r1) / 32 * 32)), (0, .ref 96), (1, .int a1), (2, .int a2)], [.int ((r3 >>> (((6 : Int32) - (2 * ((((a1 + r1) - (a1 + r1) / 32 * 32) - ((a1 + r1) - (a1 + r1) / 32 * 32) / 8 * 8) / 2))) &&& 31)) &&& 3)], (q_kN s c n))) 13 (fun _ _ => rfl) ?_
          exact q_RT_ret rfl rfl rfl
def dz_N118_96 (s : q_S) (a1 : Int32) (a2 : Int32) : Int32 :=
  cond (decide (a1 < 0)) (0) (cond (decide (a1 < 48)) (((((s.1 34) (a1.toNatClampNeg)) >>> (a2 &&& 31)) &&& 1)) (0))
set_option maxHeartbeats 4000000 in
theorem dzt_N118_96 (s : q_S) (c n : Nat) (a1 : Int32) (a2 : Int32) : q_Ca q_TB0 1 117 [.ref 96, .int a1, .int a2] (q_kN s c n) ((q_oP (q_kN s c n)) (dz_N118_96 s a1 a2)) := by
  refine q_CaT_of (φ := (q_oP (q_kN s c n))) (Nat.le_of_ble_eq_true rfl) ?_
  unfold dz_N118_96
  refine q_RT_seg (g2 := (1, [(0, .ref 96), (1, .int a1), (2, .int a2)], [.int a1], (q_kN s c n))) 1 (fun _ _ => rfl) ?_
  cases h1 : decide (a1 < 0) with
  | true =>
    refine q_RT_cT ?_
    refine q_RT_rsT (g2 := (23, [(0, .ref 96), (1, .int a1), (2, .int a2)], [], (q_kN s c n))) rfl rfl h1 ?_
    refine q_RT_seg (g2 := (24, [(0, .ref 96), (1, .int a1), (2, .int a2)], [.int 0], (q_kN s c n))) 1 (fun _ _ => rfl) ?_
    exact q_RT_ret rfl rfl rfl
  | false =>
    refine q_RT_cF ?_
    refine q_RT_rsF (g2 := (4, [(0, .ref 96), (1, .int a1), (2, .int a2)], [], (q_kN s c n))) rfl rfl h1 ?_
    refine q_RT_seg (g2 := (7, [(0, .ref 96), (1, .int a1), (2, .int a2)], [.int 48, .int a1], (q_kN s c n))) 2 (fun _ _ => rfl) ?_
    cases h2 : decide (a1 < 48) with
    | true =>
      refine q_RT_cT ?_
      refine q_RT_rsF (g2 := (10, [(0, .ref 96), (1, .int a1), (2, .int a2)], [], (q_kN s c n))) rfl rfl (q_d_geT h2) ?_
      refine q_RT_seg (g2 := (15, [(0, .ref 96), (1, .int a1), (2, .int a2)], [.int a1, .ref 98], (q_kN s c n))) 3 (fun _ _ => rfl) ?_
      refine q_RT_rsT (g2 := (16, [(0, .ref 96), (1, .int a1), (2, .int a2)], [.int ((s.1 34) (a1.toNatClampNeg))], (q_kN s c n))) rfl rfl (q_in_bd (x := a1) (n := 48) (U := 47) (L := 0) (q_lo1 h1) (q_hi1 h2)) ?_
      refine q_RT_seg (g2 := (24, [(0, .ref 96), (1, .int a1), (2, .int a2)], [.int ((((s.1 34) (a1.toNatClampNeg)) >>> (a2 &&& 31)) &&& 1)], (q_kN s c n))) 5 (fun _ _ => rfl) ?_
      exact q_RT_ret rfl rfl rfl
    | false =>
      refine q_RT_cF ?_
      refine q_RT_rsT (g2 := (23, [(0, .ref 96), (1, .int a1), (2, .int a2)], [], (q_kN s c n))) rfl rfl (q_d_geF h2) ?_
      refine q_RT_seg (g2 := (24, [(0, .ref 96), (1, .int a1), (2, .int a2)], [.int 0], (q_kN s c n))) 1 (fun _ _ => rfl) ?_
      exact q_RT_ret rfl rfl rfl
def dz_N122_96_5 (m : Nat) : q_S → Int32 → Int32 → Int32 → Int32 → Option (Int32) := Nat.rec (motive := fun _ => q_S → Int32 → Int32 → Int32 → Int32 → Option (Int32)) (fun _ _ _ _ _ => none) (fun _ k5 s v1 v2 v3 v4 =>
  cond (decide (v4 < 4)) (q_let (dz_N118_96 s 18 v4) fun r1 => cond (q_in ((20 : Int32) + v4) 48) (q_let ((v1 - ((s.1 34) (((20 : Int32) + v4).toNatClampNeg))) >>> (r1 &&& 31)) fun x2 => cond (q_in ((24 : Int32) + v4) 48) (q_let ((v2 - ((s.1 34) (((24 : Int32) + v4).toNatClampNeg))) >>> (r1 &&& 31)) fun x3 => q_let (dz_N118_96 s 17 v4) fun r4 => cond (decide (r4 = 1)) (cond (decide (x2 < 0)) (k5 s v1 v2 v3 (v4 + 1)) (cond (decide (x2 < 8)) (cond (decide (x3 < 0)) (k5 s v1 v2 v3 (v4 + 1)) (cond (decide (x3 < 8)) (q_let (dz_N120_96 s ((((256 * ((s.1 34) 7)) + 128) + (8 * v4)) + x3)) fun r5 => q_let (v3 ||| (((r5 >>> (((7 : Int32) - x2) &&& 31)) &&& 1) <<< (v4 &&& 31))) fun x6 => k5 s v1 v2 x6 (v4 + 1)) (k5 s v1 v2 v3 (v4 + 1)))) (k5 s v1 v2 v3 (v4 + 1)))) (k5 s v1 v2 v3 (v4 + 1))) none) none) (some v3)) m
theorem dzs_N122_96_5 (m : Nat) (s : q_S) (v1 : Int32) (v2 : Int32) (v3 : Int32) (v4 : Int32) : dz_N122_96_5 (m + 1) s v1 v2 v3 v4 = (fun k5 : q_S → Int32 → Int32 → Int32 → Int32 → Option (Int32) =>
  cond (decide (v4 < 4)) (q_let (dz_N118_96 s 18 v4) fun r1 => cond (q_in ((20 : Int32) + v4) 48) (q_let ((v1 - ((s.1 34) (((20 : Int32) + v4).toNatClampNeg))) >>> (r1 &&& 31)) fun x2 => cond (q_in ((24 : Int32) + v4) 48) (q_let ((v2 - ((s.1 34) (((24 : Int32) + v4).toNatClampNeg))) >>> (r1 &&& 31)) fun x3 => q_let (dz_N118_96 s 17 v4) fun r4 => cond (decide (r4 = 1)) (cond (decide (x2 < 0)) (k5 s v1 v2 v3 (v4 + 1)) (cond (decide (x2 < 8)) (cond (decide (x3 < 0)) (k5 s v1 v2 v3 (v4 + 1)) (cond (decide (x3 < 8)) (q_let (dz_N120_96 s ((((256 * ((s.1 34) 7)) + 128) + (8 * v4)) + x3)) fun r5 => q_let (v3 ||| (((r5 >>> (((7 : Int32) - x2) &&& 31)) &&& 1) <<< (v4 &&& 31))) fun x6 => k5 s v1 v2 x6 (v4 + 1)) (k5 s v1 v2 v3 (v4 + 1)))) (k5 s v1 v2 v3 (v4 + 1)))) (k5 s v1 v2 v3 (v4 + 1))) none) none) (some v3)) (dz_N122_96_5 m) := rfl
set_option maxHeartbeats 4000000 in
theorem dzt_N122_96_5 (c n : Nat) (s : q_S) : ∀ (m : Nat) (v1 : Int32) (v2 : Int32) (v3 : Int32) (v4 : Int32), q_RP q_TB0 1 121 (5, [(0, .ref 96), (1, .int v1), (2, .int v2), (3, .int v3), (4, .int v4)], [], (q_kN s c n)) (q_oP (q_kN s c n)) (dz_N122_96_5 m s v1 v2 v3 v4) := by
  intro m
  induction m with
  | zero => intro v1 v2 v3 v4; exact q_RP_no
  | succ m ih =>
    intro v1 v2 v3 v4
    have hk5 := ih
    clear ih
    rw [dzs_N122_96_5]
    generalize dz_N122_96_5 m = k5 at hk5 ⊢
    dsimp only
    refine q_RP_seg (g2 := (8, [(0, .ref 96), (1, .int v1), (2, .int v2), (3, .int v3), (4, .int v4)], [.int 4, .int v4], (q_kN s c n))) 2 (fun _ _ => rfl) ?_
    cases h1 : decide (v4 < 4) with
    | true =>
      refine q_RP_cT ?_
      refine q_RP_rsF (g2 := (11, [(0, .ref 96), (1, .int v1), (2, .int v2), (3, .int v3), (4, .int v4)], [], (q_kN s c n))) rfl rfl (q_d_geT h1) ?_
      refine q_RP_seg (g2 := (16, [(0, .ref 96), (1, .int v1), (2, .int v2), (3, .int v3), (4, .int v4)], [.int v4, .int 18, .ref 96], (q_kN s c n))) 3 (fun _ _ => rfl) ?_
      refine q_RP_call (v := (some (.int (dz_N118_96 s 18 v4)))) (h2 := (q_kN s c n)) rfl rfl ((dzt_N118_96 s c n 18 v4).le (Nat.le_of_ble_eq_true rfl)) ?_
      generalize dz_N118_96 s 18 v4 = r1
      refine q_RP_let ?_
      show q_RP _ _ _ (19, [(0, .ref 96), (1, .int v1), (2, .int v2), (3, .int v3), (4, .int v4)], [.int r1], (q_kN s c n)) _ _
      refine q_RP_seg (g2 := (31, [(5, .int r1), (0, .ref 96), (1, .int v1), (2, .int v2), (3, .int v3), (4, .int v4)], [.int ((20 : Int32) + v4), .ref 98, .int v1], (q_kN s c n))) 7 (fun _ _ => rfl) ?_
      refine q_RP_as fun i2 => ?_
      refine q_RP_rsT (g2 := (32, [(5, .int r1), (0, .ref 96), (1, .int v1), (2, .int v2), (3, .int v3), (4, .int v4)], [.int ((s.1 34) (((20 : Int32) + v4).toNatClampNeg)), .int v1], (q_kN s c n))) rfl rfl i2 ?_
      refine q_RP_seg (g2 := (36, [(5, .int r1), (0, .ref 96), (1, .int v1), (2, .int v2), (3, .int v3), (4, .int v4)], [.int ((v1 - ((s.1 34) (((20 : Int32) + v4).toNatClampNeg))) >>> (r1 &&& 31))], (q_kN s c n))) 3 (fun _ _ => rfl) ?_
      generalize ((v1 - ((s.1 34) (((20 : Int32) + v4).toNatClampNeg))) >>> (r1 &&& 31)) = x2
      refine q_RP_let ?_
      show q_RP _ _ _ (36, [(5, .int r1), (0, .ref 96), (1, .int v1), (2, .int v2), (3, .int v3), (4, .int v4)], [.int x2], (q_kN s c n)) _ _
      refine q_RP_seg (g2 := (48, [(6, .int x2), (5, .int r1), (0, .ref 96), (1, .int v1), (2, .int v2), (3, .int v3), (4, .int v4)], [.int ((24 : Int32) + v4), .ref 98, .int v2], (q_kN s c n))) 7 (fun _ _ => rfl) ?_
      refine q_RP_as fun i3 => ?_
      refine q_RP_rsT (g2 := (49, [(6, .int x2), (5, .int r1), (0, .ref 96), (1, .int v1), (2, .int v2), (3, .int v3), (4, .int v4)], [.int ((s.1 34) (((24 : Int32) + v4).toNatClampNeg)), .int v2], (q_kN s c n))) rfl rfl i3 ?_
      refine q_RP_seg (g2 := (53, [(6, .int x2), (5, .int r1), (0, .ref 96), (1, .int v1), (2, .int v2), (3, .int v3), (4, .int v4)], [.int ((v2 - ((s.1 34) (((24 : Int32) + v4).toNatClampNeg))) >>> (r1 &&& 31))], (q_kN s c n))) 3 (fun _ _ => rfl) ?_
      generalize ((v2 - ((s.1 34) (((24 : Int32) + v4).toNatClampNeg))) >>> (r1 &&& 31)) = x3
      refine q_RP_let ?_
      show q_RP _ _ _ (53, [(6, .int x2), (5, .int r1), (0, .ref 96), (1, .int v1), (2, .int v2), (3, .int v3), (4, .int v4)], [.int x3], (q_kN s c n)) _ _
      refine q_RP_seg (g2 := (60, [(7, .int x3), (6, .int x2), (5, .int r1), (0, .ref 96), (1, .int v1), (2, .int v2), (3, .int v3), (4, .int v4)], [.int v4, .int 17, .ref 96], (q_kN s c n))) 4 (fun _ _ => rfl) ?_
      refine q_RP_call (v := (some (.int (dz_N118_96 s 17 v4)))) (h2 := (q_kN s c n)) rfl rfl ((dzt_N118_96 s c n 17 v4).le (Nat.le_of_ble_eq_true rfl)) ?_
      generalize dz_N118_96 s 17 v4 = r4
      refine q_RP_let ?_
      show q_RP _ _ _ (63, [(7, .int x3), (6, .int x2), (5, .int r1), (0, .ref 96), (1, .int v1), (2, .int v2), (3, .int v3), (4, .int v4)], [.int r4], (q_kN s c n)) _ _
      refine q_RP_seg (g2 := (64, [(7, .int x3), (6, .int x2), (5, .int r1), (0, .ref 96), (1, .int v1), (2, .int v2), (3, .int v3), (4, .int v4)], [.int 1, .int r4], (q_kN s c n))) 1 (fun _ _ => rfl) ?_
      cases h4 : decide (r4 = 1) with
      | true =>
        refine q_RP_cT ?_
        refine q_RP_rsF (g2 := (67, [(7, .int x3), (6, .int x2), (5, .int r1), (0, .ref 96), (1, .int v1), (2, .int v2), (3, .int v3), (4, .int v4)], [], (q_kN s c n))) rfl rfl (q_d_neT h4) ?_
        refine q_RP_seg (g2 := (69, [(7, .int x3), (6, .int x2), (5, .int r1), (0, .ref 96), (1, .int v1), (2, .int v2), (3, .int v3), (4, .int v4)], [.int x2], (q_kN s c n))) 1 (fun _ _ => rfl) ?_
        cases h5 : decide (x2 < 0) with
        | true =>
          refine q_RP_cT ?_
          refine q_RP_rsT (g2 := (137, [(7, .int x3), (6, .int x2), (5, .int r1), (0, .ref 96), (1, .int v1), (2, .int v2), (3, .int v3), (4, .int v4)], [], (q_kN s c n))) rfl rfl h5 ?_
          refine q_RP_seg (g2 := (5, [(4, .int (v4 + 1)), (7, .int x3), (6, .int x2), (5, .int r1), (0, .ref 96), (1, .int v1), (2, .int v2), (3, .int v3)], [], (q_kN s c n))) 2 (fun _ _ => rfl) ?_
          exact q_RP_xt (q_xt_mk (q_mn1 4 rfl (q_mn1 5 rfl (q_mn1 6 rfl (q_mn1 7 rfl (q_mn1 0 rfl q_mn0))))) rfl) (hk5 v1 v2 v3 (v4 + 1))
        | false =>
          refine q_RP_cF ?_
          refine q_RP_rsF (g2 := (72, [(7, .int x3), (6, .int x2), (5, .int r1), (0, .ref 96), (1, .int v1), (2, .int v2), (3, .int v3), (4, .int v4)], [], (q_kN s c n))) rfl rfl h5 ?_
          refine q_RP_seg (g2 := (76, [(7, .int x3), (6, .int x2), (5, .int r1), (0, .ref 96), (1, .int v1), (2, .int v2), (3, .int v3), (4, .int v4)], [.int 8, .int x2], (q_kN s c n))) 2 (fun _ _ => rfl) ?_
          cases h6 : decide (x2 < 8) with
          | true =>
            refine q_RP_cT ?_
            refine q_RP_rsF (g2 := (79, [(7, .int x3), (6, .int x2), (5, .int r1), (0, .ref 96), (1, .int v1), (2, .int v2), (3, .int v3), (4, .int v4)], [], (q_kN s c n))) rfl rfl (q_d_geT h6) ?_
            refine q_RP_seg (g2 := (81, [(7, .int x3), (6, .int x2), (5, .int r1), (0, .ref 96), (1, .int v1), (2, .int v2), (3, .int v3), (4, .int v4)], [.int x3], (q_kN s c n))) 1 (fun _ _ => rfl) ?_
            cases h7 : decide (x3 < 0) with
            | true =>
              refine q_RP_cT ?_
              refine q_RP_rsT (g2 := (137, [(7, .int x3), (6, .int x2), (5, .int r1), (0, .ref 96), (1, .int v1), (2, .int v2), (3, .int v3), (4, .int v4)], [], (q_kN s c n))) rfl rfl h7 ?_
              refine q_RP_seg (g2 := (5, [(4, .int (v4 + 1)), (7, .int x3), (6, .int x2), (5, .int r1), (0, .ref 96), (1, .int v1), (2, .int v2), (3, .int v3)], [], (q_kN s c n))) 2 (fun _ _ => rfl) ?_
              exact q_RP_xt (q_xt_mk (q_mn1 4 rfl (q_mn1 5 rfl (q_mn1 6 rfl (q_mn1 7 rfl (q_mn1 0 rfl q_mn0))))) rfl) (hk5 v1 v2 v3 (v4 + 1))
            | false =>
              refine q_RP_cF ?_
              refine q_RP_rsF (g2 := (84, [(7, .int x3), (6, .int x2), (5, .int r1), (0, .ref 96), (1, .int v1), (2, .int v2), (3, .int v3), (4, .int v4)], [], (q_kN s c n))) rfl rfl h7 ?_
              refine q_RP_seg (g2 := (88, [(7, .int x3), (6, .int x2), (5, .int r1), (0, .ref 96), (1, .int v1), (2, .int v2), (3, .int v3), (4, .int v4)], [.int 8, .int x3], (q_kN s c n))) 2 (fun _ _ => rfl) ?_
              cases h8 : decide (x3 < 8) with
              | true =>
                refine q_RP_cT ?_
                refine q_RP_rsF (g2 := (91, [(7, .int x3), (6, .int x2), (5, .int r1), (0, .ref 96), (1, .int v1), (2, .int v2), (3, .int v3), (4, .int v4)], [], (q_kN s c n))) rfl rfl (q_d_geT h8) ?_
                refine q_RP_seg (g2 := (102, [(7, .int x3), (6, .int x2), (5, .int r1), (0, .ref 96), (1, .int v1), (2, .int v2), (3, .int v3), (4, .int v4)], [.int ((s.1 34) 7), .int 256, .ref 96], (q_kN s c n))) 6 (fun _ _ => rfl) ?_
                refine q_RP_seg (g2 := (116, [(7, .int x3), (6, .int x2), (5, .int r1), (0, .ref 96), (1, .int v1), (2, .int v2), (3, .int v3), (4, .int v4)], [.int ((((256 * ((s.1 34) 7)) + 128) + (8 * v4)) + x3), .ref 96], (q_kN s c n))) 9 (fun _ _ => rfl) ?_
                refine q_RP_call (v := (some (.int (dz_N120_96 s ((((256 * ((s.1 34) 7)) + 128) + (8 * v4)) + x3))))) (h2 := (q_kN s c n)) rfl rfl ((dzt_N120_96 s c n ((((256 * ((s.1 34) 7)) + 128) + (8 * v4)) + x3)).le (Nat.le_of_ble_eq_true rfl)) ?_
                generalize dz_N120_96 s ((((256 * ((s.1 34) 7)) + 128) + (8 * v4)) + x3) = r5
                refine q_RP_let ?_
                show q_RP _ _ _ (119, [(7, .int x3), (6, .int x2), (5, .int r1), (0, .ref 96), (1, .int v1), (2, .int v2), (3, .int v3), (4, .int v4)], [.int r5], (q_kN s c n)) _ _
                refine q_RP_seg (g2 := (136, [(8, .int r5), (7, .int x3), (6, .int x2), (5, .int r1), (0, .ref 96), (1, .int v1), (2, .int v2), (3, .int v3), (4, .int v4)], [.int (v3 ||| (((r5 >>> (((7 : Int32) - x2) &&& 31)) &&& 1) <<< (v4 &&& 31)))], (q_kN s c n))) 12 (fun _ _ => rfl) ?_
                generalize (v3 ||| (((r5 >>> (((7 : Int32) - x2) &&& 31)) &&& 1) <<< (v4 &&& 31))) = x6
                refine q_RP_let ?_
                show q_RP _ _ _ (136, [(8, .int r5), (7, .int x3), (6, .int x2), (5, .int r1), (0, .ref 96), (1, .int v1), (2, .int v2), (3, .int v3), (4, .int v4)], [.int x6], (q_kN s c n)) _ _
                refine q_RP_seg (g2 := (5, [(4, .int (v4 + 1)), (3, .int x6), (8, .int r5), (7, .int x3), (6, .int x2), (5, .int r1), (0, .ref 96), (1, .int v1), (2, .int v2)], [], (q_kN s c n))) 3 (fun _ _ => rfl) ?_
                exact q_RP_xt (q_xt_mk (q_mn1 6 rfl (q_mn1 7 rfl (q_mn1 8 rfl (q_mn1 1 rfl (q_mn1 0 rfl q_mn0))))) rfl) (hk5 v1 v2 x6 (v4 + 1))
              | false =>
                refine q_RP_cF ?_
                refine q_RP_rsT (g2 := (137, [(7, .int x3), (6, .int x2), (5, .int r1), (0, .ref 96), (1, .int v1), (2, .int v2), (3, .int v3), (4, .int v4)], [], (q_kN s c n))) rfl rfl (q_d_geF h8) ?_
                refine q_RP_seg (g2 := (5, [(4, .int (v4 + 1)), (7, .int x3), (6, .int x2), (5, .int r1), (0, .ref 96), (1, .int v1), (2, .int v2), (3, .int v3)], [], (q_kN s c n))) 2 (fun _ _ => rfl) ?_
                exact q_RP_xt (q_xt_mk (q_mn1 4 rfl (q_mn1 5 rfl (q_mn1 6 rfl (q_mn1 7 rfl (q_mn1 0 rfl q_mn0))))) rfl) (hk5 v1 v2 v3 (v4 + 1))
          | false =>
            refine q_RP_cF ?_
            refine q_RP_rsT (g2 := (137, [(7, .int x3), (6, .int x2), (5, .int r1), (0, .ref 96), (1, .int v1), (2, .int v2), (3, .int v3), (4, .int v4)], [], (q_kN s c n))) rfl rfl (q_d_geF h6) ?_
            refine q_RP_seg (g2 := (5, [(4, .int (v4 + 1)), (7, .int x3), (6, .int x2), (5, .int r1), (0, .ref 96), (1, .int v1), (2, .int v2), (3, .int v3)], [], (q_kN s c n))) 2 (fun _ _ => rfl) ?_
            exact q_RP_xt (q_xt_mk (q_mn1 4 rfl (q_mn1 5 rfl (q_mn1 6 rfl (q_mn1 7 rfl (q_mn1 0 rfl q_mn0))))) rfl) (hk5 v1 v2 v3 (v4 + 1))
      | false =>
        refine q_RP_cF ?_
        refine q_RP_rsT (g2 := (137, [(7, .int x3), (6, .int x2), (5, .int r1), (0, .ref 96), (1, .int v1), (2, .int v2), (3, .int v3), (4, .int v4)], [], (q_kN s c n))) rfl rfl (q_d_neF h4) ?_
        refine q_RP_seg (g2 := (5, [(4, .int (v4 + 1)), (7, .int x3), (6, .int x2), (5, .int r1), (0, .ref 96), (1, .int v1), (2, .int v2), (3, .int v3)], [], (q_kN s c n))) 2 (fun _ _ => rfl) ?_
        exact q_RP_xt (q_xt_mk (q_mn1 4 rfl (q_mn1 5 rfl (q_mn1 6 rfl (q_mn1 7 rfl (q_mn1 0 rfl q_mn0))))) rfl) (hk5 v1 v2 v3 (v4 + 1))
    | false =>
      refine q_RP_cF ?_
      refine q_RP_rsT (g2 := (143, [(0, .ref 96), (1, .int v1), (2, .int v2), (3, .int v3), (4, .int v4)], [], (q_kN s c n))) rfl rfl (q_d_geF h1) ?_
      refine q_RP_seg (g2 := (144, [(0, .ref 96), (1, .int v1), (2, .int v2), (3, .int v3), (4, .int v4)], [.int v3], (q_kN s c n))) 1 (fun _ _ => rfl) ?_
      exact q_RP_ret rfl rfl rfl
def dz_N122_96 (s : q_S) (a1 : Int32) (a2 : Int32) : Option (Int32) :=
  dz_N122_96_5 5000 s a1 a2 0 0
set_option maxHeartbeats 4000000 in
theorem dzt_N122_96 (s : q_S) (c n : Nat) (a1 : Int32) (a2 : Int32) (x : Int32) (h : dz_N122_96 s a1 a2 = some x) : q_Ca q_TB0 2 121 [.ref 96, .int a1, .int a2] (q_kN s c n) ((q_oP (q_kN s c n)) x) := by
  refine q_CaP_of (φ := (q_oP (q_kN s c n))) (Nat.le_of_ble_eq_true rfl) ?_ h
  clear h
  unfold dz_N122_96
  refine q_RP_seg (g2 := (5, [(4, .int 0), (3, .int 0), (0, .ref 96), (1, .int a1), (2, .int a2)], [], (q_kN s c n))) 4 (fun _ _ => rfl) ?_
  exact q_RP_xt (q_xt_mk (q_mn1 2 rfl (q_mn1 3 rfl (q_mn1 4 rfl (q_mn1 1 rfl (q_mn1 0 rfl q_mn0))))) rfl) (dzt_N122_96_5 c n s 5000 a1 a2 0 0)
def dz_N121_96 (s : q_S) (a1 : Int32) : Bool :=
  cond (decide ((s.1 34) 1 = 2)) (cond (decide (a1 < 2)) (false) (true)) (cond (decide (a1 = 1)) (true) (false))
set_option maxHeartbeats 4000000 in
theorem dzt_N121_96 (s : q_S) (c n : Nat) (a1 : Int32) : q_Ca q_TB0 1 120 [.ref 96, .int a1] (q_kN s c n) ((q_oB (q_kN s c n)) (dz_N121_96 s a1)) := by
  refine q_CaT_of (φ := (q_oB (q_kN s c n))) (Nat.le_of_ble_eq_true rfl) ?_
  unfold dz_N121_96
  refine q_RT_seg (g2 := (6, [(0, .ref 96), (1, .int a1)], [.int ((s.1 34) 1)], (q_kN s c n))) 4 (fun _ _ => rfl) ?_
  refine q_RT_seg (g2 := (7, [(0, .ref 96), (1, .int a1)], [.int 2, .int ((s.1 34) 1)], (q_kN s c n))) 1 (fun _ _ => rfl) ?_
  cases h1 : decide ((s.1 34) 1 = 2) with
  | true =>
    refine q_RT_cT ?_
    refine q_RT_rsF (g2 := (10, [(0, .ref 96), (1, .int a1)], [], (q_kN s c n))) rfl rfl (q_d_neT h1) ?_
    refine q_RT_seg (g2 := (12, [(0, .ref 96), (1, .int a1)], [.int 2, .int a1], (q_kN s c n))) 2 (fun _ _ => rfl) ?_
    cases h2 : decide (a1 < 2) with
    | true =>
      refine q_RT_cT ?_
      refine q_RT_rsT (g2 := (19, [(0, .ref 96), (1, .int a1)], [], (q_kN s c n))) rfl rfl h2 ?_
      refine q_RT_seg (g2 := (33, [(0, .ref 96), (1, .int a1)], [.int 0], (q_kN s c n))) 2 (fun _ _ => rfl) ?_
      exact q_RT_ret rfl rfl rfl
    | false =>
      refine q_RT_cF ?_
      refine q_RT_rsF (g2 := (15, [(0, .ref 96), (1, .int a1)], [], (q_kN s c n))) rfl rfl h2 ?_
      refine q_RT_seg (g2 := (33, [(0, .ref 96), (1, .int a1)], [.int 1], (q_kN s c n))) 2 (fun _ _ => rfl) ?_
      exact q_RT_ret rfl rfl rfl
  | false =>
    refine q_RT_cF ?_
    refine q_RT_rsT (g2 := (23, [(0, .ref 96), (1, .int a1)], [], (q_kN s c n))) rfl rfl (q_d_neF h1) ?_
    refine q_RT_seg (g2 := (25, [(0, .ref 96), (1, .int a1)], [.int 1, .int a1], (q_kN s c n))) 2 (fun _ _ => rfl) ?_
    cases h3 : decide (a1 = 1) with
    | true =>
      refine q_RT_cT ?_
      refine q_RT_rsF (g2 := (28, [(0, .ref 96), (1, .int a1)], [], (q_kN s c n))) rfl rfl (q_d_neT h3) ?_
      refine q_RT_seg (g2 := (33, [(0, .ref 96), (1, .int a1)], [.int 1], (q_kN s c n))) 2 (fun _ _ => rfl) ?_
      exact q_RT_ret rfl rfl rfl
    | false =>
      refine q_RT_cF ?_
      refine q_RT_rsT (g2 := (32, [(0, .ref 96), (1, .int a1)], [], (q_kN s c n))) rfl rfl (q_d_neF h3) ?_
      refine q_RT_seg (g2 := (33, [(0, .ref 96), (1, .int a1)], [.int 0], (q_kN s c n))) 1 (fun _ _ => rfl) ?_
      exact q_RT_ret rfl rfl rfl
def dz_N123_96_39 (s : q_S) (v1 : Int32) (v3 : Int32) : Option (Int32) :=
  some ((((s.1 34) 28) + v3) - (((s.1 34) 28) + v3) / 16 * 16)
set_option maxHeartbeats 4000000 in
theorem dzt_N123_96_39 (c n : Nat) (s : q_S) (v1 : Int32) (v3 : Int32) : q_RP q_TB0 1 122 (39, [(0, .ref 96), (1, .int v1), (3, .int v3)], [], (q_kN s c n)) (q_oP (q_kN s c n)) (dz_N123_96_39 s v1 v3) := by
  unfold dz_N123_96_39
  refine q_RP_seg (g2 := (67, [(4, .int 0), (0, .ref 96), (1, .int v1), (3, .int v3)], [.int ((s.1 34) 28)], (q_kN s c n))) 8 (fun _ _ => rfl) ?_
  refine q_RP_seg (g2 := (72, [(4, .int 0), (0, .ref 96), (1, .int v1), (3, .int v3)], [.int ((((s.1 34) 28) + v3) - (((s.1 34) 28) + v3) / 16 * 16)], (q_kN s c n))) 4 (fun _ _ => rfl) ?_
  exact q_RP_ret rfl rfl rfl
def dz_N123_96_2 (m : Nat) : q_S → Int32 → Int32 → Int32 → Option (Int32) := Nat.rec (motive := fun _ => q_S → Int32 → Int32 → Int32 → Option (Int32)) (fun _ _ _ _ => none) (fun _ k2 s v1 v2 v3 =>
  cond (decide (v3 < 4)) (cond (decide ((v2 >>> (v3 &&& 31)) &&& 1 = 1)) (q_let (dz_N118_96 s 19 v3) fun r1 => cond (decide (r1 = 1)) (q_let (dz_N121_96 s v1) fun r2 => cond r2 (cond (q_in ((3 : Int32) + (v1 &&& 3)) 48) (some ((s.1 34) (((3 : Int32) + (v1 &&& 3)).toNatClampNeg))) none) (dz_N123_96_39 s v1 v3)) (dz_N123_96_39 s v1 v3)) (k2 s v1 v2 (v3 + 1))) (cond (q_in ((3 : Int32) + (v1 &&& 3)) 48) (some ((s.1 34) (((3 : Int32) + (v1 &&& 3)).toNatClampNeg))) none)) m
theorem dzs_N123_96_2 (m : Nat) (s : q_S) (v1 : Int32) (v2 : Int32) (v3 : Int32) : dz_N123_96_2 (m + 1) s v1 v2 v3 = (fun k2 : q_S → Int32 → Int32 → Int32 → Option (Int32) =>
  cond (decide (v3 < 4)) (cond (decide ((v2 >>> (v3 &&& 31)) &&& 1 = 1)) (q_let (dz_N118_96 s 19 v3) fun r1 => cond (decide (r1 = 1)) (q_let (dz_N121_96 s v1) fun r2 => cond r2 (cond (q_in ((3 : Int32) + (v1 &&& 3)) 48) (some ((s.1 34) (((3 : Int32) + (v1 &&& 3)).toNatClampNeg))) none) (dz_N123_96_39 s v1 v3)) (dz_N123_96_39 s v1 v3)) (k2 s v1 v2 (v3 + 1))) (cond (q_in ((3 : Int32) + (v1 &&& 3)) 48) (some ((s.1 34) (((3 : Int32) + (v1 &&& 3)).toNatClampNeg))) none)) (dz_N123_96_2 m) := rfl
set_option maxHeartbeats 4000000 in
theorem dzt_N123_96_2 (c n : Nat) (s : q_S) : ∀ (m : Nat) (v1 : Int32) (v2 : Int32) (v3 : Int32), q_RP q_TB0 1 122 (2, [(0, .ref 96), (1, .int v1), (2, .int v2), (3, .int v3)], [], (q_kN s c n)) (q_oP (q_kN s c n)) (dz_N123_96_2 m s v1 v2 v3) := by
  intro m
  induction m with
  | zero => intro v1 v2 v3; exact q_RP_no
  | succ m ih =>
    intro v1 v2 v3
    have hk2 := ih
    clear ih
    rw [dzs_N123_96_2]
    generalize dz_N123_96_2 m = k2 at hk2 ⊢
    dsimp only
    refine q_RP_seg (g2 := (4, [(0, .ref 96), (1, .int v1), (2, .int v2), (3, .int v3)], [.int 4, .int v3], (q_kN s c n))) 2 (fun _ _ => rfl) ?_
    cases h1 : decide (v3 < 4) with
    | true =>
      refine q_RP_cT ?_
      refine q_RP_rsF (g2 := (7, [(0, .ref 96), (1, .int v1), (2, .int v2), (3, .int v3)], [], (q_kN s c n))) rfl rfl (q_d_geT h1) ?_
      refine q_RP_seg (g2 := (13, [(0, .ref 96), (1, .int v1), (2, .int v2), (3, .int v3)], [.int 1, .int ((v2 >>> (v3 &&& 31)) &&& 1)], (q_kN s c n))) 6 (fun _ _ => rfl) ?_
      cases h2 : decide ((v2 >>> (v3 &&& 31)) &&& 1 = 1) with
      | true =>
        refine q_RP_cT ?_
        refine q_RP_rsF (g2 := (16, [(0, .ref 96), (1, .int v1), (2, .int v2), (3, .int v3)], [], (q_kN s c n))) rfl rfl (q_d_neT h2) ?_
        refine q_RP_seg (g2 := (20, [(0, .ref 96), (1, .int v1), (2, .int v2), (3, .int v3)], [.int v3, .int 19, .ref 96], (q_kN s c n))) 3 (fun _ _ => rfl) ?_
        refine q_RP_call (v := (some (.int (dz_N118_96 s 19 v3)))) (h2 := (q_kN s c n)) rfl rfl ((dzt_N118_96 s c n 19 v3).le (Nat.le_of_ble_eq_true rfl)) ?_
        generalize dz_N118_96 s 19 v3 = r1
        refine q_RP_let ?_
        show q_RP _ _ _ (23, [(0, .ref 96), (1, .int v1), (2, .int v2), (3, .int v3)], [.int r1], (q_kN s c n)) _ _
        refine q_RP_seg (g2 := (24, [(0, .ref 96), (1, .int v1), (2, .int v2), (3, .int v3)], [.int 1, .int r1], (q_kN s c n))) 1 (fun _ _ => rfl) ?_
        cases h3 : decide (r1 = 1) with
        | true =>
          refine q_RP_cT ?_
          refine q_RP_rsF (g2 := (27, [(0, .ref 96), (1, .int v1), (2, .int v2), (3, .int v3)], [], (q_kN s c n))) rfl rfl (q_d_neT h3) ?_
          refine q_RP_seg (g2 := (29, [(0, .ref 96), (1, .int v1), (2, .int v2), (3, .int v3)], [.int v1, .ref 96], (q_kN s c n))) 2 (fun _ _ => rfl) ?_
          refine q_RP_call (v := (some (.int (q_b (dz_N121_96 s v1))))) (h2 := (q_kN s c n)) rfl rfl ((dzt_N121_96 s c n v1).le (Nat.le_of_ble_eq_true rfl)) ?_
          generalize dz_N121_96 s v1 = r2
          refine q_RP_let ?_
          show q_RP _ _ _ (32, [(0, .ref 96), (1, .int v1), (2, .int v2), (3, .int v3)], [.int (q_b r2)], (q_kN s c n)) _ _
          cases h4 : r2 with
          | true =>
            refine q_RP_cT ?_
            show q_RP _ _ _ (32, [(0, .ref 96), (1, .int v1), (2, .int v2), (3, .int v3)], [.int 1], (q_kN s c n)) _ _
            refine q_RP_seg (g2 := (56, [(4, .int 1), (0, .ref 96), (1, .int v1), (2, .int v2), (3, .int v3)], [.int ((3 : Int32) + (v1 &&& 3)), .ref 98], (q_kN s c n))) 13 (fun _ _ => rfl) ?_
            refine q_RP_as fun i5 => ?_
            refine q_RP_rsT (g2 := (57, [(4, .int 1), (0, .ref 96), (1, .int v1), (2, .int v2), (3, .int v3)], [.int ((s.1 34) (((3 : Int32) + (v1 &&& 3)).toNatClampNeg))], (q_kN s c n))) rfl rfl i5 ?_
            refine q_RP_seg (g2 := (72, [(4, .int 1), (0, .ref 96), (1, .int v1), (2, .int v2), (3, .int v3)], [.int ((s.1 34) (((3 : Int32) + (v1 &&& 3)).toNatClampNeg))], (q_kN s c n))) 1 (fun _ _ => rfl) ?_
            exact q_RP_ret rfl rfl rfl
          | false =>
            refine q_RP_cF ?_
            show q_RP _ _ _ (32, [(0, .ref 96), (1, .int v1), (2, .int v2), (3, .int v3)], [.int 0], (q_kN s c n)) _ _
            refine q_RP_seg (g2 := (39, [(0, .ref 96), (1, .int v1), (2, .int v2), (3, .int v3)], [], (q_kN s c n))) 1 (fun _ _ => rfl) ?_
            exact q_RP_xt (q_xt_mk (q_mn1 0 rfl (q_mn1 1 rfl (q_mn1 3 rfl q_mn0))) rfl) (dzt_N123_96_39 c n s v1 v3)
        | false =>
          refine q_RP_cF ?_
          refine q_RP_rsT (g2 := (39, [(0, .ref 96), (1, .int v1), (2, .int v2), (3, .int v3)], [], (q_kN s c n))) rfl rfl (q_d_neF h3) ?_
          exact q_RP_xt (q_xt_mk (q_mn1 0 rfl (q_mn1 1 rfl (q_mn1 3 rfl q_mn0))) rfl) (dzt_N123_96_39 c n s v1 v3)
      | false =>
        refine q_RP_cF ?_
        refine q_RP_rsT (g2 := (73, [(0, .ref 96), (1, .int v1), (2, .int v2), (3, .int v3)], [], (q_kN s c n))) rfl rfl (q_d_neF h2) ?_
        refine q_RP_seg (g2 := (2, [(3, .int (v3 + 1)), (0, .ref 96), (1, .int v1), (2, .int v2)], [], (q_kN s c n))) 2 (fun _ _ => rfl) ?_
        exact q_RP_xt (q_xt_mk (q_mn1 1 rfl (q_mn1 2 rfl (q_mn1 3 rfl (q_mn1 0 rfl q_mn0)))) rfl) (hk2 v1 v2 (v3 + 1))
    | false =>
      refine q_RP_cF ?_
      refine q_RP_rsT (g2 := (79, [(0, .ref 96), (1, .int v1), (2, .int v2), (3, .int v3)], [], (q_kN s c n))) rfl rfl (q_d_geF h1) ?_
      refine q_RP_seg (g2 := (88, [(0, .ref 96), (1, .int v1), (2, .int v2), (3, .int v3)], [.int ((3 : Int32) + (v1 &&& 3)), .ref 98], (q_kN s c n))) 7 (fun _ _ => rfl) ?_
      refine q_RP_as fun i6 => ?_
      refine q_RP_rsT (g2 := (89, [(0, .ref 96), (1, .int v1), (2, .int v2), (3, .int v3)], [.int ((s.1 34) (((3 : Int32) + (v1 &&& 3)).toNatClampNeg))], (q_kN s c n))) rfl rfl i6 ?_
      exact q_RP_ret rfl rfl rfl
def dz_N123_96 (s : q_S) (a1 : Int32) (a2 : Int32) : Option (Int32) :=
  dz_N123_96_2 5000 s a1 a2 0
set_option maxHeartbeats 4000000 in
theorem dzt_N123_96 (s : q_S) (c n : Nat) (a1 : Int32) (a2 : Int32) (x : Int32) (h : dz_N123_96 s a1 a2 = some x) : q_Ca q_TB0 2 122 [.ref 96, .int a1, .int a2] (q_kN s c n) ((q_oP (q_kN s c n)) x) := by
  refine q_CaP_of (φ := (q_oP (q_kN s c n))) (Nat.le_of_ble_eq_true rfl) ?_ h
  clear h
  unfold dz_N123_96
  refine q_RP_seg (g2 := (2, [(3, .int 0), (0, .ref 96), (1, .int a1), (2, .int a2)], [], (q_kN s c n))) 2 (fun _ _ => rfl) ?_
  exact q_RP_xt (q_xt_mk (q_mn1 1 rfl (q_mn1 2 rfl (q_mn1 3 rfl (q_mn1 0 rfl q_mn0)))) rfl) (dzt_N123_96_2 c n s 5000 a1 a2 0)
def dz_N110_96_83 (s : q_S) : q_S :=
  (q_sA (q_sA s 33 (va_cpy (s.1 20) (s.1 33) 0 0 4096)) 34 (va_cpy (s.1 21) (s.1 34) 0 0 48))
set_option maxHeartbeats 4000000 in
theorem dzt_N110_96_83 (s : q_S) (c n : Nat) : q_Ca q_TB0 1 109 [.ref 96, .ref 83] (q_kN s c n) ((q_oSN c n) (dz_N110_96_83 s)) := by
  refine q_CaT_of (φ := (q_oSN c n)) (Nat.le_of_ble_eq_true rfl) ?_
  unfold dz_N110_96_83
  refine q_RT_seg (g2 := (13, [(0, .ref 96), (1, .ref 83)], [.int 4096, .int 0, .ref 97, .int 0, .ref 84], (q_kN s c n))) 7 (fun _ _ => rfl) ?_
  refine q_RT_rsT (g2 := (16, [(0, .ref 96), (1, .ref 83)], [], (q_kN (q_sA s 33 (va_cpy (s.1 20) (s.1 33) 0 0 4096)) c n))) rfl rfl (q_acb rfl) ?_
  refine q_RT_seg (g2 := (28, [(0, .ref 96), (1, .ref 83)], [.int 48, .int 0, .ref 98, .int 0, .ref 85], (q_kN (q_sA s 33 (va_cpy (s.1 20) (s.1 33) 0 0 4096)) c n))) 7 (fun _ _ => rfl) ?_
  refine q_RT_rsT (g2 := (31, [(0, .ref 96), (1, .ref 83)], [], (q_kN (q_sA (q_sA s 33 (va_cpy (s.1 20) (s.1 33) 0 0 4096)) 34 (va_cpy (s.1 21) (s.1 34) 0 0 48)) c n))) rfl rfl (q_acb rfl) ?_
  exact q_RT_ret rfl rfl rfl
def dz_N129_82_96_10 (m : Nat) : q_S → Int32 → Int32 → Option (q_S) := Nat.rec (motive := fun _ => q_S → Int32 → Int32 → Option (q_S)) (fun _ _ _ => none) (fun _ k10 s v1 v3 =>
  cond (decide (v3 < s.2.1 18 2)) (cond (decide (v3 < 3072)) (cond (q_in v3 3072) (cond (decide (v1 < ((s.1 22) (v3.toNatClampNeg)) >>> ((21 &&& 31) : Int32))) (some s) (cond (decide ((((s.1 22) (v3.toNatClampNeg)) >>> ((8 &&& 31) : Int32)) &&& 8191 = 4096)) ((dz_N113_96 s).bind fun r2 => k10 r2 v1 (v3 + 1)) (q_let (dz_N112_96 s ((((s.1 22) (v3.toNatClampNeg)) >>> ((8 &&& 31) : Int32)) &&& 8191) (((s.1 22) (v3.toNatClampNeg)) &&& 255)) fun r3 => k10 r3 v1 (v3 + 1)))) none) (some s)) (some s)) m
theorem dzs_N129_82_96_10 (m : Nat) (s : q_S) (v1 : Int32) (v3 : Int32) : dz_N129_82_96_10 (m + 1) s v1 v3 = (fun k10 : q_S → Int32 → Int32 → Option (q_S) =>
  cond (decide (v3 < s.2.1 18 2)) (cond (decide (v3 < 3072)) (cond (q_in v3 3072) (cond (decide (v1 < ((s.1 22) (v3.toNatClampNeg)) >>> ((21 &&& 31) : Int32))) (some s) (cond (decide ((((s.1 22) (v3.toNatClampNeg)) >>> ((8 &&& 31) : Int32)) &&& 8191 = 4096)) ((dz_N113_96 s).bind fun r2 => k10 r2 v1 (v3 + 1)) (q_let (dz_N112_96 s ((((s.1 22) (v3.toNatClampNeg)) >>> ((8 &&& 31) : Int32)) &&& 8191) (((s.1 22) (v3.toNatClampNeg)) &&& 255)) fun r3 => k10 r3 v1 (v3 + 1)))) none) (some s)) (some s)) (dz_N129_82_96_10 m) := rfl
set_option maxHeartbeats 4000000 in
theorem dzt_N129_82_96_10 (c n : Nat) : ∀ (m : Nat) (s : q_S) (v1 : Int32) (v3 : Int32), q_RP q_TB0 2 128 (10, [(0, .ref 82), (1, .int v1), (2, .ref 96), (3, .int v3)], [], (q_kN s c n)) (q_oSN c n) (dz_N129_82_96_10 m s v1 v3) := by
  intro m
  induction m with
  | zero => intro s v1 v3; exact q_RP_no
  | succ m ih =>
    intro s v1 v3
    have hk10 := ih
    clear ih
    rw [dzs_N129_82_96_10]
    generalize dz_N129_82_96_10 m = k10 at hk10 ⊢
    dsimp only
    refine q_RP_seg (g2 := (15, [(0, .ref 82), (1, .int v1), (2, .ref 96), (3, .int v3)], [.int (s.2.1 18 2), .int v3], (q_kN s c n))) 3 (fun _ _ => rfl) ?_
    cases h1 : decide (v3 < s.2.1 18 2) with
    | true =>
      refine q_RP_cT ?_
      refine q_RP_rsF (g2 := (18, [(0, .ref 82), (1, .int v1), (2, .ref 96), (3, .int v3)], [], (q_kN s c n))) rfl rfl (q_d_geT h1) ?_
      refine q_RP_seg (g2 := (22, [(0, .ref 82), (1, .int v1), (2, .ref 96), (3, .int v3)], [.int 3072, .int v3], (q_kN s c n))) 2 (fun _ _ => rfl) ?_
      cases h2 : decide (v3 < 3072) with
      | true =>
        refine q_RP_cT ?_
        refine q_RP_rsF (g2 := (25, [(0, .ref 82), (1, .int v1), (2, .ref 96), (3, .int v3)], [], (q_kN s c n))) rfl rfl (q_d_geT h2) ?_
        refine q_RP_seg (g2 := (30, [(0, .ref 82), (1, .int v1), (2, .ref 96), (3, .int v3)], [.int v3, .ref 86], (q_kN s c n))) 3 (fun _ _ => rfl) ?_
        refine q_RP_as fun i3 => ?_
        refine q_RP_rsT (g2 := (31, [(0, .ref 82), (1, .int v1), (2, .ref 96), (3, .int v3)], [.int ((s.1 22) (v3.toNatClampNeg))], (q_kN s c n))) rfl rfl i3 ?_
        refine q_RP_seg (g2 := (35, [(0, .ref 82), (1, .int v1), (2, .ref 96), (3, .int v3)], [.int v1, .int (((s.1 22) (v3.toNatClampNeg)) >>> ((21 &&& 31) : Int32))], (q_kN s c n))) 3 (fun _ _ => rfl) ?_
        cases h4 : decide (v1 < ((s.1 22) (v3.toNatClampNeg)) >>> ((21 &&& 31) : Int32)) with
        | true =>
          refine q_RP_cT ?_
          refine q_RP_rsF (g2 := (38, [(0, .ref 82), (1, .int v1), (2, .ref 96), (3, .int v3)], [], (q_kN s c n))) rfl rfl (q_d_geT h4) ?_
          exact q_RP_ret rfl rfl rfl
        | false =>
          refine q_RP_cF ?_
          refine q_RP_rsT (g2 := (39, [(0, .ref 82), (1, .int v1), (2, .ref 96), (3, .int v3)], [], (q_kN s c n))) rfl rfl (q_d_geF h4) ?_
          refine q_RP_seg (g2 := (44, [(0, .ref 82), (1, .int v1), (2, .ref 96), (3, .int v3)], [.int v3, .ref 86], (q_kN s c n))) 3 (fun _ _ => rfl) ?_
          refine q_RP_rsT (g2 := (45, [(0, .ref 82), (1, .int v1), (2, .ref 96), (3, .int v3)], [.int ((s.1 22) (v3.toNatClampNeg))], (q_kN s c n))) rfl rfl i3 ?_
          refine q_RP_seg (g2 := (59, [(4, .int ((((s.1 22) (v3.toNatClampNeg)) >>> ((8 &&& 31) : Int32)) &&& 8191)), (0, .ref 82), (1, .int v1), (2, .ref 96), (3, .int v3)], [.int 4096, .int ((((s.1 22) (v3.toNatClampNeg)) >>> ((8 &&& 31) : Int32)) &&& 8191)], (q_kN s c n))) 7 (fun _ _ => rfl) ?_
          cases h5 : decide ((((s.1 22) (v3.toNatClampNeg)) >>> ((8 &&& 31) : Int32)) &&& 8191 = 4096) with
          | true =>
            refine q_RP_cT ?_
            refine q_RP_rsF (g2 := (62, [(4, .int ((((s.1 22) (v3.toNatClampNeg)) >>> ((8 &&& 31) : Int32)) &&& 8191)), (0, .ref 82), (1, .int v1), (2, .ref 96), (3, .int v3)], [], (q_kN s c n))) rfl rfl (q_d_neT h5) ?_
            refine q_RP_seg (g2 := (63, [(4, .int ((((s.1 22) (v3.toNatClampNeg)) >>> ((8 &&& 31) : Int32)) &&& 8191)), (0, .ref 82), (1, .int v1), (2, .ref 96), (3, .int v3)], [.ref 96], (q_kN s c n))) 1 (fun _ _ => rfl) ?_
            refine q_RP_bd fun r2 er2 => ?_
            refine q_RP_call (v := none) (h2 := (q_kN r2 c n)) rfl rfl ((dzt_N113_96 s c n r2 er2).le (Nat.le_of_ble_eq_true rfl)) ?_
            show q_RP _ _ _ (66, [(4, .int ((((s.1 22) (v3.toNatClampNeg)) >>> ((8 &&& 31) : Int32)) &&& 8191)), (0, .ref 82), (1, .int v1), (2, .ref 96), (3, .int v3)], [], (q_kN r2 c n)) _ _
            refine q_RP_seg (g2 := (10, [(3, .int (v3 + 1)), (4, .int ((((s.1 22) (v3.toNatClampNeg)) >>> ((8 &&& 31) : Int32)) &&& 8191)), (0, .ref 82), (1, .int v1), (2, .ref 96)], [], (q_kN r2 c n))) 3 (fun _ _ => rfl) ?_
            exact q_RP_xt (q_xt_mk (q_mn1 2 rfl (q_mn1 3 rfl (q_mn1 4 rfl (q_mn1 0 rfl q_mn0)))) rfl) (hk10 r2 v1 (v3 + 1))
          | false =>
            refine q_RP_cF ?_
            refine q_RP_rsT (g2 := (69, [(4, .int ((((s.1 22) (v3.toNatClampNeg)) >>> ((8 &&& 31) : Int32)) &&& 8191)), (0, .ref 82), (1, .int v1), (2, .ref 96), (3, .int v3)], [], (q_kN s c n))) rfl rfl (q_d_neF h5) ?_
            refine q_RP_seg (g2 := (77, [(4, .int ((((s.1 22) (v3.toNatClampNeg)) >>> ((8 &&& 31) : Int32)) &&& 8191)), (0, .ref 82), (1, .int v1), (2, .ref 96), (3, .int v3)], [.int v3, .ref 86, .int ((((s.1 22) (v3.toNatClampNeg)) >>> ((8 &&& 31) : Int32)) &&& 8191), .ref 96], (q_kN s c n))) 5 (fun _ _ => rfl) ?_
            refine q_RP_rsT (g2 := (78, [(4, .int ((((s.1 22) (v3.toNatClampNeg)) >>> ((8 &&& 31) : Int32)) &&& 8191)), (0, .ref 82), (1, .int v1), (2, .ref 96), (3, .int v3)], [.int ((s.1 22) (v3.toNatClampNeg)), .int ((((s.1 22) (v3.toNatClampNeg)) >>> ((8 &&& 31) : Int32)) &&& 8191), .ref 96], (q_kN s c n))) rfl rfl i3 ?_
            refine q_RP_seg (g2 := (82, [(4, .int ((((s.1 22) (v3.toNatClampNeg)) >>> ((8 &&& 31) : Int32)) &&& 8191)), (0, .ref 82), (1, .int v1), (2, .ref 96), (3, .int v3)], [.int (((s.1 22) (v3.toNatClampNeg)) &&& 255), .int ((((s.1 22) (v3.toNatClampNeg)) >>> ((8 &&& 31) : Int32)) &&& 8191), .ref 96], (q_kN s c n))) 2 (fun _ _ => rfl) ?_
            refine q_RP_call (v := none) (h2 := (q_kN (dz_N112_96 s ((((s.1 22) (v3.toNatClampNeg)) >>> ((8 &&& 31) : Int32)) &&& 8191) (((s.1 22) (v3.toNatClampNeg)) &&& 255)) c n)) rfl rfl ((dzt_N112_96 s c n ((((s.1 22) (v3.toNatClampNeg)) >>> ((8 &&& 31) : Int32)) &&& 8191) (((s.1 22) (v3.toNatClampNeg)) &&& 255)).le (Nat.le_of_ble_eq_true rfl)) ?_
            generalize dz_N112_96 s ((((s.1 22) (v3.toNatClampNeg)) >>> ((8 &&& 31) : Int32)) &&& 8191) (((s.1 22) (v3.toNatClampNeg)) &&& 255) = r3
            refine q_RP_let ?_
            show q_RP _ _ _ (85, [(4, .int ((((s.1 22) (v3.toNatClampNeg)) >>> ((8 &&& 31) : Int32)) &&& 8191)), (0, .ref 82), (1, .int v1), (2, .ref 96), (3, .int v3)], [], (q_kN r3 c n)) _ _
            refine q_RP_seg (g2 := (10, [(3, .int (v3 + 1)), (4, .int ((((s.1 22) (v3.toNatClampNeg)) >>> ((8 &&& 31) : Int32)) &&& 8191)), (0, .ref 82), (1, .int v1), (2, .ref 96)], [], (q_kN r3 c n))) 2 (fun _ _ => rfl) ?_
            exact q_RP_xt (q_xt_mk (q_mn1 2 rfl (q_mn1 3 rfl (q_mn1 4 rfl (q_mn1 0 rfl q_mn0)))) rfl) (hk10 r3 v1 (v3 + 1))
      | false =>
        refine q_RP_cF ?_
        refine q_RP_rsT (g2 := (91, [(0, .ref 82), (1, .int v1), (2, .ref 96), (3, .int v3)], [], (q_kN s c n))) rfl rfl (q_d_geF h2) ?_
        exact q_RP_ret rfl rfl rfl
    | false =>
      refine q_RP_cF ?_
      refine q_RP_rsT (g2 := (91, [(0, .ref 82), (1, .int v1), (2, .ref 96), (3, .int v3)], [], (q_kN s c n))) rfl rfl (q_d_geF h1) ?_
      exact q_RP_ret rfl rfl rfl
def dz_N129_82_96 (s : q_S) (a1 : Int32) : Option (q_S) :=
  q_let (dz_N110_96_83 s) fun r1 => dz_N129_82_96_10 5000 r1 a1 0
set_option maxHeartbeats 4000000 in
theorem dzt_N129_82_96 (s : q_S) (c n : Nat) (a1 : Int32) (x : q_S) (h : dz_N129_82_96 s a1 = some x) : q_Ca q_TB0 3 128 [.ref 82, .int a1, .ref 96] (q_kN s c n) ((q_oSN c n) x) := by
  refine q_CaP_of (φ := (q_oSN c n)) (Nat.le_of_ble_eq_true rfl) ?_ h
  clear h
  unfold dz_N129_82_96
  refine q_RP_seg (g2 := (5, [(0, .ref 82), (1, .int a1), (2, .ref 96)], [.ref 83, .ref 96], (q_kN s c n))) 3 (fun _ _ => rfl) ?_
  refine q_RP_call (v := none) (h2 := (q_kN (dz_N110_96_83 s) c n)) rfl rfl ((dzt_N110_96_83 s c n).le (Nat.le_of_ble_eq_true rfl)) ?_
  generalize dz_N110_96_83 s = r1
  refine q_RP_let ?_
  show q_RP _ _ _ (8, [(0, .ref 82), (1, .int a1), (2, .ref 96)], [], (q_kN r1 c n)) _ _
  refine q_RP_seg (g2 := (10, [(3, .int 0), (0, .ref 82), (1, .int a1), (2, .ref 96)], [], (q_kN r1 c n))) 2 (fun _ _ => rfl) ?_
  exact q_RP_xt (q_xt_mk (q_mn1 1 rfl (q_mn1 2 rfl (q_mn1 3 rfl (q_mn1 0 rfl q_mn0)))) rfl) (dzt_N129_82_96_10 c n 5000 r1 a1 0)
def dz_N108_65_96 (s : q_S) (a1 : Int32) (a2 : Int32) : Option (q_S × Int32) :=
  cond (decide (lg_cmp (((s.2.2 1 8) / 960) - ((s.2.2 1 8) / 960) / 2 * 2) 0 = 0)) (cond (decide ((24 * (a2 + 4)) + ((a1 / 2) + 4) < s.2.1 13 3)) ((dz_N129_77_96 s ((24 * (a2 + 4)) + ((a1 / 2) + 4))).bind fun r2 => q_let (dz_N119_96 r2 a1 a2) fun r3 => (dz_N122_96 r2 a1 a2).bind fun r4 => (dz_N123_96 r2 r3 r4).bind fun r5 => some (r2, r5)) (cond (decide ((24 * (a2 + 4)) + ((a1 / 2) + 4) < s.2.1 18 3)) ((dz_N129_82_96 s ((24 * (a2 + 4)) + ((a1 / 2) + 4))).bind fun r6 => q_let (dz_N119_96 r6 a1 a2) fun r7 => (dz_N122_96 r6 a1 a2).bind fun r8 => (dz_N123_96 r6 r7 r8).bind fun r9 => some (r6, r9)) (some (s, 0)))) (cond (decide ((24 * (a2 + 4)) + ((a1 / 2) + 4) < s.2.1 18 3)) ((dz_N129_82_96 s ((24 * (a2 + 4)) + ((a1 / 2) + 4))).bind fun r10 => q_let (dz_N119_96 r10 a1 a2) fun r11 => (dz_N122_96 r10 a1 a2).bind fun r12 => (dz_N123_96 r10 r11 r12).bind fun r13 => some (r10, r13)) (cond (decide ((24 * (a2 + 4)) + ((a1 / 2) + 4) < s.2.1 13 3)) ((dz_N129_77_96 s ((24 * (a2 + 4)) + ((a1 / 2) + 4))).bind fun r14 => q_let (dz_N119_96 r14 a1 a2) fun r15 => (dz_N122_96 r14 a1 a2).bind fun r16 => (dz_N123_96 r14 r15 r16).bind fun r17 => some (r14, r17)) (some (s, 0))))
set_option maxHeartbeats 4000000 in
theorem dzt_N108_65_96 (s : q_S) (c n : Nat) (a1 : Int32) (a2 : Int32) (x : q_S × Int32) (h : dz_N108_65_96 s a1 a2 = some x) : q_Ca q_TB0 4 107 [.ref 65, .int a1, .int a2, .ref 96] (q_kN s c n) ((q_oIN c n) x) := by
  refine q_CaP_of (φ := (q_oIN c n)) (Nat.le_of_ble_eq_true rfl) ?_ h
  clear h
  unfold dz_N108_65_96
  refine q_RP_seg (g2 := (21, [(5, .int ((24 * (a2 + 4)) + ((a1 / 2) + 4))), (4, .int ((a1 / 2) + 4)), (0, .ref 65), (1, .int a1), (2, .int a2), (3, .ref 96)], [.ref 65, .int ((24 * (a2 + 4)) + ((a1 / 2) + 4))], (q_kN s c n))) 16 (fun _ _ => rfl) ?_
  cases h3 : decide (lg_cmp (((s.2.2 1 8) / 960) - ((s.2.2 1 8) / 960) / 2 * 2) 0 = 0) with
  | true =>
    refine q_RP_cT ?_
    refine q_RP_call (v := (some (.ref 77))) (h2 := (q_kN s c n)) rfl rfl ?_ ?_
    · refine q_Ca_of (Nat.le_of_ble_eq_true rfl) ?_
      refine q_Ru_seg (g2 := (14, [(0, .ref 65)], [.int (lg_cmp (((s.2.2 1 8) / 960) - ((s.2.2 1 8) / 960) / 2 * 2) 0)], (q_kN s c n))) 8 (fun _ _ => rfl) ?_
      refine q_Ru_rsF (g2 := (17, [(0, .ref 65)], [], (q_kN s c n))) rfl rfl (q_d_neT h3) ?_
      refine q_Ru_seg (g2 := (28, [(0, .ref 65)], [.ref 77], (q_kN s c n))) 3 (fun _ _ => rfl) ?_
      exact q_Ru_ret rfl rfl
    show q_RP _ _ _ (24, [(5, .int ((24 * (a2 + 4)) + ((a1 / 2) + 4))), (4, .int ((a1 / 2) + 4)), (0, .ref 65), (1, .int a1), (2, .int a2), (3, .ref 96)], [.ref 77, .int ((24 * (a2 + 4)) + ((a1 / 2) + 4))], (q_kN s c n)) _ _
    refine q_RP_seg (g2 := (27, [(5, .int ((24 * (a2 + 4)) + ((a1 / 2) + 4))), (4, .int ((a1 / 2) + 4)), (0, .ref 65), (1, .int a1), (2, .int a2), (3, .ref 96)], [.int (s.2.1 13 3), .int ((24 * (a2 + 4)) + ((a1 / 2) + 4))], (q_kN s c n))) 1 (fun _ _ => rfl) ?_
    cases h4 : decide ((24 * (a2 + 4)) + ((a1 / 2) + 4) < s.2.1 13 3) with
    | true =>
      refine q_RP_cT ?_
      refine q_RP_rsF (g2 := (30, [(5, .int ((24 * (a2 + 4)) + ((a1 / 2) + 4))), (4, .int ((a1 / 2) + 4)), (0, .ref 65), (1, .int a1), (2, .int a2), (3, .ref 96)], [], (q_kN s c n))) rfl rfl (q_d_geT h4) ?_
      refine q_RP_seg (g2 := (31, [(5, .int ((24 * (a2 + 4)) + ((a1 / 2) + 4))), (4, .int ((a1 / 2) + 4)), (0, .ref 65), (1, .int a1), (2, .int a2), (3, .ref 96)], [.ref 65], (q_kN s c n))) 1 (fun _ _ => rfl) ?_
      refine q_RP_call (v := (some (.ref 77))) (h2 := (q_kN s c n)) rfl rfl ?_ ?_
      · refine q_Ca_of (Nat.le_of_ble_eq_true rfl) ?_
        refine q_Ru_seg (g2 := (14, [(0, .ref 65)], [.int (lg_cmp (((s.2.2 1 8) / 960) - ((s.2.2 1 8) / 960) / 2 * 2) 0)], (q_kN s c n))) 8 (fun _ _ => rfl) ?_
        refine q_Ru_rsF (g2 := (17, [(0, .ref 65)], [], (q_kN s c n))) rfl rfl (q_d_neT h3) ?_
        refine q_Ru_seg (g2 := (28, [(0, .ref 65)], [.ref 77], (q_kN s c n))) 3 (fun _ _ => rfl) ?_
        exact q_Ru_ret rfl rfl
      show q_RP _ _ _ (34, [(5, .int ((24 * (a2 + 4)) + ((a1 / 2) + 4))), (4, .int ((a1 / 2) + 4)), (0, .ref 65), (1, .int a1), (2, .int a2), (3, .ref 96)], [.ref 77], (q_kN s c n)) _ _
      refine q_RP_seg (g2 := (50, [(6, .ref 77), (5, .int ((24 * (a2 + 4)) + ((a1 / 2) + 4))), (4, .int ((a1 / 2) + 4)), (0, .ref 65), (1, .int a1), (2, .int a2), (3, .ref 96)], [.int (s.2.1 13 3), .int ((24 * (a2 + 4)) + ((a1 / 2) + 4))], (q_kN s c n))) 5 (fun _ _ => rfl) ?_
      refine q_RP_rsT (g2 := (55, [(6, .ref 77), (5, .int ((24 * (a2 + 4)) + ((a1 / 2) + 4))), (4, .int ((a1 / 2) + 4)), (0, .ref 65), (1, .int a1), (2, .int a2), (3, .ref 96)], [], (q_kN s c n))) rfl rfl h4 ?_
      refine q_RP_seg (g2 := (60, [(6, .ref 77), (5, .int ((24 * (a2 + 4)) + ((a1 / 2) + 4))), (4, .int ((a1 / 2) + 4)), (0, .ref 65), (1, .int a1), (2, .int a2), (3, .ref 96)], [.ref 96, .int ((24 * (a2 + 4)) + ((a1 / 2) + 4)), .ref 77], (q_kN s c n))) 3 (fun _ _ => rfl) ?_
      refine q_RP_bd fun r2 er2 => ?_
      refine q_RP_call (v := none) (h2 := (q_kN r2 c n)) rfl rfl ((dzt_N129_77_96 s c n ((24 * (a2 + 4)) + ((a1 / 2) + 4)) r2 er2).le (Nat.le_of_ble_eq_true rfl)) ?_
      show q_RP _ _ _ (63, [(6, .ref 77), (5, .int ((24 * (a2 + 4)) + ((a1 / 2) + 4))), (4, .int ((a1 / 2) + 4)), (0, .ref 65), (1, .int a1), (2, .int a2), (3, .ref 96)], [], (q_kN r2 c n)) _ _
      refine q_RP_seg (g2 := (67, [(6, .ref 77), (5, .int ((24 * (a2 + 4)) + ((a1 / 2) + 4))), (4, .int ((a1 / 2) + 4)), (0, .ref 65), (1, .int a1), (2, .int a2), (3, .ref 96)], [.int a2, .int a1, .ref 96, .ref 96], (q_kN r2 c n))) 4 (fun _ _ => rfl) ?_
      refine q_RP_call (v := (some (.int (dz_N119_96 r2 a1 a2)))) (h2 := (q_kN r2 c n)) rfl rfl ((dzt_N119_96 r2 c n a1 a2).le (Nat.le_of_ble_eq_true rfl)) ?_
      generalize dz_N119_96 r2 a1 a2 = r3
      refine q_RP_let ?_
      show q_RP _ _ _ (70, [(6, .ref 77), (5, .int ((24 * (a2 + 4)) + ((a1 / 2) + 4))), (4, .int ((a1 / 2) + 4)), (0, .ref 65), (1, .int a1), (2, .int a2), (3, .ref 96)], [.int r3, .ref 96], (q_kN r2 c n)) _ _
      refine q_RP_seg (g2 := (73, [(6, .ref 77), (5, .int ((24 * (a2 + 4)) + ((a1 / 2) + 4))), (4, .int ((a1 / 2) + 4)), (0, .ref 65), (1, .int a1), (2, .int a2), (3, .ref 96)], [.int a2, .int a1, .ref 96, .int r3, .ref 96], (q_kN r2 c n))) 3 (fun _ _ => rfl) ?_
      refine q_RP_bd fun r4 er4 => ?_
      refine q_RP_call (v := (some (.int r4))) (h2 := (q_kN r2 c n)) rfl rfl ((dzt_N122_96 r2 c n a1 a2 r4 er4).le (Nat.le_of_ble_eq_true rfl)) ?_
      show q_RP _ _ _ (76, [(6, .ref 77), (5, .int ((24 * (a2 + 4)) + ((a1 / 2) + 4))), (4, .int ((a1 / 2) + 4)), (0, .ref 65), (1, .int a1), (2, .int a2), (3, .ref 96)], [.int r4, .int r3, .ref 96], (q_kN r2 c n)) _ _
      refine q_RP_bd fun r5 er5 => ?_
      refine q_RP_call (v := (some (.int r5))) (h2 := (q_kN r2 c n)) rfl rfl ((dzt_N123_96 r2 c n r3 r4 r5 er5).le (Nat.le_of_ble_eq_true rfl)) ?_
      show q_RP _ _ _ (79, [(6, .ref 77), (5, .int ((24 * (a2 + 4)) + ((a1 / 2) + 4))), (4, .int ((a1 / 2) + 4)), (0, .ref 65), (1, .int a1), (2, .int a2), (3, .ref 96)], [.int r5], (q_kN r2 c n)) _ _
      exact q_RP_ret rfl rfl rfl
    | false =>
      refine q_RP_cF ?_
      refine q_RP_rsT (g2 := (37, [(5, .int ((24 * (a2 + 4)) + ((a1 / 2) + 4))), (4, .int ((a1 / 2) + 4)), (0, .ref 65), (1, .int a1), (2, .int a2), (3, .ref 96)], [], (q_kN s c n))) rfl rfl (q_d_geF h4) ?_
      refine q_RP_seg (g2 := (38, [(5, .int ((24 * (a2 + 4)) + ((a1 / 2) + 4))), (4, .int ((a1 / 2) + 4)), (0, .ref 65), (1, .int a1), (2, .int a2), (3, .ref 96)], [.ref 65], (q_kN s c n))) 1 (fun _ _ => rfl) ?_
      refine q_RP_call (v := (some (.ref 82))) (h2 := (q_kN s c n)) rfl rfl ?_ ?_
      · refine q_Ca_of (Nat.le_of_ble_eq_true rfl) ?_
        refine q_Ru_seg (g2 := (14, [(0, .ref 65)], [.int (lg_cmp (((s.2.2 1 8) / 960) - ((s.2.2 1 8) / 960) / 2 * 2) 0)], (q_kN s c n))) 8 (fun _ _ => rfl) ?_
        refine q_Ru_rsF (g2 := (17, [(0, .ref 65)], [], (q_kN s c n))) rfl rfl (q_d_neT h3) ?_
        refine q_Ru_seg (g2 := (28, [(0, .ref 65)], [.ref 82], (q_kN s c n))) 3 (fun _ _ => rfl) ?_
        exact q_Ru_ret rfl rfl
      show q_RP _ _ _ (41, [(5, .int ((24 * (a2 + 4)) + ((a1 / 2) + 4))), (4, .int ((a1 / 2) + 4)), (0, .ref 65), (1, .int a1), (2, .int a2), (3, .ref 96)], [.ref 82], (q_kN s c n)) _ _
      refine q_RP_seg (g2 := (50, [(6, .ref 82), (5, .int ((24 * (a2 + 4)) + ((a1 / 2) + 4))), (4, .int ((a1 / 2) + 4)), (0, .ref 65), (1, .int a1), (2, .int a2), (3, .ref 96)], [.int (s.2.1 18 3), .int ((24 * (a2 + 4)) + ((a1 / 2) + 4))], (q_kN s c n))) 4 (fun _ _ => rfl) ?_
      cases h5 : decide ((24 * (a2 + 4)) + ((a1 / 2) + 4) < s.2.1 18 3) with
      | true =>
        refine q_RP_cT ?_
        refine q_RP_rsT (g2 := (55, [(6, .ref 82), (5, .int ((24 * (a2 + 4)) + ((a1 / 2) + 4))), (4, .int ((a1 / 2) + 4)), (0, .ref 65), (1, .int a1), (2, .int a2), (3, .ref 96)], [], (q_kN s c n))) rfl rfl h5 ?_
        refine q_RP_seg (g2 := (60, [(6, .ref 82), (5, .int ((24 * (a2 + 4)) + ((a1 / 2) + 4))), (4, .int ((a1 / 2) + 4)), (0, .ref 65), (1, .int a1), (2, .int a2), (3, .ref 96)], [.ref 96, .int ((24 * (a2 + 4)) + ((a1 / 2) + 4)), .ref 82], (q_kN s c n))) 3 (fun _ _ => rfl) ?_
        refine q_RP_bd fun r6 er6 => ?_
        refine q_RP_call (v := none) (h2 := (q_kN r6 c n)) rfl rfl ((dzt_N129_82_96 s c n ((24 * (a2 + 4)) + ((a1 / 2) + 4)) r6 er6).le (Nat.le_of_ble_eq_true rfl)) ?_
        show q_RP _ _ _ (63, [(6, .ref 82), (5, .int ((24 * (a2 + 4)) + ((a1 / 2) + 4))), (4, .int ((a1 / 2) + 4)), (0, .ref 65), (1, .int a1), (2, .int a2), (3, .ref 96)], [], (q_kN r6 c n)) _ _
        refine q_RP_seg (g2 := (67, [(6, .ref 82), (5, .int ((24 * (a2 + 4)) + ((a1 / 2) + 4))), (4, .int ((a1 / 2) + 4)), (0, .ref 65), (1, .int a1), (2, .int a2), (3, .ref 96)], [.int a2, .int a1, .ref 96, .ref 96], (q_kN r6 c n))) 4 (fun _ _ => rfl) ?_
        refine q_RP_call (v := (some (.int (dz_N119_96 r6 a1 a2)))) (h2 := (q_kN r6 c n)) rfl rfl ((dzt_N119_96 r6 c n a1 a2).le (Nat.le_of_ble_eq_true rfl)) ?_
        generalize dz_N119_96 r6 a1 a2 = r7
        refine q_RP_let ?_
        show q_RP _ _ _ (70, [(6, .ref 82), (5, .int ((24 * (a2 + 4)) + ((a1 / 2) + 4))), (4, .int ((a1 / 2) + 4)), (0, .ref 65), (1, .int a1), (2, .int a2), (3, .ref 96)], [.int r7, .ref 96], (q_kN r6 c n)) _ _
        refine q_RP_seg (g2 := (73, [(6, .ref 82), (5, .int ((24 * (a2 + 4)) + ((a1 / 2) + 4))), (4, .int ((a1 / 2) + 4)), (0, .ref 65), (1, .int a1), (2, .int a2), (3, .ref 96)], [.int a2, .int a1, .ref 96, .int r7, .ref 96], (q_kN r6 c n))) 3 (fun _ _ => rfl) ?_
        refine q_RP_bd fun r8 er8 => ?_
        refine q_RP_call (v := (some (.int r8))) (h2 := (q_kN r6 c n)) rfl rfl ((dzt_N122_96 r6 c n a1 a2 r8 er8).le (Nat.le_of_ble_eq_true rfl)) ?_
        show q_RP _ _ _ (76, [(6, .ref 82), (5, .int ((24 * (a2 + 4)) + ((a1 / 2) + 4))), (4, .int ((a1 / 2) + 4)), (0, .ref 65), (1, .int a1), (2, .int a2), (3, .ref 96)], [.int r8, .int r7, .ref 96], (q_kN r6 c n)) _ _
        refine q_RP_bd fun r9 er9 => ?_
        refine q_RP_call (v := (some (.int r9))) (h2 := (q_kN r6 c n)) rfl rfl ((dzt_N123_96 r6 c n r7 r8 r9 er9).le (Nat.le_of_ble_eq_true rfl)) ?_
        show q_RP _ _ _ (79, [(6, .ref 82), (5, .int ((24 * (a2 + 4)) + ((a1 / 2) + 4))), (4, .int ((a1 / 2) + 4)), (0, .ref 65), (1, .int a1), (2, .int a2), (3, .ref 96)], [.int r9], (q_kN r6 c n)) _ _
        exact q_RP_ret rfl rfl rfl
      | false =>
        refine q_RP_cF ?_
        refine q_RP_rsF (g2 := (53, [(6, .ref 82), (5, .int ((24 * (a2 + 4)) + ((a1 / 2) + 4))), (4, .int ((a1 / 2) + 4)), (0, .ref 65), (1, .int a1), (2, .int a2), (3, .ref 96)], [], (q_kN s c n))) rfl rfl h5 ?_
        refine q_RP_seg (g2 := (54, [(6, .ref 82), (5, .int ((24 * (a2 + 4)) + ((a1 / 2) + 4))), (4, .int ((a1 / 2) + 4)), (0, .ref 65), (1, .int a1), (2, .int a2), (3, .ref 96)], [.int 0], (q_kN s c n))) 1 (fun _ _ => rfl) ?_
        exact q_RP_ret rfl rfl rfl
  | false =>
    refine q_RP_cF ?_
    refine q_RP_call (v := (some (.ref 82))) (h2 := (q_kN s c n)) rfl rfl ?_ ?_
    · refine q_Ca_of (Nat.le_of_ble_eq_true rfl) ?_
      refine q_Ru_seg (g2 := (14, [(0, .ref 65)], [.int (lg_cmp (((s.2.2 1 8) / 960) - ((s.2.2 1 8) / 960) / 2 * 2) 0)], (q_kN s c n))) 8 (fun _ _ => rfl) ?_
      refine q_Ru_rsT (g2 := (24, [(0, .ref 65)], [], (q_kN s c n))) rfl rfl (q_d_neF h3) ?_
      refine q_Ru_seg (g2 := (28, [(0, .ref 65)], [.ref 82], (q_kN s c n))) 2 (fun _ _ => rfl) ?_
      exact q_Ru_ret rfl rfl
    show q_RP _ _ _ (24, [(5, .int ((24 * (a2 + 4)) + ((a1 / 2) + 4))), (4, .int ((a1 / 2) + 4)), (0, .ref 65), (1, .int a1), (2, .int a2), (3, .ref 96)], [.ref 82, .int ((24 * (a2 + 4)) + ((a1 / 2) + 4))], (q_kN s c n)) _ _
    refine q_RP_seg (g2 := (27, [(5, .int ((24 * (a2 + 4)) + ((a1 / 2) + 4))), (4, .int ((a1 / 2) + 4)), (0, .ref 65), (1, .int a1), (2, .int a2), (3, .ref 96)], [.int (s.2.1 18 3), .int ((24 * (a2 + 4)) + ((a1 / 2) + 4))], (q_kN s c n))) 1 (fun _ _ => rfl) ?_
    cases h6 : decide ((24 * (a2 + 4)) + ((a1 / 2) + 4) < s.2.1 18 3) with
    | true =>
      refine q_RP_cT ?_
      refine q_RP_rsF (g2 := (30, [(5, .int ((24 * (a2 + 4)) + ((a1 / 2) + 4))), (4, .int ((a1 / 2) + 4)), (0, .ref 65), (1, .int a1), (2, .int a2), (3, .ref 96)], [], (q_kN s c n))) rfl rfl (q_d_geT h6) ?_
      refine q_RP_seg (g2 := (31, [(5, .int ((24 * (a2 + 4)) + ((a1 / 2) + 4))), (4, .int ((a1 / 2) + 4)), (0, .ref 65), (1, .int a1), (2, .int a2), (3, .ref 96)], [.ref 65], (q_kN s c n))) 1 (fun _ _ => rfl) ?_
      refine q_RP_call (v := (some (.ref 82))) (h2 := (q_kN s c n)) rfl rfl ?_ ?_
      · refine q_Ca_of (Nat.le_of_ble_eq_true rfl) ?_
        refine q_Ru_seg (g2 := (14, [(0, .ref 65)], [.int (lg_cmp (((s.2.2 1 8) / 960) - ((s.2.2 1 8) / 960) / 2 * 2) 0)], (q_kN s c n))) 8 (fun _ _ => rfl) ?_
        refine q_Ru_rsT (g2 := (24, [(0, .ref 65)], [], (q_kN s c n))) rfl rfl (q_d_neF h3) ?_
        refine q_Ru_seg (g2 := (28, [(0, .ref 65)], [.ref 82], (q_kN s c n))) 2 (fun _ _ => rfl) ?_
        exact q_Ru_ret rfl rfl
      show q_RP _ _ _ (34, [(5, .int ((24 * (a2 + 4)) + ((a1 / 2) + 4))), (4, .int ((a1 / 2) + 4)), (0, .ref 65), (1, .int a1), (2, .int a2), (3, .ref 96)], [.ref 82], (q_kN s c n)) _ _
      refine q_RP_seg (g2 := (50, [(6, .ref 82), (5, .int ((24 * (a2 + 4)) + ((a1 / 2) + 4))), (4, .int ((a1 / 2) + 4)), (0, .ref 65), (1, .int a1), (2, .int a2), (3, .ref 96)], [.int (s.2.1 18 3), .int ((24 * (a2 + 4)) + ((a1 / 2) + 4))], (q_kN s c n))) 5 (fun _ _ => rfl) ?_
      refine q_RP_rsT (g2 := (55, [(6, .ref 82), (5, .int ((24 * (a2 + 4)) + ((a1 / 2) + 4))), (4, .int ((a1 / 2) + 4)), (0, .ref 65), (1, .int a1), (2, .int a2), (3, .ref 96)], [], (q_kN s c n))) rfl rfl h6 ?_
      refine q_RP_seg (g2 := (60, [(6, .ref 82), (5, .int ((24 * (a2 + 4)) + ((a1 / 2) + 4))), (4, .int ((a1 / 2) + 4)), (0, .ref 65), (1, .int a1), (2, .int a2), (3, .ref 96)], [.ref 96, .int ((24 * (a2 + 4)) + ((a1 / 2) + 4)), .ref 82], (q_kN s c n))) 3 (fun _ _ => rfl) ?_
      refine q_RP_bd fun r10 er10 => ?_
      refine q_RP_call (v := none) (h2 := (q_kN r10 c n)) rfl rfl ((dzt_N129_82_96 s c n ((24 * (a2 + 4)) + ((a1 / 2) + 4)) r10 er10).le (Nat.le_of_ble_eq_true rfl)) ?_
      show q_RP _ _ _ (63, [(6, .ref 82), (5, .int ((24 * (a2 + 4)) + ((a1 / 2) + 4))), (4, .int ((a1 / 2) + 4)), (0, .ref 65), (1, .int a1), (2, .int a2), (3, .ref 96)], [], (q_kN r10 c n)) _ _
      refine q_RP_seg (g2 := (67, [(6, .ref 82), (5, .int ((24 * (a2 + 4)) + ((a1 / 2) + 4))), (4, .int ((a1 / 2) + 4)), (0, .ref 65), (1, .int a1), (2, .int a2), (3, .ref 96)], [.int a2, .int a1, .ref 96, .ref 96], (q_kN r10 c n))) 4 (fun _ _ => rfl) ?_
      refine q_RP_call (v := (some (.int (dz_N119_96 r10 a1 a2)))) (h2 := (q_kN r10 c n)) rfl rfl ((dzt_N119_96 r10 c n a1 a2).le (Nat.le_of_ble_eq_true rfl)) ?_
      generalize dz_N119_96 r10 a1 a2 = r11
      refine q_RP_let ?_
      show q_RP _ _ _ (70, [(6, .ref 82), (5, .int ((24 * (a2 + 4)) + ((a1 / 2) + 4))), (4, .int ((a1 / 2) + 4)), (0, .ref 65), (1, .int a1), (2, .int a2), (3, .ref 96)], [.int r11, .ref 96], (q_kN r10 c n)) _ _
      refine q_RP_seg (g2 := (73, [(6, .ref 82), (5, .int ((24 * (a2 + 4)) + ((a1 / 2) + 4))), (4, .int ((a1 / 2) + 4)), (0, .ref 65), (1, .int a1), (2, .int a2), (3, .ref 96)], [.int a2, .int a1, .ref 96, .int r11, .ref 96], (q_kN r10 c n))) 3 (fun _ _ => rfl) ?_
      refine q_RP_bd fun r12 er12 => ?_
      refine q_RP_call (v := (some (.int r12))) (h2 := (q_kN r10 c n)) rfl rfl ((dzt_N122_96 r10 c n a1 a2 r12 er12).le (Nat.le_of_ble_eq_true rfl)) ?_
      show q_RP _ _ _ (76, [(6, .ref 82), (5, .int ((24 * (a2 + 4)) + ((a1 / 2) + 4))), (4, .int ((a1 / 2) + 4)), (0, .ref 65), (1, .int a1), (2, .int a2), (3, .ref 96)], [.int r12, .int r11, .ref 96], (q_kN r10 c n)) _ _
      refine q_RP_bd fun r13 er13 => ?_
      refine q_RP_call (v := (some (.int r13))) (h2 := (q_kN r10 c n)) rfl rfl ((dzt_N123_96 r10 c n r11 r12 r13 er13).le (Nat.le_of_ble_eq_true rfl)) ?_
      show q_RP _ _ _ (79, [(6, .ref 82), (5, .int ((24 * (a2 + 4)) + ((a1 / 2) + 4))), (4, .int ((a1 / 2) + 4)), (0, .ref 65), (1, .int a1), (2, .int a2), (3, .ref 96)], [.int r13], (q_kN r10 c n)) _ _
      exact q_RP_ret rfl rfl rfl
    | false =>
      refine q_RP_cF ?_
      refine q_RP_rsT (g2 := (37, [(5, .int ((24 * (a2 + 4)) + ((a1 / 2) + 4))), (4, .int ((a1 / 2) + 4)), (0, .ref 65), (1, .int a1), (2, .int a2), (3, .ref 96)], [], (q_kN s c n))) rfl rfl (q_d_geF h6) ?_
      refine q_RP_seg (g2 := (38, [(5, .int ((24 * (a2 + 4)) + ((a1 / 2) + 4))), (4, .int ((a1 / 2) + 4)), (0, .ref 65), (1, .int a1), (2, .int a2), (3, .ref 96)], [.ref 65], (q_kN s c n))) 1 (fun _ _ => rfl) ?_
      refine q_RP_call (v := (some (.ref 77))) (h2 := (q_kN s c n)) rfl rfl ?_ ?_
      · refine q_Ca_of (Nat.le_of_ble_eq_true rfl) ?_
        refine q_Ru_seg (g2 := (14, [(0, .ref 65)], [.int (lg_cmp (((s.2.2 1 8) / 960) - ((s.2.2 1 8) / 960) / 2 * 2) 0)], (q_kN s c n))) 8 (fun _ _ => rfl) ?_
        refine q_Ru_rsT (g2 := (24, [(0, .ref 65)], [], (q_kN s c n))) rfl rfl (q_d_neF h3) ?_
        refine q_Ru_seg (g2 := (28, [(0, .ref 65)], [.ref 77], (q_kN s c n))) 2 (fun _ _ => rfl) ?_
        exact q_Ru_ret rfl rfl
      show q_RP _ _ _ (41, [(5, .int ((24 * (a2 + 4)) + ((a1 / 2) + 4))), (4, .int ((a1 / 2) + 4)), (0, .ref 65), (1, .int a1), (2, .int a2), (3, .ref 96)], [.ref 77], (q_kN s c n)) _ _
      refine q_RP_seg (g2 := (50, [(6, .ref 77), (5, .int ((24 * (a2 + 4)) + ((a1 / 2) + 4))), (4, .int ((a1 / 2) + 4)), (0, .ref 65), (1, .int a1), (2, .int a2), (3, .ref 96)], [.int (s.2.1 13 3), .int ((24 * (a2 + 4)) + ((a1 / 2) + 4))], (q_kN s c n))) 4 (fun _ _ => rfl) ?_
      cases h7 : decide ((24 * (a2 + 4)) + ((a1 / 2) + 4) < s.2.1 13 3) with
      | true =>
        refine q_RP_cT ?_
        refine q_RP_rsT (g2 := (55, [(6, .ref 77), (5, .int ((24 * (a2 + 4)) + ((a1 / 2) + 4))), (4, .int ((a1 / 2) + 4)), (0, .ref 65), (1, .int a1), (2, .int a2), (3, .ref 96)], [], (q_kN s c n))) rfl rfl h7 ?_
        refine q_RP_seg (g2 := (60, [(6, .ref 77), (5, .int ((24 * (a2 + 4)) + ((a1 / 2) + 4))), (4, .int ((a1 / 2) + 4)), (0, .ref 65), (1, .int a1), (2, .int a2), (3, .ref 96)], [.ref 96, .int ((24 * (a2 + 4)) + ((a1 / 2) + 4)), .ref 77], (q_kN s c n))) 3 (fun _ _ => rfl) ?_
        refine q_RP_bd fun r14 er14 => ?_
        refine q_RP_call (v := none) (h2 := (q_kN r14 c n)) rfl rfl ((dzt_N129_77_96 s c n ((24 * (a2 + 4)) + ((a1 / 2) + 4)) r14 er14).le (Nat.le_of_ble_eq_true rfl)) ?_
        show q_RP _ _ _ (63, [(6, .ref 77), (5, .int ((24 * (a2 + 4)) + ((a1 / 2) + 4))), (4, .int ((a1 / 2) + 4)), (0, .ref 65), (1, .int a1), (2, .int a2), (3, .ref 96)], [], (q_kN r14 c n)) _ _
        refine q_RP_seg (g2 := (67, [(6, .ref 77), (5, .int ((24 * (a2 + 4)) + ((a1 / 2) + 4))), (4, .int ((a1 / 2) + 4)), (0, .ref 65), (1, .int a1), (2, .int a2), (3, .ref 96)], [.int a2, .int a1, .ref 96, .ref 96], (q_kN r14 c n))) 4 (fun _ _ => rfl) ?_
        refine q_RP_call (v := (some (.int (dz_N119_96 r14 a1 a2)))) (h2 := (q_kN r14 c n)) rfl rfl ((dzt_N119_96 r14 c n a1 a2).le (Nat.le_of_ble_eq_true rfl)) ?_
        generalize dz_N119_96 r14 a1 a2 = r15
        refine q_RP_let ?_
        show q_RP _ _ _ (70, [(6, .ref 77), (5, .int ((24 * (a2 + 4)) + ((a1 / 2) + 4))), (4, .int ((a1 / 2) + 4)), (0, .ref 65), (1, .int a1), (2, .int a2), (3, .ref 96)], [.int r15, .ref 96], (q_kN r14 c n)) _ _
        refine q_RP_seg (g2 := (73, [(6, .ref 77), (5, .int ((24 * (a2 + 4)) + ((a1 / 2) + 4))), (4, .int ((a1 / 2) + 4)), (0, .ref 65), (1, .int a1), (2, .int a2), (3, .ref 96)], [.int a2, .int a1, .ref 96, .int r15, .ref 96], (q_kN r14 c n))) 3 (fun _ _ => rfl) ?_
        refine q_RP_bd fun r16 er16 => ?_
        refine q_RP_call (v := (some (.int r16))) (h2 := (q_kN r14 c n)) rfl rfl ((dzt_N122_96 r14 c n a1 a2 r16 er16).le (Nat.le_of_ble_eq_true rfl)) ?_
        show q_RP _ _ _ (76, [(6, .ref 77), (5, .int ((24 * (a2 + 4)) + ((a1 / 2) + 4))), (4, .int ((a1 / 2) + 4)), (0, .ref 65), (1, .int a1), (2, .int a2), (3, .ref 96)], [.int r16, .int r15, .ref 96], (q_kN r14 c n)) _ _
        refine q_RP_bd fun r17 er17 => ?_
        refine q_RP_call (v := (some (.int r17))) (h2 := (q_kN r14 c n)) rfl rfl ((dzt_N123_96 r14 c n r15 r16 r17 er17).le (Nat.le_of_ble_eq_true rfl)) ?_
        show q_RP _ _ _ (79, [(6, .ref 77), (5, .int ((24 * (a2 + 4)) + ((a1 / 2) + 4))), (4, .int ((a1 / 2) + 4)), (0, .ref 65), (1, .int a1), (2, .int a2), (3, .ref 96)], [.int r17], (q_kN r14 c n)) _ _
        exact q_RP_ret rfl rfl rfl
      | false =>
        refine q_RP_cF ?_
        refine q_RP_rsF (g2 := (53, [(6, .ref 77), (5, .int ((24 * (a2 + 4)) + ((a1 / 2) + 4))), (4, .int ((a1 / 2) + 4)), (0, .ref 65), (1, .int a1), (2, .int a2), (3, .ref 96)], [], (q_kN s c n))) rfl rfl h7 ?_
        refine q_RP_seg (g2 := (54, [(6, .ref 77), (5, .int ((24 * (a2 + 4)) + ((a1 / 2) + 4))), (4, .int ((a1 / 2) + 4)), (0, .ref 65), (1, .int a1), (2, .int a2), (3, .ref 96)], [.int 0], (q_kN s c n))) 1 (fun _ _ => rfl) ?_
        exact q_RP_ret rfl rfl rfl
def dz_N196 (s : q_S) (a0 : Int32) : Int32 :=
  q_let (dz_N186 s a0) fun r1 => cond (decide (r1 < 0)) (cond (decide (a0 = 159)) (8) (3)) ((a0 &&& 7))
set_option maxHeartbeats 4000000 in
theorem dzt_N196 (s : q_S) (c n : Nat) (a0 : Int32) : q_Ca q_TB0 2 195 [.int a0] (q_kN s c n) ((q_oP (q_kN s c n)) (dz_N196 s a0)) := by
  refine q_CaT_of (φ := (q_oP (q_kN s c n))) (Nat.le_of_ble_eq_true rfl) ?_
  unfold dz_N196
  refine q_RT_seg (g2 := (1, [(0, .int a0)], [.int a0], (q_kN s c n))) 1 (fun _ _ => rfl) ?_
  refine q_RT_call (v := (some (.int (dz_N186 s a0)))) (h2 := (q_kN s c n)) rfl rfl ((dzt_N186 s c n a0).le (Nat.le_of_ble_eq_true rfl)) ?_
  generalize dz_N186 s a0 = r1
  refine q_RT_let ?_
  show q_RT _ _ _ (4, [(0, .int a0)], [.int r1], (q_kN s c n)) _ _
  cases h1 : decide (r1 < 0) with
  | true =>
    refine q_RT_cT ?_
    refine q_RT_rsT (g2 := (12, [(0, .int a0)], [], (q_kN s c n))) rfl rfl h1 ?_
    refine q_RT_seg (g2 := (16, [(0, .int a0)], [.int 159, .int a0], (q_kN s c n))) 2 (fun _ _ => rfl) ?_
    cases h2 : decide (a0 = 159) with
    | true =>
      refine q_RT_cT ?_
      refine q_RT_rsF (g2 := (19, [(0, .int a0)], [], (q_kN s c n))) rfl rfl (q_d_neT h2) ?_
      refine q_RT_seg (g2 := (25, [(0, .int a0)], [.int 8], (q_kN s c n))) 2 (fun _ _ => rfl) ?_
      exact q_RT_ret rfl rfl rfl
    | false =>
      refine q_RT_cF ?_
      refine q_RT_rsT (g2 := (24, [(0, .int a0)], [], (q_kN s c n))) rfl rfl (q_d_neF h2) ?_
      refine q_RT_seg (g2 := (25, [(0, .int a0)], [.int 3], (q_kN s c n))) 1 (fun _ _ => rfl) ?_
      exact q_RT_ret rfl rfl rfl
  | false =>
    refine q_RT_cF ?_
    refine q_RT_rsF (g2 := (7, [(0, .int a0)], [], (q_kN s c n))) rfl rfl h1 ?_
    refine q_RT_seg (g2 := (11, [(0, .int a0)], [.int (a0 &&& 7)], (q_kN s c n))) 3 (fun _ _ => rfl) ?_
    exact q_RT_ret rfl rfl rfl
end
section
-- 46.wa
def dz_W111_66_98_4 (m : Nat) : q_S → Int32 → Int32 → Option (Int32) := Nat.rec (motive := fun _ => q_S → Int32 → Int32 → Option (Int32)) (fun _ _ _ => none) (fun _ k4 s v2 v3 =>
  cond (decide (v3 < 4096)) (cond (q_in v3 4096) (cond (decide ((s.1 3) (v3.toNatClampNeg) = (s.1 35) (v3.toNatClampNeg))) (k4 s v2 (v3 + 1)) (k4 s (v2 + 1) (v3 + 1))) none) (some v2)) m
theorem dzs_W111_66_98_4 (m : Nat) (s : q_S) (v2 : Int32) (v3 : Int32) : dz_W111_66_98_4 (m + 1) s v2 v3 = (fun k4 : q_S → Int32 → Int32 → Option (Int32) =>
  cond (decide (v3 < 4096)) (cond (q_in v3 4096) (cond (decide ((s.1 3) (v3.toNatClampNeg) = (s.1 35) (v3.toNatClampNeg))) (k4 s v2 (v3 + 1)) (k4 s (v2 + 1) (v3 + 1))) none) (some v2)) (dz_W111_66_98_4 m) := rfl
set_option maxHeartbeats 4000000 in
theorem dzt_W111_66_98_4 (c n : Nat) (s : q_S) : ∀ (m : Nat) (v2 : Int32) (v3 : Int32), q_RP q_TB0 0 110 (4, [(0, .ref 66), (1, .ref 98), (2, .int v2), (3, .int v3)], [], (q_kW s c n)) (q_oP (q_kW s c n)) (dz_W111_66_98_4 m s v2 v3) := by
  intro m
  induction m with
  | zero => intro v2 v3; exact q_RP_no
  | succ m ih =>
    intro v2 v3
    have hk4 := ih
    clear ih
    rw [dzs_W111_66_98_4]
    generalize dz_W111_66_98_4 m = k4 at hk4 ⊢
    dsimp only
    refine q_RP_seg (g2 := (8, [(0, .ref 66), (1, .ref 98), (2, .int v2), (3, .int v3)], [.int 4096, .int v3], (q_kW s c n))) 2 (fun _ _ => rfl) ?_
    cases h1 : decide (v3 < 4096) with
    | true =>
      refine q_RP_cT ?_
      refine q_RP_rsF (g2 := (11, [(0, .ref 66), (1, .ref 98), (2, .int v2), (3, .int v3)], [], (q_kW s c n))) rfl rfl (q_d_geT h1) ?_
      refine q_RP_seg (g2 := (16, [(0, .ref 66), (1, .ref 98), (2, .int v2), (3, .int v3)], [.int v3, .ref 67], (q_kW s c n))) 3 (fun _ _ => rfl) ?_
      refine q_RP_as fun i2 => ?_
      refine q_RP_rsT (g2 := (17, [(0, .ref 66), (1, .ref 98), (2, .int v2), (3, .int v3)], [.int ((s.1 3) (v3.toNatClampNeg))], (q_kW s c n))) rfl rfl i2 ?_
      refine q_RP_seg (g2 := (22, [(0, .ref 66), (1, .ref 98), (2, .int v2), (3, .int v3)], [.int v3, .ref 99, .int ((s.1 3) (v3.toNatClampNeg))], (q_kW s c n))) 3 (fun _ _ => rfl) ?_
      refine q_RP_rsT (g2 := (23, [(0, .ref 66), (1, .ref 98), (2, .int v2), (3, .int v3)], [.int ((s.1 35) (v3.toNatClampNeg)), .int ((s.1 3) (v3.toNatClampNeg))], (q_kW s c n))) rfl rfl i2 ?_
      cases h3 : decide ((s.1 3) (v3.toNatClampNeg) = (s.1 35) (v3.toNatClampNeg)) with
      | true =>
        refine q_RP_cT ?_
        refine q_RP_rsT (g2 := (29, [(0, .ref 66), (1, .ref 98), (2, .int v2), (3, .int v3)], [], (q_kW s c n))) rfl rfl h3 ?_
        refine q_RP_seg (g2 := (4, [(3, .int (v3 + 1)), (0, .ref 66), (1, .ref 98), (2, .int v2)], [], (q_kW s c n))) 2 (fun _ _ => rfl) ?_
        exact q_RP_xt (q_xt_mk (q_mn1 1 rfl (q_mn1 2 rfl (q_mn1 3 rfl (q_mn1 0 rfl q_mn0)))) rfl) (hk4 v2 (v3 + 1))
      | false =>
        refine q_RP_cF ?_
        refine q_RP_rsF (g2 := (26, [(0, .ref 66), (1, .ref 98), (2, .int v2), (3, .int v3)], [], (q_kW s c n))) rfl rfl h3 ?_
        refine q_RP_seg (g2 := (4, [(3, .int (v3 + 1)), (2, .int (v2 + 1)), (0, .ref 66), (1, .ref 98)], [], (q_kW s c n))) 3 (fun _ _ => rfl) ?_
        exact q_RP_xt (q_xt_mk (q_mn1 2 rfl (q_mn1 3 rfl (q_mn1 1 rfl (q_mn1 0 rfl q_mn0)))) rfl) (hk4 (v2 + 1) (v3 + 1))
    | false =>
      refine q_RP_cF ?_
      refine q_RP_rsT (g2 := (35, [(0, .ref 66), (1, .ref 98), (2, .int v2), (3, .int v3)], [], (q_kW s c n))) rfl rfl (q_d_geF h1) ?_
      refine q_RP_seg (g2 := (36, [(0, .ref 66), (1, .ref 98), (2, .int v2), (3, .int v3)], [.int v2], (q_kW s c n))) 1 (fun _ _ => rfl) ?_
      exact q_RP_ret rfl rfl rfl
def dz_W111_66_98 (s : q_S) : Option (Int32) :=
  dz_W111_66_98_4 5000 s 0 0
set_option maxHeartbeats 4000000 in
theorem dzt_W111_66_98 (s : q_S) (c n : Nat) (x : Int32) (h : dz_W111_66_98 s = some x) : q_Ca q_TB0 1 110 [.ref 66, .ref 98] (q_kW s c n) ((q_oP (q_kW s c n)) x) := by
  refine q_CaP_of (φ := (q_oP (q_kW s c n))) (Nat.le_of_ble_eq_true rfl) ?_ h
  clear h
  unfold dz_W111_66_98
  refine q_RP_seg (g2 := (4, [(3, .int 0), (2, .int 0), (0, .ref 66), (1, .ref 98)], [], (q_kW s c n))) 4 (fun _ _ => rfl) ?_
  exact q_RP_xt (q_xt_mk (q_mn1 2 rfl (q_mn1 3 rfl (q_mn1 1 rfl (q_mn1 0 rfl q_mn0)))) rfl) (dzt_W111_66_98_4 c n s 5000 0 0)
def dz_W110_66_98 (s : q_S) : q_S :=
  (q_sA (q_sA s 3 (va_cpy (s.1 35) (s.1 3) 0 0 4096)) 4 (va_cpy (s.1 36) (s.1 4) 0 0 48))
set_option maxHeartbeats 4000000 in
theorem dzt_W110_66_98 (s : q_S) (c n : Nat) : q_Ca q_TB0 1 109 [.ref 66, .ref 98] (q_kW s c n) ((q_oSW c n) (dz_W110_66_98 s)) := by
  refine q_CaT_of (φ := (q_oSW c n)) (Nat.le_of_ble_eq_true rfl) ?_
  unfold dz_W110_66_98
  refine q_RT_seg (g2 := (13, [(0, .ref 66), (1, .ref 98)], [.int 4096, .int 0, .ref 67, .int 0, .ref 99], (q_kW s c n))) 7 (fun _ _ => rfl) ?_
  refine q_RT_rsT (g2 := (16, [(0, .ref 66), (1, .ref 98)], [], (q_kW (q_sA s 3 (va_cpy (s.1 35) (s.1 3) 0 0 4096)) c n))) rfl rfl (q_acb rfl) ?_
  refine q_RT_seg (g2 := (28, [(0, .ref 66), (1, .ref 98)], [.int 48, .int 0, .ref 68, .int 0, .ref 100], (q_kW (q_sA s 3 (va_cpy (s.1 35) (s.1 3) 0 0 4096)) c n))) 7 (fun _ _ => rfl) ?_
  refine q_RT_rsT (g2 := (31, [(0, .ref 66), (1, .ref 98)], [], (q_kW (q_sA (q_sA s 3 (va_cpy (s.1 35) (s.1 3) 0 0 4096)) 4 (va_cpy (s.1 36) (s.1 4) 0 0 48)) c n))) rfl rfl (q_acb rfl) ?_
  exact q_RT_ret rfl rfl rfl
def dz_W174_72_104 (s : q_S) : q_S :=
  (q_sI (q_sI (q_sI (q_sI (q_sA s 9 (va_cpy (s.1 41) (s.1 9) 0 0 40)) 8 1 (s.2.1 40 1)) 8 2 (s.2.1 40 2)) 8 3 (s.2.1 40 3)) 8 4 (s.2.1 40 4))
set_option maxHeartbeats 4000000 in
theorem dzt_W174_72_104 (s : q_S) (c n : Nat) : q_Ca q_TB0 1 173 [.ref 72, .ref 104] (q_kW s c n) ((q_oSW c n) (dz_W174_72_104 s)) := by
  refine q_CaT_of (φ := (q_oSW c n)) (Nat.le_of_ble_eq_true rfl) ?_
  unfold dz_W174_72_104
  refine q_RT_seg (g2 := (12, [(0, .ref 72), (1, .ref 104)], [.int 40, .int 0, .ref 73, .int 0, .ref 105], (q_kW s c n))) 7 (fun _ _ => rfl) ?_
  refine q_RT_rsT (g2 := (15, [(0, .ref 72), (1, .ref 104)], [], (q_kW (q_sA s 9 (va_cpy (s.1 41) (s.1 9) 0 0 40)) c n))) rfl rfl (q_acb rfl) ?_
  refine q_RT_seg (g2 := (20, [(0, .ref 72), (1, .ref 104)], [.int (s.2.1 40 1), .ref 72], (q_kW (q_sA s 9 (va_cpy (s.1 41) (s.1 9) 0 0 40)) c n))) 3 (fun _ _ => rfl) ?_
  refine q_RT_seg (g2 := (28, [(0, .ref 72), (1, .ref 104)], [.int (s.2.1 40 2), .ref 72], (q_kW (q_sI (q_sA s 9 (va_cpy (s.1 41) (s.1 9) 0 0 40)) 8 1 (s.2.1 40 1)) c n))) 4 (fun _ _ => rfl) ?_
  refine q_RT_seg (g2 := (36, [(0, .ref 72), (1, .ref 104)], [.int (s.2.1 40 3), .ref 72], (q_kW (q_sI (q_sI (q_sA s 9 (va_cpy (s.1 41) (s.1 9) 0 0 40)) 8 1 (s.2.1 40 1)) 8 2 (s.2.1 40 2)) c n))) 4 (fun _ _ => rfl) ?_
  refine q_RT_seg (g2 := (44, [(0, .ref 72), (1, .ref 104)], [.int (s.2.1 40 4), .ref 72], (q_kW (q_sI (q_sI (q_sI (q_sA s 9 (va_cpy (s.1 41) (s.1 9) 0 0 40)) 8 1 (s.2.1 40 1)) 8 2 (s.2.1 40 2)) 8 3 (s.2.1 40 3)) c n))) 4 (fun _ _ => rfl) ?_
  refine q_RT_seg (g2 := (47, [(0, .ref 72), (1, .ref 104)], [], (q_kW (q_sI (q_sI (q_sI (q_sI (q_sA s 9 (va_cpy (s.1 41) (s.1 9) 0 0 40)) 8 1 (s.2.1 40 1)) 8 2 (s.2.1 40 2)) 8 3 (s.2.1 40 3)) 8 4 (s.2.1 40 4)) c n))) 1 (fun _ _ => rfl) ?_
  exact q_RT_ret rfl rfl rfl
def dz_W179_74_106 (s : q_S) : q_S :=
  (q_sI (q_sA (q_sA s 11 (va_cpy (s.1 43) (s.1 11) 0 0 4)) 12 (va_cpy (s.1 44) (s.1 12) 0 0 16)) 10 2 (s.2.1 42 2))
set_option maxHeartbeats 4000000 in
theorem dzt_W179_74_106 (s : q_S) (c n : Nat) : q_Ca q_TB0 1 178 [.ref 74, .ref 106] (q_kW s c n) ((q_oSW c n) (dz_W179_74_106 s)) := by
  refine q_CaT_of (φ := (q_oSW c n)) (Nat.le_of_ble_eq_true rfl) ?_
  unfold dz_W179_74_106
  refine q_RT_seg (g2 := (11, [(0, .ref 74), (1, .ref 106)], [.int 4, .int 0, .ref 75, .int 0, .ref 107], (q_kW s c n))) 7 (fun _ _ => rfl) ?_
  refine q_RT_rsT (g2 := (14, [(0, .ref 74), (1, .ref 106)], [], (q_kW (q_sA s 11 (va_cpy (s.1 43) (s.1 11) 0 0 4)) c n))) rfl rfl (q_acb rfl) ?_
  refine q_RT_seg (g2 := (26, [(0, .ref 74), (1, .ref 106)], [.int 16, .int 0, .ref 76, .int 0, .ref 108], (q_kW (q_sA s 11 (va_cpy (s.1 43) (s.1 11) 0 0 4)) c n))) 7 (fun _ _ => rfl) ?_
  refine q_RT_rsT (g2 := (29, [(0, .ref 74), (1, .ref 106)], [], (q_kW (q_sA (q_sA s 11 (va_cpy (s.1 43) (s.1 11) 0 0 4)) 12 (va_cpy (s.1 44) (s.1 12) 0 0 16)) c n))) rfl rfl (q_acb rfl) ?_
  refine q_RT_seg (g2 := (34, [(0, .ref 74), (1, .ref 106)], [.int (s.2.1 42 2), .ref 74], (q_kW (q_sA (q_sA s 11 (va_cpy (s.1 43) (s.1 11) 0 0 4)) 12 (va_cpy (s.1 44) (s.1 12) 0 0 16)) c n))) 3 (fun _ _ => rfl) ?_
  refine q_RT_seg (g2 := (37, [(0, .ref 74), (1, .ref 106)], [], (q_kW (q_sI (q_sA (q_sA s 11 (va_cpy (s.1 43) (s.1 11) 0 0 4)) 12 (va_cpy (s.1 44) (s.1 12) 0 0 16)) 10 2 (s.2.1 42 2)) c n))) 1 (fun _ _ => rfl) ?_
  exact q_RT_ret rfl rfl rfl
def dz_W110_78_110 (s : q_S) : q_S :=
  (q_sA (q_sA s 15 (va_cpy (s.1 47) (s.1 15) 0 0 4096)) 16 (va_cpy (s.1 48) (s.1 16) 0 0 48))
set_option maxHeartbeats 4000000 in
theorem dzt_W110_78_110 (s : q_S) (c n : Nat) : q_Ca q_TB0 1 109 [.ref 78, .ref 110] (q_kW s c n) ((q_oSW c n) (dz_W110_78_110 s)) := by
  refine q_CaT_of (φ := (q_oSW c n)) (Nat.le_of_ble_eq_true rfl) ?_
  unfold dz_W110_78_110
  refine q_RT_seg (g2 := (13, [(0, .ref 78), (1, .ref 110)], [.int 4096, .int 0, .ref 79, .int 0, .ref 111], (q_kW s c n))) 7 (fun _ _ => rfl) ?_
  refine q_RT_rsT (g2 := (16, [(0, .ref 78), (1, .ref 110)], [], (q_kW (q_sA s 15 (va_cpy (s.1 47) (s.1 15) 0 0 4096)) c n))) rfl rfl (q_acb rfl) ?_
  refine q_RT_seg (g2 := (28, [(0, .ref 78), (1, .ref 110)], [.int 48, .int 0, .ref 80, .int 0, .ref 112], (q_kW (q_sA s 15 (va_cpy (s.1 47) (s.1 15) 0 0 4096)) c n))) 7 (fun _ _ => rfl) ?_
  refine q_RT_rsT (g2 := (31, [(0, .ref 78), (1, .ref 110)], [], (q_kW (q_sA (q_sA s 15 (va_cpy (s.1 47) (s.1 15) 0 0 4096)) 16 (va_cpy (s.1 48) (s.1 16) 0 0 48)) c n))) rfl rfl (q_acb rfl) ?_
  exact q_RT_ret rfl rfl rfl
def dz_W126_77_109 (s : q_S) : q_S :=
  q_let (dz_W110_78_110 s) fun r1 => (q_sI (q_sI (q_sA r1 17 (va_cpy (r1.1 49) (r1.1 17) 0 0 3072)) 13 2 (r1.2.1 45 2)) 13 3 (r1.2.1 45 3))
set_option maxHeartbeats 4000000 in
theorem dzt_W126_77_109 (s : q_S) (c n : Nat) : q_Ca q_TB0 2 125 [.ref 77, .ref 109] (q_kW s c n) ((q_oSW c n) (dz_W126_77_109 s)) := by
  refine q_CaT_of (φ := (q_oSW c n)) (Nat.le_of_ble_eq_true rfl) ?_
  unfold dz_W126_77_109
  refine q_RT_seg (g2 := (8, [(0, .ref 77), (1, .ref 109)], [.ref 110, .ref 78], (q_kW s c n))) 4 (fun _ _ => rfl) ?_
  refine q_RT_call (v := none) (h2 := (q_kW (dz_W110_78_110 s) c n)) rfl rfl ((dzt_W110_78_110 s c n).le (Nat.le_of_ble_eq_true rfl)) ?_
  generalize dz_W110_78_110 s = r1
  refine q_RT_let ?_
  show q_RT _ _ _ (11, [(0, .ref 77), (1, .ref 109)], [], (q_kW r1 c n)) _ _
  refine q_RT_seg (g2 := (24, [(0, .ref 77), (1, .ref 109)], [.int 3072, .int 0, .ref 81, .int 0, .ref 113], (q_kW r1 c n))) 7 (fun _ _ => rfl) ?_
  refine q_RT_rsT (g2 := (27, [(0, .ref 77), (1, .ref 109)], [], (q_kW (q_sA r1 17 (va_cpy (r1.1 49) (r1.1 17) 0 0 3072)) c n))) rfl rfl (q_acb rfl) ?_
  refine q_RT_seg (g2 := (32, [(0, .ref 77), (1, .ref 109)], [.int (r1.2.1 45 2), .ref 77], (q_kW (q_sA r1 17 (va_cpy (r1.1 49) (r1.1 17) 0 0 3072)) c n))) 3 (fun _ _ => rfl) ?_
  refine q_RT_seg (g2 := (40, [(0, .ref 77), (1, .ref 109)], [.int (r1.2.1 45 3), .ref 77], (q_kW (q_sI (q_sA r1 17 (va_cpy (r1.1 49) (r1.1 17) 0 0 3072)) 13 2 (r1.2.1 45 2)) c n))) 4 (fun _ _ => rfl) ?_
  refine q_RT_seg (g2 := (43, [(0, .ref 77), (1, .ref 109)], [], (q_kW (q_sI (q_sI (q_sA r1 17 (va_cpy (r1.1 49) (r1.1 17) 0 0 3072)) 13 2 (r1.2.1 45 2)) 13 3 (r1.2.1 45 3)) c n))) 1 (fun _ _ => rfl) ?_
  exact q_RT_ret rfl rfl rfl
def dz_W110_83_115 (s : q_S) : q_S :=
  (q_sA (q_sA s 20 (va_cpy (s.1 52) (s.1 20) 0 0 4096)) 21 (va_cpy (s.1 53) (s.1 21) 0 0 48))
set_option maxHeartbeats 4000000 in
theorem dzt_W110_83_115 (s : q_S) (c n : Nat) : q_Ca q_TB0 1 109 [.ref 83, .ref 115] (q_kW s c n) ((q_oSW c n) (dz_W110_83_115 s)) := by
  refine q_CaT_of (φ := (q_oSW c n)) (Nat.le_of_ble_eq_true rfl) ?_
  unfold dz_W110_83_115
  refine q_RT_seg (g2 := (13, [(0, .ref 83), (1, .ref 115)], [.int 4096, .int 0, .ref 84, .int 0, .ref 116], (q_kW s c n))) 7 (fun _ _ => rfl) ?_
  refine q_RT_rsT (g2 := (16, [(0, .ref 83), (1, .ref 115)], [], (q_kW (q_sA s 20 (va_cpy (s.1 52) (s.1 20) 0 0 4096)) c n))) rfl rfl (q_acb rfl) ?_
  refine q_RT_seg (g2 := (28, [(0, .ref 83), (1, .ref 115)], [.int 48, .int 0, .ref 85, .int 0, .ref 117], (q_kW (q_sA s 20 (va_cpy (s.1 52) (s.1 20) 0 0 4096)) c n))) 7 (fun _ _ => rfl) ?_
  refine q_RT_rsT (g2 := (31, [(0, .ref 83), (1, .ref 115)], [], (q_kW (q_sA (q_sA s 20 (va_cpy (s.1 52) (s.1 20) 0 0 4096)) 21 (va_cpy (s.1 53) (s.1 21) 0 0 48)) c n))) rfl rfl (q_acb rfl) ?_
  exact q_RT_ret rfl rfl rfl
def dz_W126_82_114 (s : q_S) : q_S :=
  q_let (dz_W110_83_115 s) fun r1 => (q_sI (q_sI (q_sA r1 22 (va_cpy (r1.1 54) (r1.1 22) 0 0 3072)) 18 2 (r1.2.1 50 2)) 18 3 (r1.2.1 50 3))
set_option maxHeartbeats 4000000 in
theorem dzt_W126_82_114 (s : q_S) (c n : Nat) : q_Ca q_TB0 2 125 [.ref 82, .ref 114] (q_kW s c n) ((q_oSW c n) (dz_W126_82_114 s)) := by
  refine q_CaT_of (φ := (q_oSW c n)) (Nat.le_of_ble_eq_true rfl) ?_
  unfold dz_W126_82_114
  refine q_RT_seg (g2 := (8, [(0, .ref 82), (1, .ref 114)], [.ref 115, .ref 83], (q_kW s c n))) 4 (fun _ _ => rfl) ?_
  refine q_RT_call (v := none) (h2 := (q_kW (dz_W110_83_115 s) c n)) rfl rfl ((dzt_W110_83_115 s c n).le (Nat.le_of_ble_eq_true rfl)) ?_
  generalize dz_W110_83_115 s = r1
  refine q_RT_let ?_
  show q_RT _ _ _ (11, [(0, .ref 82), (1, .ref 114)], [], (q_kW r1 c n)) _ _
  refine q_RT_seg (g2 := (24, [(0, .ref 82), (1, .ref 114)], [.int 3072, .int 0, .ref 86, .int 0, .ref 118], (q_kW r1 c n))) 7 (fun _ _ => rfl) ?_
  refine q_RT_rsT (g2 := (27, [(0, .ref 82), (1, .ref 114)], [], (q_kW (q_sA r1 22 (va_cpy (r1.1 54) (r1.1 22) 0 0 3072)) c n))) rfl rfl (q_acb rfl) ?_
  refine q_RT_seg (g2 := (32, [(0, .ref 82), (1, .ref 114)], [.int (r1.2.1 50 2), .ref 82], (q_kW (q_sA r1 22 (va_cpy (r1.1 54) (r1.1 22) 0 0 3072)) c n))) 3 (fun _ _ => rfl) ?_
  refine q_RT_seg (g2 := (40, [(0, .ref 82), (1, .ref 114)], [.int (r1.2.1 50 3), .ref 82], (q_kW (q_sI (q_sA r1 22 (va_cpy (r1.1 54) (r1.1 22) 0 0 3072)) 18 2 (r1.2.1 50 2)) c n))) 4 (fun _ _ => rfl) ?_
  refine q_RT_seg (g2 := (43, [(0, .ref 82), (1, .ref 114)], [], (q_kW (q_sI (q_sI (q_sA r1 22 (va_cpy (r1.1 54) (r1.1 22) 0 0 3072)) 18 2 (r1.2.1 50 2)) 18 3 (r1.2.1 50 3)) c n))) 1 (fun _ _ => rfl) ?_
  exact q_RT_ret rfl rfl rfl
def dz_W85_65_97 (s : q_S) : q_S :=
  q_let (dz_W110_66_98 s) fun r1 => q_let (dz_W174_72_104 (q_sA (q_sA (q_sA r1 5 (va_cpy (r1.1 37) (r1.1 5) 0 0 512)) 6 (va_cpy (r1.1 38) (r1.1 6) 0 0 2048)) 7 (va_cpy (r1.1 39) (r1.1 7) 0 0 2))) fun r2 => q_let (dz_W179_74_106 r2) fun r3 => q_let (dz_W126_77_109 r3) fun r4 => q_let (dz_W126_82_114 r4) fun r5 => (q_sJ r5 1 8 (r5.2.2 33 8))
set_option maxHeartbeats 4000000 in
theorem dzt_W85_65_97 (s : q_S) (c n : Nat) : q_Ca q_TB0 3 84 [.ref 65, .ref 97] (q_kW s c n) ((q_oSW c n) (dz_W85_65_97 s)) := by
  refine q_CaT_of (φ := (q_oSW c n)) (Nat.le_of_ble_eq_true rfl) ?_
  unfold dz_W85_65_97
  refine q_RT_seg (g2 := (8, [(0, .ref 65), (1, .ref 97)], [.ref 98, .ref 66], (q_kW s c n))) 4 (fun _ _ => rfl) ?_
  refine q_RT_call (v := none) (h2 := (q_kW (dz_W110_66_98 s) c n)) rfl rfl ((dzt_W110_66_98 s c n).le (Nat.le_of_ble_eq_true rfl)) ?_
  generalize dz_W110_66_98 s = r1
  refine q_RT_let ?_
  show q_RT _ _ _ (11, [(0, .ref 65), (1, .ref 97)], [], (q_kW r1 c n)) _ _
  refine q_RT_seg (g2 := (24, [(0, .ref 65), (1, .ref 97)], [.int 512, .int 0, .ref 69, .int 0, .ref 101], (q_kW r1 c n))) 7 (fun _ _ => rfl) ?_
  refine q_RT_rsT (g2 := (27, [(0, .ref 65), (1, .ref 97)], [], (q_kW (q_sA r1 5 (va_cpy (r1.1 37) (r1.1 5) 0 0 512)) c n))) rfl rfl (q_acb rfl) ?_
  refine q_RT_seg (g2 := (40, [(0, .ref 65), (1, .ref 97)], [.int 2048, .int 0, .ref 70, .int 0, .ref 102], (q_kW (q_sA r1 5 (va_cpy (r1.1 37) (r1.1 5) 0 0 512)) c n))) 7 (fun _ _ => rfl) ?_
  refine q_RT_rsT (g2 := (43, [(0, .ref 65), (1, .ref 97)], [], (q_kW (q_sA (q_sA r1 5 (va_cpy (r1.1 37) (r1.1 5) 0 0 512)) 6 (va_cpy (r1.1 38) (r1.1 6) 0 0 2048)) c n))) rfl rfl (q_acb rfl) ?_
  refine q_RT_seg (g2 := (54, [(0, .ref 65), (1, .ref 97)], [.int 2, .int 0, .ref 71, .int 0, .ref 103], (q_kW (q_sA (q_sA r1 5 (va_cpy (r1.1 37) (r1.1 5) 0 0 512)) 6 (va_cpy (r1.1 38) (r1.1 6) 0 0 2048)) c n))) 7 (fun _ _ => rfl) ?_
  refine q_RT_rsT (g2 := (57, [(0, .ref 65), (1, .ref 97)], [], (q_kW (q_sA (q_sA (q_sA r1 5 (va_cpy (r1.1 37) (r1.1 5) 0 0 512)) 6 (va_cpy (r1.1 38) (r1.1 6) 0 0 2048)) 7 (va_cpy (r1.1 39) (r1.1 7) 0 0 2)) c n))) rfl rfl (q_acb rfl) ?_
  refine q_RT_seg (g2 := (65, [(0, .ref 65), (1, .ref 97)], [.ref 104, .ref 72], (q_kW (q_sA (q_sA (q_sA r1 5 (va_cpy (r1.1 37) (r1.1 5) 0 0 512)) 6 (va_cpy (r1.1 38) (r1.1 6) 0 0 2048)) 7 (va_cpy (r1.1 39) (r1.1 7) 0 0 2)) c n))) 4 (fun _ _ => rfl) ?_
  refine q_RT_call (v := none) (h2 := (q_kW (dz_W174_72_104 (q_sA (q_sA (q_sA r1 5 (va_cpy (r1.1 37) (r1.1 5) 0 0 512)) 6 (va_cpy (r1.1 38) (r1.1 6) 0 0 2048)) 7 (va_cpy (r1.1 39) (r1.1 7) 0 0 2))) c n)) rfl rfl ((dzt_W174_72_104 (q_sA (q_sA (q_sA r1 5 (va_cpy (r1.1 37) (r1.1 5) 0 0 512)) 6 (va_cpy (r1.1 38) (r1.1 6) 0 0 2048)) 7 (va_cpy (r1.1 39) (r1.1 7) 0 0 2)) c n).le (Nat.le_of_ble_eq_true rfl)) ?_
  generalize dz_W174_72_104 (q_sA (q_sA (q_sA r1 5 (va_cpy (r1.1 37) (r1.1 5) 0 0 512)) 6 (va_cpy (r1.1 38) (r1.1 6) 0 0 2048)) 7 (va_cpy (r1.1 39) (r1.1 7) 0 0 2)) = r2
  refine q_RT_let ?_
  show q_RT _ _ _ (68, [(0, .ref 65), (1, .ref 97)], [], (q_kW r2 c n)) _ _
  refine q_RT_seg (g2 := (76, [(0, .ref 65), (1, .ref 97)], [.ref 106, .ref 74], (q_kW r2 c n))) 4 (fun _ _ => rfl) ?_
  refine q_RT_call (v := none) (h2 := (q_kW (dz_W179_74_106 r2) c n)) rfl rfl ((dzt_W179_74_106 r2 c n).le (Nat.le_of_ble_eq_true rfl)) ?_
  generalize dz_W179_74_106 r2 = r3
  refine q_RT_let ?_
  show q_RT _ _ _ (79, [(0, .ref 65), (1, .ref 97)], [], (q_kW r3 c n)) _ _
  refine q_RT_seg (g2 := (87, [(0, .ref 65), (1, .ref 97)], [.ref 109, .ref 77], (q_kW r3 c n))) 4 (fun _ _ => rfl) ?_
  refine q_RT_call (v := none) (h2 := (q_kW (dz_W126_77_109 r3) c n)) rfl rfl ((dzt_W126_77_109 r3 c n).le (Nat.le_of_ble_eq_true rfl)) ?_
  generalize dz_W126_77_109 r3 = r4
  refine q_RT_let ?_
  show q_RT _ _ _ (90, [(0, .ref 65), (1, .ref 97)], [], (q_kW r4 c n)) _ _
  refine q_RT_seg (g2 := (98, [(0, .ref 65), (1, .ref 97)], [.ref 114, .ref 82], (q_kW r4 c n))) 4 (fun _ _ => rfl) ?_
  refine q_RT_call (v := none) (h2 := (q_kW (dz_W126_82_114 r4) c n)) rfl rfl ((dzt_W126_82_114 r4 c n).le (Nat.le_of_ble_eq_true rfl)) ?_
  generalize dz_W126_82_114 r4 = r5
  refine q_RT_let ?_
  show q_RT _ _ _ (101, [(0, .ref 65), (1, .ref 97)], [], (q_kW r5 c n)) _ _
  refine q_RT_seg (g2 := (106, [(0, .ref 65), (1, .ref 97)], [.long (r5.2.2 33 8), .ref 65], (q_kW r5 c n))) 3 (fun _ _ => rfl) ?_
  refine q_RT_seg (g2 := (109, [(0, .ref 65), (1, .ref 97)], [], (q_kW (q_sJ r5 1 8 (r5.2.2 33 8)) c n))) 1 (fun _ _ => rfl) ?_
  exact q_RT_ret rfl rfl rfl
def dz_W131_87_119 (s : q_S) : Option (q_S) :=
  cond (q_z1 (s.2.1 55 6)) (cond (q_z1 (s.2.1 55 7)) (some (q_sA (q_sI (q_sI (q_sI (q_sI (q_sI (q_sI (q_sI (q_sI (q_sI (q_sI (q_sI (q_sI s 23 0 (s.2.1 55 0)) 23 1 (s.2.1 55 1)) 23 2 (s.2.1 55 2)) 23 3 (s.2.1 55 3)) 23 4 (s.2.1 55 4)) 23 5 (s.2.1 55 5)) 23 6 (s.2.1 55 6)) 23 7 (s.2.1 55 7)) 23 8 (s.2.1 55 8)) 23 9 (s.2.1 55 9)) 23 10 (s.2.1 55 10)) 23 11 (s.2.1 55 11)) 24 (va_cpy (s.1 56) (s.1 24) 0 0 16))) none) none
set_option maxHeartbeats 4000000 in
theorem dzt_W131_87_119 (s : q_S) (c n : Nat) (x : q_S) (h : dz_W131_87_119 s = some x) : q_Ca q_TB0 1 130 [.ref 87, .ref 119] (q_kW s c n) ((q_oSW c n) x) := by
  refine q_CaP_of (φ := (q_oSW c n)) (Nat.le_of_ble_eq_true rfl) ?_ h
  clear h
  unfold dz_W131_87_119
  refine q_RP_seg (g2 := (5, [(0, .ref 87), (1, .ref 119)], [.int (s.2.1 55 0), .ref 87], (q_kW s c n))) 3 (fun _ _ => rfl) ?_
  refine q_RP_seg (g2 := (13, [(0, .ref 87), (1, .ref 119)], [.int (s.2.1 55 1), .ref 87], (q_kW (q_sI s 23 0 (s.2.1 55 0)) c n))) 4 (fun _ _ => rfl) ?_
  refine q_RP_seg (g2 := (21, [(0, .ref 87), (1, .ref 119)], [.int (s.2.1 55 2), .ref 87], (q_kW (q_sI (q_sI s 23 0 (s.2.1 55 0)) 23 1 (s.2.1 55 1)) c n))) 4 (fun _ _ => rfl) ?_
  refine q_RP_seg (g2 := (29, [(0, .ref 87), (1, .ref 119)], [.int (s.2.1 55 3), .ref 87], (q_kW (q_sI (q_sI (q_sI s 23 0 (s.2.1 55 0)) 23 1 (s.2.1 55 1)) 23 2 (s.2.1 55 2)) c n))) 4 (fun _ _ => rfl) ?_
  refine q_RP_seg (g2 := (37, [(0, .ref 87), (1, .ref 119)], [.int (s.2.1 55 4), .ref 87], (q_kW (q_sI (q_sI (q_sI (q_sI s 23 0 (s.2.1 55 0)) 23 1 (s.2.1 55 1)) 23 2 (s.2.1 55 2)) 23 3 (s.2.1 55 3)) c n))) 4 (fun _ _ => rfl) ?_
  refine q_RP_seg (g2 := (45, [(0, .ref 87), (1, .ref 119)], [.int (s.2.1 55 5), .ref 87], (q_kW (q_sI (q_sI (q_sI (q_sI (q_sI s 23 0 (s.2.1 55 0)) 23 1 (s.2.1 55 1)) 23 2 (s.2.1 55 2)) 23 3 (s.2.1 55 3)) 23 4 (s.2.1 55 4)) c n))) 4 (fun _ _ => rfl) ?_
  refine q_RP_seg (g2 := (53, [(0, .ref 87), (1, .ref 119)], [.int (s.2.1 55 6), .ref 87], (q_kW (q_sI (q_sI (q_sI (q_sI (q_sI (q_sI s 23 0 (s.2.1 55 0)) 23 1 (s.2.1 55 1)) 23 2 (s.2.1 55 2)) 23 3 (s.2.1 55 3)) 23 4 (s.2.1 55 4)) 23 5 (s.2.1 55 5)) c n))) 4 (fun _ _ => rfl) ?_
  refine q_RP_as fun i1 => ?_
  refine q_RP_st1 (g2 := (56, [(0, .ref 87), (1, .ref 119)], [], (q_kW (q_sI (q_sI (q_sI (q_sI (q_sI (q_sI (q_sI s 23 0 (s.2.1 55 0)) 23 1 (s.2.1 55 1)) 23 2 (s.2.1 55 2)) 23 3 (s.2.1 55 3)) 23 4 (s.2.1 55 4)) 23 5 (s.2.1 55 5)) 23 6 (s.2.1 55 6)) c n))) rfl (if_pos ⟨rfl, (Nat.le_of_ble_eq_true rfl), i1⟩) ?_
  refine q_RP_seg (g2 := (61, [(0, .ref 87), (1, .ref 119)], [.int (s.2.1 55 7), .ref 87], (q_kW (q_sI (q_sI (q_sI (q_sI (q_sI (q_sI (q_sI s 23 0 (s.2.1 55 0)) 23 1 (s.2.1 55 1)) 23 2 (s.2.1 55 2)) 23 3 (s.2.1 55 3)) 23 4 (s.2.1 55 4)) 23 5 (s.2.1 55 5)) 23 6 (s.2.1 55 6)) c n))) 3 (fun _ _ => rfl) ?_
  refine q_RP_as fun i2 => ?_
  refine q_RP_st1 (g2 := (64, [(0, .ref 87), (1, .ref 119)], [], (q_kW (q_sI (q_sI (q_sI (q_sI (q_sI (q_sI (q_sI (q_sI s 23 0 (s.2.1 55 0)) 23 1 (s.2.1 55 1)) 23 2 (s.2.1 55 2)) 23 3 (s.2.1 55 3)) 23 4 (s.2.1 55 4)) 23 5 (s.2.1 55 5)) 23 6 (s.2.1 55 6)) 23 7 (s.2.1 55 7)) c n))) rfl (if_pos ⟨rfl, (Nat.le_of_ble_eq_true rfl), i2⟩) ?_
  refine q_RP_seg (g2 := (69, [(0, .ref 87), (1, .ref 119)], [.int (s.2.1 55 8), .ref 87], (q_kW (q_sI (q_sI (q_sI (q_sI (q_sI (q_sI (q_sI (q_sI s 23 0 (s.2.1 55 0)) 23 1 (s.2.1 55 1)) 23 2 (s.2.1 55 2)) 23 3 (s.2.1 55 3)) 23 4 (s.2.1 55 4)) 23 5 (s.2.1 55 5)) 23 6 (s.2.1 55 6)) 23 7 (s.2.1 55 7)) c n))) 3 (fun _ _ => rfl) ?_
  refine q_RP_seg (g2 := (77, [(0, .ref 87), (1, .ref 119)], [.int (s.2.1 55 9), .ref 87], (q_kW (q_sI (q_sI (q_sI (q_sI (q_sI (q_sI (q_sI (q_sI (q_sI s 23 0 (s.2.1 55 0)) 23 1 (s.2.1 55 1)) 23 2 (s.2.1 55 2)) 23 3 (s.2.1 55 3)) 23 4 (s.2.1 55 4)) 23 5 (s.2.1 55 5)) 23 6 (s.2.1 55 6)) 23 7 (s.2.1 55 7)) 23 8 (s.2.1 55 8)) c n))) 4 (fun _ _ => rfl) ?_
  refine q_RP_seg (g2 := (85, [(0, .ref 87), (1, .ref 119)], [.int (s.2.1 55 10), .ref 87], (q_kW (q_sI (q_sI (q_sI (q_sI (q_sI (q_sI (q_sI (q_sI (q_sI (q_sI s 23 0 (s.2.1 55 0)) 23 1 (s.2.1 55 1)) 23 2 (s.2.1 55 2)) 23 3 (s.2.1 55 3)) 23 4 (s.2.1 55 4)) 23 5 (s.2.1 55 5)) 23 6 (s.2.1 55 6)) 23 7 (s.2.1 55 7)) 23 8 (s.2.1 55 8)) 23 9 (s.2.1 55 9)) c n))) 4 (fun _ _ => rfl) ?_
  refine q_RP_seg (g2 := (93, [(0, .ref 87), (1, .ref 119)], [.int (s.2.1 55 11), .ref 87], (q_kW (q_sI (q_sI (q_sI (q_sI (q_sI (q_sI (q_sI (q_sI (q_sI (q_sI (q_sI s 23 0 (s.2.1 55 0)) 23 1 (s.2.1 55 1)) 23 2 (s.2.1 55 2)) 23 3 (s.2.1 55 3)) 23 4 (s.2.1 55 4)) 23 5 (s.2.1 55 5)) 23 6 (s.2.1 55 6)) 23 7 (s.2.1 55 7)) 23 8 (s.2.1 55 8)) 23 9 (s.2.1 55 9)) 23 10 (s.2.1 55 10)) c n))) 4 (fun _ _ => rfl) ?_
  refine q_RP_seg (g2 := (108, [(0, .ref 87), (1, .ref 119)], [.int 16, .int 0, .ref 88, .int 0, .ref 120], (q_kW (q_sI (q_sI (q_sI (q_sI (q_sI (q_sI (q_sI (q_sI (q_sI (q_sI (q_sI (q_sI s 23 0 (s.2.1 55 0)) 23 1 (s.2.1 55 1)) 23 2 (s.2.1 55 2)) 23 3 (s.2.1 55 3)) 23 4 (s.2.1 55 4)) 23 5 (s.2.1 55 5)) 23 6 (s.2.1 55 6)) 23 7 (s.2.1 55 7)) 23 8 (s.2.1 55 8)) 23 9 (s.2.1 55 9)) 23 10 (s.2.1 55 10)) 23 11 (s.2.1 55 11)) c n))) 8 (fun _ _ => rfl) ?_
  refine q_RP_rsT (g2 := (111, [(0, .ref 87), (1, .ref 119)], [], (q_kW (q_sA (q_sI (q_sI (q_sI (q_sI (q_sI (q_sI (q_sI (q_sI (q_sI (q_sI (q_sI (q_sI s 23 0 (s.2.1 55 0)) 23 1 (s.2.1 55 1)) 23 2 (s.2.1 55 2)) 23 3 (s.2.1 55 3)) 23 4 (s.2.1 55 4)) 23 5 (s.2.1 55 5)) 23 6 (s.2.1 55 6)) 23 7 (s.2.1 55 7)) 23 8 (s.2.1 55 8)) 23 9 (s.2.1 55 9)) 23 10 (s.2.1 55 10)) 23 11 (s.2.1 55 11)) 24 (va_cpy (s.1 56) (s.1 24) 0 0 16)) c n))) rfl rfl (q_acb rfl) ?_
  exact q_RP_ret rfl rfl rfl
def dz_W166_89_121 (s : q_S) : q_S :=
  (q_sA (q_sA (q_sA (q_sA (q_sA s 26 (va_cpy (s.1 58) (s.1 26) 0 0 3)) 27 (va_cpy (s.1 59) (s.1 27) 0 0 3)) 28 (va_cpy (s.1 60) (s.1 28) 0 0 3)) 29 (va_cpy (s.1 61) (s.1 29) 0 0 3)) 30 (va_cpy (s.1 62) (s.1 30) 0 0 40))
set_option maxHeartbeats 4000000 in
theorem dzt_W166_89_121 (s : q_S) (c n : Nat) : q_Ca q_TB0 1 165 [.ref 89, .ref 121] (q_kW s c n) ((q_oSW c n) (dz_W166_89_121 s)) := by
  refine q_CaT_of (φ := (q_oSW c n)) (Nat.le_of_ble_eq_true rfl) ?_
  unfold dz_W166_89_121
  refine q_RT_seg (g2 := (11, [(0, .ref 89), (1, .ref 121)], [.int 3, .int 0, .ref 90, .int 0, .ref 122], (q_kW s c n))) 7 (fun _ _ => rfl) ?_
  refine q_RT_rsT (g2 := (14, [(0, .ref 89), (1, .ref 121)], [], (q_kW (q_sA s 26 (va_cpy (s.1 58) (s.1 26) 0 0 3)) c n))) rfl rfl (q_acb rfl) ?_
  refine q_RT_seg (g2 := (25, [(0, .ref 89), (1, .ref 121)], [.int 3, .int 0, .ref 91, .int 0, .ref 123], (q_kW (q_sA s 26 (va_cpy (s.1 58) (s.1 26) 0 0 3)) c n))) 7 (fun _ _ => rfl) ?_
  refine q_RT_rsT (g2 := (28, [(0, .ref 89), (1, .ref 121)], [], (q_kW (q_sA (q_sA s 26 (va_cpy (s.1 58) (s.1 26) 0 0 3)) 27 (va_cpy (s.1 59) (s.1 27) 0 0 3)) c n))) rfl rfl (q_acb rfl) ?_
  refine q_RT_seg (g2 := (39, [(0, .ref 89), (1, .ref 121)], [.int 3, .int 0, .ref 92, .int 0, .ref 124], (q_kW (q_sA (q_sA s 26 (va_cpy (s.1 58) (s.1 26) 0 0 3)) 27 (va_cpy (s.1 59) (s.1 27) 0 0 3)) c n))) 7 (fun _ _ => rfl) ?_
  refine q_RT_rsT (g2 := (42, [(0, .ref 89), (1, .ref 121)], [], (q_kW (q_sA (q_sA (q_sA s 26 (va_cpy (s.1 58) (s.1 26) 0 0 3)) 27 (va_cpy (s.1 59) (s.1 27) 0 0 3)) 28 (va_cpy (s.1 60) (s.1 28) 0 0 3)) c n))) rfl rfl (q_acb rfl) ?_
  refine q_RT_seg (g2 := (53, [(0, .ref 89), (1, .ref 121)], [.int 3, .int 0, .ref 93, .int 0, .ref 125], (q_kW (q_sA (q_sA (q_sA s 26 (va_cpy (s.1 58) (s.1 26) 0 0 3)) 27 (va_cpy (s.1 59) (s.1 27) 0 0 3)) 28 (va_cpy (s.1 60) (s.1 28) 0 0 3)) c n))) 7 (fun _ _ => rfl) ?_
  refine q_RT_rsT (g2 := (56, [(0, .ref 89), (1, .ref 121)], [], (q_kW (q_sA (q_sA (q_sA (q_sA s 26 (va_cpy (s.1 58) (s.1 26) 0 0 3)) 27 (va_cpy (s.1 59) (s.1 27) 0 0 3)) 28 (va_cpy (s.1 60) (s.1 28) 0 0 3)) 29 (va_cpy (s.1 61) (s.1 29) 0 0 3)) c n))) rfl rfl (q_acb rfl) ?_
  refine q_RT_seg (g2 := (68, [(0, .ref 89), (1, .ref 121)], [.int 40, .int 0, .ref 94, .int 0, .ref 126], (q_kW (q_sA (q_sA (q_sA (q_sA s 26 (va_cpy (s.1 58) (s.1 26) 0 0 3)) 27 (va_cpy (s.1 59) (s.1 27) 0 0 3)) 28 (va_cpy (s.1 60) (s.1 28) 0 0 3)) 29 (va_cpy (s.1 61) (s.1 29) 0 0 3)) c n))) 7 (fun _ _ => rfl) ?_
  refine q_RT_rsT (g2 := (71, [(0, .ref 89), (1, .ref 121)], [], (q_kW (q_sA (q_sA (q_sA (q_sA (q_sA s 26 (va_cpy (s.1 58) (s.1 26) 0 0 3)) 27 (va_cpy (s.1 59) (s.1 27) 0 0 3)) 28 (va_cpy (s.1 60) (s.1 28) 0 0 3)) 29 (va_cpy (s.1 61) (s.1 29) 0 0 3)) 30 (va_cpy (s.1 62) (s.1 30) 0 0 40)) c n))) rfl rfl (q_acb rfl) ?_
  exact q_RT_ret rfl rfl rfl
def dz_W77_64_96 (s : q_S) : Option (q_S) :=
  q_let (dz_W85_65_97 s) fun r3 => (dz_W131_87_119 r3).bind fun r4 => q_let (dz_W166_89_121 r4) fun r5 => some (q_sJ (q_sA r5 31 (va_cpy (r5.1 63) (r5.1 31) 0 0 1024)) 0 4 (r5.2.2 32 4))
set_option maxHeartbeats 4000000 in
theorem dzt_W77_64_96 (s : q_S) (c n : Nat) (x : q_S) (h : dz_W77_64_96 s = some x) : q_Ca q_TB0 4 76 [.ref 64, .ref 96] (q_kW s c n) ((q_oSW c n) x) := by
  refine q_CaP_of (φ := (q_oSW c n)) (Nat.le_of_ble_eq_true rfl) ?_ h
  clear h
  unfold dz_W77_64_96
  refine q_RP_seg (g2 := (8, [(0, .ref 64), (1, .ref 96)], [.ref 97, .ref 65], (q_kW s c n))) 4 (fun _ _ => rfl) ?_
  refine q_RP_call (v := none) (h2 := (q_kW (dz_W85_65_97 s) c n)) rfl rfl ((dzt_W85_65_97 s c n).le (Nat.le_of_ble_eq_true rfl)) ?_
  generalize dz_W85_65_97 s = r3
  refine q_RP_let ?_
  show q_RP _ _ _ (11, [(0, .ref 64), (1, .ref 96)], [], (q_kW r3 c n)) _ _
  refine q_RP_seg (g2 := (19, [(0, .ref 64), (1, .ref 96)], [.ref 119, .ref 87], (q_kW r3 c n))) 4 (fun _ _ => rfl) ?_
  refine q_RP_bd fun r4 er4 => ?_
  refine q_RP_call (v := none) (h2 := (q_kW r4 c n)) rfl rfl ((dzt_W131_87_119 r3 c n r4 er4).le (Nat.le_of_ble_eq_true rfl)) ?_
  show q_RP _ _ _ (22, [(0, .ref 64), (1, .ref 96)], [], (q_kW r4 c n)) _ _
  refine q_RP_seg (g2 := (30, [(0, .ref 64), (1, .ref 96)], [.ref 121, .ref 89], (q_kW r4 c n))) 4 (fun _ _ => rfl) ?_
  refine q_RP_call (v := none) (h2 := (q_kW (dz_W166_89_121 r4) c n)) rfl rfl ((dzt_W166_89_121 r4 c n).le (Nat.le_of_ble_eq_true rfl)) ?_
  generalize dz_W166_89_121 r4 = r5
  refine q_RP_let ?_
  show q_RP _ _ _ (33, [(0, .ref 64), (1, .ref 96)], [], (q_kW r5 c n)) _ _
  refine q_RP_seg (g2 := (46, [(0, .ref 64), (1, .ref 96)], [.int 1024, .int 0, .ref 95, .int 0, .ref 127], (q_kW r5 c n))) 7 (fun _ _ => rfl) ?_
  refine q_RP_rsT (g2 := (49, [(0, .ref 64), (1, .ref 96)], [], (q_kW (q_sA r5 31 (va_cpy (r5.1 63) (r5.1 31) 0 0 1024)) c n))) rfl rfl (q_acb rfl) ?_
  refine q_RP_seg (g2 := (54, [(0, .ref 64), (1, .ref 96)], [.long (r5.2.2 32 4), .ref 64], (q_kW (q_sA r5 31 (va_cpy (r5.1 63) (r5.1 31) 0 0 1024)) c n))) 3 (fun _ _ => rfl) ?_
  refine q_RP_seg (g2 := (57, [(0, .ref 64), (1, .ref 96)], [], (q_kW (q_sJ (q_sA r5 31 (va_cpy (r5.1 63) (r5.1 31) 0 0 1024)) 0 4 (r5.2.2 32 4)) c n))) 1 (fun _ _ => rfl) ?_
  exact q_RP_ret rfl rfl rfl
def dz_W91_65 (s : q_S) (a1 : Int32) (a2 : Int32) : Int32 :=
  cond (decide (a1 = 9)) (((((s.2.2 1 8) - (s.2.2 1 8) / 960 * 960).toInt32) / 24)) (cond (decide (a1 = 12)) ((((s.1 7) 0) &&& 255)) (cond (decide (a1 = 13)) ((((s.1 7) 0) >>> ((8 &&& 31) : Int32))) (cond (decide (a1 = 14)) ((((s.1 7) 1) &&& 255)) (cond (decide (a1 = 15)) ((((s.1 7) 1) >>> ((8 &&& 31) : Int32))) (cond (decide (a1 = 31)) ((((s.1 12) ((a2 &&& 15).toNatClampNeg)) + (16 * (s.2.1 10 2)))) (cond (decide (a1 = 44)) (cond (decide (s.2.1 8 2 < s.2.1 8 1)) (((a2 + (2 * (s.2.1 8 4))) + 4)) (((a2 + (2 * (s.2.1 8 4))) + 0))) (a2)))))))
set_option maxHeartbeats 4000000 in
theorem dzt_W91_65 (s : q_S) (c n : Nat) (a1 : Int32) (a2 : Int32) : q_Ca q_TB0 1 90 [.ref 65, .int a1, .int a2] (q_kW s c n) ((q_oP (q_kW s c n)) (dz_W91_65 s a1 a2)) := by
  refine q_CaT_of (φ := (q_oP (q_kW s c n))) (Nat.le_of_ble_eq_true rfl) ?_
  unfold dz_W91_65
  refine q_RT_seg (g2 := (1, [(0, .ref 65), (1, .int a1), (2, .int a2)], [.int a1], (q_kW s c n))) 1 (fun _ _ => rfl) ?_
  cases h1 : decide (a1 = 9) with
  | true =>
    refine q_RT_cT ?_
    refine q_RT_st1 (g2 := (68, [(0, .ref 65), (1, .int a1), (2, .int a2)], [], (q_kW s c n))) rfl (by rw [of_decide_eq_true h1]; rfl) ?_
    refine q_RT_seg (g2 := (72, [(0, .ref 65), (1, .int a1), (2, .int a2)], [.long (s.2.2 1 8)], (q_kW s c n))) 2 (fun _ _ => rfl) ?_
    refine q_RT_seg (g2 := (80, [(0, .ref 65), (1, .int a1), (2, .int a2)], [.int ((((s.2.2 1 8) - (s.2.2 1 8) / 960 * 960).toInt32) / 24)], (q_kW s c n))) 5 (fun _ _ => rfl) ?_
    exact q_RT_ret rfl rfl rfl
  | false =>
    refine q_RT_cF ?_
    cases h2 : decide (a1 = 12) with
    | true =>
      refine q_RT_cT ?_
      refine q_RT_st1 (g2 := (81, [(0, .ref 65), (1, .int a1), (2, .int a2)], [], (q_kW s c n))) rfl (by rw [of_decide_eq_true h2]; rfl) ?_
      refine q_RT_seg (g2 := (87, [(0, .ref 65), (1, .int a1), (2, .int a2)], [.int ((s.1 7) 0)], (q_kW s c n))) 4 (fun _ _ => rfl) ?_
      refine q_RT_seg (g2 := (91, [(0, .ref 65), (1, .int a1), (2, .int a2)], [.int (((s.1 7) 0) &&& 255)], (q_kW s c n))) 2 (fun _ _ => rfl) ?_
      exact q_RT_ret rfl rfl rfl
    | false =>
      refine q_RT_cF ?_
      cases h3 : decide (a1 = 13) with
      | true =>
        refine q_RT_cT ?_
        refine q_RT_st1 (g2 := (92, [(0, .ref 65), (1, .int a1), (2, .int a2)], [], (q_kW s c n))) rfl (by rw [of_decide_eq_true h3]; rfl) ?_
        refine q_RT_seg (g2 := (98, [(0, .ref 65), (1, .int a1), (2, .int a2)], [.int ((s.1 7) 0)], (q_kW s c n))) 4 (fun _ _ => rfl) ?_
        refine q_RT_seg (g2 := (101, [(0, .ref 65), (1, .int a1), (2, .int a2)], [.int (((s.1 7) 0) >>> ((8 &&& 31) : Int32))], (q_kW s c n))) 2 (fun _ _ => rfl) ?_
        exact q_RT_ret rfl rfl rfl
      | false =>
        refine q_RT_cF ?_
        cases h4 : decide (a1 = 14) with
        | true =>
          refine q_RT_cT ?_
          refine q_RT_st1 (g2 := (102, [(0, .ref 65), (1, .int a1), (2, .int a2)], [], (q_kW s c n))) rfl (by rw [of_decide_eq_true h4]; rfl) ?_
          refine q_RT_seg (g2 := (108, [(0, .ref 65), (1, .int a1), (2, .int a2)], [.int ((s.1 7) 1)], (q_kW s c n))) 4 (fun _ _ => rfl) ?_
          refine q_RT_seg (g2 := (112, [(0, .ref 65), (1, .int a1), (2, .int a2)], [.int (((s.1 7) 1) &&& 255)], (q_kW s c n))) 2 (fun _ _ => rfl) ?_
          exact q_RT_ret rfl rfl rfl
        | false =>
          refine q_RT_cF ?_
          cases h5 : decide (a1 = 15) with
          | true =>
            refine q_RT_cT ?_
            refine q_RT_st1 (g2 := (113, [(0, .ref 65), (1, .int a1), (2, .int a2)], [], (q_kW s c n))) rfl (by rw [of_decide_eq_true h5]; rfl) ?_
            refine q_RT_seg (g2 := (119, [(0, .ref 65), (1, .int a1), (2, .int a2)], [.int ((s.1 7) 1)], (q_kW s c n))) 4 (fun _ _ => rfl) ?_
            refine q_RT_seg (g2 := (122, [(0, .ref 65), (1, .int a1), (2, .int a2)], [.int (((s.1 7) 1) >>> ((8 &&& 31) : Int32))], (q_kW s c n))) 2 (fun _ _ => rfl) ?_
            exact q_RT_ret rfl rfl rfl
          | false =>
            refine q_RT_cF ?_
            cases h6 : decide (a1 = 31) with
            | true =>
              refine q_RT_cT ?_
              refine q_RT_st1 (g2 := (123, [(0, .ref 65), (1, .int a1), (2, .int a2)], [], (q_kW s c n))) rfl (by rw [of_decide_eq_true h6]; rfl) ?_
              refine q_RT_seg (g2 := (134, [(0, .ref 65), (1, .int a1), (2, .int a2)], [.int (a2 &&& 15), .ref 76], (q_kW s c n))) 6 (fun _ _ => rfl) ?_
              refine q_RT_rsT (g2 := (135, [(0, .ref 65), (1, .int a1), (2, .int a2)], [.int ((s.1 12) ((a2 &&& 15).toNatClampNeg))], (q_kW s c n))) rfl rfl (q_in_bd (x := a2 &&& 15) (n := 16) (U := 15) (L := 0) (q_and_lo a2 15) (q_and_hi a2 15 15)) ?_
              refine q_RT_seg (g2 := (144, [(0, .ref 65), (1, .int a1), (2, .int a2)], [.int (s.2.1 10 2), .int 16, .int ((s.1 12) ((a2 &&& 15).toNatClampNeg))], (q_kW s c n))) 4 (fun _ _ => rfl) ?_
              refine q_RT_seg (g2 := (146, [(0, .ref 65), (1, .int a1), (2, .int a2)], [.int (((s.1 12) ((a2 &&& 15).toNatClampNeg)) + (16 * (s.2.1 10 2)))], (q_kW s c n))) 2 (fun _ _ => rfl) ?_
              exact q_RT_ret rfl rfl rfl
            | false =>
              refine q_RT_cF ?_
              cases h7 : decide (a1 = 44) with
              | true =>
                refine q_RT_cT ?_
                refine q_RT_st1 (g2 := (147, [(0, .ref 65), (1, .int a1), (2, .int a2)], [], (q_kW s c n))) rfl (by rw [of_decide_eq_true h7]; rfl) ?_
                refine q_RT_seg (g2 := (156, [(0, .ref 65), (1, .int a1), (2, .int a2)], [.int (s.2.1 8 4), .int 2, .int a2], (q_kW s c n))) 5 (fun _ _ => rfl) ?_
                refine q_RT_seg (g2 := (165, [(0, .ref 65), (1, .int a1), (2, .int a2)], [.int (s.2.1 8 2), .int (a2 + (2 * (s.2.1 8 4)))], (q_kW s c n))) 5 (fun _ _ => rfl) ?_
                refine q_RT_seg (g2 := (172, [(0, .ref 65), (1, .int a1), (2, .int a2)], [.int (s.2.1 8 1), .int (s.2.1 8 2), .int (a2 + (2 * (s.2.1 8 4)))], (q_kW s c n))) 3 (fun _ _ => rfl) ?_
                cases h8 : decide (s.2.1 8 2 < s.2.1 8 1) with
                | true =>
                  refine q_RT_cT ?_
                  refine q_RT_rsF (g2 := (175, [(0, .ref 65), (1, .int a1), (2, .int a2)], [.int (a2 + (2 * (s.2.1 8 4)))], (q_kW s c n))) rfl rfl (q_d_geT h8) ?_
                  refine q_RT_seg (g2 := (181, [(0, .ref 65), (1, .int a1), (2, .int a2)], [.int ((a2 + (2 * (s.2.1 8 4))) + 4)], (q_kW s c n))) 3 (fun _ _ => rfl) ?_
                  exact q_RT_ret rfl rfl rfl
                | false =>
                  refine q_RT_cF ?_
                  refine q_RT_rsT (g2 := (179, [(0, .ref 65), (1, .int a1), (2, .int a2)], [.int (a2 + (2 * (s.2.1 8 4)))], (q_kW s c n))) rfl rfl (q_d_geF h8) ?_
                  refine q_RT_seg (g2 := (181, [(0, .ref 65), (1, .int a1), (2, .int a2)], [.int ((a2 + (2 * (s.2.1 8 4))) + 0)], (q_kW s c n))) 2 (fun _ _ => rfl) ?_
                  exact q_RT_ret rfl rfl rfl
              | false =>
                refine q_RT_cF ?_
                refine q_RT_st1 (g2 := (182, [(0, .ref 65), (1, .int a1), (2, .int a2)], [], (q_kW s c n))) rfl (by unfold q_lsw; dsimp only; rw [Op.lookupswitch.offset_cons, if_neg (q_neJ h1 (n := 9)), Op.lookupswitch.offset_cons, if_neg (q_neJ h2 (n := 12)), Op.lookupswitch.offset_cons, if_neg (q_neJ h3 (n := 13)), Op.lookupswitch.offset_cons, if_neg (q_neJ h4 (n := 14)), Op.lookupswitch.offset_cons, if_neg (q_neJ h5 (n := 15)), Op.lookupswitch.offset_cons, if_neg (q_neJ h6 (n := 31)), Op.lookupswitch.offset_cons, if_neg (q_neJ h7 (n := 44))]; rfl) ?_
                refine q_RT_seg (g2 := (183, [(0, .ref 65), (1, .int a1), (2, .int a2)], [.int a2], (q_kW s c n))) 1 (fun _ _ => rfl) ?_
                exact q_RT_ret rfl rfl rfl
def dz_W90_65_73 (s : q_S) (v1 : Int32) (v3 : Int32) : Option (Int32) :=
  cond (decide (v3 &&& 2 = 2)) (cond (decide (v1 < 2048)) (some ((s.1 3) ((v1 &&& 4095).toNatClampNeg))) (cond (decide (v1 < 2560)) (cond (q_in (((512 * ((v3 >>> ((2 &&& 31) : Int32)) &&& 3)) + v1) - 2048) 2048) (some ((s.1 6) ((((512 * ((v3 >>> ((2 &&& 31) : Int32)) &&& 3)) + v1) - 2048).toNatClampNeg))) none) (some ((s.1 3) ((v1 &&& 4095).toNatClampNeg))))) (some ((s.1 3) ((v1 &&& 4095).toNatClampNeg)))
set_option maxHeartbeats 4000000 in
theorem dzt_W90_65_73 (c n : Nat) (s : q_S) (v1 : Int32) (v3 : Int32) : q_RP q_TB0 1 89 (73, [(0, .ref 65), (1, .int v1), (3, .int v3)], [], (q_kW s c n)) (q_oP (q_kW s c n)) (dz_W90_65_73 s v1 v3) := by
  unfold dz_W90_65_73
  refine q_RP_seg (g2 := (77, [(0, .ref 65), (1, .int v1), (3, .int v3)], [.int 2, .int (v3 &&& 2)], (q_kW s c n))) 4 (fun _ _ => rfl) ?_
  cases h10 : decide (v3 &&& 2 = 2) with
  | true =>
    refine q_RP_cT ?_
    refine q_RP_rsF (g2 := (80, [(0, .ref 65), (1, .int v1), (3, .int v3)], [], (q_kW s c n))) rfl rfl (q_d_neT h10) ?_
    refine q_RP_seg (g2 := (84, [(0, .ref 65), (1, .int v1), (3, .int v3)], [.int 2048, .int v1], (q_kW s c n))) 2 (fun _ _ => rfl) ?_
    cases h11 : decide (v1 < 2048) with
    | true =>
      refine q_RP_cT ?_
      refine q_RP_rsT (g2 := (115, [(0, .ref 65), (1, .int v1), (3, .int v3)], [], (q_kW s c n))) rfl rfl h11 ?_
      refine q_RP_seg (g2 := (127, [(0, .ref 65), (1, .int v1), (3, .int v3)], [.int (v1 &&& 4095), .ref 67], (q_kW s c n))) 6 (fun _ _ => rfl) ?_
      refine q_RP_rsT (g2 := (128, [(0, .ref 65), (1, .int v1), (3, .int v3)], [.int ((s.1 3) ((v1 &&& 4095).toNatClampNeg))], (q_kW s c n))) rfl rfl (q_in_bd (x := v1 &&& 4095) (n := 4096) (U := 4095) (L := 0) (q_and_lo v1 4095) (q_and_hi v1 4095 4095)) ?_
      exact q_RP_ret rfl rfl rfl
    | false =>
      refine q_RP_cF ?_
      refine q_RP_rsF (g2 := (87, [(0, .ref 65), (1, .int v1), (3, .int v3)], [], (q_kW s c n))) rfl rfl h11 ?_
      refine q_RP_seg (g2 := (91, [(0, .ref 65), (1, .int v1), (3, .int v3)], [.int 2560, .int v1], (q_kW s c n))) 2 (fun _ _ => rfl) ?_
      cases h12 : decide (v1 < 2560) with
      | true =>
        refine q_RP_cT ?_
        refine q_RP_rsF (g2 := (94, [(0, .ref 65), (1, .int v1), (3, .int v3)], [], (q_kW s c n))) rfl rfl (q_d_geT h12) ?_
        refine q_RP_seg (g2 := (113, [(0, .ref 65), (1, .int v1), (3, .int v3)], [.int (((512 * ((v3 >>> ((2 &&& 31) : Int32)) &&& 3)) + v1) - 2048), .ref 70], (q_kW s c n))) 13 (fun _ _ => rfl) ?_
        refine q_RP_as fun i13 => ?_
        refine q_RP_rsT (g2 := (114, [(0, .ref 65), (1, .int v1), (3, .int v3)], [.int ((s.1 6) ((((512 * ((v3 >>> ((2 &&& 31) : Int32)) &&& 3)) + v1) - 2048).toNatClampNeg))], (q_kW s c n))) rfl rfl i13 ?_
        exact q_RP_ret rfl rfl rfl
      | false =>
        refine q_RP_cF ?_
        refine q_RP_rsT (g2 := (115, [(0, .ref 65), (1, .int v1), (3, .int v3)], [], (q_kW s c n))) rfl rfl (q_d_geF h12) ?_
        refine q_RP_seg (g2 := (127, [(0, .ref 65), (1, .int v1), (3, .int v3)], [.int (v1 &&& 4095), .ref 67], (q_kW s c n))) 6 (fun _ _ => rfl) ?_
        refine q_RP_rsT (g2 := (128, [(0, .ref 65), (1, .int v1), (3, .int v3)], [.int ((s.1 3) ((v1 &&& 4095).toNatClampNeg))], (q_kW s c n))) rfl rfl (q_in_bd (x := v1 &&& 4095) (n := 4096) (U := 4095) (L := 0) (q_and_lo v1 4095) (q_and_hi v1 4095 4095)) ?_
        exact q_RP_ret rfl rfl rfl
  | false =>
    refine q_RP_cF ?_
    refine q_RP_rsT (g2 := (115, [(0, .ref 65), (1, .int v1), (3, .int v3)], [], (q_kW s c n))) rfl rfl (q_d_neF h10) ?_
    refine q_RP_seg (g2 := (127, [(0, .ref 65), (1, .int v1), (3, .int v3)], [.int (v1 &&& 4095), .ref 67], (q_kW s c n))) 6 (fun _ _ => rfl) ?_
    refine q_RP_rsT (g2 := (128, [(0, .ref 65), (1, .int v1), (3, .int v3)], [.int ((s.1 3) ((v1 &&& 4095).toNatClampNeg))], (q_kW s c n))) rfl rfl (q_in_bd (x := v1 &&& 4095) (n := 4096) (U := 4095) (L := 0) (q_and_lo v1 4095) (q_and_hi v1 4095 4095)) ?_
    exact q_RP_ret rfl rfl rfl
def dz_W90_65_31 (s : q_S) (v1 : Int32) : Option (Int32) :=
  cond (decide (((s.1 4) 0) &&& 1 = 1)) (cond (decide (v1 < 3072)) (dz_W90_65_73 s v1 ((s.1 4) 0)) (cond (decide (v1 < 3584)) (some ((s.1 5) ((v1 - 3072).toNatClampNeg))) (dz_W90_65_73 s v1 ((s.1 4) 0)))) (dz_W90_65_73 s v1 ((s.1 4) 0))
set_option maxHeartbeats 4000000 in
theorem dzt_W90_65_31 (c n : Nat) (s : q_S) (v1 : Int32) : q_RP q_TB0 1 89 (31, [(0, .ref 65), (1, .int v1)], [], (q_kW s c n)) (q_oP (q_kW s c n)) (dz_W90_65_31 s v1) := by
  unfold dz_W90_65_31
  refine q_RP_seg (g2 := (40, [(0, .ref 65), (1, .int v1)], [.int ((s.1 4) 0)], (q_kW s c n))) 5 (fun _ _ => rfl) ?_
  refine q_RP_seg (g2 := (45, [(3, .int ((s.1 4) 0)), (0, .ref 65), (1, .int v1)], [.int 1, .int (((s.1 4) 0) &&& 1)], (q_kW s c n))) 5 (fun _ _ => rfl) ?_
  cases h8 : decide (((s.1 4) 0) &&& 1 = 1) with
  | true =>
    refine q_RP_cT ?_
    refine q_RP_rsF (g2 := (48, [(3, .int ((s.1 4) 0)), (0, .ref 65), (1, .int v1)], [], (q_kW s c n))) rfl rfl (q_d_neT h8) ?_
    refine q_RP_seg (g2 := (52, [(3, .int ((s.1 4) 0)), (0, .ref 65), (1, .int v1)], [.int 3072, .int v1], (q_kW s c n))) 2 (fun _ _ => rfl) ?_
    cases h9 : decide (v1 < 3072) with
    | true =>
      refine q_RP_cT ?_
      refine q_RP_rsT (g2 := (73, [(3, .int ((s.1 4) 0)), (0, .ref 65), (1, .int v1)], [], (q_kW s c n))) rfl rfl h9 ?_
      exact q_RP_xt (q_xt_mk (q_mn1 1 rfl (q_mn1 2 rfl (q_mn1 0 rfl q_mn0))) rfl) (dzt_W90_65_73 c n s v1 ((s.1 4) 0))
    | false =>
      refine q_RP_cF ?_
      refine q_RP_rsF (g2 := (55, [(3, .int ((s.1 4) 0)), (0, .ref 65), (1, .int v1)], [], (q_kW s c n))) rfl rfl h9 ?_
      refine q_RP_seg (g2 := (59, [(3, .int ((s.1 4) 0)), (0, .ref 65), (1, .int v1)], [.int 3584, .int v1], (q_kW s c n))) 2 (fun _ _ => rfl) ?_
      cases h14 : decide (v1 < 3584) with
      | true =>
        refine q_RP_cT ?_
        refine q_RP_rsF (g2 := (62, [(3, .int ((s.1 4) 0)), (0, .ref 65), (1, .int v1)], [], (q_kW s c n))) rfl rfl (q_d_geT h14) ?_
        refine q_RP_seg (g2 := (71, [(3, .int ((s.1 4) 0)), (0, .ref 65), (1, .int v1)], [.int (v1 - 3072), .ref 69], (q_kW s c n))) 5 (fun _ _ => rfl) ?_
        refine q_RP_rsT (g2 := (72, [(3, .int ((s.1 4) 0)), (0, .ref 65), (1, .int v1)], [.int ((s.1 5) ((v1 - 3072).toNatClampNeg))], (q_kW s c n))) rfl rfl (q_in_bd (x := v1 - 3072) (n := 512) (U := 511) (L := 0) (q_sub_lo9 0 (q_lo1 h9) (q_hi1 h14)) (q_sub_hi9 511 (q_lo1 h9) (q_hi1 h14))) ?_
        exact q_RP_ret rfl rfl rfl
      | false =>
        refine q_RP_cF ?_
        refine q_RP_rsT (g2 := (73, [(3, .int ((s.1 4) 0)), (0, .ref 65), (1, .int v1)], [], (q_kW s c n))) rfl rfl (q_d_geF h14) ?_
        exact q_RP_xt (q_xt_mk (q_mn1 1 rfl (q_mn1 2 rfl (q_mn1 0 rfl q_mn0))) rfl) (dzt_W90_65_73 c n s v1 ((s.1 4) 0))
  | false =>
    refine q_RP_cF ?_
    refine q_RP_rsT (g2 := (73, [(3, .int ((s.1 4) 0)), (0, .ref 65), (1, .int v1)], [], (q_kW s c n))) rfl rfl (q_d_neF h8) ?_
    exact q_RP_xt (q_xt_mk (q_mn1 1 rfl (q_mn1 2 rfl (q_mn1 0 rfl q_mn0))) rfl) (dzt_W90_65_73 c n s v1 ((s.1 4) 0))
def dz_W90_65 (s : q_S) (a1 : Int32) : Option (Int32) :=
  cond (decide (a1 - 3840 < 0)) (dz_W90_65_31 s a1) (cond (decide (a1 - 3840 < 48)) (q_let (dz_W91_65 s (a1 - 3840) ((s.1 4) ((a1 - 3840).toNatClampNeg))) fun r1 => some r1) (dz_W90_65_31 s a1))
set_option maxHeartbeats 4000000 in
theorem dzt_W90_65 (s : q_S) (c n : Nat) (a1 : Int32) (x : Int32) (h : dz_W90_65 s a1 = some x) : q_Ca q_TB0 2 89 [.ref 65, .int a1] (q_kW s c n) ((q_oP (q_kW s c n)) x) := by
  refine q_CaP_of (φ := (q_oP (q_kW s c n))) (Nat.le_of_ble_eq_true rfl) ?_ h
  clear h
  unfold dz_W90_65
  refine q_RP_seg (g2 := (7, [(2, .int (a1 - 3840)), (0, .ref 65), (1, .int a1)], [.int (a1 - 3840)], (q_kW s c n))) 5 (fun _ _ => rfl) ?_
  cases h7 : decide (a1 - 3840 < 0) with
  | true =>
    refine q_RP_cT ?_
    refine q_RP_rsT (g2 := (31, [(2, .int (a1 - 3840)), (0, .ref 65), (1, .int a1)], [], (q_kW s c n))) rfl rfl h7 ?_
    exact q_RP_xt (q_xt_mk (q_mn1 1 rfl (q_mn1 2 rfl q_mn0)) rfl) (dzt_W90_65_31 c n s a1)
  | false =>
    refine q_RP_cF ?_
    refine q_RP_rsF (g2 := (10, [(2, .int (a1 - 3840)), (0, .ref 65), (1, .int a1)], [], (q_kW s c n))) rfl rfl h7 ?_
    refine q_RP_seg (g2 := (13, [(2, .int (a1 - 3840)), (0, .ref 65), (1, .int a1)], [.int 48, .int (a1 - 3840)], (q_kW s c n))) 2 (fun _ _ => rfl) ?_
    cases h15 : decide (a1 - 3840 < 48) with
    | true =>
      refine q_RP_cT ?_
      refine q_RP_rsF (g2 := (16, [(2, .int (a1 - 3840)), (0, .ref 65), (1, .int a1)], [], (q_kW s c n))) rfl rfl (q_d_geT h15) ?_
      refine q_RP_seg (g2 := (26, [(2, .int (a1 - 3840)), (0, .ref 65), (1, .int a1)], [.int (a1 - 3840), .ref 68, .int (a1 - 3840), .ref 65], (q_kW s c n))) 6 (fun _ _ => rfl) ?_
      refine q_RP_rsT (g2 := (27, [(2, .int (a1 - 3840)), (0, .ref 65), (1, .int a1)], [.int ((s.1 4) ((a1 - 3840).toNatClampNeg)), .int (a1 - 3840), .ref 65], (q_kW s c n))) rfl rfl (q_in_bd (x := a1 - 3840) (n := 48) (U := 47) (L := 0) (q_lo1 h7) (q_hi1 h15)) ?_
      refine q_RP_call (v := (some (.int (dz_W91_65 s (a1 - 3840) ((s.1 4) ((a1 - 3840).toNatClampNeg)))))) (h2 := (q_kW s c n)) rfl rfl ((dzt_W91_65 s c n (a1 - 3840) ((s.1 4) ((a1 - 3840).toNatClampNeg))).le (Nat.le_of_ble_eq_true rfl)) ?_
      generalize dz_W91_65 s (a1 - 3840) ((s.1 4) ((a1 - 3840).toNatClampNeg)) = r1
      refine q_RP_let ?_
      show q_RP _ _ _ (30, [(2, .int (a1 - 3840)), (0, .ref 65), (1, .int a1)], [.int r1], (q_kW s c n)) _ _
      exact q_RP_ret rfl rfl rfl
    | false =>
      refine q_RP_cF ?_
      refine q_RP_rsT (g2 := (31, [(2, .int (a1 - 3840)), (0, .ref 65), (1, .int a1)], [], (q_kW s c n))) rfl rfl (q_d_geF h15) ?_
      exact q_RP_xt (q_xt_mk (q_mn1 1 rfl (q_mn1 2 rfl q_mn0)) rfl) (dzt_W90_65_31 c n s a1)
def dz_W91_97 (s : q_S) (a1 : Int32) (a2 : Int32) : Int32 :=
  cond (decide (a1 = 9)) (((((s.2.2 33 8) - (s.2.2 33 8) / 960 * 960).toInt32) / 24)) (cond (decide (a1 = 12)) ((((s.1 39) 0) &&& 255)) (cond (decide (a1 = 13)) ((((s.1 39) 0) >>> ((8 &&& 31) : Int32))) (cond (decide (a1 = 14)) ((((s.1 39) 1) &&& 255)) (cond (decide (a1 = 15)) ((((s.1 39) 1) >>> ((8 &&& 31) : Int32))) (cond (decide (a1 = 31)) ((((s.1 44) ((a2 &&& 15).toNatClampNeg)) + (16 * (s.2.1 42 2)))) (cond (decide (a1 = 44)) (cond (decide (s.2.1 40 2 < s.2.1 40 1)) (((a2 + (2 * (s.2.1 40 4))) + 4)) (((a2 + (2 * (s.2.1 40 4))) + 0))) (a2)))))))
set_option maxHeartbeats 4000000 in
theorem dzt_W91_97 (s : q_S) (c n : Nat) (a1 : Int32) (a2 : Int32) : q_Ca q_TB0 1 90 [.ref 97, .int a1, .int a2] (q_kW s c n) ((q_oP (q_kW s c n)) (dz_W91_97 s a1 a2)) := by
  refine q_CaT_of (φ := (q_oP (q_kW s c n))) (Nat.le_of_ble_eq_true rfl) ?_
  unfold dz_W91_97
  refine q_RT_seg (g2 := (1, [(0, .ref 97), (1, .int a1), (2, .int a2)], [.int a1], (q_kW s c n))) 1 (fun _ _ => rfl) ?_
  cases h1 : decide (a1 = 9) with
  | true =>
    refine q_RT_cT ?_
    refine q_RT_st1 (g2 := (68, [(0, .ref 97), (1, .int a1), (2, .int a2)], [], (q_kW s c n))) rfl (by rw [of_decide_eq_true h1]; rfl) ?_
    refine q_RT_seg (g2 := (72, [(0, .ref 97), (1, .int a1), (2, .int a2)], [.long (s.2.2 33 8)], (q_kW s c n))) 2 (fun _ _ => rfl) ?_
    refine q_RT_seg (g2 := (80, [(0, .ref 97), (1, .int a1), (2, .int a2)], [.int ((((s.2.2 33 8) - (s.2.2 33 8) / 960 * 960).toInt32) / 24)], (q_kW s c n))) 5 (fun _ _ => rfl) ?_
    exact q_RT_ret rfl rfl rfl
  | false =>
    refine q_RT_cF ?_
    cases h2 : decide (a1 = 12) with
    | true =>
      refine q_RT_cT ?_
      refine q_RT_st1 (g2 := (81, [(0, .ref 97), (1, .int a1), (2, .int a2)], [], (q_kW s c n))) rfl (by rw [of_decide_eq_true h2]; rfl) ?_
      refine q_RT_seg (g2 := (87, [(0, .ref 97), (1, .int a1), (2, .int a2)], [.int ((s.1 39) 0)], (q_kW s c n))) 4 (fun _ _ => rfl) ?_
      refine q_RT_seg (g2 := (91, [(0, .ref 97), (1, .int a1), (2, .int a2)], [.int (((s.1 39) 0) &&& 255)], (q_kW s c n))) 2 (fun _ _ => rfl) ?_
      exact q_RT_ret rfl rfl rfl
    | false =>
      refine q_RT_cF ?_
      cases h3 : decide (a1 = 13) with
      | true =>
        refine q_RT_cT ?_
        refine q_RT_st1 (g2 := (92, [(0, .ref 97), (1, .int a1), (2, .int a2)], [], (q_kW s c n))) rfl (by rw [of_decide_eq_true h3]; rfl) ?_
        refine q_RT_seg (g2 := (98, [(0, .ref 97), (1, .int a1), (2, .int a2)], [.int ((s.1 39) 0)], (q_kW s c n))) 4 (fun _ _ => rfl) ?_
        refine q_RT_seg (g2 := (101, [(0, .ref 97), (1, .int a1), (2, .int a2)], [.int (((s.1 39) 0) >>> ((8 &&& 31) : Int32))], (q_kW s c n))) 2 (fun _ _ => rfl) ?_
        exact q_RT_ret rfl rfl rfl
      | false =>
        refine q_RT_cF ?_
        cases h4 : decide (a1 = 14) with
        | true =>
          refine q_RT_cT ?_
          refine q_RT_st1 (g2 := (102, [(0, .ref 97), (1, .int a1), (2, .int a2)], [], (q_kW s c n))) rfl (by rw [of_decide_eq_true h4]; rfl) ?_
          refine q_RT_seg (g2 := (108, [(0, .ref 97), (1, .int a1), (2, .int a2)], [.int ((s.1 39) 1)], (q_kW s c n))) 4 (fun _ _ => rfl) ?_
          refine q_RT_seg (g2 := (112, [(0, .ref 97), (1, .int a1), (2, .int a2)], [.int (((s.1 39) 1) &&& 255)], (q_kW s c n))) 2 (fun _ _ => rfl) ?_
          exact q_RT_ret rfl rfl rfl
        | false =>
          refine q_RT_cF ?_
          cases h5 : decide (a1 = 15) with
          | true =>
            refine q_RT_cT ?_
            refine q_RT_st1 (g2 := (113, [(0, .ref 97), (1, .int a1), (2, .int a2)], [], (q_kW s c n))) rfl (by rw [of_decide_eq_true h5]; rfl) ?_
            refine q_RT_seg (g2 := (119, [(0, .ref 97), (1, .int a1), (2, .int a2)], [.int ((s.1 39) 1)], (q_kW s c n))) 4 (fun _ _ => rfl) ?_
            refine q_RT_seg (g2 := (122, [(0, .ref 97), (1, .int a1), (2, .int a2)], [.int (((s.1 39) 1) >>> ((8 &&& 31) : Int32))], (q_kW s c n))) 2 (fun _ _ => rfl) ?_
            exact q_RT_ret rfl rfl rfl
          | false =>
            refine q_RT_cF ?_
            cases h6 : decide (a1 = 31) with
            | true =>
              refine q_RT_cT ?_
              refine q_RT_st1 (g2 := (123, [(0, .ref 97), (1, .int a1), (2, .int a2)], [], (q_kW s c n))) rfl (by rw [of_decide_eq_true h6]; rfl) ?_
              refine q_RT_seg (g2 := (134, [(0, .ref 97), (1, .int a1), (2, .int a2)], [.int (a2 &&& 15), .ref 108], (q_kW s c n))) 6 (fun _ _ => rfl) ?_
              refine q_RT_rsT (g2 := (135, [(0, .ref 97), (1, .int a1), (2, .int a2)], [.int ((s.1 44) ((a2 &&& 15).toNatClampNeg))], (q_kW s c n))) rfl rfl (q_in_bd (x := a2 &&& 15) (n := 16) (U := 15) (L := 0) (q_and_lo a2 15) (q_and_hi a2 15 15)) ?_
              refine q_RT_seg (g2 := (144, [(0, .ref 97), (1, .int a1), (2, .int a2)], [.int (s.2.1 42 2), .int 16, .int ((s.1 44) ((a2 &&& 15).toNatClampNeg))], (q_kW s c n))) 4 (fun _ _ => rfl) ?_
              refine q_RT_seg (g2 := (146, [(0, .ref 97), (1, .int a1), (2, .int a2)], [.int (((s.1 44) ((a2 &&& 15).toNatClampNeg)) + (16 * (s.2.1 42 2)))], (q_kW s c n))) 2 (fun _ _ => rfl) ?_
              exact q_RT_ret rfl rfl rfl
            | false =>
              refine q_RT_cF ?_
              cases h7 : decide (a1 = 44) with
              | true =>
                refine q_RT_cT ?_
                refine q_RT_st1 (g2 := (147, [(0, .ref 97), (1, .int a1), (2, .int a2)], [], (q_kW s c n))) rfl (by rw [of_decide_eq_true h7]; rfl) ?_
                refine q_RT_seg (g2 := (156, [(0, .ref 97), (1, .int a1), (2, .int a2)], [.int (s.2.1 40 4), .int 2, .int a2], (q_kW s c n))) 5 (fun _ _ => rfl) ?_
                refine q_RT_seg (g2 := (165, [(0, .ref 97), (1, .int a1), (2, .int a2)], [.int (s.2.1 40 2), .int (a2 + (2 * (s.2.1 40 4)))], (q_kW s c n))) 5 (fun _ _ => rfl) ?_
                refine q_RT_seg (g2 := (172, [(0, .ref 97), (1, .int a1), (2, .int a2)], [.int (s.2.1 40 1), .int (s.2.1 40 2), .int (a2 + (2 * (s.2.1 40 4)))], (q_kW s c n))) 3 (fun _ _ => rfl) ?_
                cases h8 : decide (s.2.1 40 2 < s.2.1 40 1) with
                | true =>
                  refine q_RT_cT ?_
                  refine q_RT_rsF (g2 := (175, [(0, .ref 97), (1, .int a1), (2, .int a2)], [.int (a2 + (2 * (s.2.1 40 4)))], (q_kW s c n))) rfl rfl (q_d_geT h8) ?_
                  refine q_RT_seg (g2 := (181, [(0, .ref 97), (1, .int a1), (2, .int a2)], [.int ((a2 + (2 * (s.2.1 40 4))) + 4)], (q_kW s c n))) 3 (fun _ _ => rfl) ?_
                  exact q_RT_ret rfl rfl rfl
                | false =>
                  refine q_RT_cF ?_
                  refine q_RT_rsT (g2 := (179, [(0, .ref 97), (1, .int a1), (2, .int a2)], [.int (a2 + (2 * (s.2.1 40 4)))], (q_kW s c n))) rfl rfl (q_d_geF h8) ?_
                  refine q_RT_seg (g2 := (181, [(0, .ref 97), (1, .int a1), (2, .int a2)], [.int ((a2 + (2 * (s.2.1 40 4))) + 0)], (q_kW s c n))) 2 (fun _ _ => rfl) ?_
                  exact q_RT_ret rfl rfl rfl
              | false =>
                refine q_RT_cF ?_
                refine q_RT_st1 (g2 := (182, [(0, .ref 97), (1, .int a1), (2, .int a2)], [], (q_kW s c n))) rfl (by unfold q_lsw; dsimp only; rw [Op.lookupswitch.offset_cons, if_neg (q_neJ h1 (n := 9)), Op.lookupswitch.offset_cons, if_neg (q_neJ h2 (n := 12)), Op.lookupswitch.offset_cons, if_neg (q_neJ h3 (n := 13)), Op.lookupswitch.offset_cons, if_neg (q_neJ h4 (n := 14)), Op.lookupswitch.offset_cons, if_neg (q_neJ h5 (n := 15)), Op.lookupswitch.offset_cons, if_neg (q_neJ h6 (n := 31)), Op.lookupswitch.offset_cons, if_neg (q_neJ h7 (n := 44))]; rfl) ?_
                refine q_RT_seg (g2 := (183, [(0, .ref 97), (1, .int a1), (2, .int a2)], [.int a2], (q_kW s c n))) 1 (fun _ _ => rfl) ?_
                exact q_RT_ret rfl rfl rfl
def dz_W90_97_73 (s : q_S) (v1 : Int32) (v3 : Int32) : Option (Int32) :=
  cond (decide (v3 &&& 2 = 2)) (cond (decide (v1 < 2048)) (some ((s.1 35) ((v1 &&& 4095).toNatClampNeg))) (cond (decide (v1 < 2560)) (cond (q_in (((512 * ((v3 >>> ((2 &&& 31) : Int32)) &&& 3)) + v1) - 2048) 2048) (some ((s.1 38) ((((512 * ((v3 >>> ((2 &&& 31) : Int32)) &&& 3)) + v1) - 2048).toNatClampNeg))) none) (some ((s.1 35) ((v1 &&& 4095).toNatClampNeg))))) (some ((s.1 35) ((v1 &&& 4095).toNatClampNeg)))
set_option maxHeartbeats 4000000 in
theorem dzt_W90_97_73 (c n : Nat) (s : q_S) (v1 : Int32) (v3 : Int32) : q_RP q_TB0 1 89 (73, [(0, .ref 97), (1, .int v1), (3, .int v3)], [], (q_kW s c n)) (q_oP (q_kW s c n)) (dz_W90_97_73 s v1 v3) := by
  unfold dz_W90_97_73
  refine q_RP_seg (g2 := (77, [(0, .ref 97), (1, .int v1), (3, .int v3)], [.int 2, .int (v3 &&& 2)], (q_kW s c n))) 4 (fun _ _ => rfl) ?_
  cases h10 : decide (v3 &&& 2 = 2) with
  | true =>
    refine q_RP_cT ?_
    refine q_RP_rsF (g2 := (80, [(0, .ref 97), (1, .int v1), (3, .int v3)], [], (q_kW s c n))) rfl rfl (q_d_neT h10) ?_
    refine q_RP_seg (g2 := (84, [(0, .ref 97), (1, .int v1), (3, .int v3)], [.int 2048, .int v1], (q_kW s c n))) 2 (fun _ _ => rfl) ?_
    cases h11 : decide (v1 < 2048) with
    | true =>
      refine q_RP_cT ?_
      refine q_RP_rsT (g2 := (115, [(0, .ref 97), (1, .int v1), (3, .int v3)], [], (q_kW s c n))) rfl rfl h11 ?_
      refine q_RP_seg (g2 := (127, [(0, .ref 97), (1, .int v1), (3, .int v3)], [.int (v1 &&& 4095), .ref 99], (q_kW s c n))) 6 (fun _ _ => rfl) ?_
      refine q_RP_rsT (g2 := (128, [(0, .ref 97), (1, .int v1), (3, .int v3)], [.int ((s.1 35) ((v1 &&& 4095).toNatClampNeg))], (q_kW s c n))) rfl rfl (q_in_bd (x := v1 &&& 4095) (n := 4096) (U := 4095) (L := 0) (q_and_lo v1 4095) (q_and_hi v1 4095 4095)) ?_
      exact q_RP_ret rfl rfl rfl
    | false =>
      refine q_RP_cF ?_
      refine q_RP_rsF (g2 := (87, [(0, .ref 97), (1, .int v1), (3, .int v3)], [], (q_kW s c n))) rfl rfl h11 ?_
      refine q_RP_seg (g2 := (91, [(0, .ref 97), (1, .int v1), (3, .int v3)], [.int 2560, .int v1], (q_kW s c n))) 2 (fun _ _ => rfl) ?_
      cases h12 : decide (v1 < 2560) with
      | true =>
        refine q_RP_cT ?_
        refine q_RP_rsF (g2 := (94, [(0, .ref 97), (1, .int v1), (3, .int v3)], [], (q_kW s c n))) rfl rfl (q_d_geT h12) ?_
        refine q_RP_seg (g2 := (113, [(0, .ref 97), (1, .int v1), (3, .int v3)], [.int (((512 * ((v3 >>> ((2 &&& 31) : Int32)) &&& 3)) + v1) - 2048), .ref 102], (q_kW s c n))) 13 (fun _ _ => rfl) ?_
        refine q_RP_as fun i13 => ?_
        refine q_RP_rsT (g2 := (114, [(0, .ref 97), (1, .int v1), (3, .int v3)], [.int ((s.1 38) ((((512 * ((v3 >>> ((2 &&& 31) : Int32)) &&& 3)) + v1) - 2048).toNatClampNeg))], (q_kW s c n))) rfl rfl i13 ?_
        exact q_RP_ret rfl rfl rfl
      | false =>
        refine q_RP_cF ?_
        refine q_RP_rsT (g2 := (115, [(0, .ref 97), (1, .int v1), (3, .int v3)], [], (q_kW s c n))) rfl rfl (q_d_geF h12) ?_
        refine q_RP_seg (g2 := (127, [(0, .ref 97), (1, .int v1), (3, .int v3)], [.int (v1 &&& 4095), .ref 99], (q_kW s c n))) 6 (fun _ _ => rfl) ?_
        refine q_RP_rsT (g2 := (128, [(0, .ref 97), (1, .int v1), (3, .int v3)], [.int ((s.1 35) ((v1 &&& 4095).toNatClampNeg))], (q_kW s c n))) rfl rfl (q_in_bd (x := v1 &&& 4095) (n := 4096) (U := 4095) (L := 0) (q_and_lo v1 4095) (q_and_hi v1 4095 4095)) ?_
        exact q_RP_ret rfl rfl rfl
  | false =>
    refine q_RP_cF ?_
    refine q_RP_rsT (g2 := (115, [(0, .ref 97), (1, .int v1), (3, .int v3)], [], (q_kW s c n))) rfl rfl (q_d_neF h10) ?_
    refine q_RP_seg (g2 := (127, [(0, .ref 97), (1, .int v1), (3, .int v3)], [.int (v1 &&& 4095), .ref 99], (q_kW s c n))) 6 (fun _ _ => rfl) ?_
    refine q_RP_rsT (g2 := (128, [(0, .ref 97), (1, .int v1), (3, .int v3)], [.int ((s.1 35) ((v1 &&& 4095).toNatClampNeg))], (q_kW s c n))) rfl rfl (q_in_bd (x := v1 &&& 4095) (n := 4096) (U := 4095) (L := 0) (q_and_lo v1 4095) (q_and_hi v1 4095 4095)) ?_
    exact q_RP_ret rfl rfl rfl
def dz_W90_97_31 (s : q_S) (v1 : Int32) : Option (Int32) :=
  cond (decide (((s.1 36) 0) &&& 1 = 1)) (cond (decide (v1 < 3072)) (dz_W90_97_73 s v1 ((s.1 36) 0)) (cond (decide (v1 < 3584)) (some ((s.1 37) ((v1 - 3072).toNatClampNeg))) (dz_W90_97_73 s v1 ((s.1 36) 0)))) (dz_W90_97_73 s v1 ((s.1 36) 0))
set_option maxHeartbeats 4000000 in
theorem dzt_W90_97_31 (c n : Nat) (s : q_S) (v1 : Int32) : q_RP q_TB0 1 89 (31, [(0, .ref 97), (1, .int v1)], [], (q_kW s c n)) (q_oP (q_kW s c n)) (dz_W90_97_31 s v1) := by
  unfold dz_W90_97_31
  refine q_RP_seg (g2 := (40, [(0, .ref 97), (1, .int v1)], [.int ((s.1 36) 0)], (q_kW s c n))) 5 (fun _ _ => rfl) ?_
  refine q_RP_seg (g2 := (45, [(3, .int ((s.1 36) 0)), (0, .ref 97), (1, .int v1)], [.int 1, .int (((s.1 36) 0) &&& 1)], (q_kW s c n))) 5 (fun _ _ => rfl) ?_
  cases h8 : decide (((s.1 36) 0) &&& 1 = 1) with
  | true =>
    refine q_RP_cT ?_
    refine q_RP_rsF (g2 := (48, [(3, .int ((s.1 36) 0)), (0, .ref 97), (1, .int v1)], [], (q_kW s c n))) rfl rfl (q_d_neT h8) ?_
    refine q_RP_seg (g2 := (52, [(3, .int ((s.1 36) 0)), (0, .ref 97), (1, .int v1)], [.int 3072, .int v1], (q_kW s c n))) 2 (fun _ _ => rfl) ?_
    cases h9 : decide (v1 < 3072) with
    | true =>
      refine q_RP_cT ?_
      refine q_RP_rsT (g2 := (73, [(3, .int ((s.1 36) 0)), (0, .ref 97), (1, .int v1)], [], (q_kW s c n))) rfl rfl h9 ?_
      exact q_RP_xt (q_xt_mk (q_mn1 1 rfl (q_mn1 2 rfl (q_mn1 0 rfl q_mn0))) rfl) (dzt_W90_97_73 c n s v1 ((s.1 36) 0))
    | false =>
      refine q_RP_cF ?_
      refine q_RP_rsF (g2 := (55, [(3, .int ((s.1 36) 0)), (0, .ref 97), (1, .int v1)], [], (q_kW s c n))) rfl rfl h9 ?_
      refine q_RP_seg (g2 := (59, [(3, .int ((s.1 36) 0)), (0, .ref 97), (1, .int v1)], [.int 3584, .int v1], (q_kW s c n))) 2 (fun _ _ => rfl) ?_
      cases h14 : decide (v1 < 3584) with
      | true =>
        refine q_RP_cT ?_
        refine q_RP_rsF (g2 := (62, [(3, .int ((s.1 36) 0)), (0, .ref 97), (1, .int v1)], [], (q_kW s c n))) rfl rfl (q_d_geT h14) ?_
        refine q_RP_seg (g2 := (71, [(3, .int ((s.1 36) 0)), (0, .ref 97), (1, .int v1)], [.int (v1 - 3072), .ref 101], (q_kW s c n))) 5 (fun _ _ => rfl) ?_
        refine q_RP_rsT (g2 := (72, [(3, .int ((s.1 36) 0)), (0, .ref 97), (1, .int v1)], [.int ((s.1 37) ((v1 - 3072).toNatClampNeg))], (q_kW s c n))) rfl rfl (q_in_bd (x := v1 - 3072) (n := 512) (U := 511) (L := 0) (q_sub_lo9 0 (q_lo1 h9) (q_hi1 h14)) (q_sub_hi9 511 (q_lo1 h9) (q_hi1 h14))) ?_
        exact q_RP_ret rfl rfl rfl
      | false =>
        refine q_RP_cF ?_
        refine q_RP_rsT (g2 := (73, [(3, .int ((s.1 36) 0)), (0, .ref 97), (1, .int v1)], [], (q_kW s c n))) rfl rfl (q_d_geF h14) ?_
        exact q_RP_xt (q_xt_mk (q_mn1 1 rfl (q_mn1 2 rfl (q_mn1 0 rfl q_mn0))) rfl) (dzt_W90_97_73 c n s v1 ((s.1 36) 0))
  | false =>
    refine q_RP_cF ?_
    refine q_RP_rsT (g2 := (73, [(3, .int ((s.1 36) 0)), (0, .ref 97), (1, .int v1)], [], (q_kW s c n))) rfl rfl (q_d_neF h8) ?_
    exact q_RP_xt (q_xt_mk (q_mn1 1 rfl (q_mn1 2 rfl (q_mn1 0 rfl q_mn0))) rfl) (dzt_W90_97_73 c n s v1 ((s.1 36) 0))
def dz_W90_97 (s : q_S) (a1 : Int32) : Option (Int32) :=
  cond (decide (a1 - 3840 < 0)) (dz_W90_97_31 s a1) (cond (decide (a1 - 3840 < 48)) (q_let (dz_W91_97 s (a1 - 3840) ((s.1 36) ((a1 - 3840).toNatClampNeg))) fun r1 => some r1) (dz_W90_97_31 s a1))
set_option maxHeartbeats 4000000 in
theorem dzt_W90_97 (s : q_S) (c n : Nat) (a1 : Int32) (x : Int32) (h : dz_W90_97 s a1 = some x) : q_Ca q_TB0 2 89 [.ref 97, .int a1] (q_kW s c n) ((q_oP (q_kW s c n)) x) := by
  refine q_CaP_of (φ := (q_oP (q_kW s c n))) (Nat.le_of_ble_eq_true rfl) ?_ h
  clear h
  unfold dz_W90_97
  refine q_RP_seg (g2 := (7, [(2, .int (a1 - 3840)), (0, .ref 97), (1, .int a1)], [.int (a1 - 3840)], (q_kW s c n))) 5 (fun _ _ => rfl) ?_
  cases h7 : decide (a1 - 3840 < 0) with
  | true =>
    refine q_RP_cT ?_
    refine q_RP_rsT (g2 := (31, [(2, .int (a1 - 3840)), (0, .ref 97), (1, .int a1)], [], (q_kW s c n))) rfl rfl h7 ?_
    exact q_RP_xt (q_xt_mk (q_mn1 1 rfl (q_mn1 2 rfl q_mn0)) rfl) (dzt_W90_97_31 c n s a1)
  | false =>
    refine q_RP_cF ?_
    refine q_RP_rsF (g2 := (10, [(2, .int (a1 - 3840)), (0, .ref 97), (1, .int a1)], [], (q_kW s c n))) rfl rfl h7 ?_
    refine q_RP_seg (g2 := (13, [(2, .int (a1 - 3840)), (0, .ref 97), (1, .int a1)], [.int 48, .int (a1 - 3840)], (q_kW s c n))) 2 (fun _ _ => rfl) ?_
    cases h15 : decide (a1 - 3840 < 48) with
    | true =>
      refine q_RP_cT ?_
      refine q_RP_rsF (g2 := (16, [(2, .int (a1 - 3840)), (0, .ref 97), (1, .int a1)], [], (q_kW s c n))) rfl rfl (q_d_geT h15) ?_
      refine q_RP_seg (g2 := (26, [(2, .int (a1 - 3840)), (0, .ref 97), (1, .int a1)], [.int (a1 - 3840), .ref 100, .int (a1 - 3840), .ref 97], (q_kW s c n))) 6 (fun _ _ => rfl) ?_
      refine q_RP_rsT (g2 := (27, [(2, .int (a1 - 3840)), (0, .ref 97), (1, .int a1)], [.int ((s.1 36) ((a1 - 3840).toNatClampNeg)), .int (a1 - 3840), .ref 97], (q_kW s c n))) rfl rfl (q_in_bd (x := a1 - 3840) (n := 48) (U := 47) (L := 0) (q_lo1 h7) (q_hi1 h15)) ?_
      refine q_RP_call (v := (some (.int (dz_W91_97 s (a1 - 3840) ((s.1 36) ((a1 - 3840).toNatClampNeg)))))) (h2 := (q_kW s c n)) rfl rfl ((dzt_W91_97 s c n (a1 - 3840) ((s.1 36) ((a1 - 3840).toNatClampNeg))).le (Nat.le_of_ble_eq_true rfl)) ?_
      generalize dz_W91_97 s (a1 - 3840) ((s.1 36) ((a1 - 3840).toNatClampNeg)) = r1
      refine q_RP_let ?_
      show q_RP _ _ _ (30, [(2, .int (a1 - 3840)), (0, .ref 97), (1, .int a1)], [.int r1], (q_kW s c n)) _ _
      exact q_RP_ret rfl rfl rfl
    | false =>
      refine q_RP_cF ?_
      refine q_RP_rsT (g2 := (31, [(2, .int (a1 - 3840)), (0, .ref 97), (1, .int a1)], [], (q_kW s c n))) rfl rfl (q_d_geF h15) ?_
      exact q_RP_xt (q_xt_mk (q_mn1 1 rfl (q_mn1 2 rfl q_mn0)) rfl) (dzt_W90_97_31 c n s a1)
def dz_W132_87_119 (s : q_S) : Bool :=
  cond (decide (s.2.1 23 0 = s.2.1 55 0)) (cond (decide (s.2.1 23 1 = s.2.1 55 1)) (cond (decide (s.2.1 23 2 = s.2.1 55 2)) (cond (decide (s.2.1 23 3 = s.2.1 55 3)) (cond (decide (s.2.1 23 4 = s.2.1 55 4)) (cond (decide (s.2.1 23 5 = s.2.1 55 5)) (true) (false)) (false)) (false)) (false)) (false)) (false)
set_option maxHeartbeats 4000000 in
theorem dzt_W132_87_119 (s : q_S) (c n : Nat) : q_Ca q_TB0 1 131 [.ref 87, .ref 119] (q_kW s c n) ((q_oB (q_kW s c n)) (dz_W132_87_119 s)) := by
  refine q_CaT_of (φ := (q_oB (q_kW s c n))) (Nat.le_of_ble_eq_true rfl) ?_
  unfold dz_W132_87_119
  refine q_RT_seg (g2 := (4, [(0, .ref 87), (1, .ref 119)], [.int (s.2.1 23 0)], (q_kW s c n))) 2 (fun _ _ => rfl) ?_
  refine q_RT_seg (g2 := (8, [(0, .ref 87), (1, .ref 119)], [.int (s.2.1 55 0), .int (s.2.1 23 0)], (q_kW s c n))) 2 (fun _ _ => rfl) ?_
  cases h1 : decide (s.2.1 23 0 = s.2.1 55 0) with
  | true =>
    refine q_RT_cT ?_
    refine q_RT_rsF (g2 := (11, [(0, .ref 87), (1, .ref 119)], [], (q_kW s c n))) rfl rfl (q_d_neT h1) ?_
    refine q_RT_seg (g2 := (15, [(0, .ref 87), (1, .ref 119)], [.int (s.2.1 23 1)], (q_kW s c n))) 2 (fun _ _ => rfl) ?_
    refine q_RT_seg (g2 := (19, [(0, .ref 87), (1, .ref 119)], [.int (s.2.1 55 1), .int (s.2.1 23 1)], (q_kW s c n))) 2 (fun _ _ => rfl) ?_
    cases h2 : decide (s.2.1 23 1 = s.2.1 55 1) with
    | true =>
      refine q_RT_cT ?_
      refine q_RT_rsF (g2 := (22, [(0, .ref 87), (1, .ref 119)], [], (q_kW s c n))) rfl rfl (q_d_neT h2) ?_
      refine q_RT_seg (g2 := (26, [(0, .ref 87), (1, .ref 119)], [.int (s.2.1 23 2)], (q_kW s c n))) 2 (fun _ _ => rfl) ?_
      refine q_RT_seg (g2 := (30, [(0, .ref 87), (1, .ref 119)], [.int (s.2.1 55 2), .int (s.2.1 23 2)], (q_kW s c n))) 2 (fun _ _ => rfl) ?_
      cases h3 : decide (s.2.1 23 2 = s.2.1 55 2) with
      | true =>
        refine q_RT_cT ?_
        refine q_RT_rsF (g2 := (33, [(0, .ref 87), (1, .ref 119)], [], (q_kW s c n))) rfl rfl (q_d_neT h3) ?_
        refine q_RT_seg (g2 := (37, [(0, .ref 87), (1, .ref 119)], [.int (s.2.1 23 3)], (q_kW s c n))) 2 (fun _ _ => rfl) ?_
        refine q_RT_seg (g2 := (41, [(0, .ref 87), (1, .ref 119)], [.int (s.2.1 55 3), .int (s.2.1 23 3)], (q_kW s c n))) 2 (fun _ _ => rfl) ?_
        cases h4 : decide (s.2.1 23 3 = s.2.1 55 3) with
        | true =>
          refine q_RT_cT ?_
          refine q_RT_rsF (g2 := (44, [(0, .ref 87), (1, .ref 119)], [], (q_kW s c n))) rfl rfl (q_d_neT h4) ?_
          refine q_RT_seg (g2 := (48, [(0, .ref 87), (1, .ref 119)], [.int (s.2.1 23 4)], (q_kW s c n))) 2 (fun _ _ => rfl) ?_
          refine q_RT_seg (g2 := (52, [(0, .ref 87), (1, .ref 119)], [.int (s.2.1 55 4), .int (s.2.1 23 4)], (q_kW s c n))) 2 (fun _ _ => rfl) ?_
          cases h5 : decide (s.2.1 23 4 = s.2.1 55 4) with
          | true =>
            refine q_RT_cT ?_
            refine q_RT_rsF (g2 := (55, [(0, .ref 87), (1, .ref 119)], [], (q_kW s c n))) rfl rfl (q_d_neT h5) ?_
            refine q_RT_seg (g2 := (59, [(0, .ref 87), (1, .ref 119)], [.int (s.2.1 23 5)], (q_kW s c n))) 2 (fun _ _ => rfl) ?_
            refine q_RT_seg (g2 := (63, [(0, .ref 87), (1, .ref 119)], [.int (s.2.1 55 5), .int (s.2.1 23 5)], (q_kW s c n))) 2 (fun _ _ => rfl) ?_
            cases h6 : decide (s.2.1 23 5 = s.2.1 55 5) with
            | true =>
              refine q_RT_cT ?_
              refine q_RT_rsF (g2 := (66, [(0, .ref 87), (1, .ref 119)], [], (q_kW s c n))) rfl rfl (q_d_neT h6) ?_
              refine q_RT_seg (g2 := (71, [(0, .ref 87), (1, .ref 119)], [.int 1], (q_kW s c n))) 2 (fun _ _ => rfl) ?_
              exact q_RT_ret rfl rfl rfl
            | false =>
              refine q_RT_cF ?_
              refine q_RT_rsT (g2 := (70, [(0, .ref 87), (1, .ref 119)], [], (q_kW s c n))) rfl rfl (q_d_neF h6) ?_
              refine q_RT_seg (g2 := (71, [(0, .ref 87), (1, .ref 119)], [.int 0], (q_kW s c n))) 1 (fun _ _ => rfl) ?_
              exact q_RT_ret rfl rfl rfl
          | false =>
            refine q_RT_cF ?_
            refine q_RT_rsT (g2 := (70, [(0, .ref 87), (1, .ref 119)], [], (q_kW s c n))) rfl rfl (q_d_neF h5) ?_
            refine q_RT_seg (g2 := (71, [(0, .ref 87), (1, .ref 119)], [.int 0], (q_kW s c n))) 1 (fun _ _ => rfl) ?_
            exact q_RT_ret rfl rfl rfl
        | false =>
          refine q_RT_cF ?_
          refine q_RT_rsT (g2 := (70, [(0, .ref 87), (1, .ref 119)], [], (q_kW s c n))) rfl rfl (q_d_neF h4) ?_
          refine q_RT_seg (g2 := (71, [(0, .ref 87), (1, .ref 119)], [.int 0], (q_kW s c n))) 1 (fun _ _ => rfl) ?_
          exact q_RT_ret rfl rfl rfl
      | false =>
        refine q_RT_cF ?_
        refine q_RT_rsT (g2 := (70, [(0, .ref 87), (1, .ref 119)], [], (q_kW s c n))) rfl rfl (q_d_neF h3) ?_
        refine q_RT_seg (g2 := (71, [(0, .ref 87), (1, .ref 119)], [.int 0], (q_kW s c n))) 1 (fun _ _ => rfl) ?_
        exact q_RT_ret rfl rfl rfl
    | false =>
      refine q_RT_cF ?_
      refine q_RT_rsT (g2 := (70, [(0, .ref 87), (1, .ref 119)], [], (q_kW s c n))) rfl rfl (q_d_neF h2) ?_
      refine q_RT_seg (g2 := (71, [(0, .ref 87), (1, .ref 119)], [.int 0], (q_kW s c n))) 1 (fun _ _ => rfl) ?_
      exact q_RT_ret rfl rfl rfl
  | false =>
    refine q_RT_cF ?_
    refine q_RT_rsT (g2 := (70, [(0, .ref 87), (1, .ref 119)], [], (q_kW s c n))) rfl rfl (q_d_neF h1) ?_
    refine q_RT_seg (g2 := (71, [(0, .ref 87), (1, .ref 119)], [.int 0], (q_kW s c n))) 1 (fun _ _ => rfl) ?_
    exact q_RT_ret rfl rfl rfl
def dz_W167_89_121_2 (m : Nat) : q_S → Int32 → Option (Bool) := Nat.rec (motive := fun _ => q_S → Int32 → Option (Bool)) (fun _ _ => none) (fun _ k2 s v2 =>
  cond (decide (v2 < 40)) (cond (q_in v2 40) (cond (decide ((s.1 30) (v2.toNatClampNeg) = (s.1 62) (v2.toNatClampNeg))) (k2 s (v2 + 1)) (some false)) none) (some true)) m
theorem dzs_W167_89_121_2 (m : Nat) (s : q_S) (v2 : Int32) : dz_W167_89_121_2 (m + 1) s v2 = (fun k2 : q_S → Int32 → Option (Bool) =>
  cond (decide (v2 < 40)) (cond (q_in v2 40) (cond (decide ((s.1 30) (v2.toNatClampNeg) = (s.1 62) (v2.toNatClampNeg))) (k2 s (v2 + 1)) (some false)) none) (some true)) (dz_W167_89_121_2 m) := rfl
set_option maxHeartbeats 4000000 in
theorem dzt_W167_89_121_2 (c n : Nat) (s : q_S) : ∀ (m : Nat) (v2 : Int32), q_RP q_TB0 0 166 (2, [(0, .ref 89), (1, .ref 121), (2, .int v2)], [], (q_kW s c n)) (q_oB (q_kW s c n)) (dz_W167_89_121_2 m s v2) := by
  intro m
  induction m with
  | zero => intro v2; exact q_RP_no
  | succ m ih =>
    intro v2
    have hk2 := ih
    clear ih
    rw [dzs_W167_89_121_2]
    generalize dz_W167_89_121_2 m = k2 at hk2 ⊢
    dsimp only
    refine q_RP_seg (g2 := (5, [(0, .ref 89), (1, .ref 121), (2, .int v2)], [.int 40, .int v2], (q_kW s c n))) 2 (fun _ _ => rfl) ?_
    cases h1 : decide (v2 < 40) with
    | true =>
      refine q_RP_cT ?_
      refine q_RP_rsF (g2 := (8, [(0, .ref 89), (1, .ref 121), (2, .int v2)], [], (q_kW s c n))) rfl rfl (q_d_geT h1) ?_
      refine q_RP_seg (g2 := (13, [(0, .ref 89), (1, .ref 121), (2, .int v2)], [.int v2, .ref 94], (q_kW s c n))) 3 (fun _ _ => rfl) ?_
      refine q_RP_as fun i2 => ?_
      refine q_RP_rsT (g2 := (14, [(0, .ref 89), (1, .ref 121), (2, .int v2)], [.int ((s.1 30) (v2.toNatClampNeg))], (q_kW s c n))) rfl rfl i2 ?_
      refine q_RP_seg (g2 := (19, [(0, .ref 89), (1, .ref 121), (2, .int v2)], [.int v2, .ref 126, .int ((s.1 30) (v2.toNatClampNeg))], (q_kW s c n))) 3 (fun _ _ => rfl) ?_
      refine q_RP_rsT (g2 := (20, [(0, .ref 89), (1, .ref 121), (2, .int v2)], [.int ((s.1 62) (v2.toNatClampNeg)), .int ((s.1 30) (v2.toNatClampNeg))], (q_kW s c n))) rfl rfl i2 ?_
      cases h3 : decide ((s.1 30) (v2.toNatClampNeg) = (s.1 62) (v2.toNatClampNeg)) with
      | true =>
        refine q_RP_cT ?_
        refine q_RP_rsT (g2 := (25, [(0, .ref 89), (1, .ref 121), (2, .int v2)], [], (q_kW s c n))) rfl rfl h3 ?_
        refine q_RP_seg (g2 := (2, [(2, .int (v2 + 1)), (0, .ref 89), (1, .ref 121)], [], (q_kW s c n))) 2 (fun _ _ => rfl) ?_
        exact q_RP_xt (q_xt_mk (q_mn1 1 rfl (q_mn1 2 rfl (q_mn1 0 rfl q_mn0))) rfl) (hk2 (v2 + 1))
      | false =>
        refine q_RP_cF ?_
        refine q_RP_rsF (g2 := (23, [(0, .ref 89), (1, .ref 121), (2, .int v2)], [], (q_kW s c n))) rfl rfl h3 ?_
        refine q_RP_seg (g2 := (24, [(0, .ref 89), (1, .ref 121), (2, .int v2)], [.int 0], (q_kW s c n))) 1 (fun _ _ => rfl) ?_
        exact q_RP_ret rfl rfl rfl
    | false =>
      refine q_RP_cF ?_
      refine q_RP_rsT (g2 := (31, [(0, .ref 89), (1, .ref 121), (2, .int v2)], [], (q_kW s c n))) rfl rfl (q_d_geF h1) ?_
      refine q_RP_seg (g2 := (32, [(0, .ref 89), (1, .ref 121), (2, .int v2)], [.int 1], (q_kW s c n))) 1 (fun _ _ => rfl) ?_
      exact q_RP_ret rfl rfl rfl
def dz_W167_89_121 (s : q_S) : Option (Bool) :=
  dz_W167_89_121_2 5000 s 0
set_option maxHeartbeats 4000000 in
theorem dzt_W167_89_121 (s : q_S) (c n : Nat) (x : Bool) (h : dz_W167_89_121 s = some x) : q_Ca q_TB0 1 166 [.ref 89, .ref 121] (q_kW s c n) ((q_oB (q_kW s c n)) x) := by
  refine q_CaP_of (φ := (q_oB (q_kW s c n))) (Nat.le_of_ble_eq_true rfl) ?_ h
  clear h
  unfold dz_W167_89_121
  refine q_RP_seg (g2 := (2, [(2, .int 0), (0, .ref 89), (1, .ref 121)], [], (q_kW s c n))) 2 (fun _ _ => rfl) ?_
  exact q_RP_xt (q_xt_mk (q_mn1 1 rfl (q_mn1 2 rfl (q_mn1 0 rfl q_mn0))) rfl) (dzt_W167_89_121_2 c n s 5000 0)
def dz_W78_64_96_45 (m : Nat) : q_S → Int32 → Option (Bool) := Nat.rec (motive := fun _ => q_S → Int32 → Option (Bool)) (fun _ _ => none) (fun _ k45 s v2 =>
  cond (decide (v2 < 1024)) (cond (q_in v2 1024) (cond (decide ((s.1 31) (v2.toNatClampNeg) = (s.1 63) (v2.toNatClampNeg))) (k45 s (v2 + 1)) (some false)) none) ((dz_W111_66_98 s).bind fun r3 => cond (decide (r3 = 0)) (q_let (dz_W132_87_119 s) fun r4 => cond r4 ((dz_W167_89_121 s).bind fun r5 => cond r5 (some true) (some false)) (some false)) (some false))) m
theorem dzs_W78_64_96_45 (m : Nat) (s : q_S) (v2 : Int32) : dz_W78_64_96_45 (m + 1) s v2 = (fun k45 : q_S → Int32 → Option (Bool) =>
  cond (decide (v2 < 1024)) (cond (q_in v2 1024) (cond (decide ((s.1 31) (v2.toNatClampNeg) = (s.1 63) (v2.toNatClampNeg))) (k45 s (v2 + 1)) (some false)) none) ((dz_W111_66_98 s).bind fun r3 => cond (decide (r3 = 0)) (q_let (dz_W132_87_119 s) fun r4 => cond r4 ((dz_W167_89_121 s).bind fun r5 => cond r5 (some true) (some false)) (some false)) (some false))) (dz_W78_64_96_45 m) := rfl
set_option maxHeartbeats 4000000 in
theorem dzt_W78_64_96_45 (c n : Nat) (s : q_S) : ∀ (m : Nat) (v2 : Int32), q_RP q_TB0 2 77 (45, [(0, .ref 64), (1, .ref 96), (2, .int v2)], [], (q_kW s c n)) (q_oB (q_kW s c n)) (dz_W78_64_96_45 m s v2) := by
  intro m
  induction m with
  | zero => intro v2; exact q_RP_no
  | succ m ih =>
    intro v2
    have hk45 := ih
    clear ih
    rw [dzs_W78_64_96_45]
    generalize dz_W78_64_96_45 m = k45 at hk45 ⊢
    dsimp only
    refine q_RP_seg (g2 := (49, [(0, .ref 64), (1, .ref 96), (2, .int v2)], [.int 1024, .int v2], (q_kW s c n))) 2 (fun _ _ => rfl) ?_
    cases h3 : decide (v2 < 1024) with
    | true =>
      refine q_RP_cT ?_
      refine q_RP_rsF (g2 := (52, [(0, .ref 64), (1, .ref 96), (2, .int v2)], [], (q_kW s c n))) rfl rfl (q_d_geT h3) ?_
      refine q_RP_seg (g2 := (57, [(0, .ref 64), (1, .ref 96), (2, .int v2)], [.int v2, .ref 95], (q_kW s c n))) 3 (fun _ _ => rfl) ?_
      refine q_RP_as fun i4 => ?_
      refine q_RP_rsT (g2 := (58, [(0, .ref 64), (1, .ref 96), (2, .int v2)], [.int ((s.1 31) (v2.toNatClampNeg))], (q_kW s c n))) rfl rfl i4 ?_
      refine q_RP_seg (g2 := (63, [(0, .ref 64), (1, .ref 96), (2, .int v2)], [.int v2, .ref 127, .int ((s.1 31) (v2.toNatClampNeg))], (q_kW s c n))) 3 (fun _ _ => rfl) ?_
      refine q_RP_rsT (g2 := (64, [(0, .ref 64), (1, .ref 96), (2, .int v2)], [.int ((s.1 63) (v2.toNatClampNeg)), .int ((s.1 31) (v2.toNatClampNeg))], (q_kW s c n))) rfl rfl i4 ?_
      cases h5 : decide ((s.1 31) (v2.toNatClampNeg) = (s.1 63) (v2.toNatClampNeg)) with
      | true =>
        refine q_RP_cT ?_
        refine q_RP_rsT (g2 := (69, [(0, .ref 64), (1, .ref 96), (2, .int v2)], [], (q_kW s c n))) rfl rfl h5 ?_
        refine q_RP_seg (g2 := (45, [(2, .int (v2 + 1)), (0, .ref 64), (1, .ref 96)], [], (q_kW s c n))) 2 (fun _ _ => rfl) ?_
        exact q_RP_xt (q_xt_mk (q_mn1 1 rfl (q_mn1 2 rfl (q_mn1 0 rfl q_mn0))) rfl) (hk45 (v2 + 1))
      | false =>
        refine q_RP_cF ?_
        refine q_RP_rsF (g2 := (67, [(0, .ref 64), (1, .ref 96), (2, .int v2)], [], (q_kW s c n))) rfl rfl h5 ?_
        refine q_RP_seg (g2 := (68, [(0, .ref 64), (1, .ref 96), (2, .int v2)], [.int 0], (q_kW s c n))) 1 (fun _ _ => rfl) ?_
        exact q_RP_ret rfl rfl rfl
    | false =>
      refine q_RP_cF ?_
      refine q_RP_rsT (g2 := (75, [(0, .ref 64), (1, .ref 96), (2, .int v2)], [], (q_kW s c n))) rfl rfl (q_d_geF h3) ?_
      refine q_RP_seg (g2 := (89, [(0, .ref 64), (1, .ref 96), (2, .int v2)], [.ref 98, .ref 66], (q_kW s c n))) 6 (fun _ _ => rfl) ?_
      refine q_RP_bd fun r3 er3 => ?_
      refine q_RP_call (v := (some (.int r3))) (h2 := (q_kW s c n)) rfl rfl ((dzt_W111_66_98 s c n r3 er3).le (Nat.le_of_ble_eq_true rfl)) ?_
      show q_RP _ _ _ (92, [(0, .ref 64), (1, .ref 96), (2, .int v2)], [.int r3], (q_kW s c n)) _ _
      cases h6 : decide (r3 = 0) with
      | true =>
        refine q_RP_cT ?_
        refine q_RP_rsF (g2 := (95, [(0, .ref 64), (1, .ref 96), (2, .int v2)], [], (q_kW s c n))) rfl rfl (q_d_neT h6) ?_
        refine q_RP_seg (g2 := (103, [(0, .ref 64), (1, .ref 96), (2, .int v2)], [.ref 119, .ref 87], (q_kW s c n))) 4 (fun _ _ => rfl) ?_
        refine q_RP_call (v := (some (.int (q_b (dz_W132_87_119 s))))) (h2 := (q_kW s c n)) rfl rfl ((dzt_W132_87_119 s c n).le (Nat.le_of_ble_eq_true rfl)) ?_
        generalize dz_W132_87_119 s = r4
        refine q_RP_let ?_
        show q_RP _ _ _ (106, [(0, .ref 64), (1, .ref 96), (2, .int v2)], [.int (q_b r4)], (q_kW s c n)) _ _
        cases h7 : r4 with
        | true =>
          refine q_RP_cT ?_
          show q_RP _ _ _ (106, [(0, .ref 64), (1, .ref 96), (2, .int v2)], [.int 1], (q_kW s c n)) _ _
          refine q_RP_seg (g2 := (117, [(0, .ref 64), (1, .ref 96), (2, .int v2)], [.ref 121, .ref 89], (q_kW s c n))) 5 (fun _ _ => rfl) ?_
          refine q_RP_bd fun r5 er5 => ?_
          refine q_RP_call (v := (some (.int (q_b r5)))) (h2 := (q_kW s c n)) rfl rfl ((dzt_W167_89_121 s c n r5 er5).le (Nat.le_of_ble_eq_true rfl)) ?_
          show q_RP _ _ _ (120, [(0, .ref 64), (1, .ref 96), (2, .int v2)], [.int (q_b r5)], (q_kW s c n)) _ _
          cases h8 : r5 with
          | true =>
            refine q_RP_cT ?_
            show q_RP _ _ _ (120, [(0, .ref 64), (1, .ref 96), (2, .int v2)], [.int 1], (q_kW s c n)) _ _
            refine q_RP_seg (g2 := (128, [(0, .ref 64), (1, .ref 96), (2, .int v2)], [.int 1], (q_kW s c n))) 3 (fun _ _ => rfl) ?_
            exact q_RP_ret rfl rfl rfl
          | false =>
            refine q_RP_cF ?_
            show q_RP _ _ _ (120, [(0, .ref 64), (1, .ref 96), (2, .int v2)], [.int 0], (q_kW s c n)) _ _
            refine q_RP_seg (g2 := (128, [(0, .ref 64), (1, .ref 96), (2, .int v2)], [.int 0], (q_kW s c n))) 2 (fun _ _ => rfl) ?_
            exact q_RP_ret rfl rfl rfl
        | false =>
          refine q_RP_cF ?_
          show q_RP _ _ _ (106, [(0, .ref 64), (1, .ref 96), (2, .int v2)], [.int 0], (q_kW s c n)) _ _
          refine q_RP_seg (g2 := (128, [(0, .ref 64), (1, .ref 96), (2, .int v2)], [.int 0], (q_kW s c n))) 2 (fun _ _ => rfl) ?_
          exact q_RP_ret rfl rfl rfl
      | false =>
        refine q_RP_cF ?_
        refine q_RP_rsT (g2 := (127, [(0, .ref 64), (1, .ref 96), (2, .int v2)], [], (q_kW s c n))) rfl rfl (q_d_neF h6) ?_
        refine q_RP_seg (g2 := (128, [(0, .ref 64), (1, .ref 96), (2, .int v2)], [.int 0], (q_kW s c n))) 1 (fun _ _ => rfl) ?_
        exact q_RP_ret rfl rfl rfl
def dz_W78_64_96_2 (m : Nat) : q_S → Int32 → Option (Bool) := Nat.rec (motive := fun _ => q_S → Int32 → Option (Bool)) (fun _ _ => none) (fun _ k2 s v2 =>
  cond (decide (v2 < 48)) ((dz_W90_65 s ((3840 : Int32) + v2)).bind fun r1 => (dz_W90_97 s ((3840 : Int32) + v2)).bind fun r2 => cond (decide (r1 = r2)) (k2 s (v2 + 1)) (some false)) (dz_W78_64_96_45 5000 s 0)) m
theorem dzs_W78_64_96_2 (m : Nat) (s : q_S) (v2 : Int32) : dz_W78_64_96_2 (m + 1) s v2 = (fun k2 : q_S → Int32 → Option (Bool) =>
  cond (decide (v2 < 48)) ((dz_W90_65 s ((3840 : Int32) + v2)).bind fun r1 => (dz_W90_97 s ((3840 : Int32) + v2)).bind fun r2 => cond (decide (r1 = r2)) (k2 s (v2 + 1)) (some false)) (dz_W78_64_96_45 5000 s 0)) (dz_W78_64_96_2 m) := rfl
set_option maxHeartbeats 4000000 in
theorem dzt_W78_64_96_2 (c n : Nat) (s : q_S) : ∀ (m : Nat) (v2 : Int32), q_RP q_TB0 2 77 (2, [(0, .ref 64), (1, .ref 96), (2, .int v2)], [], (q_kW s c n)) (q_oB (q_kW s c n)) (dz_W78_64_96_2 m s v2) := by
  intro m
  induction m with
  | zero => intro v2; exact q_RP_no
  | succ m ih =>
    intro v2
    have hk2 := ih
    clear ih
    rw [dzs_W78_64_96_2]
    generalize dz_W78_64_96_2 m = k2 at hk2 ⊢
    dsimp only
    refine q_RP_seg (g2 := (5, [(0, .ref 64), (1, .ref 96), (2, .int v2)], [.int 48, .int v2], (q_kW s c n))) 2 (fun _ _ => rfl) ?_
    cases h1 : decide (v2 < 48) with
    | true =>
      refine q_RP_cT ?_
      refine q_RP_rsF (g2 := (8, [(0, .ref 64), (1, .ref 96), (2, .int v2)], [], (q_kW s c n))) rfl rfl (q_d_geT h1) ?_
      refine q_RP_seg (g2 := (17, [(0, .ref 64), (1, .ref 96), (2, .int v2)], [.int ((3840 : Int32) + v2), .ref 65], (q_kW s c n))) 5 (fun _ _ => rfl) ?_
      refine q_RP_bd fun r1 er1 => ?_
      refine q_RP_call (v := (some (.int r1))) (h2 := (q_kW s c n)) rfl rfl ((dzt_W90_65 s c n ((3840 : Int32) + v2) r1 er1).le (Nat.le_of_ble_eq_true rfl)) ?_
      show q_RP _ _ _ (20, [(0, .ref 64), (1, .ref 96), (2, .int v2)], [.int r1], (q_kW s c n)) _ _
      refine q_RP_seg (g2 := (29, [(0, .ref 64), (1, .ref 96), (2, .int v2)], [.int ((3840 : Int32) + v2), .ref 97, .int r1], (q_kW s c n))) 5 (fun _ _ => rfl) ?_
      refine q_RP_bd fun r2 er2 => ?_
      refine q_RP_call (v := (some (.int r2))) (h2 := (q_kW s c n)) rfl rfl ((dzt_W90_97 s c n ((3840 : Int32) + v2) r2 er2).le (Nat.le_of_ble_eq_true rfl)) ?_
      show q_RP _ _ _ (32, [(0, .ref 64), (1, .ref 96), (2, .int v2)], [.int r2, .int r1], (q_kW s c n)) _ _
      cases h2 : decide (r1 = r2) with
      | true =>
        refine q_RP_cT ?_
        refine q_RP_rsT (g2 := (37, [(0, .ref 64), (1, .ref 96), (2, .int v2)], [], (q_kW s c n))) rfl rfl h2 ?_
        refine q_RP_seg (g2 := (2, [(2, .int (v2 + 1)), (0, .ref 64), (1, .ref 96)], [], (q_kW s c n))) 2 (fun _ _ => rfl) ?_
        exact q_RP_xt (q_xt_mk (q_mn1 1 rfl (q_mn1 2 rfl (q_mn1 0 rfl q_mn0))) rfl) (hk2 (v2 + 1))
      | false =>
        refine q_RP_cF ?_
        refine q_RP_rsF (g2 := (35, [(0, .ref 64), (1, .ref 96), (2, .int v2)], [], (q_kW s c n))) rfl rfl h2 ?_
        refine q_RP_seg (g2 := (36, [(0, .ref 64), (1, .ref 96), (2, .int v2)], [.int 0], (q_kW s c n))) 1 (fun _ _ => rfl) ?_
        exact q_RP_ret rfl rfl rfl
    | false =>
      refine q_RP_cF ?_
      refine q_RP_rsT (g2 := (43, [(0, .ref 64), (1, .ref 96), (2, .int v2)], [], (q_kW s c n))) rfl rfl (q_d_geF h1) ?_
      refine q_RP_seg (g2 := (45, [(2, .int 0), (0, .ref 64), (1, .ref 96)], [], (q_kW s c n))) 2 (fun _ _ => rfl) ?_
      exact q_RP_xt (q_xt_mk (q_mn1 1 rfl (q_mn1 2 rfl (q_mn1 0 rfl q_mn0))) rfl) (dzt_W78_64_96_45 c n s 5000 0)
def dz_W78_64_96 (s : q_S) : Option (Bool) :=
  dz_W78_64_96_2 5000 s 0
set_option maxHeartbeats 4000000 in
theorem dzt_W78_64_96 (s : q_S) (c n : Nat) (x : Bool) (h : dz_W78_64_96 s = some x) : q_Ca q_TB0 3 77 [.ref 64, .ref 96] (q_kW s c n) ((q_oB (q_kW s c n)) x) := by
  refine q_CaP_of (φ := (q_oB (q_kW s c n))) (Nat.le_of_ble_eq_true rfl) ?_ h
  clear h
  unfold dz_W78_64_96
  refine q_RP_seg (g2 := (2, [(2, .int 0), (0, .ref 64), (1, .ref 96)], [], (q_kW s c n))) 2 (fun _ _ => rfl) ?_
  exact q_RP_xt (q_xt_mk (q_mn1 1 rfl (q_mn1 2 rfl (q_mn1 0 rfl q_mn0))) rfl) (dzt_W78_64_96_2 c n s 5000 0)
end
