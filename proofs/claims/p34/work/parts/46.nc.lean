def dz_N152_87 (s : q_S) (a1 : Int32) (a2 : Int32) : q_S :=
  cond (decide (a1 < 0)) (s) (cond (decide (20 < a1)) (s) (cond (decide (a1 = 0)) (q_let (dz_N150_87 s a2) fun r257 => (q_sI r257.1 23 0 r257.2)) (cond (decide (a1 = 1)) (q_let (dz_N150_87 s a2) fun r258 => (q_sI r258.1 23 1 r258.2)) (cond (decide (a1 = 2)) (q_let (dz_N150_87 s a2) fun r259 => (q_sI r259.1 23 2 r259.2)) (cond (decide (a1 = 3)) (s) (cond (decide (a1 = 4)) (s) (cond (decide (a1 = 5)) (s) (cond (decide (a1 = 6)) (q_let (dz_N154_87 s a2) fun r276 => r276) (cond (decide (a1 = 7)) (q_let (dz_N155_87 s a2) fun r283 => r283) (cond (decide (a1 = 8)) (q_let (dz_N150_87 s ((s.2.1 23 0) &&& a2)) fun r284 => (q_sI r284.1 23 0 r284.2)) (cond (decide (a1 = 9)) (q_let (dz_N150_87 s ((s.2.1 23 0) ||| a2)) fun r285 => (q_sI r285.1 23 0 r285.2)) (cond (decide (a1 = 10)) (q_let (dz_N150_87 s ((s.2.1 23 0) ^^^ a2)) fun r286 => (q_sI r286.1 23 0 r286.2)) (cond (decide (a1 = 11)) (q_let (dz_N151_87 s (s.2.1 23 0) a2) fun r291 => r291) (cond (decide (a1 = 12)) (q_let (dz_N151_87 s (s.2.1 23 1) a2) fun r292 => r292) (cond (decide (a1 = 13)) (q_let (dz_N151_87 s (s.2.1 23 2) a2) fun r293 => r293) (cond (decide (a1 = 14)) (s) (cond (decide (a1 = 15)) (s) (cond (decide (a1 = 16)) (q_let (dz_N150_87 s a2) fun r294 => (q_sI (q_sI r294.1 23 1 r294.2) 23 0 a2)) (cond (decide (a1 = 17)) (s) (cond (decide (a1 = 18)) (s) (cond (decide (a1 = 19)) (s) (cond (decide ((s.2.1 23 0) &&& a2 = 0)) (q_let (dz_N149_87_t s 2) fun r295 => cond (decide (a2 &&& 128 = 0)) (q_let (dz_N149_87_f r295 128) fun r296 => cond (decide (a2 &&& 64 = 0)) (q_let (dz_N149_87_f r296 64) fun r297 => r297) (q_let (dz_N149_87_t r296 64) fun r298 => r298)) (q_let (dz_N149_87_t r295 128) fun r299 => cond (decide (a2 &&& 64 = 0)) (q_let (dz_N149_87_f r299 64) fun r300 => r300) (q_let (dz_N149_87_t r299 64) fun r301 => r301))) (q_let (dz_N149_87_f s 2) fun r302 => cond (decide (a2 &&& 128 = 0)) (q_let (dz_N149_87_f r302 128) fun r303 => cond (decide (a2 &&& 64 = 0)) (q_let (dz_N149_87_f r303 64) fun r304 => r304) (q_let (dz_N149_87_t r303 64) fun r305 => r305)) (q_let (dz_N149_87_t r302 128) fun r306 => cond (decide (a2 &&& 64 = 0)) (q_let (dz_N149_87_f r306 64) fun r307 => r307) (q_let (dz_N149_87_t r306 64) fun r308 => r308)))))))))))))))))))))))))
set_option maxHeartbeats 4000000 in
theorem dzt_N152_87 (s : q_S) (c n : Nat) (a1 : Int32) (a2 : Int32) : q_Ca q_TB0 4 151 [.ref 87, .int a1, .int a2] (q_kN s c n) ((q_oSN c n) (dz_N152_87 s a1 a2)) := by
  refine q_CaT_of (φ := (q_oSN c n)) (Nat.le_of_ble_eq_true rfl) ?_
  unfold dz_N152_87
  refine q_RT_seg (g2 := (1, [(0, .ref 87), (1, .int a1), (2, .int a2)], [.int a1], (q_kN s c n))) 1 (fun _ _ => rfl) ?_
  cases h365 : decide (a1 < 0) with
  | true =>
    refine q_RT_cT ?_
    refine q_RT_st1 (g2 := (316, [(0, .ref 87), (1, .int a1), (2, .int a2)], [], (q_kN s c n))) rfl (if_pos (Or.inl (Int32.lt_iff_toInt_lt.mp (of_decide_eq_true h365)))) ?_
    exact q_RT_ret rfl rfl rfl
  | false =>
    refine q_RT_cF ?_
    cases h366 : decide (20 < a1) with
    | true =>
      refine q_RT_cT ?_
      refine q_RT_st1 (g2 := (316, [(0, .ref 87), (1, .int a1), (2, .int a2)], [], (q_kN s c n))) rfl (if_pos (Or.inr (Int32.lt_iff_toInt_lt.mp (of_decide_eq_true h366)))) ?_
      exact q_RT_ret rfl rfl rfl
    | false =>
      refine q_RT_cF ?_
      cases h367 : decide (a1 = 0) with
      | true =>
        refine q_RT_cT ?_
        refine q_RT_st1 (g2 := (100, [(0, .ref 87), (1, .int a1), (2, .int a2)], [], (q_kN s c n))) rfl (by rw [of_decide_eq_true h367]; rfl) ?_
        refine q_RT_seg (g2 := (103, [(0, .ref 87), (1, .int a1), (2, .int a2)], [.int a2, .ref 87, .ref 87], (q_kN s c n))) 3 (fun _ _ => rfl) ?_
        refine q_RT_call (v := (some (.int (dz_N150_87 s a2).2))) (h2 := (q_kN (dz_N150_87 s a2).1 c n)) rfl rfl ((dzt_N150_87 s c n a2).le (Nat.le_of_ble_eq_true rfl)) ?_
        generalize dz_N150_87 s a2 = r257
        refine q_RT_let ?_
        show q_RT _ _ _ (106, [(0, .ref 87), (1, .int a1), (2, .int a2)], [.int r257.2, .ref 87], (q_kN r257.1 c n)) _ _
        refine q_RT_seg (g2 := (316, [(0, .ref 87), (1, .int a1), (2, .int a2)], [], (q_kN (q_sI r257.1 23 0 r257.2) c n))) 2 (fun _ _ => rfl) ?_
        exact q_RT_ret rfl rfl rfl
      | false =>
        refine q_RT_cF ?_
        cases h368 : decide (a1 = 1) with
        | true =>
          refine q_RT_cT ?_
          refine q_RT_st1 (g2 := (112, [(0, .ref 87), (1, .int a1), (2, .int a2)], [], (q_kN s c n))) rfl (by rw [of_decide_eq_true h368]; rfl) ?_
          refine q_RT_seg (g2 := (115, [(0, .ref 87), (1, .int a1), (2, .int a2)], [.int a2, .ref 87, .ref 87], (q_kN s c n))) 3 (fun _ _ => rfl) ?_
          refine q_RT_call (v := (some (.int (dz_N150_87 s a2).2))) (h2 := (q_kN (dz_N150_87 s a2).1 c n)) rfl rfl ((dzt_N150_87 s c n a2).le (Nat.le_of_ble_eq_true rfl)) ?_
          generalize dz_N150_87 s a2 = r258
          refine q_RT_let ?_
          show q_RT _ _ _ (118, [(0, .ref 87), (1, .int a1), (2, .int a2)], [.int r258.2, .ref 87], (q_kN r258.1 c n)) _ _
          refine q_RT_seg (g2 := (316, [(0, .ref 87), (1, .int a1), (2, .int a2)], [], (q_kN (q_sI r258.1 23 1 r258.2) c n))) 2 (fun _ _ => rfl) ?_
          exact q_RT_ret rfl rfl rfl
        | false =>
          refine q_RT_cF ?_
          cases h369 : decide (a1 = 2) with
          | true =>
            refine q_RT_cT ?_
            refine q_RT_st1 (g2 := (124, [(0, .ref 87), (1, .int a1), (2, .int a2)], [], (q_kN s c n))) rfl (by rw [of_decide_eq_true h369]; rfl) ?_
            refine q_RT_seg (g2 := (127, [(0, .ref 87), (1, .int a1), (2, .int a2)], [.int a2, .ref 87, .ref 87], (q_kN s c n))) 3 (fun _ _ => rfl) ?_
            refine q_RT_call (v := (some (.int (dz_N150_87 s a2).2))) (h2 := (q_kN (dz_N150_87 s a2).1 c n)) rfl rfl ((dzt_N150_87 s c n a2).le (Nat.le_of_ble_eq_true rfl)) ?_
            generalize dz_N150_87 s a2 = r259
            refine q_RT_let ?_
            show q_RT _ _ _ (130, [(0, .ref 87), (1, .int a1), (2, .int a2)], [.int r259.2, .ref 87], (q_kN r259.1 c n)) _ _
            refine q_RT_seg (g2 := (316, [(0, .ref 87), (1, .int a1), (2, .int a2)], [], (q_kN (q_sI r259.1 23 2 r259.2) c n))) 2 (fun _ _ => rfl) ?_
            exact q_RT_ret rfl rfl rfl
          | false =>
            refine q_RT_cF ?_
            cases h370 : decide (a1 = 3) with
            | true =>
              refine q_RT_cT ?_
              refine q_RT_st1 (g2 := (316, [(0, .ref 87), (1, .int a1), (2, .int a2)], [], (q_kN s c n))) rfl (by rw [of_decide_eq_true h370]; rfl) ?_
              exact q_RT_ret rfl rfl rfl
            | false =>
              refine q_RT_cF ?_
              cases h371 : decide (a1 = 4) with
              | true =>
                refine q_RT_cT ?_
                refine q_RT_st1 (g2 := (316, [(0, .ref 87), (1, .int a1), (2, .int a2)], [], (q_kN s c n))) rfl (by rw [of_decide_eq_true h371]; rfl) ?_
                exact q_RT_ret rfl rfl rfl
              | false =>
                refine q_RT_cF ?_
                cases h372 : decide (a1 = 5) with
                | true =>
                  refine q_RT_cT ?_
                  refine q_RT_st1 (g2 := (316, [(0, .ref 87), (1, .int a1), (2, .int a2)], [], (q_kN s c n))) rfl (by rw [of_decide_eq_true h372]; rfl) ?_
                  exact q_RT_ret rfl rfl rfl
                | false =>
                  refine q_RT_cF ?_
                  cases h373 : decide (a1 = 6) with
                  | true =>
                    refine q_RT_cT ?_
                    refine q_RT_st1 (g2 := (136, [(0, .ref 87), (1, .int a1), (2, .int a2)], [], (q_kN s c n))) rfl (by rw [of_decide_eq_true h373]; rfl) ?_
                    refine q_RT_seg (g2 := (138, [(0, .ref 87), (1, .int a1), (2, .int a2)], [.int a2, .ref 87], (q_kN s c n))) 2 (fun _ _ => rfl) ?_
                    refine q_RT_call (v := none) (h2 := (q_kN (dz_N154_87 s a2) c n)) rfl rfl ((dzt_N154_87 s c n a2).le (Nat.le_of_ble_eq_true rfl)) ?_
                    generalize dz_N154_87 s a2 = r276
                    refine q_RT_let ?_
                    show q_RT _ _ _ (141, [(0, .ref 87), (1, .int a1), (2, .int a2)], [], (q_kN r276 c n)) _ _
                    refine q_RT_seg (g2 := (316, [(0, .ref 87), (1, .int a1), (2, .int a2)], [], (q_kN r276 c n))) 1 (fun _ _ => rfl) ?_
                    exact q_RT_ret rfl rfl rfl
                  | false =>
                    refine q_RT_cF ?_
                    cases h380 : decide (a1 = 7) with
                    | true =>
                      refine q_RT_cT ?_
                      refine q_RT_st1 (g2 := (144, [(0, .ref 87), (1, .int a1), (2, .int a2)], [], (q_kN s c n))) rfl (by rw [of_decide_eq_true h380]; rfl) ?_
                      refine q_RT_seg (g2 := (146, [(0, .ref 87), (1, .int a1), (2, .int a2)], [.int a2, .ref 87], (q_kN s c n))) 2 (fun _ _ => rfl) ?_
                      refine q_RT_call (v := none) (h2 := (q_kN (dz_N155_87 s a2) c n)) rfl rfl ((dzt_N155_87 s c n a2).le (Nat.le_of_ble_eq_true rfl)) ?_
                      generalize dz_N155_87 s a2 = r283
                      refine q_RT_let ?_
                      show q_RT _ _ _ (149, [(0, .ref 87), (1, .int a1), (2, .int a2)], [], (q_kN r283 c n)) _ _
                      refine q_RT_seg (g2 := (316, [(0, .ref 87), (1, .int a1), (2, .int a2)], [], (q_kN r283 c n))) 1 (fun _ _ => rfl) ?_
                      exact q_RT_ret rfl rfl rfl
                    | false =>
                      refine q_RT_cF ?_
                      cases h384 : decide (a1 = 8) with
                      | true =>
                        refine q_RT_cT ?_
                        refine q_RT_st1 (g2 := (152, [(0, .ref 87), (1, .int a1), (2, .int a2)], [], (q_kN s c n))) rfl (by rw [of_decide_eq_true h384]; rfl) ?_
                        refine q_RT_seg (g2 := (158, [(0, .ref 87), (1, .int a1), (2, .int a2)], [.int (s.2.1 23 0), .ref 87, .ref 87], (q_kN s c n))) 4 (fun _ _ => rfl) ?_
                        refine q_RT_seg (g2 := (160, [(0, .ref 87), (1, .int a1), (2, .int a2)], [.int ((s.2.1 23 0) &&& a2), .ref 87, .ref 87], (q_kN s c n))) 2 (fun _ _ => rfl) ?_
                        refine q_RT_call (v := (some (.int (dz_N150_87 s ((s.2.1 23 0) &&& a2)).2))) (h2 := (q_kN (dz_N150_87 s ((s.2.1 23 0) &&& a2)).1 c n)) rfl rfl ((dzt_N150_87 s c n ((s.2.1 23 0) &&& a2)).le (Nat.le_of_ble_eq_true rfl)) ?_
                        generalize dz_N150_87 s ((s.2.1 23 0) &&& a2) = r284
                        refine q_RT_let ?_
                        show q_RT _ _ _ (163, [(0, .ref 87), (1, .int a1), (2, .int a2)], [.int r284.2, .ref 87], (q_kN r284.1 c n)) _ _
                        refine q_RT_seg (g2 := (316, [(0, .ref 87), (1, .int a1), (2, .int a2)], [], (q_kN (q_sI r284.1 23 0 r284.2) c n))) 2 (fun _ _ => rfl) ?_
                        exact q_RT_ret rfl rfl rfl
                      | false =>
                        refine q_RT_cF ?_
                        cases h385 : decide (a1 = 9) with
                        | true =>
                          refine q_RT_cT ?_
                          refine q_RT_st1 (g2 := (169, [(0, .ref 87), (1, .int a1), (2, .int a2)], [], (q_kN s c n))) rfl (by rw [of_decide_eq_true h385]; rfl) ?_
                          refine q_RT_seg (g2 := (175, [(0, .ref 87), (1, .int a1), (2, .int a2)], [.int (s.2.1 23 0), .ref 87, .ref 87], (q_kN s c n))) 4 (fun _ _ => rfl) ?_
                          refine q_RT_seg (g2 := (177, [(0, .ref 87), (1, .int a1), (2, .int a2)], [.int ((s.2.1 23 0) ||| a2), .ref 87, .ref 87], (q_kN s c n))) 2 (fun _ _ => rfl) ?_
                          refine q_RT_call (v := (some (.int (dz_N150_87 s ((s.2.1 23 0) ||| a2)).2))) (h2 := (q_kN (dz_N150_87 s ((s.2.1 23 0) ||| a2)).1 c n)) rfl rfl ((dzt_N150_87 s c n ((s.2.1 23 0) ||| a2)).le (Nat.le_of_ble_eq_true rfl)) ?_
                          generalize dz_N150_87 s ((s.2.1 23 0) ||| a2) = r285
                          refine q_RT_let ?_
                          show q_RT _ _ _ (180, [(0, .ref 87), (1, .int a1), (2, .int a2)], [.int r285.2, .ref 87], (q_kN r285.1 c n)) _ _
                          refine q_RT_seg (g2 := (316, [(0, .ref 87), (1, .int a1), (2, .int a2)], [], (q_kN (q_sI r285.1 23 0 r285.2) c n))) 2 (fun _ _ => rfl) ?_
                          exact q_RT_ret rfl rfl rfl
                        | false =>
                          refine q_RT_cF ?_
                          cases h386 : decide (a1 = 10) with
                          | true =>
                            refine q_RT_cT ?_
                            refine q_RT_st1 (g2 := (186, [(0, .ref 87), (1, .int a1), (2, .int a2)], [], (q_kN s c n))) rfl (by rw [of_decide_eq_true h386]; rfl) ?_
                            refine q_RT_seg (g2 := (192, [(0, .ref 87), (1, .int a1), (2, .int a2)], [.int (s.2.1 23 0), .ref 87, .ref 87], (q_kN s c n))) 4 (fun _ _ => rfl) ?_
                            refine q_RT_seg (g2 := (194, [(0, .ref 87), (1, .int a1), (2, .int a2)], [.int ((s.2.1 23 0) ^^^ a2), .ref 87, .ref 87], (q_kN s c n))) 2 (fun _ _ => rfl) ?_
                            refine q_RT_call (v := (some (.int (dz_N150_87 s ((s.2.1 23 0) ^^^ a2)).2))) (h2 := (q_kN (dz_N150_87 s ((s.2.1 23 0) ^^^ a2)).1 c n)) rfl rfl ((dzt_N150_87 s c n ((s.2.1 23 0) ^^^ a2)).le (Nat.le_of_ble_eq_true rfl)) ?_
                            generalize dz_N150_87 s ((s.2.1 23 0) ^^^ a2) = r286
                            refine q_RT_let ?_
                            show q_RT _ _ _ (197, [(0, .ref 87), (1, .int a1), (2, .int a2)], [.int r286.2, .ref 87], (q_kN r286.1 c n)) _ _
                            refine q_RT_seg (g2 := (316, [(0, .ref 87), (1, .int a1), (2, .int a2)], [], (q_kN (q_sI r286.1 23 0 r286.2) c n))) 2 (fun _ _ => rfl) ?_
                            exact q_RT_ret rfl rfl rfl
                          | false =>
                            refine q_RT_cF ?_
                            cases h387 : decide (a1 = 11) with
                            | true =>
                              refine q_RT_cT ?_
                              refine q_RT_st1 (g2 := (203, [(0, .ref 87), (1, .int a1), (2, .int a2)], [], (q_kN s c n))) rfl (by rw [of_decide_eq_true h387]; rfl) ?_
                              refine q_RT_seg (g2 := (208, [(0, .ref 87), (1, .int a1), (2, .int a2)], [.int (s.2.1 23 0), .ref 87], (q_kN s c n))) 3 (fun _ _ => rfl) ?_
                              refine q_RT_seg (g2 := (209, [(0, .ref 87), (1, .int a1), (2, .int a2)], [.int a2, .int (s.2.1 23 0), .ref 87], (q_kN s c n))) 1 (fun _ _ => rfl) ?_
                              refine q_RT_call (v := none) (h2 := (q_kN (dz_N151_87 s (s.2.1 23 0) a2) c n)) rfl rfl ((dzt_N151_87 s c n (s.2.1 23 0) a2).le (Nat.le_of_ble_eq_true rfl)) ?_
                              generalize dz_N151_87 s (s.2.1 23 0) a2 = r291
                              refine q_RT_let ?_
                              show q_RT _ _ _ (212, [(0, .ref 87), (1, .int a1), (2, .int a2)], [], (q_kN r291 c n)) _ _
                              refine q_RT_seg (g2 := (316, [(0, .ref 87), (1, .int a1), (2, .int a2)], [], (q_kN r291 c n))) 1 (fun _ _ => rfl) ?_
                              exact q_RT_ret rfl rfl rfl
                            | false =>
                              refine q_RT_cF ?_
                              cases h389 : decide (a1 = 12) with
                              | true =>
                                refine q_RT_cT ?_
                                refine q_RT_st1 (g2 := (215, [(0, .ref 87), (1, .int a1), (2, .int a2)], [], (q_kN s c n))) rfl (by rw [of_decide_eq_true h389]; rfl) ?_
                                refine q_RT_seg (g2 := (220, [(0, .ref 87), (1, .int a1), (2, .int a2)], [.int (s.2.1 23 1), .ref 87], (q_kN s c n))) 3 (fun _ _ => rfl) ?_
                                refine q_RT_seg (g2 := (221, [(0, .ref 87), (1, .int a1), (2, .int a2)], [.int a2, .int (s.2.1 23 1), .ref 87], (q_kN s c n))) 1 (fun _ _ => rfl) ?_
                                refine q_RT_call (v := none) (h2 := (q_kN (dz_N151_87 s (s.2.1 23 1) a2) c n)) rfl rfl ((dzt_N151_87 s c n (s.2.1 23 1) a2).le (Nat.le_of_ble_eq_true rfl)) ?_
                                generalize dz_N151_87 s (s.2.1 23 1) a2 = r292
                                refine q_RT_let ?_
                                show q_RT _ _ _ (224, [(0, .ref 87), (1, .int a1), (2, .int a2)], [], (q_kN r292 c n)) _ _
                                refine q_RT_seg (g2 := (316, [(0, .ref 87), (1, .int a1), (2, .int a2)], [], (q_kN r292 c n))) 1 (fun _ _ => rfl) ?_
                                exact q_RT_ret rfl rfl rfl
                              | false =>
                                refine q_RT_cF ?_
                                cases h390 : decide (a1 = 13) with
                                | true =>
                                  refine q_RT_cT ?_
                                  refine q_RT_st1 (g2 := (227, [(0, .ref 87), (1, .int a1), (2, .int a2)], [], (q_kN s c n))) rfl (by rw [of_decide_eq_true h390]; rfl) ?_
                                  refine q_RT_seg (g2 := (232, [(0, .ref 87), (1, .int a1), (2, .int a2)], [.int (s.2.1 23 2), .ref 87], (q_kN s c n))) 3 (fun _ _ => rfl) ?_
                                  refine q_RT_seg (g2 := (233, [(0, .ref 87), (1, .int a1), (2, .int a2)], [.int a2, .int (s.2.1 23 2), .ref 87], (q_kN s c n))) 1 (fun _ _ => rfl) ?_
                                  refine q_RT_call (v := none) (h2 := (q_kN (dz_N151_87 s (s.2.1 23 2) a2) c n)) rfl rfl ((dzt_N151_87 s c n (s.2.1 23 2) a2).le (Nat.le_of_ble_eq_true rfl)) ?_
                                  generalize dz_N151_87 s (s.2.1 23 2) a2 = r293
                                  refine q_RT_let ?_
                                  show q_RT _ _ _ (236, [(0, .ref 87), (1, .int a1), (2, .int a2)], [], (q_kN r293 c n)) _ _
                                  refine q_RT_seg (g2 := (316, [(0, .ref 87), (1, .int a1), (2, .int a2)], [], (q_kN r293 c n))) 1 (fun _ _ => rfl) ?_
                                  exact q_RT_ret rfl rfl rfl
                                | false =>
                                  refine q_RT_cF ?_
                                  cases h391 : decide (a1 = 14) with
                                  | true =>
                                    refine q_RT_cT ?_
                                    refine q_RT_st1 (g2 := (316, [(0, .ref 87), (1, .int a1), (2, .int a2)], [], (q_kN s c n))) rfl (by rw [of_decide_eq_true h391]; rfl) ?_
                                    exact q_RT_ret rfl rfl rfl
                                  | false =>
                                    refine q_RT_cF ?_
                                    cases h392 : decide (a1 = 15) with
                                    | true =>
                                      refine q_RT_cT ?_
                                      refine q_RT_st1 (g2 := (316, [(0, .ref 87), (1, .int a1), (2, .int a2)], [], (q_kN s c n))) rfl (by rw [of_decide_eq_true h392]; rfl) ?_
                                      exact q_RT_ret rfl rfl rfl
                                    | false =>
                                      refine q_RT_cF ?_
                                      cases h393 : decide (a1 = 16) with
                                      | true =>
                                        refine q_RT_cT ?_
                                        refine q_RT_st1 (g2 := (239, [(0, .ref 87), (1, .int a1), (2, .int a2)], [], (q_kN s c n))) rfl (by rw [of_decide_eq_true h393]; rfl) ?_
                                        refine q_RT_seg (g2 := (242, [(0, .ref 87), (1, .int a1), (2, .int a2)], [.int a2, .ref 87, .ref 87], (q_kN s c n))) 3 (fun _ _ => rfl) ?_
                                        refine q_RT_call (v := (some (.int (dz_N150_87 s a2).2))) (h2 := (q_kN (dz_N150_87 s a2).1 c n)) rfl rfl ((dzt_N150_87 s c n a2).le (Nat.le_of_ble_eq_true rfl)) ?_
                                        generalize dz_N150_87 s a2 = r294
                                        refine q_RT_let ?_
                                        show q_RT _ _ _ (245, [(0, .ref 87), (1, .int a1), (2, .int a2)], [.int r294.2, .ref 87], (q_kN r294.1 c n)) _ _
                                        refine q_RT_seg (g2 := (316, [(0, .ref 87), (1, .int a1), (2, .int a2)], [], (q_kN (q_sI (q_sI r294.1 23 1 r294.2) 23 0 a2) c n))) 5 (fun _ _ => rfl) ?_
                                        exact q_RT_ret rfl rfl rfl
                                      | false =>
                                        refine q_RT_cF ?_
                                        cases h394 : decide (a1 = 17) with
                                        | true =>
                                          refine q_RT_cT ?_
                                          refine q_RT_st1 (g2 := (316, [(0, .ref 87), (1, .int a1), (2, .int a2)], [], (q_kN s c n))) rfl (by rw [of_decide_eq_true h394]; rfl) ?_
                                          exact q_RT_ret rfl rfl rfl
                                        | false =>
                                          refine q_RT_cF ?_
                                          cases h395 : decide (a1 = 18) with
                                          | true =>
                                            refine q_RT_cT ?_
                                            refine q_RT_st1 (g2 := (316, [(0, .ref 87), (1, .int a1), (2, .int a2)], [], (q_kN s c n))) rfl (by rw [of_decide_eq_true h395]; rfl) ?_
                                            exact q_RT_ret rfl rfl rfl
                                          | false =>
                                            refine q_RT_cF ?_
                                            cases h396 : decide (a1 = 19) with
                                            | true =>
                                              refine q_RT_cT ?_
                                              refine q_RT_st1 (g2 := (316, [(0, .ref 87), (1, .int a1), (2, .int a2)], [], (q_kN s c n))) rfl (by rw [of_decide_eq_true h396]; rfl) ?_
                                              exact q_RT_ret rfl rfl rfl
                                            | false =>
                                              refine q_RT_cF ?_
                                              have h397 : a1 = 20 := Int32.toInt_inj.mp (by have e0 := q_neI h367 (n := 0); have e1 := q_neI h368 (n := 1); have e2 := q_neI h369 (n := 2); have e3 := q_neI h370 (n := 3); have e4 := q_neI h371 (n := 4); have e5 := q_neI h372 (n := 5); have e6 := q_neI h373 (n := 6); have e7 := q_neI h380 (n := 7); have e8 := q_neI h384 (n := 8); have e9 := q_neI h385 (n := 9); have e10 := q_neI h386 (n := 10); have e11 := q_neI h387 (n := 11); have e12 := q_neI h389 (n := 12); have e13 := q_neI h390 (n := 13); have e14 := q_neI h391 (n := 14); have e15 := q_neI h392 (n := 15); have e16 := q_neI h393 (n := 16); have e17 := q_neI h394 (n := 17); have e18 := q_neI h395 (n := 18); have e19 := q_neI h396 (n := 19); have l1 : 0 ≤ (a1).toInt := q_lo1 h365; have l2 : (a1).toInt ≤ 20 := q_hi2 h366; show (a1).toInt = 20; omega)
                                              refine q_RT_st1 (g2 := (256, [(0, .ref 87), (1, .int a1), (2, .int a2)], [], (q_kN s c n))) rfl (by rw [h397]; rfl) ?_
                                              refine q_RT_seg (g2 := (262, [(0, .ref 87), (1, .int a1), (2, .int a2)], [.int (s.2.1 23 0), .int 2, .ref 87], (q_kN s c n))) 4 (fun _ _ => rfl) ?_
                                              refine q_RT_seg (g2 := (264, [(0, .ref 87), (1, .int a1), (2, .int a2)], [.int ((s.2.1 23 0) &&& a2), .int 2, .ref 87], (q_kN s c n))) 2 (fun _ _ => rfl) ?_
                                              cases h398 : decide ((s.2.1 23 0) &&& a2 = 0) with
                                              | true =>
                                                refine q_RT_cT ?_
                                                refine q_RT_rsF (g2 := (267, [(0, .ref 87), (1, .int a1), (2, .int a2)], [.int 2, .ref 87], (q_kN s c n))) rfl rfl (q_d_neT h398) ?_
                                                refine q_RT_seg (g2 := (272, [(0, .ref 87), (1, .int a1), (2, .int a2)], [.int 1, .int 2, .ref 87], (q_kN s c n))) 2 (fun _ _ => rfl) ?_
                                                refine q_RT_call (v := none) (h2 := (q_kN (dz_N149_87_t s 2) c n)) rfl rfl ((dzt_N149_87_t s c n 2).le (Nat.le_of_ble_eq_true rfl)) ?_
                                                generalize dz_N149_87_t s 2 = r295
                                                refine q_RT_let ?_
                                                show q_RT _ _ _ (275, [(0, .ref 87), (1, .int a1), (2, .int a2)], [], (q_kN r295 c n)) _ _
                                                refine q_RT_seg (g2 := (284, [(0, .ref 87), (1, .int a1), (2, .int a2)], [.int (a2 &&& 128), .int 128, .ref 87], (q_kN r295 c n))) 5 (fun _ _ => rfl) ?_
                                                cases h399 : decide (a2 &&& 128 = 0) with
                                                | true =>
                                                  refine q_RT_cT ?_
                                                  refine q_RT_rsT (g2 := (291, [(0, .ref 87), (1, .int a1), (2, .int a2)], [.int 128, .ref 87], (q_kN r295 c n))) rfl rfl h399 ?_
                                                  refine q_RT_seg (g2 := (292, [(0, .ref 87), (1, .int a1), (2, .int a2)], [.int 0, .int 128, .ref 87], (q_kN r295 c n))) 1 (fun _ _ => rfl) ?_
                                                  refine q_RT_call (v := none) (h2 := (q_kN (dz_N149_87_f r295 128) c n)) rfl rfl ((dzt_N149_87_f r295 c n 128).le (Nat.le_of_ble_eq_true rfl)) ?_
                                                  generalize dz_N149_87_f r295 128 = r296
                                                  refine q_RT_let ?_
                                                  show q_RT _ _ _ (295, [(0, .ref 87), (1, .int a1), (2, .int a2)], [], (q_kN r296 c n)) _ _
                                                  refine q_RT_seg (g2 := (302, [(0, .ref 87), (1, .int a1), (2, .int a2)], [.int (a2 &&& 64), .int 64, .ref 87], (q_kN r296 c n))) 5 (fun _ _ => rfl) ?_
                                                  cases h400 : decide (a2 &&& 64 = 0) with
                                                  | true =>
                                                    refine q_RT_cT ?_
                                                    refine q_RT_rsT (g2 := (309, [(0, .ref 87), (1, .int a1), (2, .int a2)], [.int 64, .ref 87], (q_kN r296 c n))) rfl rfl h400 ?_
                                                    refine q_RT_seg (g2 := (310, [(0, .ref 87), (1, .int a1), (2, .int a2)], [.int 0, .int 64, .ref 87], (q_kN r296 c n))) 1 (fun _ _ => rfl) ?_
                                                    refine q_RT_call (v := none) (h2 := (q_kN (dz_N149_87_f r296 64) c n)) rfl rfl ((dzt_N149_87_f r296 c n 64).le (Nat.le_of_ble_eq_true rfl)) ?_
                                                    generalize dz_N149_87_f r296 64 = r297
                                                    refine q_RT_let ?_
                                                    show q_RT _ _ _ (313, [(0, .ref 87), (1, .int a1), (2, .int a2)], [], (q_kN r297 c n)) _ _
                                                    refine q_RT_seg (g2 := (316, [(0, .ref 87), (1, .int a1), (2, .int a2)], [], (q_kN r297 c n))) 1 (fun _ _ => rfl) ?_
                                                    exact q_RT_ret rfl rfl rfl
                                                  | false =>
                                                    refine q_RT_cF ?_
                                                    refine q_RT_rsF (g2 := (305, [(0, .ref 87), (1, .int a1), (2, .int a2)], [.int 64, .ref 87], (q_kN r296 c n))) rfl rfl h400 ?_
                                                    refine q_RT_seg (g2 := (310, [(0, .ref 87), (1, .int a1), (2, .int a2)], [.int 1, .int 64, .ref 87], (q_kN r296 c n))) 2 (fun _ _ => rfl) ?_
                                                    refine q_RT_call (v := none) (h2 := (q_kN (dz_N149_87_t r296 64) c n)) rfl rfl ((dzt_N149_87_t r296 c n 64).le (Nat.le_of_ble_eq_true rfl)) ?_
                                                    generalize dz_N149_87_t r296 64 = r298
                                                    refine q_RT_let ?_
                                                    show q_RT _ _ _ (313, [(0, .ref 87), (1, .int a1), (2, .int a2)], [], (q_kN r298 c n)) _ _
                                                    refine q_RT_seg (g2 := (316, [(0, .ref 87), (1, .int a1), (2, .int a2)], [], (q_kN r298 c n))) 1 (fun _ _ => rfl) ?_
                                                    exact q_RT_ret rfl rfl rfl
                                                | false =>
                                                  refine q_RT_cF ?_
                                                  refine q_RT_rsF (g2 := (287, [(0, .ref 87), (1, .int a1), (2, .int a2)], [.int 128, .ref 87], (q_kN r295 c n))) rfl rfl h399 ?_
                                                  refine q_RT_seg (g2 := (292, [(0, .ref 87), (1, .int a1), (2, .int a2)], [.int 1, .int 128, .ref 87], (q_kN r295 c n))) 2 (fun _ _ => rfl) ?_
                                                  refine q_RT_call (v := none) (h2 := (q_kN (dz_N149_87_t r295 128) c n)) rfl rfl ((dzt_N149_87_t r295 c n 128).le (Nat.le_of_ble_eq_true rfl)) ?_
                                                  generalize dz_N149_87_t r295 128 = r299
                                                  refine q_RT_let ?_
                                                  show q_RT _ _ _ (295, [(0, .ref 87), (1, .int a1), (2, .int a2)], [], (q_kN r299 c n)) _ _
                                                  refine q_RT_seg (g2 := (302, [(0, .ref 87), (1, .int a1), (2, .int a2)], [.int (a2 &&& 64), .int 64, .ref 87], (q_kN r299 c n))) 5 (fun _ _ => rfl) ?_
                                                  cases h401 : decide (a2 &&& 64 = 0) with
                                                  | true =>
                                                    refine q_RT_cT ?_
                                                    refine q_RT_rsT (g2 := (309, [(0, .ref 87), (1, .int a1), (2, .int a2)], [.int 64, .ref 87], (q_kN r299 c n))) rfl rfl h401 ?_
                                                    refine q_RT_seg (g2 := (310, [(0, .ref 87), (1, .int a1), (2, .int a2)], [.int 0, .int 64, .ref 87], (q_kN r299 c n))) 1 (fun _ _ => rfl) ?_
                                                    refine q_RT_call (v := none) (h2 := (q_kN (dz_N149_87_f r299 64) c n)) rfl rfl ((dzt_N149_87_f r299 c n 64).le (Nat.le_of_ble_eq_true rfl)) ?_
                                                    generalize dz_N149_87_f r299 64 = r300
                                                    refine q_RT_let ?_
                                                    show q_RT _ _ _ (313, [(0, .ref 87), (1, .int a1), (2, .int a2)], [], (q_kN r300 c n)) _ _
                                                    refine q_RT_seg (g2 := (316, [(0, .ref 87), (1, .int a1), (2, .int a2)], [], (q_kN r300 c n))) 1 (fun _ _ => rfl) ?_
                                                    exact q_RT_ret rfl rfl rfl
                                                  | false =>
                                                    refine q_RT_cF ?_
                                                    refine q_RT_rsF (g2 := (305, [(0, .ref 87), (1, .int a1), (2, .int a2)], [.int 64, .ref 87], (q_kN r299 c n))) rfl rfl h401 ?_
                                                    refine q_RT_seg (g2 := (310, [(0, .ref 87), (1, .int a1), (2, .int a2)], [.int 1, .int 64, .ref 87], (q_kN r299 c n))) 2 (fun _ _ => rfl) ?_
                                                    refine q_RT_call (v := none) (h2 := (q_kN (dz_N149_87_t r299 64) c n)) rfl rfl ((dzt_N149_87_t r299 c n 64).le (Nat.le_of_ble_eq_true rfl)) ?_
                                                    generalize dz_N149_87_t r299 64 = r301
                                                    refine q_RT_let ?_
                                                    show q_RT _ _ _ (313, [(0, .ref 87), (1, .int a1), (2, .int a2)], [], (q_kN r301 c n)) _ _
                                                    refine q_RT_seg (g2 := (316, [(0, .ref 87), (1, .int a1), (2, .int a2)], [], (q_kN r301 c n))) 1 (fun _ _ => rfl) ?_
                                                    exact q_RT_ret rfl rfl rfl
                                              | false =>
                                                refine q_RT_cF ?_
                                                refine q_RT_rsT (g2 := (271, [(0, .ref 87), (1, .int a1), (2, .int a2)], [.int 2, .ref 87], (q_kN s c n))) rfl rfl (q_d_neF h398) ?_
                                                refine q_RT_seg (g2 := (272, [(0, .ref 87), (1, .int a1), (2, .int a2)], [.int 0, .int 2, .ref 87], (q_kN s c n))) 1 (fun _ _ => rfl) ?_
                                                refine q_RT_call (v := none) (h2 := (q_kN (dz_N149_87_f s 2) c n)) rfl rfl ((dzt_N149_87_f s c n 2).le (Nat.le_of_ble_eq_true rfl)) ?_
                                                generalize dz_N149_87_f s 2 = r302
                                                refine q_RT_let ?_
                                                show q_RT _ _ _ (275, [(0, .ref 87), (1, .int a1), (2, .int a2)], [], (q_kN r302 c n)) _ _
                                                refine q_RT_seg (g2 := (284, [(0, .ref 87), (1, .int a1), (2, .int a2)], [.int (a2 &&& 128), .int 128, .ref 87], (q_kN r302 c n))) 5 (fun _ _ => rfl) ?_
                                                cases h402 : decide (a2 &&& 128 = 0) with
                                                | true =>
                                                  refine q_RT_cT ?_
                                                  refine q_RT_rsT (g2 := (291, [(0, .ref 87), (1, .int a1), (2, .int a2)], [.int 128, .ref 87], (q_kN r302 c n))) rfl rfl h402 ?_
                                                  refine q_RT_seg (g2 := (292, [(0, .ref 87), (1, .int a1), (2, .int a2)], [.int 0, .int 128, .ref 87], (q_kN r302 c n))) 1 (fun _ _ => rfl) ?_
                                                  refine q_RT_call (v := none) (h2 := (q_kN (dz_N149_87_f r302 128) c n)) rfl rfl ((dzt_N149_87_f r302 c n 128).le (Nat.le_of_ble_eq_true rfl)) ?_
                                                  generalize dz_N149_87_f r302 128 = r303
                                                  refine q_RT_let ?_
                                                  show q_RT _ _ _ (295, [(0, .ref 87), (1, .int a1), (2, .int a2)], [], (q_kN r303 c n)) _ _
                                                  refine q_RT_seg (g2 := (302, [(0, .ref 87), (1, .int a1), (2, .int a2)], [.int (a2 &&& 64), .int 64, .ref 87], (q_kN r303 c n))) 5 (fun _ _ => rfl) ?_
                                                  cases h403 : decide (a2 &&& 64 = 0) with
                                                  | true =>
                                                    refine q_RT_cT ?_
                                                    refine q_RT_rsT (g2 := (309, [(0, .ref 87), (1, .int a1), (2, .int a2)], [.int 64, .ref 87], (q_kN r303 c n))) rfl rfl h403 ?_
                                                    refine q_RT_seg (g2 := (310, [(0, .ref 87), (1, .int a1), (2, .int a2)], [.int 0, .int 64, .ref 87], (q_kN r303 c n))) 1 (fun _ _ => rfl) ?_
                                                    refine q_RT_call (v := none) (h2 := (q_kN (dz_N149_87_f r303 64) c n)) rfl rfl ((dzt_N149_87_f r303 c n 64).le (Nat.le_of_ble_eq_true rfl)) ?_
                                                    generalize dz_N149_87_f r303 64 = r304
                                                    refine q_RT_let ?_
                                                    show q_RT _ _ _ (313, [(0, .ref 87), (1, .int a1), (2, .int a2)], [], (q_kN r304 c n)) _ _
                                                    refine q_RT_seg (g2 := (316, [(0, .ref 87), (1, .int a1), (2, .int a2)], [], (q_kN r304 c n))) 1 (fun _ _ => rfl) ?_
                                                    exact q_RT_ret rfl rfl rfl
                                                  | false =>
                                                    refine q_RT_cF ?_
                                                    refine q_RT_rsF (g2 := (305, [(0, .ref 87), (1, .int a1), (2, .int a2)], [.int 64, .ref 87], (q_kN r303 c n))) rfl rfl h403 ?_
                                                    refine q_RT_seg (g2 := (310, [(0, .ref 87), (1, .int a1), (2, .int a2)], [.int 1, .int 64, .ref 87], (q_kN r303 c n))) 2 (fun _ _ => rfl) ?_
                                                    refine q_RT_call (v := none) (h2 := (q_kN (dz_N149_87_t r303 64) c n)) rfl rfl ((dzt_N149_87_t r303 c n 64).le (Nat.le_of_ble_eq_true rfl)) ?_
                                                    generalize dz_N149_87_t r303 64 = r305
                                                    refine q_RT_let ?_
                                                    show q_RT _ _ _ (313, [(0, .ref 87), (1, .int a1), (2, .int a2)], [], (q_kN r305 c n)) _ _
                                                    refine q_RT_seg (g2 := (316, [(0, .ref 87), (1, .int a1), (2, .int a2)], [], (q_kN r305 c n))) 1 (fun _ _ => rfl) ?_
                                                    exact q_RT_ret rfl rfl rfl
                                                | false =>
                                                  refine q_RT_cF ?_
                                                  refine q_RT_rsF (g2 := (287, [(0, .ref 87), (1, .int a1), (2, .int a2)], [.int 128, .ref 87], (q_kN r302 c n))) rfl rfl h402 ?_
                                                  refine q_RT_seg (g2 := (292, [(0, .ref 87), (1, .int a1), (2, .int a2)], [.int 1, .int 128, .ref 87], (q_kN r302 c n))) 2 (fun _ _ => rfl) ?_
                                                  refine q_RT_call (v := none) (h2 := (q_kN (dz_N149_87_t r302 128) c n)) rfl rfl ((dzt_N149_87_t r302 c n 128).le (Nat.le_of_ble_eq_true rfl)) ?_
                                                  generalize dz_N149_87_t r302 128 = r306
                                                  refine q_RT_let ?_
                                                  show q_RT _ _ _ (295, [(0, .ref 87), (1, .int a1), (2, .int a2)], [], (q_kN r306 c n)) _ _
                                                  refine q_RT_seg (g2 := (302, [(0, .ref 87), (1, .int a1), (2, .int a2)], [.int (a2 &&& 64), .int 64, .ref 87], (q_kN r306 c n))) 5 (fun _ _ => rfl) ?_
                                                  cases h404 : decide (a2 &&& 64 = 0) with
                                                  | true =>
                                                    refine q_RT_cT ?_
                                                    refine q_RT_rsT (g2 := (309, [(0, .ref 87), (1, .int a1), (2, .int a2)], [.int 64, .ref 87], (q_kN r306 c n))) rfl rfl h404 ?_
                                                    refine q_RT_seg (g2 := (310, [(0, .ref 87), (1, .int a1), (2, .int a2)], [.int 0, .int 64, .ref 87], (q_kN r306 c n))) 1 (fun _ _ => rfl) ?_
                                                    refine q_RT_call (v := none) (h2 := (q_kN (dz_N149_87_f r306 64) c n)) rfl rfl ((dzt_N149_87_f r306 c n 64).le (Nat.le_of_ble_eq_true rfl)) ?_
                                                    generalize dz_N149_87_f r306 64 = r307
                                                    refine q_RT_let ?_
                                                    show q_RT _ _ _ (313, [(0, .ref 87), (1, .int a1), (2, .int a2)], [], (q_kN r307 c n)) _ _
                                                    refine q_RT_seg (g2 := (316, [(0, .ref 87), (1, .int a1), (2, .int a2)], [], (q_kN r307 c n))) 1 (fun _ _ => rfl) ?_
                                                    exact q_RT_ret rfl rfl rfl
                                                  | false =>
                                                    refine q_RT_cF ?_
                                                    refine q_RT_rsF (g2 := (305, [(0, .ref 87), (1, .int a1), (2, .int a2)], [.int 64, .ref 87], (q_kN r306 c n))) rfl rfl h404 ?_
                                                    refine q_RT_seg (g2 := (310, [(0, .ref 87), (1, .int a1), (2, .int a2)], [.int 1, .int 64, .ref 87], (q_kN r306 c n))) 2 (fun _ _ => rfl) ?_
                                                    refine q_RT_call (v := none) (h2 := (q_kN (dz_N149_87_t r306 64) c n)) rfl rfl ((dzt_N149_87_t r306 c n 64).le (Nat.le_of_ble_eq_true rfl)) ?_
                                                    generalize dz_N149_87_t r306 64 = r308
                                                    refine q_RT_let ?_
                                                    show q_RT _ _ _ (313, [(0, .ref 87), (1, .int a1), (2, .int a2)], [], (q_kN r308 c n)) _ _
                                                    refine q_RT_seg (g2 := (316, [(0, .ref 87), (1, .int a1), (2, .int a2)], [], (q_kN r308 c n))) 1 (fun _ _ => rfl) ?_
                                                    exact q_RT_ret rfl rfl rfl
def dz_N144_87_65 (s : q_S) (a2 : Int32) : Option (Int32) :=
  (dz_N145_87_65 s a2).bind fun r312 => q_let (dz_N143_87 s a2) fun r313 => some ((r312 + r313) &&& 4095)
set_option maxHeartbeats 4000000 in
theorem dzt_N144_87_65 (s : q_S) (c n : Nat) (a2 : Int32) (x : Int32) (h : dz_N144_87_65 s a2 = some x) : q_Ca q_TB0 4 143 [.ref 87, .ref 65, .int a2] (q_kN s c n) ((q_oP (q_kN s c n)) x) := by
  refine q_CaP_of (φ := (q_oP (q_kN s c n))) (Nat.le_of_ble_eq_true rfl) ?_ h
  clear h
  unfold dz_N144_87_65
  refine q_RP_seg (g2 := (3, [(0, .ref 87), (1, .ref 65), (2, .int a2)], [.int a2, .ref 65, .ref 87], (q_kN s c n))) 3 (fun _ _ => rfl) ?_
  refine q_RP_bd fun r312 er312 => ?_
  refine q_RP_call (v := (some (.int r312))) (h2 := (q_kN s c n)) rfl rfl ((dzt_N145_87_65 s c n a2 r312 er312).le (Nat.le_of_ble_eq_true rfl)) ?_
  show q_RP _ _ _ (6, [(0, .ref 87), (1, .ref 65), (2, .int a2)], [.int r312], (q_kN s c n)) _ _
  refine q_RP_seg (g2 := (8, [(0, .ref 87), (1, .ref 65), (2, .int a2)], [.int a2, .ref 87, .int r312], (q_kN s c n))) 2 (fun _ _ => rfl) ?_
  refine q_RP_call (v := (some (.int (dz_N143_87 s a2)))) (h2 := (q_kN s c n)) rfl rfl ((dzt_N143_87 s c n a2).le (Nat.le_of_ble_eq_true rfl)) ?_
  generalize dz_N143_87 s a2 = r313
  refine q_RP_let ?_
  show q_RP _ _ _ (11, [(0, .ref 87), (1, .ref 65), (2, .int a2)], [.int r313, .int r312], (q_kN s c n)) _ _
  refine q_RP_seg (g2 := (16, [(0, .ref 87), (1, .ref 65), (2, .int a2)], [.int ((r312 + r313) &&& 4095)], (q_kN s c n))) 3 (fun _ _ => rfl) ?_
  exact q_RP_ret rfl rfl rfl
def dz_N93_65 (s : q_S) (a1 : Int32) : Option (q_S × Int32) :=
  (dz_N90_65 s a1).bind fun r321 => cond (decide (a1 = 3869)) (some ((q_sA s 4 (upd (s.1 4) 29 0)), r321)) (cond (decide (a1 = 3870)) (some ((q_sA s 4 (upd (s.1 4) 30 0)), r321)) (some (s, r321)))
set_option maxHeartbeats 4000000 in
theorem dzt_N93_65 (s : q_S) (c n : Nat) (a1 : Int32) (x : q_S × Int32) (h : dz_N93_65 s a1 = some x) : q_Ca q_TB0 3 92 [.ref 65, .int a1] (q_kN s c n) ((q_oIN c n) x) := by
  refine q_CaP_of (φ := (q_oIN c n)) (Nat.le_of_ble_eq_true rfl) ?_ h
  clear h
  unfold dz_N93_65
  refine q_RP_seg (g2 := (2, [(0, .ref 65), (1, .int a1)], [.int a1, .ref 65], (q_kN s c n))) 2 (fun _ _ => rfl) ?_
  refine q_RP_bd fun r321 er321 => ?_
  refine q_RP_call (v := (some (.int r321))) (h2 := (q_kN s c n)) rfl rfl ((dzt_N90_65 s c n a1 r321 er321).le (Nat.le_of_ble_eq_true rfl)) ?_
  show q_RP _ _ _ (5, [(0, .ref 65), (1, .int a1)], [.int r321], (q_kN s c n)) _ _
  refine q_RP_seg (g2 := (10, [(2, .int r321), (0, .ref 65), (1, .int a1)], [.int 3869, .int a1], (q_kN s c n))) 3 (fun _ _ => rfl) ?_
  cases h412 : decide (a1 = 3869) with
  | true =>
    refine q_RP_cT ?_
    refine q_RP_rsF (g2 := (13, [(2, .int r321), (0, .ref 65), (1, .int a1)], [], (q_kN s c n))) rfl rfl (q_d_neT h412) ?_
    refine q_RP_seg (g2 := (46, [(2, .int r321), (0, .ref 65), (1, .int a1)], [.int r321], (q_kN (q_sA s 4 (upd (s.1 4) 29 0)) c n))) 8 (fun _ _ => rfl) ?_
    exact q_RP_ret rfl rfl rfl
  | false =>
    refine q_RP_cF ?_
    refine q_RP_rsT (g2 := (27, [(2, .int r321), (0, .ref 65), (1, .int a1)], [], (q_kN s c n))) rfl rfl (q_d_neF h412) ?_
    refine q_RP_seg (g2 := (31, [(2, .int r321), (0, .ref 65), (1, .int a1)], [.int 3870, .int a1], (q_kN s c n))) 2 (fun _ _ => rfl) ?_
    cases h413 : decide (a1 = 3870) with
    | true =>
      refine q_RP_cT ?_
      refine q_RP_rsF (g2 := (34, [(2, .int r321), (0, .ref 65), (1, .int a1)], [], (q_kN s c n))) rfl rfl (q_d_neT h413) ?_
      refine q_RP_seg (g2 := (46, [(2, .int r321), (0, .ref 65), (1, .int a1)], [.int r321], (q_kN (q_sA s 4 (upd (s.1 4) 30 0)) c n))) 7 (fun _ _ => rfl) ?_
      exact q_RP_ret rfl rfl rfl
    | false =>
      refine q_RP_cF ?_
      refine q_RP_rsT (g2 := (45, [(2, .int r321), (0, .ref 65), (1, .int a1)], [], (q_kN s c n))) rfl rfl (q_d_neF h413) ?_
      refine q_RP_seg (g2 := (46, [(2, .int r321), (0, .ref 65), (1, .int a1)], [.int r321], (q_kN s c n))) 1 (fun _ _ => rfl) ?_
      exact q_RP_ret rfl rfl rfl
def dz_N153_87_65_101 (s : q_S) (v2 : Int32) (v3 : Int32) : Option (q_S) :=
  (dz_N93_65 s v3).bind fun r322 => (dz_N94_65 r322.1 v3 ((r322.2 + 1) &&& 255)).bind fun r323 => cond (decide (v2 = 18)) (q_let (dz_N151_87 r323 (r323.2.1 23 0) ((r322.2 + 1) &&& 255)) fun r324 => some r324) (cond (decide (v2 = 19)) (q_let (dz_N155_87 r323 ((r322.2 + 1) &&& 255)) fun r325 => some r325) (q_let (dz_N150_87 r323 ((r322.2 + 1) &&& 255)) fun r326 => some r326.1))
set_option maxHeartbeats 4000000 in
theorem dzt_N153_87_65_101 (c n : Nat) (s : q_S) (v2 : Int32) (v3 : Int32) : q_RP q_TB0 3 152 (101, [(0, .ref 87), (1, .ref 65), (2, .int v2), (3, .int v3)], [], (q_kN s c n)) (q_oSN c n) (dz_N153_87_65_101 s v2 v3) := by
  unfold dz_N153_87_65_101
  refine q_RP_seg (g2 := (110, [(4, .int 1), (0, .ref 87), (1, .ref 65), (2, .int v2), (3, .int v3)], [.int v3, .ref 65], (q_kN s c n))) 5 (fun _ _ => rfl) ?_
  refine q_RP_bd fun r322 er322 => ?_
  refine q_RP_call (v := (some (.int r322.2))) (h2 := (q_kN r322.1 c n)) rfl rfl ((dzt_N93_65 s c n v3 r322 er322).le (Nat.le_of_ble_eq_true rfl)) ?_
  show q_RP _ _ _ (113, [(4, .int 1), (0, .ref 87), (1, .ref 65), (2, .int v2), (3, .int v3)], [.int r322.2], (q_kN r322.1 c n)) _ _
  refine q_RP_seg (g2 := (126, [(5, .int ((r322.2 + 1) &&& 255)), (4, .int 1), (0, .ref 87), (1, .ref 65), (2, .int v2), (3, .int v3)], [.int ((r322.2 + 1) &&& 255), .int v3, .ref 65], (q_kN r322.1 c n))) 8 (fun _ _ => rfl) ?_
  refine q_RP_bd fun r323 er323 => ?_
  refine q_RP_call (v := none) (h2 := (q_kN r323 c n)) rfl rfl ((dzt_N94_65 r322.1 c n v3 ((r322.2 + 1) &&& 255) r323 er323).le (Nat.le_of_ble_eq_true rfl)) ?_
  show q_RP _ _ _ (129, [(5, .int ((r322.2 + 1) &&& 255)), (4, .int 1), (0, .ref 87), (1, .ref 65), (2, .int v2), (3, .int v3)], [], (q_kN r323 c n)) _ _
  refine q_RP_seg (g2 := (132, [(5, .int ((r322.2 + 1) &&& 255)), (4, .int 1), (0, .ref 87), (1, .ref 65), (2, .int v2), (3, .int v3)], [.int 18, .int v2], (q_kN r323 c n))) 2 (fun _ _ => rfl) ?_
  cases h414 : decide (v2 = 18) with
  | true =>
    refine q_RP_cT ?_
    refine q_RP_rsF (g2 := (135, [(5, .int ((r322.2 + 1) &&& 255)), (4, .int 1), (0, .ref 87), (1, .ref 65), (2, .int v2), (3, .int v3)], [], (q_kN r323 c n))) rfl rfl (q_d_neT h414) ?_
    refine q_RP_seg (g2 := (140, [(5, .int ((r322.2 + 1) &&& 255)), (4, .int 1), (0, .ref 87), (1, .ref 65), (2, .int v2), (3, .int v3)], [.int (r323.2.1 23 0), .ref 87], (q_kN r323 c n))) 3 (fun _ _ => rfl) ?_
    refine q_RP_seg (g2 := (142, [(5, .int ((r322.2 + 1) &&& 255)), (4, .int 1), (0, .ref 87), (1, .ref 65), (2, .int v2), (3, .int v3)], [.int ((r322.2 + 1) &&& 255), .int (r323.2.1 23 0), .ref 87], (q_kN r323 c n))) 1 (fun _ _ => rfl) ?_
    refine q_RP_call (v := none) (h2 := (q_kN (dz_N151_87 r323 (r323.2.1 23 0) ((r322.2 + 1) &&& 255)) c n)) rfl rfl ((dzt_N151_87 r323 c n (r323.2.1 23 0) ((r322.2 + 1) &&& 255)).le (Nat.le_of_ble_eq_true rfl)) ?_
    generalize dz_N151_87 r323 (r323.2.1 23 0) ((r322.2 + 1) &&& 255) = r324
    refine q_RP_let ?_
    show q_RP _ _ _ (145, [(5, .int ((r322.2 + 1) &&& 255)), (4, .int 1), (0, .ref 87), (1, .ref 65), (2, .int v2), (3, .int v3)], [], (q_kN r324 c n)) _ _
    refine q_RP_seg (g2 := (170, [(5, .int ((r322.2 + 1) &&& 255)), (4, .int 1), (0, .ref 87), (1, .ref 65), (2, .int v2), (3, .int v3)], [], (q_kN r324 c n))) 1 (fun _ _ => rfl) ?_
    exact q_RP_ret rfl rfl rfl
  | false =>
    refine q_RP_cF ?_
    refine q_RP_rsT (g2 := (148, [(5, .int ((r322.2 + 1) &&& 255)), (4, .int 1), (0, .ref 87), (1, .ref 65), (2, .int v2), (3, .int v3)], [], (q_kN r323 c n))) rfl rfl (q_d_neF h414) ?_
    refine q_RP_seg (g2 := (151, [(5, .int ((r322.2 + 1) &&& 255)), (4, .int 1), (0, .ref 87), (1, .ref 65), (2, .int v2), (3, .int v3)], [.int 19, .int v2], (q_kN r323 c n))) 2 (fun _ _ => rfl) ?_
    cases h415 : decide (v2 = 19) with
    | true =>
      refine q_RP_cT ?_
      refine q_RP_rsF (g2 := (154, [(5, .int ((r322.2 + 1) &&& 255)), (4, .int 1), (0, .ref 87), (1, .ref 65), (2, .int v2), (3, .int v3)], [], (q_kN r323 c n))) rfl rfl (q_d_neT h415) ?_
      refine q_RP_seg (g2 := (157, [(5, .int ((r322.2 + 1) &&& 255)), (4, .int 1), (0, .ref 87), (1, .ref 65), (2, .int v2), (3, .int v3)], [.int ((r322.2 + 1) &&& 255), .ref 87], (q_kN r323 c n))) 2 (fun _ _ => rfl) ?_
      refine q_RP_call (v := none) (h2 := (q_kN (dz_N155_87 r323 ((r322.2 + 1) &&& 255)) c n)) rfl rfl ((dzt_N155_87 r323 c n ((r322.2 + 1) &&& 255)).le (Nat.le_of_ble_eq_true rfl)) ?_
      generalize dz_N155_87 r323 ((r322.2 + 1) &&& 255) = r325
      refine q_RP_let ?_
      show q_RP _ _ _ (160, [(5, .int ((r322.2 + 1) &&& 255)), (4, .int 1), (0, .ref 87), (1, .ref 65), (2, .int v2), (3, .int v3)], [], (q_kN r325 c n)) _ _
      refine q_RP_seg (g2 := (170, [(5, .int ((r322.2 + 1) &&& 255)), (4, .int 1), (0, .ref 87), (1, .ref 65), (2, .int v2), (3, .int v3)], [], (q_kN r325 c n))) 1 (fun _ _ => rfl) ?_
      exact q_RP_ret rfl rfl rfl
    | false =>
      refine q_RP_cF ?_
      refine q_RP_rsT (g2 := (163, [(5, .int ((r322.2 + 1) &&& 255)), (4, .int 1), (0, .ref 87), (1, .ref 65), (2, .int v2), (3, .int v3)], [], (q_kN r323 c n))) rfl rfl (q_d_neF h415) ?_
      refine q_RP_seg (g2 := (166, [(5, .int ((r322.2 + 1) &&& 255)), (4, .int 1), (0, .ref 87), (1, .ref 65), (2, .int v2), (3, .int v3)], [.int ((r322.2 + 1) &&& 255), .ref 87], (q_kN r323 c n))) 2 (fun _ _ => rfl) ?_
      refine q_RP_call (v := (some (.int (dz_N150_87 r323 ((r322.2 + 1) &&& 255)).2))) (h2 := (q_kN (dz_N150_87 r323 ((r322.2 + 1) &&& 255)).1 c n)) rfl rfl ((dzt_N150_87 r323 c n ((r322.2 + 1) &&& 255)).le (Nat.le_of_ble_eq_true rfl)) ?_
      generalize dz_N150_87 r323 ((r322.2 + 1) &&& 255) = r326
      refine q_RP_let ?_
      show q_RP _ _ _ (169, [(5, .int ((r322.2 + 1) &&& 255)), (4, .int 1), (0, .ref 87), (1, .ref 65), (2, .int v2), (3, .int v3)], [.int r326.2], (q_kN r326.1 c n)) _ _
      refine q_RP_seg (g2 := (170, [(5, .int ((r322.2 + 1) &&& 255)), (4, .int 1), (0, .ref 87), (1, .ref 65), (2, .int v2), (3, .int v3)], [], (q_kN r326.1 c n))) 1 (fun _ _ => rfl) ?_
      exact q_RP_ret rfl rfl rfl
def dz_N153_87_65 (s : q_S) (a2 : Int32) (a3 : Int32) : Option (q_S) :=
  cond (decide (a2 = 3)) ((dz_N94_65 s a3 (s.2.1 23 0)).bind fun r316 => some r316) (cond (decide (a2 = 4)) ((dz_N94_65 s a3 (s.2.1 23 1)).bind fun r317 => some r317) (cond (decide (a2 = 5)) ((dz_N94_65 s a3 (s.2.1 23 2)).bind fun r318 => some r318) (cond (decide (a2 = 17)) ((dz_N94_65 s a3 ((s.2.1 23 0) &&& (s.2.1 23 1))).bind fun r319 => some r319) (cond (decide (a2 = 14)) (dz_N153_87_65_101 s a2 a3) (cond (decide (a2 = 19)) (dz_N153_87_65_101 s a2 a3) ((dz_N93_65 s a3).bind fun r327 => (dz_N94_65 r327.1 a3 ((r327.2 + (-1)) &&& 255)).bind fun r328 => cond (decide (a2 = 18)) (q_let (dz_N151_87 r328 (r328.2.1 23 0) ((r327.2 + (-1)) &&& 255)) fun r329 => some r329) (q_let (dz_N150_87 r328 ((r327.2 + (-1)) &&& 255)) fun r330 => some r330.1)))))))
set_option maxHeartbeats 4000000 in
theorem dzt_N153_87_65 (s : q_S) (c n : Nat) (a2 : Int32) (a3 : Int32) (x : q_S) (h : dz_N153_87_65 s a2 a3 = some x) : q_Ca q_TB0 4 152 [.ref 87, .ref 65, .int a2, .int a3] (q_kN s c n) ((q_oSN c n) x) := by
  refine q_CaP_of (φ := (q_oSN c n)) (Nat.le_of_ble_eq_true rfl) ?_ h
  clear h
  unfold dz_N153_87_65
  refine q_RP_seg (g2 := (1, [(0, .ref 87), (1, .ref 65), (2, .int a2), (3, .int a3)], [.int a2], (q_kN s c n))) 1 (fun _ _ => rfl) ?_
  cases h407 : decide (a2 = 3) with
  | true =>
    refine q_RP_cT ?_
    refine q_RP_st1 (g2 := (44, [(0, .ref 87), (1, .ref 65), (2, .int a2), (3, .int a3)], [], (q_kN s c n))) rfl (by rw [of_decide_eq_true h407]; rfl) ?_
    refine q_RP_seg (g2 := (50, [(0, .ref 87), (1, .ref 65), (2, .int a2), (3, .int a3)], [.int (s.2.1 23 0), .int a3, .ref 65], (q_kN s c n))) 4 (fun _ _ => rfl) ?_
    refine q_RP_bd fun r316 er316 => ?_
    refine q_RP_call (v := none) (h2 := (q_kN r316 c n)) rfl rfl ((dzt_N94_65 s c n a3 (s.2.1 23 0) r316 er316).le (Nat.le_of_ble_eq_true rfl)) ?_
    show q_RP _ _ _ (53, [(0, .ref 87), (1, .ref 65), (2, .int a2), (3, .int a3)], [], (q_kN r316 c n)) _ _
    exact q_RP_ret rfl rfl rfl
  | false =>
    refine q_RP_cF ?_
    cases h408 : decide (a2 = 4) with
    | true =>
      refine q_RP_cT ?_
      refine q_RP_st1 (g2 := (54, [(0, .ref 87), (1, .ref 65), (2, .int a2), (3, .int a3)], [], (q_kN s c n))) rfl (by rw [of_decide_eq_true h408]; rfl) ?_
      refine q_RP_seg (g2 := (60, [(0, .ref 87), (1, .ref 65), (2, .int a2), (3, .int a3)], [.int (s.2.1 23 1), .int a3, .ref 65], (q_kN s c n))) 4 (fun _ _ => rfl) ?_
      refine q_RP_bd fun r317 er317 => ?_
      refine q_RP_call (v := none) (h2 := (q_kN r317 c n)) rfl rfl ((dzt_N94_65 s c n a3 (s.2.1 23 1) r317 er317).le (Nat.le_of_ble_eq_true rfl)) ?_
      show q_RP _ _ _ (63, [(0, .ref 87), (1, .ref 65), (2, .int a2), (3, .int a3)], [], (q_kN r317 c n)) _ _
      exact q_RP_ret rfl rfl rfl
    | false =>
      refine q_RP_cF ?_
      cases h409 : decide (a2 = 5) with
      | true =>
        refine q_RP_cT ?_
        refine q_RP_st1 (g2 := (64, [(0, .ref 87), (1, .ref 65), (2, .int a2), (3, .int a3)], [], (q_kN s c n))) rfl (by rw [of_decide_eq_true h409]; rfl) ?_
        refine q_RP_seg (g2 := (70, [(0, .ref 87), (1, .ref 65), (2, .int a2), (3, .int a3)], [.int (s.2.1 23 2), .int a3, .ref 65], (q_kN s c n))) 4 (fun _ _ => rfl) ?_
        refine q_RP_bd fun r318 er318 => ?_
        refine q_RP_call (v := none) (h2 := (q_kN r318 c n)) rfl rfl ((dzt_N94_65 s c n a3 (s.2.1 23 2) r318 er318).le (Nat.le_of_ble_eq_true rfl)) ?_
        show q_RP _ _ _ (73, [(0, .ref 87), (1, .ref 65), (2, .int a2), (3, .int a3)], [], (q_kN r318 c n)) _ _
        exact q_RP_ret rfl rfl rfl
      | false =>
        refine q_RP_cF ?_
        cases h410 : decide (a2 = 17) with
        | true =>
          refine q_RP_cT ?_
          refine q_RP_st1 (g2 := (74, [(0, .ref 87), (1, .ref 65), (2, .int a2), (3, .int a3)], [], (q_kN s c n))) rfl (by rw [of_decide_eq_true h410]; rfl) ?_
          refine q_RP_seg (g2 := (80, [(0, .ref 87), (1, .ref 65), (2, .int a2), (3, .int a3)], [.int (s.2.1 23 0), .int a3, .ref 65], (q_kN s c n))) 4 (fun _ _ => rfl) ?_
          refine q_RP_seg (g2 := (84, [(0, .ref 87), (1, .ref 65), (2, .int a2), (3, .int a3)], [.int (s.2.1 23 1), .int (s.2.1 23 0), .int a3, .ref 65], (q_kN s c n))) 2 (fun _ _ => rfl) ?_
          refine q_RP_seg (g2 := (85, [(0, .ref 87), (1, .ref 65), (2, .int a2), (3, .int a3)], [.int ((s.2.1 23 0) &&& (s.2.1 23 1)), .int a3, .ref 65], (q_kN s c n))) 1 (fun _ _ => rfl) ?_
          refine q_RP_bd fun r319 er319 => ?_
          refine q_RP_call (v := none) (h2 := (q_kN r319 c n)) rfl rfl ((dzt_N94_65 s c n a3 ((s.2.1 23 0) &&& (s.2.1 23 1)) r319 er319).le (Nat.le_of_ble_eq_true rfl)) ?_
          show q_RP _ _ _ (88, [(0, .ref 87), (1, .ref 65), (2, .int a2), (3, .int a3)], [], (q_kN r319 c n)) _ _
          exact q_RP_ret rfl rfl rfl
        | false =>
          refine q_RP_cF ?_
          refine q_RP_st1 (g2 := (89, [(0, .ref 87), (1, .ref 65), (2, .int a2), (3, .int a3)], [], (q_kN s c n))) rfl (by unfold q_lsw; dsimp only; rw [Op.lookupswitch.offset_cons, if_neg (q_neJ h407 (n := 3)), Op.lookupswitch.offset_cons, if_neg (q_neJ h408 (n := 4)), Op.lookupswitch.offset_cons, if_neg (q_neJ h409 (n := 5)), Op.lookupswitch.offset_cons, if_neg (q_neJ h410 (n := 17))]; rfl) ?_
          refine q_RP_seg (g2 := (92, [(0, .ref 87), (1, .ref 65), (2, .int a2), (3, .int a3)], [.int 14, .int a2], (q_kN s c n))) 2 (fun _ _ => rfl) ?_
          cases h411 : decide (a2 = 14) with
          | true =>
            refine q_RP_cT ?_
            refine q_RP_rsT (g2 := (101, [(0, .ref 87), (1, .ref 65), (2, .int a2), (3, .int a3)], [], (q_kN s c n))) rfl rfl h411 ?_
            exact (dzt_N153_87_65_101 c n s a2 a3)
          | false =>
            refine q_RP_cF ?_
            refine q_RP_rsF (g2 := (95, [(0, .ref 87), (1, .ref 65), (2, .int a2), (3, .int a3)], [], (q_kN s c n))) rfl rfl h411 ?_
            refine q_RP_seg (g2 := (98, [(0, .ref 87), (1, .ref 65), (2, .int a2), (3, .int a3)], [.int 19, .int a2], (q_kN s c n))) 2 (fun _ _ => rfl) ?_
            cases h416 : decide (a2 = 19) with
            | true =>
              refine q_RP_cT ?_
              refine q_RP_rsF (g2 := (101, [(0, .ref 87), (1, .ref 65), (2, .int a2), (3, .int a3)], [], (q_kN s c n))) rfl rfl (q_d_neT h416) ?_
              exact (dzt_N153_87_65_101 c n s a2 a3)
            | false =>
              refine q_RP_cF ?_
              refine q_RP_rsT (g2 := (105, [(0, .ref 87), (1, .ref 65), (2, .int a2), (3, .int a3)], [], (q_kN s c n))) rfl rfl (q_d_neF h416) ?_
              refine q_RP_seg (g2 := (110, [(4, .int (-1)), (0, .ref 87), (1, .ref 65), (2, .int a2), (3, .int a3)], [.int a3, .ref 65], (q_kN s c n))) 4 (fun _ _ => rfl) ?_
              refine q_RP_bd fun r327 er327 => ?_
              refine q_RP_call (v := (some (.int r327.2))) (h2 := (q_kN r327.1 c n)) rfl rfl ((dzt_N93_65 s c n a3 r327 er327).le (Nat.le_of_ble_eq_true rfl)) ?_
              show q_RP _ _ _ (113, [(4, .int (-1)), (0, .ref 87), (1, .ref 65), (2, .int a2), (3, .int a3)], [.int r327.2], (q_kN r327.1 c n)) _ _
              refine q_RP_seg (g2 := (126, [(5, .int ((r327.2 + (-1)) &&& 255)), (4, .int (-1)), (0, .ref 87), (1, .ref 65), (2, .int a2), (3, .int a3)], [.int ((r327.2 + (-1)) &&& 255), .int a3, .ref 65], (q_kN r327.1 c n))) 8 (fun _ _ => rfl) ?_
              refine q_RP_bd fun r328 er328 => ?_
              refine q_RP_call (v := none) (h2 := (q_kN r328 c n)) rfl rfl ((dzt_N94_65 r327.1 c n a3 ((r327.2 + (-1)) &&& 255) r328 er328).le (Nat.le_of_ble_eq_true rfl)) ?_
              show q_RP _ _ _ (129, [(5, .int ((r327.2 + (-1)) &&& 255)), (4, .int (-1)), (0, .ref 87), (1, .ref 65), (2, .int a2), (3, .int a3)], [], (q_kN r328 c n)) _ _
              refine q_RP_seg (g2 := (132, [(5, .int ((r327.2 + (-1)) &&& 255)), (4, .int (-1)), (0, .ref 87), (1, .ref 65), (2, .int a2), (3, .int a3)], [.int 18, .int a2], (q_kN r328 c n))) 2 (fun _ _ => rfl) ?_
              cases h417 : decide (a2 = 18) with
              | true =>
                refine q_RP_cT ?_
                refine q_RP_rsF (g2 := (135, [(5, .int ((r327.2 + (-1)) &&& 255)), (4, .int (-1)), (0, .ref 87), (1, .ref 65), (2, .int a2), (3, .int a3)], [], (q_kN r328 c n))) rfl rfl (q_d_neT h417) ?_
                refine q_RP_seg (g2 := (140, [(5, .int ((r327.2 + (-1)) &&& 255)), (4, .int (-1)), (0, .ref 87), (1, .ref 65), (2, .int a2), (3, .int a3)], [.int (r328.2.1 23 0), .ref 87], (q_kN r328 c n))) 3 (fun _ _ => rfl) ?_
                refine q_RP_seg (g2 := (142, [(5, .int ((r327.2 + (-1)) &&& 255)), (4, .int (-1)), (0, .ref 87), (1, .ref 65), (2, .int a2), (3, .int a3)], [.int ((r327.2 + (-1)) &&& 255), .int (r328.2.1 23 0), .ref 87], (q_kN r328 c n))) 1 (fun _ _ => rfl) ?_
                refine q_RP_call (v := none) (h2 := (q_kN (dz_N151_87 r328 (r328.2.1 23 0) ((r327.2 + (-1)) &&& 255)) c n)) rfl rfl ((dzt_N151_87 r328 c n (r328.2.1 23 0) ((r327.2 + (-1)) &&& 255)).le (Nat.le_of_ble_eq_true rfl)) ?_
                generalize dz_N151_87 r328 (r328.2.1 23 0) ((r327.2 + (-1)) &&& 255) = r329
                refine q_RP_let ?_
                show q_RP _ _ _ (145, [(5, .int ((r327.2 + (-1)) &&& 255)), (4, .int (-1)), (0, .ref 87), (1, .ref 65), (2, .int a2), (3, .int a3)], [], (q_kN r329 c n)) _ _
                refine q_RP_seg (g2 := (170, [(5, .int ((r327.2 + (-1)) &&& 255)), (4, .int (-1)), (0, .ref 87), (1, .ref 65), (2, .int a2), (3, .int a3)], [], (q_kN r329 c n))) 1 (fun _ _ => rfl) ?_
                exact q_RP_ret rfl rfl rfl
              | false =>
                refine q_RP_cF ?_
                refine q_RP_rsT (g2 := (148, [(5, .int ((r327.2 + (-1)) &&& 255)), (4, .int (-1)), (0, .ref 87), (1, .ref 65), (2, .int a2), (3, .int a3)], [], (q_kN r328 c n))) rfl rfl (q_d_neF h417) ?_
                refine q_RP_seg (g2 := (151, [(5, .int ((r327.2 + (-1)) &&& 255)), (4, .int (-1)), (0, .ref 87), (1, .ref 65), (2, .int a2), (3, .int a3)], [.int 19, .int a2], (q_kN r328 c n))) 2 (fun _ _ => rfl) ?_
                refine q_RP_rsT (g2 := (163, [(5, .int ((r327.2 + (-1)) &&& 255)), (4, .int (-1)), (0, .ref 87), (1, .ref 65), (2, .int a2), (3, .int a3)], [], (q_kN r328 c n))) rfl rfl (q_d_neF h416) ?_
                refine q_RP_seg (g2 := (166, [(5, .int ((r327.2 + (-1)) &&& 255)), (4, .int (-1)), (0, .ref 87), (1, .ref 65), (2, .int a2), (3, .int a3)], [.int ((r327.2 + (-1)) &&& 255), .ref 87], (q_kN r328 c n))) 2 (fun _ _ => rfl) ?_
                refine q_RP_call (v := (some (.int (dz_N150_87 r328 ((r327.2 + (-1)) &&& 255)).2))) (h2 := (q_kN (dz_N150_87 r328 ((r327.2 + (-1)) &&& 255)).1 c n)) rfl rfl ((dzt_N150_87 r328 c n ((r327.2 + (-1)) &&& 255)).le (Nat.le_of_ble_eq_true rfl)) ?_
                generalize dz_N150_87 r328 ((r327.2 + (-1)) &&& 255) = r330
                refine q_RP_let ?_
                show q_RP _ _ _ (169, [(5, .int ((r327.2 + (-1)) &&& 255)), (4, .int (-1)), (0, .ref 87), (1, .ref 65), (2, .int a2), (3, .int a3)], [.int r330.2], (q_kN r330.1 c n)) _ _
                refine q_RP_seg (g2 := (170, [(5, .int ((r327.2 + (-1)) &&& 255)), (4, .int (-1)), (0, .ref 87), (1, .ref 65), (2, .int a2), (3, .int a3)], [], (q_kN r330.1 c n))) 1 (fun _ _ => rfl) ?_
                exact q_RP_ret rfl rfl rfl
def dz_N142_87_65_142 (s : q_S) (v2 : Int32) (v3 : Int32) (v4 : Int32) (v5 : Int32) : Option (q_S) :=
  cond (decide (v3 < 0)) ((dz_N158_87_65 s v2 v5).bind fun r254 => some (q_sI r254.1 23 4 r254.2)) (cond (decide (v4 = 0)) (q_let (dz_N140_87 s 1) fun r255 => (dz_N90_65 s r255).bind fun r256 => q_let (dz_N152_87 s v3 r256) fun r309 => some (q_sI r309 23 4 v5)) (q_let (dz_N188 s v3) fun r310 => cond r310 ((dz_N144_87_65 s v4).bind fun r314 => (dz_N153_87_65 s v3 r314).bind fun r331 => some (q_sI r331 23 4 v5)) ((dz_N144_87_65 s v4).bind fun r332 => (dz_N93_65 s r332).bind fun r333 => q_let (dz_N152_87 r333.1 v3 r333.2) fun r334 => some (q_sI r334 23 4 v5))))
set_option maxHeartbeats 4000000 in
theorem dzt_N142_87_65_142 (c n : Nat) (s : q_S) (v2 : Int32) (v3 : Int32) (v4 : Int32) (v5 : Int32) : q_RP q_TB0 4 141 (142, [(0, .ref 87), (1, .ref 65), (2, .int v2), (3, .int v3), (4, .int v4), (5, .int v5)], [], (q_kN s c n)) (q_oSN c n) (dz_N142_87_65_142 s v2 v3 v4 v5) := by
  unfold dz_N142_87_65_142
  refine q_RP_seg (g2 := (143, [(0, .ref 87), (1, .ref 65), (2, .int v2), (3, .int v3), (4, .int v4), (5, .int v5)], [.int v3], (q_kN s c n))) 1 (fun _ _ => rfl) ?_
  cases h349 : decide (v3 < 0) with
  | true =>
    refine q_RP_cT ?_
    refine q_RP_rsF (g2 := (146, [(0, .ref 87), (1, .ref 65), (2, .int v2), (3, .int v3), (4, .int v4), (5, .int v5)], [], (q_kN s c n))) rfl rfl (q_d_geT h349) ?_
    refine q_RP_seg (g2 := (151, [(0, .ref 87), (1, .ref 65), (2, .int v2), (3, .int v3), (4, .int v4), (5, .int v5)], [.int v5, .int v2, .ref 65, .ref 87], (q_kN s c n))) 4 (fun _ _ => rfl) ?_
    refine q_RP_bd fun r254 er254 => ?_
    refine q_RP_call (v := (some (.int r254.2))) (h2 := (q_kN r254.1 c n)) rfl rfl ((dzt_N158_87_65 s c n v2 v5 r254 er254).le (Nat.le_of_ble_eq_true rfl)) ?_
    show q_RP _ _ _ (154, [(0, .ref 87), (1, .ref 65), (2, .int v2), (3, .int v3), (4, .int v4), (5, .int v5)], [.int r254.2], (q_kN r254.1 c n)) _ _
    refine q_RP_seg (g2 := (226, [(5, .int r254.2), (0, .ref 87), (1, .ref 65), (2, .int v2), (3, .int v3), (4, .int v4)], [], (q_kN (q_sI r254.1 23 4 r254.2) c n))) 5 (fun _ _ => rfl) ?_
    exact q_RP_ret rfl rfl rfl
  | false =>
    refine q_RP_cF ?_
    refine q_RP_rsT (g2 := (159, [(0, .ref 87), (1, .ref 65), (2, .int v2), (3, .int v3), (4, .int v4), (5, .int v5)], [], (q_kN s c n))) rfl rfl (q_d_geF h349) ?_
    refine q_RP_seg (g2 := (161, [(0, .ref 87), (1, .ref 65), (2, .int v2), (3, .int v3), (4, .int v4), (5, .int v5)], [.int v4], (q_kN s c n))) 1 (fun _ _ => rfl) ?_
    cases h364 : decide (v4 = 0) with
    | true =>
      refine q_RP_cT ?_
      refine q_RP_rsF (g2 := (164, [(0, .ref 87), (1, .ref 65), (2, .int v2), (3, .int v3), (4, .int v4), (5, .int v5)], [], (q_kN s c n))) rfl rfl (q_d_neT h364) ?_
      refine q_RP_seg (g2 := (169, [(0, .ref 87), (1, .ref 65), (2, .int v2), (3, .int v3), (4, .int v4), (5, .int v5)], [.int 1, .ref 87, .ref 65, .int v3, .ref 87], (q_kN s c n))) 5 (fun _ _ => rfl) ?_
      refine q_RP_call (v := (some (.int (dz_N140_87 s 1)))) (h2 := (q_kN s c n)) rfl rfl ((dzt_N140_87 s c n 1).le (Nat.le_of_ble_eq_true rfl)) ?_
      generalize dz_N140_87 s 1 = r255
      refine q_RP_let ?_
      show q_RP _ _ _ (172, [(0, .ref 87), (1, .ref 65), (2, .int v2), (3, .int v3), (4, .int v4), (5, .int v5)], [.int r255, .ref 65, .int v3, .ref 87], (q_kN s c n)) _ _
      refine q_RP_bd fun r256 er256 => ?_
      refine q_RP_call (v := (some (.int r256))) (h2 := (q_kN s c n)) rfl rfl ((dzt_N90_65 s c n r255 r256 er256).le (Nat.le_of_ble_eq_true rfl)) ?_
      show q_RP _ _ _ (175, [(0, .ref 87), (1, .ref 65), (2, .int v2), (3, .int v3), (4, .int v4), (5, .int v5)], [.int r256, .int v3, .ref 87], (q_kN s c n)) _ _
      refine q_RP_call (v := none) (h2 := (q_kN (dz_N152_87 s v3 r256) c n)) rfl rfl ((dzt_N152_87 s c n v3 r256).le (Nat.le_of_ble_eq_true rfl)) ?_
      generalize dz_N152_87 s v3 r256 = r309
      refine q_RP_let ?_
      show q_RP _ _ _ (178, [(0, .ref 87), (1, .ref 65), (2, .int v2), (3, .int v3), (4, .int v4), (5, .int v5)], [], (q_kN r309 c n)) _ _
      refine q_RP_seg (g2 := (226, [(0, .ref 87), (1, .ref 65), (2, .int v2), (3, .int v3), (4, .int v4), (5, .int v5)], [], (q_kN (q_sI r309 23 4 v5) c n))) 4 (fun _ _ => rfl) ?_
      exact q_RP_ret rfl rfl rfl
    | false =>
      refine q_RP_cF ?_
      refine q_RP_rsT (g2 := (181, [(0, .ref 87), (1, .ref 65), (2, .int v2), (3, .int v3), (4, .int v4), (5, .int v5)], [], (q_kN s c n))) rfl rfl (q_d_neF h364) ?_
      refine q_RP_seg (g2 := (182, [(0, .ref 87), (1, .ref 65), (2, .int v2), (3, .int v3), (4, .int v4), (5, .int v5)], [.int v3], (q_kN s c n))) 1 (fun _ _ => rfl) ?_
      refine q_RP_call (v := (some (.int (q_b (dz_N188 s v3))))) (h2 := (q_kN s c n)) rfl rfl ((dzt_N188 s c n v3).le (Nat.le_of_ble_eq_true rfl)) ?_
      generalize dz_N188 s v3 = r310
      refine q_RP_let ?_
      show q_RP _ _ _ (185, [(0, .ref 87), (1, .ref 65), (2, .int v2), (3, .int v3), (4, .int v4), (5, .int v5)], [.int (q_b r310)], (q_kN s c n)) _ _
      cases h405 : r310 with
      | true =>
        refine q_RP_cT ?_
        show q_RP _ _ _ (185, [(0, .ref 87), (1, .ref 65), (2, .int v2), (3, .int v3), (4, .int v4), (5, .int v5)], [.int 1], (q_kN s c n)) _ _
        refine q_RP_seg (g2 := (195, [(0, .ref 87), (1, .ref 65), (2, .int v2), (3, .int v3), (4, .int v4), (5, .int v5)], [.int v4, .ref 65, .ref 87, .int v3, .ref 65, .ref 87], (q_kN s c n))) 7 (fun _ _ => rfl) ?_
        refine q_RP_bd fun r314 er314 => ?_
        refine q_RP_call (v := (some (.int r314))) (h2 := (q_kN s c n)) rfl rfl ((dzt_N144_87_65 s c n v4 r314 er314).le (Nat.le_of_ble_eq_true rfl)) ?_
        show q_RP _ _ _ (198, [(0, .ref 87), (1, .ref 65), (2, .int v2), (3, .int v3), (4, .int v4), (5, .int v5)], [.int r314, .int v3, .ref 65, .ref 87], (q_kN s c n)) _ _
        refine q_RP_bd fun r331 er331 => ?_
        refine q_RP_call (v := none) (h2 := (q_kN r331 c n)) rfl rfl ((dzt_N153_87_65 s c n v3 r314 r331 er331).le (Nat.le_of_ble_eq_true rfl)) ?_
        show q_RP _ _ _ (201, [(0, .ref 87), (1, .ref 65), (2, .int v2), (3, .int v3), (4, .int v4), (5, .int v5)], [], (q_kN r331 c n)) _ _
        refine q_RP_seg (g2 := (226, [(0, .ref 87), (1, .ref 65), (2, .int v2), (3, .int v3), (4, .int v4), (5, .int v5)], [], (q_kN (q_sI r331 23 4 v5) c n))) 4 (fun _ _ => rfl) ?_
        exact q_RP_ret rfl rfl rfl
      | false =>
        refine q_RP_cF ?_
        show q_RP _ _ _ (185, [(0, .ref 87), (1, .ref 65), (2, .int v2), (3, .int v3), (4, .int v4), (5, .int v5)], [.int 0], (q_kN s c n)) _ _
        refine q_RP_seg (g2 := (211, [(0, .ref 87), (1, .ref 65), (2, .int v2), (3, .int v3), (4, .int v4), (5, .int v5)], [.int v4, .ref 65, .ref 87, .ref 65, .int v3, .ref 87], (q_kN s c n))) 7 (fun _ _ => rfl) ?_
        refine q_RP_bd fun r332 er332 => ?_
        refine q_RP_call (v := (some (.int r332))) (h2 := (q_kN s c n)) rfl rfl ((dzt_N144_87_65 s c n v4 r332 er332).le (Nat.le_of_ble_eq_true rfl)) ?_
        show q_RP _ _ _ (214, [(0, .ref 87), (1, .ref 65), (2, .int v2), (3, .int v3), (4, .int v4), (5, .int v5)], [.int r332, .ref 65, .int v3, .ref 87], (q_kN s c n)) _ _
        refine q_RP_bd fun r333 er333 => ?_
        refine q_RP_call (v := (some (.int r333.2))) (h2 := (q_kN r333.1 c n)) rfl rfl ((dzt_N93_65 s c n r332 r333 er333).le (Nat.le_of_ble_eq_true rfl)) ?_
        show q_RP _ _ _ (217, [(0, .ref 87), (1, .ref 65), (2, .int v2), (3, .int v3), (4, .int v4), (5, .int v5)], [.int r333.2, .int v3, .ref 87], (q_kN r333.1 c n)) _ _
        refine q_RP_call (v := none) (h2 := (q_kN (dz_N152_87 r333.1 v3 r333.2) c n)) rfl rfl ((dzt_N152_87 r333.1 c n v3 r333.2).le (Nat.le_of_ble_eq_true rfl)) ?_
        generalize dz_N152_87 r333.1 v3 r333.2 = r334
        refine q_RP_let ?_
        show q_RP _ _ _ (220, [(0, .ref 87), (1, .ref 65), (2, .int v2), (3, .int v3), (4, .int v4), (5, .int v5)], [], (q_kN r334 c n)) _ _
        refine q_RP_seg (g2 := (226, [(0, .ref 87), (1, .ref 65), (2, .int v2), (3, .int v3), (4, .int v4), (5, .int v5)], [], (q_kN (q_sI r334 23 4 v5) c n))) 3 (fun _ _ => rfl) ?_
        exact q_RP_ret rfl rfl rfl
def dz_N142_87_65 (s : q_S) : Option (q_S) :=
  cond (decide (s.2.1 23 8 = 0)) ((dz_N90_65 (q_sI (q_sA (q_sI s 23 10 ((s.2.1 23 10) + 1)) 24 (upd (s.1 24) (((s.2.1 23 11) &&& 15).toNatClampNeg) (s.2.1 23 4))) 23 11 ((s.2.1 23 11) + 1)) (s.2.1 23 4)).bind fun r164 => q_let (dz_N186 (q_sI (q_sA (q_sI s 23 10 ((s.2.1 23 10) + 1)) 24 (upd (s.1 24) (((s.2.1 23 11) &&& 15).toNatClampNeg) (s.2.1 23 4))) 23 11 ((s.2.1 23 11) + 1)) r164) fun r165 => q_let (dz_N190 (q_sI (q_sA (q_sI s 23 10 ((s.2.1 23 10) + 1)) 24 (upd (s.1 24) (((s.2.1 23 11) &&& 15).toNatClampNeg) (s.2.1 23 4))) 23 11 ((s.2.1 23 11) + 1)) r164) fun r166 => q_let (dz_N140_87 (q_sI (q_sA (q_sI s 23 10 ((s.2.1 23 10) + 1)) 24 (upd (s.1 24) (((s.2.1 23 11) &&& 15).toNatClampNeg) (s.2.1 23 4))) 23 11 ((s.2.1 23 11) + 1)) r166) fun r167 => cond (decide (r164 = 154)) ((dz_N148_87_65 (q_sI (q_sA (q_sI s 23 10 ((s.2.1 23 10) + 1)) 24 (upd (s.1 24) (((s.2.1 23 11) &&& 15).toNatClampNeg) (s.2.1 23 4))) 23 11 ((s.2.1 23 11) + 1)) r167 (((s.2.1 23 5) ||| 32) ||| 16) 3838).bind fun r175 => some r175) (cond (decide (r165 < 0)) (cond (decide (r164 < 154)) ((dz_N157_87_65 (q_sI (q_sA (q_sI s 23 10 ((s.2.1 23 10) + 1)) 24 (upd (s.1 24) (((s.2.1 23 11) &&& 15).toNatClampNeg) (s.2.1 23 4))) 23 11 ((s.2.1 23 11) + 1)) r164).bind fun r223 => some (q_sI r223 23 4 r167)) (dz_N142_87_65_142 (q_sI (q_sA (q_sI s 23 10 ((s.2.1 23 10) + 1)) 24 (upd (s.1 24) (((s.2.1 23 11) &&& 15).toNatClampNeg) (s.2.1 23 4))) 23 11 ((s.2.1 23 11) + 1)) r164 r165 (r164 &&& 7) r167)) (dz_N142_87_65_142 (q_sI (q_sA (q_sI s 23 10 ((s.2.1 23 10) + 1)) 24 (upd (s.1 24) (((s.2.1 23 11) &&& 15).toNatClampNeg) (s.2.1 23 4))) 23 11 ((s.2.1 23 11) + 1)) r164 r165 (r164 &&& 7) r167))) ((dz_N148_87_65 (q_sI s 23 10 ((s.2.1 23 10) + 1)) (s.2.1 23 4) ((s.2.1 23 5) ||| 32) (s.2.1 23 8)).bind fun r335 => some r335)
set_option maxHeartbeats 4000000 in
theorem dzt_N142_87_65 (s : q_S) (c n : Nat) (x : q_S) (h : dz_N142_87_65 s = some x) : q_Ca q_TB0 5 141 [.ref 87, .ref 65] (q_kN s c n) ((q_oSN c n) x) := by
  refine q_CaP_of (φ := (q_oSN c n)) (Nat.le_of_ble_eq_true rfl) ?_ h
  clear h
  unfold dz_N142_87_65
  refine q_RP_seg (g2 := (5, [(0, .ref 87), (1, .ref 65)], [.int (s.2.1 23 10), .ref 87], (q_kN s c n))) 3 (fun _ _ => rfl) ?_
  refine q_RP_seg (g2 := (14, [(0, .ref 87), (1, .ref 65)], [.int (s.2.1 23 8)], (q_kN (q_sI s 23 10 ((s.2.1 23 10) + 1)) c n))) 5 (fun _ _ => rfl) ?_
  cases h301 : decide (s.2.1 23 8 = 0) with
  | true =>
    refine q_RP_cT ?_
    refine q_RP_rsT (g2 := (38, [(0, .ref 87), (1, .ref 65)], [], (q_kN (q_sI s 23 10 ((s.2.1 23 10) + 1)) c n))) rfl rfl h301 ?_
    refine q_RP_seg (g2 := (46, [(0, .ref 87), (1, .ref 65)], [.int (s.2.1 23 11), .ref 88], (q_kN (q_sI s 23 10 ((s.2.1 23 10) + 1)) c n))) 4 (fun _ _ => rfl) ?_
    refine q_RP_seg (g2 := (53, [(0, .ref 87), (1, .ref 65)], [.int (s.2.1 23 4), .int ((s.2.1 23 11) &&& 15), .ref 88], (q_kN (q_sI s 23 10 ((s.2.1 23 10) + 1)) c n))) 4 (fun _ _ => rfl) ?_
    refine q_RP_rsT (g2 := (54, [(0, .ref 87), (1, .ref 65)], [], (q_kN (q_sA (q_sI s 23 10 ((s.2.1 23 10) + 1)) 24 (upd (s.1 24) (((s.2.1 23 11) &&& 15).toNatClampNeg) (s.2.1 23 4))) c n))) rfl rfl (q_in_bd (x := (s.2.1 23 11) &&& 15) (n := 16) (U := 15) (L := 0) (q_and_lo (s.2.1 23 11) 15) (q_and_hi (s.2.1 23 11) 15 15)) ?_
    refine q_RP_seg (g2 := (59, [(0, .ref 87), (1, .ref 65)], [.int (s.2.1 23 11), .ref 87], (q_kN (q_sA (q_sI s 23 10 ((s.2.1 23 10) + 1)) 24 (upd (s.1 24) (((s.2.1 23 11) &&& 15).toNatClampNeg) (s.2.1 23 4))) c n))) 3 (fun _ _ => rfl) ?_
    refine q_RP_seg (g2 := (69, [(0, .ref 87), (1, .ref 65)], [.int (s.2.1 23 4), .ref 65], (q_kN (q_sI (q_sA (q_sI s 23 10 ((s.2.1 23 10) + 1)) 24 (upd (s.1 24) (((s.2.1 23 11) &&& 15).toNatClampNeg) (s.2.1 23 4))) 23 11 ((s.2.1 23 11) + 1)) c n))) 6 (fun _ _ => rfl) ?_
    refine q_RP_bd fun r164 er164 => ?_
    refine q_RP_call (v := (some (.int r164))) (h2 := (q_kN (q_sI (q_sA (q_sI s 23 10 ((s.2.1 23 10) + 1)) 24 (upd (s.1 24) (((s.2.1 23 11) &&& 15).toNatClampNeg) (s.2.1 23 4))) 23 11 ((s.2.1 23 11) + 1)) c n)) rfl rfl ((dzt_N90_65 (q_sI (q_sA (q_sI s 23 10 ((s.2.1 23 10) + 1)) 24 (upd (s.1 24) (((s.2.1 23 11) &&& 15).toNatClampNeg) (s.2.1 23 4))) 23 11 ((s.2.1 23 11) + 1)) c n (s.2.1 23 4) r164 er164).le (Nat.le_of_ble_eq_true rfl)) ?_
    show q_RP _ _ _ (72, [(0, .ref 87), (1, .ref 65)], [.int r164], (q_kN (q_sI (q_sA (q_sI s 23 10 ((s.2.1 23 10) + 1)) 24 (upd (s.1 24) (((s.2.1 23 11) &&& 15).toNatClampNeg) (s.2.1 23 4))) 23 11 ((s.2.1 23 11) + 1)) c n)) _ _
    refine q_RP_seg (g2 := (74, [(2, .int r164), (0, .ref 87), (1, .ref 65)], [.int r164], (q_kN (q_sI (q_sA (q_sI s 23 10 ((s.2.1 23 10) + 1)) 24 (upd (s.1 24) (((s.2.1 23 11) &&& 15).toNatClampNeg) (s.2.1 23 4))) 23 11 ((s.2.1 23 11) + 1)) c n))) 2 (fun _ _ => rfl) ?_
    refine q_RP_call (v := (some (.int (dz_N186 (q_sI (q_sA (q_sI s 23 10 ((s.2.1 23 10) + 1)) 24 (upd (s.1 24) (((s.2.1 23 11) &&& 15).toNatClampNeg) (s.2.1 23 4))) 23 11 ((s.2.1 23 11) + 1)) r164)))) (h2 := (q_kN (q_sI (q_sA (q_sI s 23 10 ((s.2.1 23 10) + 1)) 24 (upd (s.1 24) (((s.2.1 23 11) &&& 15).toNatClampNeg) (s.2.1 23 4))) 23 11 ((s.2.1 23 11) + 1)) c n)) rfl rfl ((dzt_N186 (q_sI (q_sA (q_sI s 23 10 ((s.2.1 23 10) + 1)) 24 (upd (s.1 24) (((s.2.1 23 11) &&& 15).toNatClampNeg) (s.2.1 23 4))) 23 11 ((s.2.1 23 11) + 1)) c n r164).le (Nat.le_of_ble_eq_true rfl)) ?_
    generalize dz_N186 (q_sI (q_sA (q_sI s 23 10 ((s.2.1 23 10) + 1)) 24 (upd (s.1 24) (((s.2.1 23 11) &&& 15).toNatClampNeg) (s.2.1 23 4))) 23 11 ((s.2.1 23 11) + 1)) r164 = r165
    refine q_RP_let ?_
    show q_RP _ _ _ (77, [(2, .int r164), (0, .ref 87), (1, .ref 65)], [.int r165], (q_kN (q_sI (q_sA (q_sI s 23 10 ((s.2.1 23 10) + 1)) 24 (upd (s.1 24) (((s.2.1 23 11) &&& 15).toNatClampNeg) (s.2.1 23 4))) 23 11 ((s.2.1 23 11) + 1)) c n)) _ _
    refine q_RP_seg (g2 := (86, [(4, .int (r164 &&& 7)), (3, .int r165), (2, .int r164), (0, .ref 87), (1, .ref 65)], [.int r164, .ref 87], (q_kN (q_sI (q_sA (q_sI s 23 10 ((s.2.1 23 10) + 1)) 24 (upd (s.1 24) (((s.2.1 23 11) &&& 15).toNatClampNeg) (s.2.1 23 4))) 23 11 ((s.2.1 23 11) + 1)) c n))) 7 (fun _ _ => rfl) ?_
    refine q_RP_call (v := (some (.int (dz_N190 (q_sI (q_sA (q_sI s 23 10 ((s.2.1 23 10) + 1)) 24 (upd (s.1 24) (((s.2.1 23 11) &&& 15).toNatClampNeg) (s.2.1 23 4))) 23 11 ((s.2.1 23 11) + 1)) r164)))) (h2 := (q_kN (q_sI (q_sA (q_sI s 23 10 ((s.2.1 23 10) + 1)) 24 (upd (s.1 24) (((s.2.1 23 11) &&& 15).toNatClampNeg) (s.2.1 23 4))) 23 11 ((s.2.1 23 11) + 1)) c n)) rfl rfl ((dzt_N190 (q_sI (q_sA (q_sI s 23 10 ((s.2.1 23 10) + 1)) 24 (upd (s.1 24) (((s.2.1 23 11) &&& 15).toNatClampNeg) (s.2.1 23 4))) 23 11 ((s.2.1 23 11) + 1)) c n r164).le (Nat.le_of_ble_eq_true rfl)) ?_
    generalize dz_N190 (q_sI (q_sA (q_sI s 23 10 ((s.2.1 23 10) + 1)) 24 (upd (s.1 24) (((s.2.1 23 11) &&& 15).toNatClampNeg) (s.2.1 23 4))) 23 11 ((s.2.1 23 11) + 1)) r164 = r166
    refine q_RP_let ?_
    show q_RP _ _ _ (89, [(4, .int (r164 &&& 7)), (3, .int r165), (2, .int r164), (0, .ref 87), (1, .ref 65)], [.int r166, .ref 87], (q_kN (q_sI (q_sA (q_sI s 23 10 ((s.2.1 23 10) + 1)) 24 (upd (s.1 24) (((s.2.1 23 11) &&& 15).toNatClampNeg) (s.2.1 23 4))) 23 11 ((s.2.1 23 11) + 1)) c n)) _ _
    refine q_RP_call (v := (some (.int (dz_N140_87 (q_sI (q_sA (q_sI s 23 10 ((s.2.1 23 10) + 1)) 24 (upd (s.1 24) (((s.2.1 23 11) &&& 15).toNatClampNeg) (s.2.1 23 4))) 23 11 ((s.2.1 23 11) + 1)) r166)))) (h2 := (q_kN (q_sI (q_sA (q_sI s 23 10 ((s.2.1 23 10) + 1)) 24 (upd (s.1 24) (((s.2.1 23 11) &&& 15).toNatClampNeg) (s.2.1 23 4))) 23 11 ((s.2.1 23 11) + 1)) c n)) rfl rfl ((dzt_N140_87 (q_sI (q_sA (q_sI s 23 10 ((s.2.1 23 10) + 1)) 24 (upd (s.1 24) (((s.2.1 23 11) &&& 15).toNatClampNeg) (s.2.1 23 4))) 23 11 ((s.2.1 23 11) + 1)) c n r166).le (Nat.le_of_ble_eq_true rfl)) ?_
    generalize dz_N140_87 (q_sI (q_sA (q_sI s 23 10 ((s.2.1 23 10) + 1)) 24 (upd (s.1 24) (((s.2.1 23 11) &&& 15).toNatClampNeg) (s.2.1 23 4))) 23 11 ((s.2.1 23 11) + 1)) r166 = r167
    refine q_RP_let ?_
    show q_RP _ _ _ (92, [(4, .int (r164 &&& 7)), (3, .int r165), (2, .int r164), (0, .ref 87), (1, .ref 65)], [.int r167], (q_kN (q_sI (q_sA (q_sI s 23 10 ((s.2.1 23 10) + 1)) 24 (upd (s.1 24) (((s.2.1 23 11) &&& 15).toNatClampNeg) (s.2.1 23 4))) 23 11 ((s.2.1 23 11) + 1)) c n)) _ _
    refine q_RP_seg (g2 := (98, [(5, .int r167), (4, .int (r164 &&& 7)), (3, .int r165), (2, .int r164), (0, .ref 87), (1, .ref 65)], [.int 154, .int r164], (q_kN (q_sI (q_sA (q_sI s 23 10 ((s.2.1 23 10) + 1)) 24 (upd (s.1 24) (((s.2.1 23 11) &&& 15).toNatClampNeg) (s.2.1 23 4))) 23 11 ((s.2.1 23 11) + 1)) c n))) 3 (fun _ _ => rfl) ?_
    cases h302 : decide (r164 = 154) with
    | true =>
      refine q_RP_cT ?_
      refine q_RP_rsF (g2 := (101, [(5, .int r167), (4, .int (r164 &&& 7)), (3, .int r165), (2, .int r164), (0, .ref 87), (1, .ref 65)], [], (q_kN (q_sI (q_sA (q_sI s 23 10 ((s.2.1 23 10) + 1)) 24 (upd (s.1 24) (((s.2.1 23 11) &&& 15).toNatClampNeg) (s.2.1 23 4))) 23 11 ((s.2.1 23 11) + 1)) c n))) rfl rfl (q_d_neT h302) ?_
      refine q_RP_seg (g2 := (109, [(5, .int r167), (4, .int (r164 &&& 7)), (3, .int r165), (2, .int r164), (0, .ref 87), (1, .ref 65)], [.int (s.2.1 23 5), .int r167, .ref 65, .ref 87], (q_kN (q_sI (q_sA (q_sI s 23 10 ((s.2.1 23 10) + 1)) 24 (upd (s.1 24) (((s.2.1 23 11) &&& 15).toNatClampNeg) (s.2.1 23 4))) 23 11 ((s.2.1 23 11) + 1)) c n))) 5 (fun _ _ => rfl) ?_
      refine q_RP_seg (g2 := (118, [(5, .int r167), (4, .int (r164 &&& 7)), (3, .int r165), (2, .int r164), (0, .ref 87), (1, .ref 65)], [.int 3838, .int (((s.2.1 23 5) ||| 32) ||| 16), .int r167, .ref 65, .ref 87], (q_kN (q_sI (q_sA (q_sI s 23 10 ((s.2.1 23 10) + 1)) 24 (upd (s.1 24) (((s.2.1 23 11) &&& 15).toNatClampNeg) (s.2.1 23 4))) 23 11 ((s.2.1 23 11) + 1)) c n))) 5 (fun _ _ => rfl) ?_
      refine q_RP_bd fun r175 er175 => ?_
      refine q_RP_call (v := none) (h2 := (q_kN r175 c n)) rfl rfl ((dzt_N148_87_65 (q_sI (q_sA (q_sI s 23 10 ((s.2.1 23 10) + 1)) 24 (upd (s.1 24) (((s.2.1 23 11) &&& 15).toNatClampNeg) (s.2.1 23 4))) 23 11 ((s.2.1 23 11) + 1)) c n r167 (((s.2.1 23 5) ||| 32) ||| 16) 3838 r175 er175).le (Nat.le_of_ble_eq_true rfl)) ?_
      show q_RP _ _ _ (121, [(5, .int r167), (4, .int (r164 &&& 7)), (3, .int r165), (2, .int r164), (0, .ref 87), (1, .ref 65)], [], (q_kN r175 c n)) _ _
      exact q_RP_ret rfl rfl rfl
    | false =>
      refine q_RP_cF ?_
      refine q_RP_rsT (g2 := (122, [(5, .int r167), (4, .int (r164 &&& 7)), (3, .int r165), (2, .int r164), (0, .ref 87), (1, .ref 65)], [], (q_kN (q_sI (q_sA (q_sI s 23 10 ((s.2.1 23 10) + 1)) 24 (upd (s.1 24) (((s.2.1 23 11) &&& 15).toNatClampNeg) (s.2.1 23 4))) 23 11 ((s.2.1 23 11) + 1)) c n))) rfl rfl (q_d_neF h302) ?_
      refine q_RP_seg (g2 := (123, [(5, .int r167), (4, .int (r164 &&& 7)), (3, .int r165), (2, .int r164), (0, .ref 87), (1, .ref 65)], [.int r165], (q_kN (q_sI (q_sA (q_sI s 23 10 ((s.2.1 23 10) + 1)) 24 (upd (s.1 24) (((s.2.1 23 11) &&& 15).toNatClampNeg) (s.2.1 23 4))) 23 11 ((s.2.1 23 11) + 1)) c n))) 1 (fun _ _ => rfl) ?_
      cases h303 : decide (r165 < 0) with
      | true =>
        refine q_RP_cT ?_
        refine q_RP_rsF (g2 := (126, [(5, .int r167), (4, .int (r164 &&& 7)), (3, .int r165), (2, .int r164), (0, .ref 87), (1, .ref 65)], [], (q_kN (q_sI (q_sA (q_sI s 23 10 ((s.2.1 23 10) + 1)) 24 (upd (s.1 24) (((s.2.1 23 11) &&& 15).toNatClampNeg) (s.2.1 23 4))) 23 11 ((s.2.1 23 11) + 1)) c n))) rfl rfl (q_d_geT h303) ?_
        refine q_RP_seg (g2 := (130, [(5, .int r167), (4, .int (r164 &&& 7)), (3, .int r165), (2, .int r164), (0, .ref 87), (1, .ref 65)], [.int 154, .int r164], (q_kN (q_sI (q_sA (q_sI s 23 10 ((s.2.1 23 10) + 1)) 24 (upd (s.1 24) (((s.2.1 23 11) &&& 15).toNatClampNeg) (s.2.1 23 4))) 23 11 ((s.2.1 23 11) + 1)) c n))) 2 (fun _ _ => rfl) ?_
        cases h304 : decide (r164 < 154) with
        | true =>
          refine q_RP_cT ?_
          refine q_RP_rsF (g2 := (133, [(5, .int r167), (4, .int (r164 &&& 7)), (3, .int r165), (2, .int r164), (0, .ref 87), (1, .ref 65)], [], (q_kN (q_sI (q_sA (q_sI s 23 10 ((s.2.1 23 10) + 1)) 24 (upd (s.1 24) (((s.2.1 23 11) &&& 15).toNatClampNeg) (s.2.1 23 4))) 23 11 ((s.2.1 23 11) + 1)) c n))) rfl rfl (q_d_geT h304) ?_
          refine q_RP_seg (g2 := (136, [(5, .int r167), (4, .int (r164 &&& 7)), (3, .int r165), (2, .int r164), (0, .ref 87), (1, .ref 65)], [.int r164, .ref 65, .ref 87], (q_kN (q_sI (q_sA (q_sI s 23 10 ((s.2.1 23 10) + 1)) 24 (upd (s.1 24) (((s.2.1 23 11) &&& 15).toNatClampNeg) (s.2.1 23 4))) 23 11 ((s.2.1 23 11) + 1)) c n))) 3 (fun _ _ => rfl) ?_
          refine q_RP_bd fun r223 er223 => ?_
          refine q_RP_call (v := none) (h2 := (q_kN r223 c n)) rfl rfl ((dzt_N157_87_65 (q_sI (q_sA (q_sI s 23 10 ((s.2.1 23 10) + 1)) 24 (upd (s.1 24) (((s.2.1 23 11) &&& 15).toNatClampNeg) (s.2.1 23 4))) 23 11 ((s.2.1 23 11) + 1)) c n r164 r223 er223).le (Nat.le_of_ble_eq_true rfl)) ?_
          show q_RP _ _ _ (139, [(5, .int r167), (4, .int (r164 &&& 7)), (3, .int r165), (2, .int r164), (0, .ref 87), (1, .ref 65)], [], (q_kN r223 c n)) _ _
          refine q_RP_seg (g2 := (226, [(5, .int r167), (4, .int (r164 &&& 7)), (3, .int r165), (2, .int r164), (0, .ref 87), (1, .ref 65)], [], (q_kN (q_sI r223 23 4 r167) c n))) 4 (fun _ _ => rfl) ?_
          exact q_RP_ret rfl rfl rfl
        | false =>
          refine q_RP_cF ?_
          refine q_RP_rsT (g2 := (142, [(5, .int r167), (4, .int (r164 &&& 7)), (3, .int r165), (2, .int r164), (0, .ref 87), (1, .ref 65)], [], (q_kN (q_sI (q_sA (q_sI s 23 10 ((s.2.1 23 10) + 1)) 24 (upd (s.1 24) (((s.2.1 23 11) &&& 15).toNatClampNeg) (s.2.1 23 4))) 23 11 ((s.2.1 23 11) + 1)) c n))) rfl rfl (q_d_geF h304) ?_
          exact q_RP_xt (q_xt_mk (q_mn1 4 rfl (q_mn1 5 rfl (q_mn1 3 rfl (q_mn1 2 rfl (q_mn1 1 rfl (q_mn1 0 rfl q_mn0)))))) rfl) (dzt_N142_87_65_142 c n (q_sI (q_sA (q_sI s 23 10 ((s.2.1 23 10) + 1)) 24 (upd (s.1 24) (((s.2.1 23 11) &&& 15).toNatClampNeg) (s.2.1 23 4))) 23 11 ((s.2.1 23 11) + 1)) r164 r165 (r164 &&& 7) r167)
      | false =>
        refine q_RP_cF ?_
        refine q_RP_rsT (g2 := (142, [(5, .int r167), (4, .int (r164 &&& 7)), (3, .int r165), (2, .int r164), (0, .ref 87), (1, .ref 65)], [], (q_kN (q_sI (q_sA (q_sI s 23 10 ((s.2.1 23 10) + 1)) 24 (upd (s.1 24) (((s.2.1 23 11) &&& 15).toNatClampNeg) (s.2.1 23 4))) 23 11 ((s.2.1 23 11) + 1)) c n))) rfl rfl (q_d_geF h303) ?_
        exact q_RP_xt (q_xt_mk (q_mn1 4 rfl (q_mn1 5 rfl (q_mn1 3 rfl (q_mn1 2 rfl (q_mn1 1 rfl (q_mn1 0 rfl q_mn0)))))) rfl) (dzt_N142_87_65_142 c n (q_sI (q_sA (q_sI s 23 10 ((s.2.1 23 10) + 1)) 24 (upd (s.1 24) (((s.2.1 23 11) &&& 15).toNatClampNeg) (s.2.1 23 4))) 23 11 ((s.2.1 23 11) + 1)) r164 r165 (r164 &&& 7) r167)
  | false =>
    refine q_RP_cF ?_
    refine q_RP_rsF (g2 := (17, [(0, .ref 87), (1, .ref 65)], [], (q_kN (q_sI s 23 10 ((s.2.1 23 10) + 1)) c n))) rfl rfl h301 ?_
    refine q_RP_seg (g2 := (23, [(0, .ref 87), (1, .ref 65)], [.int (s.2.1 23 4), .ref 65, .ref 87], (q_kN (q_sI s 23 10 ((s.2.1 23 10) + 1)) c n))) 4 (fun _ _ => rfl) ?_
    refine q_RP_seg (g2 := (27, [(0, .ref 87), (1, .ref 65)], [.int (s.2.1 23 5), .int (s.2.1 23 4), .ref 65, .ref 87], (q_kN (q_sI s 23 10 ((s.2.1 23 10) + 1)) c n))) 2 (fun _ _ => rfl) ?_
    refine q_RP_seg (g2 := (34, [(0, .ref 87), (1, .ref 65)], [.int (s.2.1 23 8), .int ((s.2.1 23 5) ||| 32), .int (s.2.1 23 4), .ref 65, .ref 87], (q_kN (q_sI s 23 10 ((s.2.1 23 10) + 1)) c n))) 4 (fun _ _ => rfl) ?_
    refine q_RP_bd fun r335 er335 => ?_
    refine q_RP_call (v := none) (h2 := (q_kN r335 c n)) rfl rfl ((dzt_N148_87_65 (q_sI s 23 10 ((s.2.1 23 10) + 1)) c n (s.2.1 23 4) ((s.2.1 23 5) ||| 32) (s.2.1 23 8) r335 er335).le (Nat.le_of_ble_eq_true rfl)) ?_
    show q_RP _ _ _ (37, [(0, .ref 87), (1, .ref 65)], [], (q_kN r335 c n)) _ _
    exact q_RP_ret rfl rfl rfl
def dz_N82_64_f_69 (k14 : q_S → Int32 → Int32 → Int32 → Int32 → Int32 → Option (q_S × Int32)) (s : q_S) (v1 : Int32) (v2 : Int32) (v3 : Int32) (v4 : Int32) (v5 : Int32) : Option (q_S × Int32) :=
  q_let (dz_N141_87 s) fun r162 => cond r162.2 ((dz_N142_87_65 r162.1).bind fun r336 => q_let (dz_N107_65 r336) fun r337 => k14 r337 v1 v2 v3 (v4 + 1) v5) (q_let (dz_N107_65 r162.1) fun r338 => k14 r338 v1 v2 v3 (v4 + 1) v5)
set_option maxHeartbeats 4000000 in
theorem dzt_N82_64_f_69 (c n : Nat) (k14 : q_S → Int32 → Int32 → Int32 → Int32 → Int32 → Option (q_S × Int32)) (s : q_S) (hk14 : ∀ (s : q_S) (v1 : Int32) (v2 : Int32) (v3 : Int32) (v4 : Int32) (v5 : Int32), q_RP q_TB0 5 81 (14, [(0, .ref 64), (1, .int v1), (2, .int v2), (3, .int v3), (4, .int v4), (5, .int v5)], [], (q_kN s c n)) (q_oIN c n) (k14 s v1 v2 v3 v4 v5)) (v1 : Int32) (v2 : Int32) (v3 : Int32) (v4 : Int32) (v5 : Int32) : q_RP q_TB0 5 81 (69, [(0, .ref 64), (1, .int v1), (2, .int v2), (3, .int v3), (4, .int v4), (5, .int v5)], [], (q_kN s c n)) (q_oIN c n) (dz_N82_64_f_69 k14 s v1 v2 v3 v4 v5) := by
  unfold dz_N82_64_f_69
  refine q_RP_seg (g2 := (73, [(0, .ref 64), (1, .int v1), (2, .int v2), (3, .int v3), (4, .int v4), (5, .int v5)], [.ref 87], (q_kN s c n))) 2 (fun _ _ => rfl) ?_
  refine q_RP_call (v := (some (.int (q_b (dz_N141_87 s).2)))) (h2 := (q_kN (dz_N141_87 s).1 c n)) rfl rfl ((dzt_N141_87 s c n).le (Nat.le_of_ble_eq_true rfl)) ?_
  generalize dz_N141_87 s = r162
  refine q_RP_let ?_
  show q_RP _ _ _ (76, [(0, .ref 64), (1, .int v1), (2, .int v2), (3, .int v3), (4, .int v4), (5, .int v5)], [.int (q_b r162.2)], (q_kN r162.1 c n)) _ _
  cases h299 : r162.2 with
  | true =>
    refine q_RP_cT ?_
    show q_RP _ _ _ (76, [(0, .ref 64), (1, .int v1), (2, .int v2), (3, .int v3), (4, .int v4), (5, .int v5)], [.int 1], (q_kN r162.1 c n)) _ _
    refine q_RP_seg (g2 := (87, [(0, .ref 64), (1, .int v1), (2, .int v2), (3, .int v3), (4, .int v4), (5, .int v5)], [.ref 65, .ref 87], (q_kN r162.1 c n))) 5 (fun _ _ => rfl) ?_
    refine q_RP_bd fun r336 er336 => ?_
    refine q_RP_call (v := none) (h2 := (q_kN r336 c n)) rfl rfl ((dzt_N142_87_65 r162.1 c n r336 er336).le (Nat.le_of_ble_eq_true rfl)) ?_
    show q_RP _ _ _ (90, [(0, .ref 64), (1, .int v1), (2, .int v2), (3, .int v3), (4, .int v4), (5, .int v5)], [], (q_kN r336 c n)) _ _
    refine q_RP_seg (g2 := (94, [(0, .ref 64), (1, .int v1), (2, .int v2), (3, .int v3), (4, .int v4), (5, .int v5)], [.ref 65], (q_kN r336 c n))) 2 (fun _ _ => rfl) ?_
    refine q_RP_call (v := none) (h2 := (q_kN (dz_N107_65 r336) c n)) rfl rfl ((dzt_N107_65 r336 c n).le (Nat.le_of_ble_eq_true rfl)) ?_
    generalize dz_N107_65 r336 = r337
    refine q_RP_let ?_
    show q_RP _ _ _ (97, [(0, .ref 64), (1, .int v1), (2, .int v2), (3, .int v3), (4, .int v4), (5, .int v5)], [], (q_kN r337 c n)) _ _
    refine q_RP_seg (g2 := (14, [(4, .int (v4 + 1)), (0, .ref 64), (1, .int v1), (2, .int v2), (3, .int v3), (5, .int v5)], [], (q_kN r337 c n))) 2 (fun _ _ => rfl) ?_
    exact q_RP_xt (q_xt_mk (q_mn1 1 rfl (q_mn1 2 rfl (q_mn1 3 rfl (q_mn1 4 rfl (q_mn1 0 rfl (q_mn1 5 rfl q_mn0)))))) rfl) (hk14 r337 v1 v2 v3 (v4 + 1) v5)
  | false =>
    refine q_RP_cF ?_
    show q_RP _ _ _ (76, [(0, .ref 64), (1, .int v1), (2, .int v2), (3, .int v3), (4, .int v4), (5, .int v5)], [.int 0], (q_kN r162.1 c n)) _ _
    refine q_RP_seg (g2 := (94, [(0, .ref 64), (1, .int v1), (2, .int v2), (3, .int v3), (4, .int v4), (5, .int v5)], [.ref 65], (q_kN r162.1 c n))) 3 (fun _ _ => rfl) ?_
    refine q_RP_call (v := none) (h2 := (q_kN (dz_N107_65 r162.1) c n)) rfl rfl ((dzt_N107_65 r162.1 c n).le (Nat.le_of_ble_eq_true rfl)) ?_
    generalize dz_N107_65 r162.1 = r338
    refine q_RP_let ?_
    show q_RP _ _ _ (97, [(0, .ref 64), (1, .int v1), (2, .int v2), (3, .int v3), (4, .int v4), (5, .int v5)], [], (q_kN r338 c n)) _ _
    refine q_RP_seg (g2 := (14, [(4, .int (v4 + 1)), (0, .ref 64), (1, .int v1), (2, .int v2), (3, .int v3), (5, .int v5)], [], (q_kN r338 c n))) 2 (fun _ _ => rfl) ?_
    exact q_RP_xt (q_xt_mk (q_mn1 1 rfl (q_mn1 2 rfl (q_mn1 3 rfl (q_mn1 4 rfl (q_mn1 0 rfl (q_mn1 5 rfl q_mn0)))))) rfl) (hk14 r338 v1 v2 v3 (v4 + 1) v5)
def dz_N82_64_f_35 (k14 : q_S → Int32 → Int32 → Int32 → Int32 → Int32 → Option (q_S × Int32)) (s : q_S) (v1 : Int32) (v2 : Int32) (v3 : Int32) (v4 : Int32) (v5 : Int32) : Option (q_S × Int32) :=
  (dz_N83_64 s).bind fun r122 => cond r122.2 (q_let (dz_N107_65 r122.1) fun r127 => k14 r127 v1 v2 v3 (v4 + 1) (v5 + 1)) (cond (decide (r122.1.2.1 23 9 = 0)) ((dz_N136_87_65 r122.1).bind fun r161 => dz_N82_64_f_69 k14 r161 v1 v2 v3 v4 v5) (dz_N82_64_f_69 k14 r122.1 v1 v2 v3 v4 v5))
set_option maxHeartbeats 4000000 in
theorem dzt_N82_64_f_35 (c n : Nat) (k14 : q_S → Int32 → Int32 → Int32 → Int32 → Int32 → Option (q_S × Int32)) (s : q_S) (hk14 : ∀ (s : q_S) (v1 : Int32) (v2 : Int32) (v3 : Int32) (v4 : Int32) (v5 : Int32), q_RP q_TB0 5 81 (14, [(0, .ref 64), (1, .int v1), (2, .int v2), (3, .int v3), (4, .int v4), (5, .int v5)], [], (q_kN s c n)) (q_oIN c n) (k14 s v1 v2 v3 v4 v5)) (v1 : Int32) (v2 : Int32) (v3 : Int32) (v4 : Int32) (v5 : Int32) : q_RP q_TB0 5 81 (35, [(0, .ref 64), (1, .int v1), (2, .int v2), (3, .int v3), (4, .int v4), (5, .int v5)], [], (q_kN s c n)) (q_oIN c n) (dz_N82_64_f_35 k14 s v1 v2 v3 v4 v5) := by
  unfold dz_N82_64_f_35
  refine q_RP_seg (g2 := (36, [(0, .ref 64), (1, .int v1), (2, .int v2), (3, .int v3), (4, .int v4), (5, .int v5)], [.ref 64], (q_kN s c n))) 1 (fun _ _ => rfl) ?_
  refine q_RP_bd fun r122 er122 => ?_
  refine q_RP_call (v := (some (.int (q_b r122.2)))) (h2 := (q_kN r122.1 c n)) rfl rfl ((dzt_N83_64 s c n r122 er122).le (Nat.le_of_ble_eq_true rfl)) ?_
  show q_RP _ _ _ (39, [(0, .ref 64), (1, .int v1), (2, .int v2), (3, .int v3), (4, .int v4), (5, .int v5)], [.int (q_b r122.2)], (q_kN r122.1 c n)) _ _
  cases h232 : r122.2 with
  | true =>
    refine q_RP_cT ?_
    show q_RP _ _ _ (39, [(0, .ref 64), (1, .int v1), (2, .int v2), (3, .int v3), (4, .int v4), (5, .int v5)], [.int 1], (q_kN r122.1 c n)) _ _
    refine q_RP_seg (g2 := (94, [(5, .int (v5 + 1)), (0, .ref 64), (1, .int v1), (2, .int v2), (3, .int v3), (4, .int v4)], [.ref 65], (q_kN r122.1 c n))) 5 (fun _ _ => rfl) ?_
    refine q_RP_call (v := none) (h2 := (q_kN (dz_N107_65 r122.1) c n)) rfl rfl ((dzt_N107_65 r122.1 c n).le (Nat.le_of_ble_eq_true rfl)) ?_
    generalize dz_N107_65 r122.1 = r127
    refine q_RP_let ?_
    show q_RP _ _ _ (97, [(5, .int (v5 + 1)), (0, .ref 64), (1, .int v1), (2, .int v2), (3, .int v3), (4, .int v4)], [], (q_kN r127 c n)) _ _
    refine q_RP_seg (g2 := (14, [(4, .int (v4 + 1)), (5, .int (v5 + 1)), (0, .ref 64), (1, .int v1), (2, .int v2), (3, .int v3)], [], (q_kN r127 c n))) 2 (fun _ _ => rfl) ?_
    exact q_RP_xt (q_xt_mk (q_mn1 2 rfl (q_mn1 3 rfl (q_mn1 4 rfl (q_mn1 5 rfl (q_mn1 0 rfl (q_mn1 1 rfl q_mn0)))))) rfl) (hk14 r127 v1 v2 v3 (v4 + 1) (v5 + 1))
  | false =>
    refine q_RP_cF ?_
    show q_RP _ _ _ (39, [(0, .ref 64), (1, .int v1), (2, .int v2), (3, .int v3), (4, .int v4), (5, .int v5)], [.int 0], (q_kN r122.1 c n)) _ _
    refine q_RP_seg (g2 := (55, [(0, .ref 64), (1, .int v1), (2, .int v2), (3, .int v3), (4, .int v4), (5, .int v5)], [.int (r122.1.2.1 23 9)], (q_kN r122.1 c n))) 4 (fun _ _ => rfl) ?_
    cases h235 : decide (r122.1.2.1 23 9 = 0) with
    | true =>
      refine q_RP_cT ?_
      refine q_RP_rsF (g2 := (58, [(0, .ref 64), (1, .int v1), (2, .int v2), (3, .int v3), (4, .int v4), (5, .int v5)], [], (q_kN r122.1 c n))) rfl rfl (q_d_neT h235) ?_
      refine q_RP_seg (g2 := (66, [(0, .ref 64), (1, .int v1), (2, .int v2), (3, .int v3), (4, .int v4), (5, .int v5)], [.ref 65, .ref 87], (q_kN r122.1 c n))) 4 (fun _ _ => rfl) ?_
      refine q_RP_bd fun r161 er161 => ?_
      refine q_RP_call (v := none) (h2 := (q_kN r161 c n)) rfl rfl ((dzt_N136_87_65 r122.1 c n r161 er161).le (Nat.le_of_ble_eq_true rfl)) ?_
      show q_RP _ _ _ (69, [(0, .ref 64), (1, .int v1), (2, .int v2), (3, .int v3), (4, .int v4), (5, .int v5)], [], (q_kN r161 c n)) _ _
      exact (dzt_N82_64_f_69 c n k14 r161 hk14 v1 v2 v3 v4 v5)
    | false =>
      refine q_RP_cF ?_
      refine q_RP_rsT (g2 := (69, [(0, .ref 64), (1, .int v1), (2, .int v2), (3, .int v3), (4, .int v4), (5, .int v5)], [], (q_kN r122.1 c n))) rfl rfl (q_d_neF h235) ?_
      exact (dzt_N82_64_f_69 c n k14 r122.1 hk14 v1 v2 v3 v4 v5)
def dz_N82_64_f_103 (s : q_S) (v2 : Int32) (v4 : Int32) (v5 : Int32) : Option (q_S × Int32) :=
  cond (decide (v2 = 0)) (some ((q_sJ s 0 4 ((s.2.2 0 4) + v5.toInt64)), v5)) (some ((q_sJ s 0 4 ((s.2.2 0 4) + v5.toInt64)), v4))
set_option maxHeartbeats 4000000 in
theorem dzt_N82_64_f_103 (c n : Nat) (s : q_S) (v2 : Int32) (v4 : Int32) (v5 : Int32) : q_RP q_TB0 5 81 (103, [(0, .ref 64), (2, .int v2), (4, .int v4), (5, .int v5)], [], (q_kN s c n)) (q_oIN c n) (dz_N82_64_f_103 s v2 v4 v5) := by
  unfold dz_N82_64_f_103
  refine q_RP_seg (g2 := (108, [(0, .ref 64), (2, .int v2), (4, .int v4), (5, .int v5)], [.long (s.2.2 0 4), .ref 64], (q_kN s c n))) 3 (fun _ _ => rfl) ?_
  refine q_RP_seg (g2 := (116, [(0, .ref 64), (2, .int v2), (4, .int v4), (5, .int v5)], [.int v2], (q_kN (q_sJ s 0 4 ((s.2.2 0 4) + v5.toInt64)) c n))) 5 (fun _ _ => rfl) ?_
  cases h419 : decide (v2 = 0) with
  | true =>
    refine q_RP_cT ?_
    refine q_RP_rsT (g2 := (124, [(0, .ref 64), (2, .int v2), (4, .int v4), (5, .int v5)], [], (q_kN (q_sJ s 0 4 ((s.2.2 0 4) + v5.toInt64)) c n))) rfl rfl h419 ?_
    refine q_RP_seg (g2 := (126, [(0, .ref 64), (2, .int v2), (4, .int v4), (5, .int v5)], [.int v5], (q_kN (q_sJ s 0 4 ((s.2.2 0 4) + v5.toInt64)) c n))) 1 (fun _ _ => rfl) ?_
    exact q_RP_ret rfl rfl rfl
  | false =>
    refine q_RP_cF ?_
    refine q_RP_rsF (g2 := (119, [(0, .ref 64), (2, .int v2), (4, .int v4), (5, .int v5)], [], (q_kN (q_sJ s 0 4 ((s.2.2 0 4) + v5.toInt64)) c n))) rfl rfl h419 ?_
    refine q_RP_seg (g2 := (126, [(0, .ref 64), (2, .int v2), (4, .int v4), (5, .int v5)], [.int v4], (q_kN (q_sJ s 0 4 ((s.2.2 0 4) + v5.toInt64)) c n))) 2 (fun _ _ => rfl) ?_
    exact q_RP_ret rfl rfl rfl
def dz_N82_64_f_14 (m : Nat) : q_S → Int32 → Int32 → Int32 → Int32 → Int32 → Option (q_S × Int32) := Nat.rec (motive := fun _ => q_S → Int32 → Int32 → Int32 → Int32 → Int32 → Option (q_S × Int32)) (fun _ _ _ _ _ _ => none) (fun _ k14 s v1 v2 v3 v4 v5 =>
  cond (decide (v4 < v1)) (cond (decide (v2 = 0)) (dz_N82_64_f_35 k14 s v1 v2 v3 v4 v5) (cond (decide (s.2.1 23 10 = v3)) (dz_N82_64_f_35 k14 s v1 v2 v3 v4 v5) (dz_N82_64_f_103 s v2 v4 v5))) (dz_N82_64_f_103 s v2 v4 v5)) m
theorem dzs_N82_64_f_14 (m : Nat) (s : q_S) (v1 : Int32) (v2 : Int32) (v3 : Int32) (v4 : Int32) (v5 : Int32) : dz_N82_64_f_14 (m + 1) s v1 v2 v3 v4 v5 = (fun k14 : q_S → Int32 → Int32 → Int32 → Int32 → Int32 → Option (q_S × Int32) =>
  cond (decide (v4 < v1)) (cond (decide (v2 = 0)) (dz_N82_64_f_35 k14 s v1 v2 v3 v4 v5) (cond (decide (s.2.1 23 10 = v3)) (dz_N82_64_f_35 k14 s v1 v2 v3 v4 v5) (dz_N82_64_f_103 s v2 v4 v5))) (dz_N82_64_f_103 s v2 v4 v5)) (dz_N82_64_f_14 m) := rfl
set_option maxHeartbeats 4000000 in
theorem dzt_N82_64_f_14 (c n : Nat) : ∀ (m : Nat) (s : q_S) (v1 : Int32) (v2 : Int32) (v3 : Int32) (v4 : Int32) (v5 : Int32), q_RP q_TB0 5 81 (14, [(0, .ref 64), (1, .int v1), (2, .int v2), (3, .int v3), (4, .int v4), (5, .int v5)], [], (q_kN s c n)) (q_oIN c n) (dz_N82_64_f_14 m s v1 v2 v3 v4 v5) := by
  intro m
  induction m with
  | zero => intro s v1 v2 v3 v4 v5; exact q_RP_no
  | succ m ih =>
    intro s v1 v2 v3 v4 v5
    have hk14 := ih
    clear ih
    rw [dzs_N82_64_f_14]
    generalize dz_N82_64_f_14 m = k14 at hk14 ⊢
    dsimp only
    refine q_RP_seg (g2 := (17, [(0, .ref 64), (1, .int v1), (2, .int v2), (3, .int v3), (4, .int v4), (5, .int v5)], [.int v1, .int v4], (q_kN s c n))) 2 (fun _ _ => rfl) ?_
    cases h85 : decide (v4 < v1) with
    | true =>
      refine q_RP_cT ?_
      refine q_RP_rsF (g2 := (20, [(0, .ref 64), (1, .int v1), (2, .int v2), (3, .int v3), (4, .int v4), (5, .int v5)], [], (q_kN s c n))) rfl rfl (q_d_geT h85) ?_
      refine q_RP_seg (g2 := (21, [(0, .ref 64), (1, .int v1), (2, .int v2), (3, .int v3), (4, .int v4), (5, .int v5)], [.int v2], (q_kN s c n))) 1 (fun _ _ => rfl) ?_
      cases h86 : decide (v2 = 0) with
      | true =>
        refine q_RP_cT ?_
        refine q_RP_rsT (g2 := (35, [(0, .ref 64), (1, .int v1), (2, .int v2), (3, .int v3), (4, .int v4), (5, .int v5)], [], (q_kN s c n))) rfl rfl h86 ?_
        exact (dzt_N82_64_f_35 c n k14 s hk14 v1 v2 v3 v4 v5)
      | false =>
        refine q_RP_cF ?_
        refine q_RP_rsF (g2 := (24, [(0, .ref 64), (1, .int v1), (2, .int v2), (3, .int v3), (4, .int v4), (5, .int v5)], [], (q_kN s c n))) rfl rfl h86 ?_
        refine q_RP_seg (g2 := (31, [(0, .ref 64), (1, .int v1), (2, .int v2), (3, .int v3), (4, .int v4), (5, .int v5)], [.int (s.2.1 23 10)], (q_kN s c n))) 3 (fun _ _ => rfl) ?_
        refine q_RP_seg (g2 := (32, [(0, .ref 64), (1, .int v1), (2, .int v2), (3, .int v3), (4, .int v4), (5, .int v5)], [.int v3, .int (s.2.1 23 10)], (q_kN s c n))) 1 (fun _ _ => rfl) ?_
        cases h418 : decide (s.2.1 23 10 = v3) with
        | true =>
          refine q_RP_cT ?_
          refine q_RP_rsF (g2 := (35, [(0, .ref 64), (1, .int v1), (2, .int v2), (3, .int v3), (4, .int v4), (5, .int v5)], [], (q_kN s c n))) rfl rfl (q_d_neT h418) ?_
          exact (dzt_N82_64_f_35 c n k14 s hk14 v1 v2 v3 v4 v5)
        | false =>
          refine q_RP_cF ?_
          refine q_RP_rsT (g2 := (103, [(0, .ref 64), (1, .int v1), (2, .int v2), (3, .int v3), (4, .int v4), (5, .int v5)], [], (q_kN s c n))) rfl rfl (q_d_neF h418) ?_
          exact q_RP_xt (q_xt_mk (q_mn1 0 rfl (q_mn1 2 rfl (q_mn1 4 rfl (q_mn1 5 rfl q_mn0)))) rfl) (dzt_N82_64_f_103 c n s v2 v4 v5)
    | false =>
      refine q_RP_cF ?_
      refine q_RP_rsT (g2 := (103, [(0, .ref 64), (1, .int v1), (2, .int v2), (3, .int v3), (4, .int v4), (5, .int v5)], [], (q_kN s c n))) rfl rfl (q_d_geF h85) ?_
      exact q_RP_xt (q_xt_mk (q_mn1 0 rfl (q_mn1 2 rfl (q_mn1 4 rfl (q_mn1 5 rfl q_mn0)))) rfl) (dzt_N82_64_f_103 c n s v2 v4 v5)
def dz_N82_64_f (s : q_S) (a1 : Int32) : Option (q_S × Int32) :=
  dz_N82_64_f_14 2147483650 s a1 0 (s.2.1 23 10) 0 0
set_option maxHeartbeats 4000000 in
theorem dzt_N82_64_f (s : q_S) (c n : Nat) (a1 : Int32) (x : q_S × Int32) (h : dz_N82_64_f s a1 = some x) : q_Ca q_TB0 6 81 [.ref 64, .int a1, .int 0] (q_kN s c n) ((q_oIN c n) x) := by
  refine q_CaP_of (φ := (q_oIN c n)) (Nat.le_of_ble_eq_true rfl) ?_ h
  clear h
  unfold dz_N82_64_f
  refine q_RP_seg (g2 := (7, [(0, .ref 64), (1, .int a1), (2, .int 0)], [.int (s.2.1 23 10)], (q_kN s c n))) 3 (fun _ _ => rfl) ?_
  refine q_RP_seg (g2 := (14, [(5, .int 0), (4, .int 0), (3, .int (s.2.1 23 10)), (0, .ref 64), (1, .int a1), (2, .int 0)], [], (q_kN s c n))) 5 (fun _ _ => rfl) ?_
  exact q_RP_xt (q_xt_mk (q_mn1 3 rfl (q_mn1 4 rfl (q_mn1 5 rfl (q_mn1 2 rfl (q_mn1 1 rfl (q_mn1 0 rfl q_mn0)))))) rfl) (dzt_N82_64_f_14 c n 2147483650 s a1 0 (s.2.1 23 10) 0 0)
def dz_N82_64_t_69 (k14 : q_S → Int32 → Int32 → Int32 → Int32 → Int32 → Option (q_S × Int32)) (s : q_S) (v1 : Int32) (v2 : Int32) (v3 : Int32) (v4 : Int32) (v5 : Int32) : Option (q_S × Int32) :=
  q_let (dz_N141_87 s) fun r343 => cond r343.2 ((dz_N142_87_65 r343.1).bind fun r344 => q_let (dz_N107_65 r344) fun r345 => k14 r345 v1 v2 v3 (v4 + 1) v5) (q_let (dz_N107_65 r343.1) fun r346 => k14 r346 v1 v2 v3 (v4 + 1) v5)
set_option maxHeartbeats 4000000 in
theorem dzt_N82_64_t_69 (c n : Nat) (k14 : q_S → Int32 → Int32 → Int32 → Int32 → Int32 → Option (q_S × Int32)) (s : q_S) (hk14 : ∀ (s : q_S) (v1 : Int32) (v2 : Int32) (v3 : Int32) (v4 : Int32) (v5 : Int32), q_RP q_TB0 5 81 (14, [(0, .ref 64), (1, .int v1), (2, .int v2), (3, .int v3), (4, .int v4), (5, .int v5)], [], (q_kN s c n)) (q_oIN c n) (k14 s v1 v2 v3 v4 v5)) (v1 : Int32) (v2 : Int32) (v3 : Int32) (v4 : Int32) (v5 : Int32) : q_RP q_TB0 5 81 (69, [(0, .ref 64), (1, .int v1), (2, .int v2), (3, .int v3), (4, .int v4), (5, .int v5)], [], (q_kN s c n)) (q_oIN c n) (dz_N82_64_t_69 k14 s v1 v2 v3 v4 v5) := by
  unfold dz_N82_64_t_69
  refine q_RP_seg (g2 := (73, [(0, .ref 64), (1, .int v1), (2, .int v2), (3, .int v3), (4, .int v4), (5, .int v5)], [.ref 87], (q_kN s c n))) 2 (fun _ _ => rfl) ?_
  refine q_RP_call (v := (some (.int (q_b (dz_N141_87 s).2)))) (h2 := (q_kN (dz_N141_87 s).1 c n)) rfl rfl ((dzt_N141_87 s c n).le (Nat.le_of_ble_eq_true rfl)) ?_
  generalize dz_N141_87 s = r343
  refine q_RP_let ?_
  show q_RP _ _ _ (76, [(0, .ref 64), (1, .int v1), (2, .int v2), (3, .int v3), (4, .int v4), (5, .int v5)], [.int (q_b r343.2)], (q_kN r343.1 c n)) _ _
  cases h425 : r343.2 with
  | true =>
    refine q_RP_cT ?_
    show q_RP _ _ _ (76, [(0, .ref 64), (1, .int v1), (2, .int v2), (3, .int v3), (4, .int v4), (5, .int v5)], [.int 1], (q_kN r343.1 c n)) _ _
    refine q_RP_seg (g2 := (87, [(0, .ref 64), (1, .int v1), (2, .int v2), (3, .int v3), (4, .int v4), (5, .int v5)], [.ref 65, .ref 87], (q_kN r343.1 c n))) 5 (fun _ _ => rfl) ?_
    refine q_RP_bd fun r344 er344 => ?_
    refine q_RP_call (v := none) (h2 := (q_kN r344 c n)) rfl rfl ((dzt_N142_87_65 r343.1 c n r344 er344).le (Nat.le_of_ble_eq_true rfl)) ?_
    show q_RP _ _ _ (90, [(0, .ref 64), (1, .int v1), (2, .int v2), (3, .int v3), (4, .int v4), (5, .int v5)], [], (q_kN r344 c n)) _ _
    refine q_RP_seg (g2 := (94, [(0, .ref 64), (1, .int v1), (2, .int v2), (3, .int v3), (4, .int v4), (5, .int v5)], [.ref 65], (q_kN r344 c n))) 2 (fun _ _ => rfl) ?_
    refine q_RP_call (v := none) (h2 := (q_kN (dz_N107_65 r344) c n)) rfl rfl ((dzt_N107_65 r344 c n).le (Nat.le_of_ble_eq_true rfl)) ?_
    generalize dz_N107_65 r344 = r345
    refine q_RP_let ?_
    show q_RP _ _ _ (97, [(0, .ref 64), (1, .int v1), (2, .int v2), (3, .int v3), (4, .int v4), (5, .int v5)], [], (q_kN r345 c n)) _ _
    refine q_RP_seg (g2 := (14, [(4, .int (v4 + 1)), (0, .ref 64), (1, .int v1), (2, .int v2), (3, .int v3), (5, .int v5)], [], (q_kN r345 c n))) 2 (fun _ _ => rfl) ?_
    exact q_RP_xt (q_xt_mk (q_mn1 1 rfl (q_mn1 2 rfl (q_mn1 3 rfl (q_mn1 4 rfl (q_mn1 0 rfl (q_mn1 5 rfl q_mn0)))))) rfl) (hk14 r345 v1 v2 v3 (v4 + 1) v5)
  | false =>
    refine q_RP_cF ?_
    show q_RP _ _ _ (76, [(0, .ref 64), (1, .int v1), (2, .int v2), (3, .int v3), (4, .int v4), (5, .int v5)], [.int 0], (q_kN r343.1 c n)) _ _
    refine q_RP_seg (g2 := (94, [(0, .ref 64), (1, .int v1), (2, .int v2), (3, .int v3), (4, .int v4), (5, .int v5)], [.ref 65], (q_kN r343.1 c n))) 3 (fun _ _ => rfl) ?_
    refine q_RP_call (v := none) (h2 := (q_kN (dz_N107_65 r343.1) c n)) rfl rfl ((dzt_N107_65 r343.1 c n).le (Nat.le_of_ble_eq_true rfl)) ?_
    generalize dz_N107_65 r343.1 = r346
    refine q_RP_let ?_
    show q_RP _ _ _ (97, [(0, .ref 64), (1, .int v1), (2, .int v2), (3, .int v3), (4, .int v4), (5, .int v5)], [], (q_kN r346 c n)) _ _
    refine q_RP_seg (g2 := (14, [(4, .int (v4 + 1)), (0, .ref 64), (1, .int v1), (2, .int v2), (3, .int v3), (5, .int v5)], [], (q_kN r346 c n))) 2 (fun _ _ => rfl) ?_
    exact q_RP_xt (q_xt_mk (q_mn1 1 rfl (q_mn1 2 rfl (q_mn1 3 rfl (q_mn1 4 rfl (q_mn1 0 rfl (q_mn1 5 rfl q_mn0)))))) rfl) (hk14 r346 v1 v2 v3 (v4 + 1) v5)
def dz_N82_64_t_35 (k14 : q_S → Int32 → Int32 → Int32 → Int32 → Int32 → Option (q_S × Int32)) (s : q_S) (v1 : Int32) (v2 : Int32) (v3 : Int32) (v4 : Int32) (v5 : Int32) : Option (q_S × Int32) :=
  (dz_N83_64 s).bind fun r340 => cond r340.2 (q_let (dz_N107_65 r340.1) fun r341 => k14 r341 v1 v2 v3 (v4 + 1) (v5 + 1)) (cond (decide (r340.1.2.1 23 9 = 0)) ((dz_N136_87_65 r340.1).bind fun r342 => dz_N82_64_t_69 k14 r342 v1 v2 v3 v4 v5) (dz_N82_64_t_69 k14 r340.1 v1 v2 v3 v4 v5))
set_option maxHeartbeats 4000000 in
theorem dzt_N82_64_t_35 (c n : Nat) (k14 : q_S → Int32 → Int32 → Int32 → Int32 → Int32 → Option (q_S × Int32)) (s : q_S) (hk14 : ∀ (s : q_S) (v1 : Int32) (v2 : Int32) (v3 : Int32) (v4 : Int32) (v5 : Int32), q_RP q_TB0 5 81 (14, [(0, .ref 64), (1, .int v1), (2, .int v2), (3, .int v3), (4, .int v4), (5, .int v5)], [], (q_kN s c n)) (q_oIN c n) (k14 s v1 v2 v3 v4 v5)) (v1 : Int32) (v2 : Int32) (v3 : Int32) (v4 : Int32) (v5 : Int32) : q_RP q_TB0 5 81 (35, [(0, .ref 64), (1, .int v1), (2, .int v2), (3, .int v3), (4, .int v4), (5, .int v5)], [], (q_kN s c n)) (q_oIN c n) (dz_N82_64_t_35 k14 s v1 v2 v3 v4 v5) := by
  unfold dz_N82_64_t_35
  refine q_RP_seg (g2 := (36, [(0, .ref 64), (1, .int v1), (2, .int v2), (3, .int v3), (4, .int v4), (5, .int v5)], [.ref 64], (q_kN s c n))) 1 (fun _ _ => rfl) ?_
  refine q_RP_bd fun r340 er340 => ?_
  refine q_RP_call (v := (some (.int (q_b r340.2)))) (h2 := (q_kN r340.1 c n)) rfl rfl ((dzt_N83_64 s c n r340 er340).le (Nat.le_of_ble_eq_true rfl)) ?_
  show q_RP _ _ _ (39, [(0, .ref 64), (1, .int v1), (2, .int v2), (3, .int v3), (4, .int v4), (5, .int v5)], [.int (q_b r340.2)], (q_kN r340.1 c n)) _ _
  cases h423 : r340.2 with
  | true =>
    refine q_RP_cT ?_
    show q_RP _ _ _ (39, [(0, .ref 64), (1, .int v1), (2, .int v2), (3, .int v3), (4, .int v4), (5, .int v5)], [.int 1], (q_kN r340.1 c n)) _ _
    refine q_RP_seg (g2 := (94, [(5, .int (v5 + 1)), (0, .ref 64), (1, .int v1), (2, .int v2), (3, .int v3), (4, .int v4)], [.ref 65], (q_kN r340.1 c n))) 5 (fun _ _ => rfl) ?_
    refine q_RP_call (v := none) (h2 := (q_kN (dz_N107_65 r340.1) c n)) rfl rfl ((dzt_N107_65 r340.1 c n).le (Nat.le_of_ble_eq_true rfl)) ?_
    generalize dz_N107_65 r340.1 = r341
    refine q_RP_let ?_
    show q_RP _ _ _ (97, [(5, .int (v5 + 1)), (0, .ref 64), (1, .int v1), (2, .int v2), (3, .int v3), (4, .int v4)], [], (q_kN r341 c n)) _ _
    refine q_RP_seg (g2 := (14, [(4, .int (v4 + 1)), (5, .int (v5 + 1)), (0, .ref 64), (1, .int v1), (2, .int v2), (3, .int v3)], [], (q_kN r341 c n))) 2 (fun _ _ => rfl) ?_
    exact q_RP_xt (q_xt_mk (q_mn1 2 rfl (q_mn1 3 rfl (q_mn1 4 rfl (q_mn1 5 rfl (q_mn1 0 rfl (q_mn1 1 rfl q_mn0)))))) rfl) (hk14 r341 v1 v2 v3 (v4 + 1) (v5 + 1))
  | false =>
    refine q_RP_cF ?_
    show q_RP _ _ _ (39, [(0, .ref 64), (1, .int v1), (2, .int v2), (3, .int v3), (4, .int v4), (5, .int v5)], [.int 0], (q_kN r340.1 c n)) _ _
    refine q_RP_seg (g2 := (55, [(0, .ref 64), (1, .int v1), (2, .int v2), (3, .int v3), (4, .int v4), (5, .int v5)], [.int (r340.1.2.1 23 9)], (q_kN r340.1 c n))) 4 (fun _ _ => rfl) ?_
    cases h424 : decide (r340.1.2.1 23 9 = 0) with
    | true =>
      refine q_RP_cT ?_
      refine q_RP_rsF (g2 := (58, [(0, .ref 64), (1, .int v1), (2, .int v2), (3, .int v3), (4, .int v4), (5, .int v5)], [], (q_kN r340.1 c n))) rfl rfl (q_d_neT h424) ?_
      refine q_RP_seg (g2 := (66, [(0, .ref 64), (1, .int v1), (2, .int v2), (3, .int v3), (4, .int v4), (5, .int v5)], [.ref 65, .ref 87], (q_kN r340.1 c n))) 4 (fun _ _ => rfl) ?_
      refine q_RP_bd fun r342 er342 => ?_
      refine q_RP_call (v := none) (h2 := (q_kN r342 c n)) rfl rfl ((dzt_N136_87_65 r340.1 c n r342 er342).le (Nat.le_of_ble_eq_true rfl)) ?_
      show q_RP _ _ _ (69, [(0, .ref 64), (1, .int v1), (2, .int v2), (3, .int v3), (4, .int v4), (5, .int v5)], [], (q_kN r342 c n)) _ _
      exact (dzt_N82_64_t_69 c n k14 r342 hk14 v1 v2 v3 v4 v5)
    | false =>
      refine q_RP_cF ?_
      refine q_RP_rsT (g2 := (69, [(0, .ref 64), (1, .int v1), (2, .int v2), (3, .int v3), (4, .int v4), (5, .int v5)], [], (q_kN r340.1 c n))) rfl rfl (q_d_neF h424) ?_
      exact (dzt_N82_64_t_69 c n k14 r340.1 hk14 v1 v2 v3 v4 v5)
def dz_N82_64_t_103 (s : q_S) (v2 : Int32) (v4 : Int32) (v5 : Int32) : Option (q_S × Int32) :=
  cond (decide (v2 = 0)) (some ((q_sJ s 0 4 ((s.2.2 0 4) + v5.toInt64)), v5)) (some ((q_sJ s 0 4 ((s.2.2 0 4) + v5.toInt64)), v4))
set_option maxHeartbeats 4000000 in
theorem dzt_N82_64_t_103 (c n : Nat) (s : q_S) (v2 : Int32) (v4 : Int32) (v5 : Int32) : q_RP q_TB0 5 81 (103, [(0, .ref 64), (2, .int v2), (4, .int v4), (5, .int v5)], [], (q_kN s c n)) (q_oIN c n) (dz_N82_64_t_103 s v2 v4 v5) := by
  unfold dz_N82_64_t_103
  refine q_RP_seg (g2 := (108, [(0, .ref 64), (2, .int v2), (4, .int v4), (5, .int v5)], [.long (s.2.2 0 4), .ref 64], (q_kN s c n))) 3 (fun _ _ => rfl) ?_
  refine q_RP_seg (g2 := (116, [(0, .ref 64), (2, .int v2), (4, .int v4), (5, .int v5)], [.int v2], (q_kN (q_sJ s 0 4 ((s.2.2 0 4) + v5.toInt64)) c n))) 5 (fun _ _ => rfl) ?_
  cases h427 : decide (v2 = 0) with
  | true =>
    refine q_RP_cT ?_
    refine q_RP_rsT (g2 := (124, [(0, .ref 64), (2, .int v2), (4, .int v4), (5, .int v5)], [], (q_kN (q_sJ s 0 4 ((s.2.2 0 4) + v5.toInt64)) c n))) rfl rfl h427 ?_
    refine q_RP_seg (g2 := (126, [(0, .ref 64), (2, .int v2), (4, .int v4), (5, .int v5)], [.int v5], (q_kN (q_sJ s 0 4 ((s.2.2 0 4) + v5.toInt64)) c n))) 1 (fun _ _ => rfl) ?_
    exact q_RP_ret rfl rfl rfl
  | false =>
    refine q_RP_cF ?_
    refine q_RP_rsF (g2 := (119, [(0, .ref 64), (2, .int v2), (4, .int v4), (5, .int v5)], [], (q_kN (q_sJ s 0 4 ((s.2.2 0 4) + v5.toInt64)) c n))) rfl rfl h427 ?_
    refine q_RP_seg (g2 := (126, [(0, .ref 64), (2, .int v2), (4, .int v4), (5, .int v5)], [.int v4], (q_kN (q_sJ s 0 4 ((s.2.2 0 4) + v5.toInt64)) c n))) 2 (fun _ _ => rfl) ?_
    exact q_RP_ret rfl rfl rfl
def dz_N82_64_t_14 (m : Nat) : q_S → Int32 → Int32 → Int32 → Int32 → Int32 → Option (q_S × Int32) := Nat.rec (motive := fun _ => q_S → Int32 → Int32 → Int32 → Int32 → Int32 → Option (q_S × Int32)) (fun _ _ _ _ _ _ => none) (fun _ k14 s v1 v2 v3 v4 v5 =>
  cond (decide (v4 < v1)) (cond (decide (v2 = 0)) (dz_N82_64_t_35 k14 s v1 v2 v3 v4 v5) (cond (decide (s.2.1 23 10 = v3)) (dz_N82_64_t_35 k14 s v1 v2 v3 v4 v5) (dz_N82_64_t_103 s v2 v4 v5))) (dz_N82_64_t_103 s v2 v4 v5)) m
theorem dzs_N82_64_t_14 (m : Nat) (s : q_S) (v1 : Int32) (v2 : Int32) (v3 : Int32) (v4 : Int32) (v5 : Int32) : dz_N82_64_t_14 (m + 1) s v1 v2 v3 v4 v5 = (fun k14 : q_S → Int32 → Int32 → Int32 → Int32 → Int32 → Option (q_S × Int32) =>
  cond (decide (v4 < v1)) (cond (decide (v2 = 0)) (dz_N82_64_t_35 k14 s v1 v2 v3 v4 v5) (cond (decide (s.2.1 23 10 = v3)) (dz_N82_64_t_35 k14 s v1 v2 v3 v4 v5) (dz_N82_64_t_103 s v2 v4 v5))) (dz_N82_64_t_103 s v2 v4 v5)) (dz_N82_64_t_14 m) := rfl
set_option maxHeartbeats 4000000 in
theorem dzt_N82_64_t_14 (c n : Nat) : ∀ (m : Nat) (s : q_S) (v1 : Int32) (v2 : Int32) (v3 : Int32) (v4 : Int32) (v5 : Int32), q_RP q_TB0 5 81 (14, [(0, .ref 64), (1, .int v1), (2, .int v2), (3, .int v3), (4, .int v4), (5, .int v5)], [], (q_kN s c n)) (q_oIN c n) (dz_N82_64_t_14 m s v1 v2 v3 v4 v5) := by
  intro m
  induction m with
  | zero => intro s v1 v2 v3 v4 v5; exact q_RP_no
  | succ m ih =>
    intro s v1 v2 v3 v4 v5
    have hk14 := ih
    clear ih
    rw [dzs_N82_64_t_14]
    generalize dz_N82_64_t_14 m = k14 at hk14 ⊢
    dsimp only
    refine q_RP_seg (g2 := (17, [(0, .ref 64), (1, .int v1), (2, .int v2), (3, .int v3), (4, .int v4), (5, .int v5)], [.int v1, .int v4], (q_kN s c n))) 2 (fun _ _ => rfl) ?_
    cases h421 : decide (v4 < v1) with
    | true =>
      refine q_RP_cT ?_
      refine q_RP_rsF (g2 := (20, [(0, .ref 64), (1, .int v1), (2, .int v2), (3, .int v3), (4, .int v4), (5, .int v5)], [], (q_kN s c n))) rfl rfl (q_d_geT h421) ?_
      refine q_RP_seg (g2 := (21, [(0, .ref 64), (1, .int v1), (2, .int v2), (3, .int v3), (4, .int v4), (5, .int v5)], [.int v2], (q_kN s c n))) 1 (fun _ _ => rfl) ?_
      cases h422 : decide (v2 = 0) with
      | true =>
        refine q_RP_cT ?_
        refine q_RP_rsT (g2 := (35, [(0, .ref 64), (1, .int v1), (2, .int v2), (3, .int v3), (4, .int v4), (5, .int v5)], [], (q_kN s c n))) rfl rfl h422 ?_
        exact (dzt_N82_64_t_35 c n k14 s hk14 v1 v2 v3 v4 v5)
      | false =>
        refine q_RP_cF ?_
        refine q_RP_rsF (g2 := (24, [(0, .ref 64), (1, .int v1), (2, .int v2), (3, .int v3), (4, .int v4), (5, .int v5)], [], (q_kN s c n))) rfl rfl h422 ?_
        refine q_RP_seg (g2 := (31, [(0, .ref 64), (1, .int v1), (2, .int v2), (3, .int v3), (4, .int v4), (5, .int v5)], [.int (s.2.1 23 10)], (q_kN s c n))) 3 (fun _ _ => rfl) ?_
        refine q_RP_seg (g2 := (32, [(0, .ref 64), (1, .int v1), (2, .int v2), (3, .int v3), (4, .int v4), (5, .int v5)], [.int v3, .int (s.2.1 23 10)], (q_kN s c n))) 1 (fun _ _ => rfl) ?_
        cases h426 : decide (s.2.1 23 10 = v3) with
        | true =>
          refine q_RP_cT ?_
          refine q_RP_rsF (g2 := (35, [(0, .ref 64), (1, .int v1), (2, .int v2), (3, .int v3), (4, .int v4), (5, .int v5)], [], (q_kN s c n))) rfl rfl (q_d_neT h426) ?_
          exact (dzt_N82_64_t_35 c n k14 s hk14 v1 v2 v3 v4 v5)
        | false =>
          refine q_RP_cF ?_
          refine q_RP_rsT (g2 := (103, [(0, .ref 64), (1, .int v1), (2, .int v2), (3, .int v3), (4, .int v4), (5, .int v5)], [], (q_kN s c n))) rfl rfl (q_d_neF h426) ?_
          exact q_RP_xt (q_xt_mk (q_mn1 0 rfl (q_mn1 2 rfl (q_mn1 4 rfl (q_mn1 5 rfl q_mn0)))) rfl) (dzt_N82_64_t_103 c n s v2 v4 v5)
    | false =>
      refine q_RP_cF ?_
      refine q_RP_rsT (g2 := (103, [(0, .ref 64), (1, .int v1), (2, .int v2), (3, .int v3), (4, .int v4), (5, .int v5)], [], (q_kN s c n))) rfl rfl (q_d_geF h421) ?_
      exact q_RP_xt (q_xt_mk (q_mn1 0 rfl (q_mn1 2 rfl (q_mn1 4 rfl (q_mn1 5 rfl q_mn0)))) rfl) (dzt_N82_64_t_103 c n s v2 v4 v5)
def dz_N82_64_t (s : q_S) (a1 : Int32) : Option (q_S × Int32) :=
  dz_N82_64_t_14 2147483650 s a1 1 (s.2.1 23 10) 0 0
set_option maxHeartbeats 4000000 in
theorem dzt_N82_64_t (s : q_S) (c n : Nat) (a1 : Int32) (x : q_S × Int32) (h : dz_N82_64_t s a1 = some x) : q_Ca q_TB0 6 81 [.ref 64, .int a1, .int 1] (q_kN s c n) ((q_oIN c n) x) := by
  refine q_CaP_of (φ := (q_oIN c n)) (Nat.le_of_ble_eq_true rfl) ?_ h
  clear h
  unfold dz_N82_64_t
  refine q_RP_seg (g2 := (7, [(0, .ref 64), (1, .int a1), (2, .int 1)], [.int (s.2.1 23 10)], (q_kN s c n))) 3 (fun _ _ => rfl) ?_
  refine q_RP_seg (g2 := (14, [(5, .int 0), (4, .int 0), (3, .int (s.2.1 23 10)), (0, .ref 64), (1, .int a1), (2, .int 1)], [], (q_kN s c n))) 5 (fun _ _ => rfl) ?_
  exact q_RP_xt (q_xt_mk (q_mn1 3 rfl (q_mn1 4 rfl (q_mn1 5 rfl (q_mn1 2 rfl (q_mn1 1 rfl (q_mn1 0 rfl q_mn0)))))) rfl) (dzt_N82_64_t_14 c n 2147483650 s a1 1 (s.2.1 23 10) 0 0)
def dz_N182_74_51 (k7 : q_S → Int32 → Int32 → Int32 → Option (Int32)) (m : Nat) : q_S → Int32 → Int32 → Int32 → Int32 → Option (Int32) := Nat.rec (motive := fun _ => q_S → Int32 → Int32 → Int32 → Int32 → Option (Int32)) (fun _ _ _ _ _ => none) (fun _ k51 s v2 v3 v4 v5 =>
  cond (decide (v5 < 4)) (cond (q_in v5 4) (cond (decide (((s.1 11) (v5.toNatClampNeg)) &&& v3 = 0)) (k51 s v2 v3 v4 (v5 + 1)) (k51 s (v2 ||| ((1 : Int32) <<< (v5 &&& 31))) v3 v4 (v5 + 1))) none) (k7 s v2 v3 (v4 + 1))) m
theorem dzs_N182_74_51 (k7 : q_S → Int32 → Int32 → Int32 → Option (Int32)) (m : Nat) (s : q_S) (v2 : Int32) (v3 : Int32) (v4 : Int32) (v5 : Int32) : dz_N182_74_51 k7 (m + 1) s v2 v3 v4 v5 = (fun k51 : q_S → Int32 → Int32 → Int32 → Int32 → Option (Int32) =>
  cond (decide (v5 < 4)) (cond (q_in v5 4) (cond (decide (((s.1 11) (v5.toNatClampNeg)) &&& v3 = 0)) (k51 s v2 v3 v4 (v5 + 1)) (k51 s (v2 ||| ((1 : Int32) <<< (v5 &&& 31))) v3 v4 (v5 + 1))) none) (k7 s v2 v3 (v4 + 1))) (dz_N182_74_51 k7 m) := rfl
set_option maxHeartbeats 4000000 in
theorem dzt_N182_74_51 (c n : Nat) (k7 : q_S → Int32 → Int32 → Int32 → Option (Int32)) (s : q_S) (hk7 : ∀ (v2 : Int32) (v3 : Int32) (v4 : Int32), q_RP q_TB0 0 181 (7, [(0, .ref 74), (2, .int v2), (3, .int v3), (4, .int v4)], [], (q_kN s c n)) (q_oP (q_kN s c n)) (k7 s v2 v3 v4)) : ∀ (m : Nat) (v2 : Int32) (v3 : Int32) (v4 : Int32) (v5 : Int32), q_RP q_TB0 0 181 (51, [(0, .ref 74), (2, .int v2), (3, .int v3), (4, .int v4), (5, .int v5)], [], (q_kN s c n)) (q_oP (q_kN s c n)) (dz_N182_74_51 k7 m s v2 v3 v4 v5) := by
  intro m
  induction m with
  | zero => intro v2 v3 v4 v5; exact q_RP_no
  | succ m ih =>
    intro v2 v3 v4 v5
    have hk51 := ih
    clear ih
    rw [dzs_N182_74_51]
    generalize dz_N182_74_51 k7 m = k51 at hk51 ⊢
    dsimp only
    refine q_RP_seg (g2 := (54, [(0, .ref 74), (2, .int v2), (3, .int v3), (4, .int v4), (5, .int v5)], [.int 4, .int v5], (q_kN s c n))) 2 (fun _ _ => rfl) ?_
    cases h434 : decide (v5 < 4) with
    | true =>
      refine q_RP_cT ?_
      refine q_RP_rsF (g2 := (57, [(0, .ref 74), (2, .int v2), (3, .int v3), (4, .int v4), (5, .int v5)], [], (q_kN s c n))) rfl rfl (q_d_geT h434) ?_
      refine q_RP_seg (g2 := (63, [(0, .ref 74), (2, .int v2), (3, .int v3), (4, .int v4), (5, .int v5)], [.int v5, .ref 75], (q_kN s c n))) 3 (fun _ _ => rfl) ?_
      refine q_RP_as fun i435 => ?_
      refine q_RP_rsT (g2 := (64, [(0, .ref 74), (2, .int v2), (3, .int v3), (4, .int v4), (5, .int v5)], [.int ((s.1 11) (v5.toNatClampNeg))], (q_kN s c n))) rfl rfl i435 ?_
      refine q_RP_seg (g2 := (66, [(0, .ref 74), (2, .int v2), (3, .int v3), (4, .int v4), (5, .int v5)], [.int (((s.1 11) (v5.toNatClampNeg)) &&& v3)], (q_kN s c n))) 2 (fun _ _ => rfl) ?_
      cases h436 : decide (((s.1 11) (v5.toNatClampNeg)) &&& v3 = 0) with
      | true =>
        refine q_RP_cT ?_
        refine q_RP_rsT (g2 := (76, [(0, .ref 74), (2, .int v2), (3, .int v3), (4, .int v4), (5, .int v5)], [], (q_kN s c n))) rfl rfl h436 ?_
        refine q_RP_seg (g2 := (51, [(5, .int (v5 + 1)), (0, .ref 74), (2, .int v2), (3, .int v3), (4, .int v4)], [], (q_kN s c n))) 2 (fun _ _ => rfl) ?_
        exact q_RP_xt (q_xt_mk (q_mn1 1 rfl (q_mn1 2 rfl (q_mn1 3 rfl (q_mn1 4 rfl (q_mn1 0 rfl q_mn0))))) rfl) (hk51 v2 v3 v4 (v5 + 1))
      | false =>
        refine q_RP_cF ?_
        refine q_RP_rsF (g2 := (69, [(0, .ref 74), (2, .int v2), (3, .int v3), (4, .int v4), (5, .int v5)], [], (q_kN s c n))) rfl rfl h436 ?_
        refine q_RP_seg (g2 := (51, [(5, .int (v5 + 1)), (2, .int (v2 ||| ((1 : Int32) <<< (v5 &&& 31)))), (0, .ref 74), (3, .int v3), (4, .int v4)], [], (q_kN s c n))) 8 (fun _ _ => rfl) ?_
        exact q_RP_xt (q_xt_mk (q_mn1 2 rfl (q_mn1 1 rfl (q_mn1 3 rfl (q_mn1 4 rfl (q_mn1 0 rfl q_mn0))))) rfl) (hk51 (v2 ||| ((1 : Int32) <<< (v5 &&& 31))) v3 v4 (v5 + 1))
    | false =>
      refine q_RP_cF ?_
      refine q_RP_rsT (g2 := (82, [(0, .ref 74), (2, .int v2), (3, .int v3), (4, .int v4), (5, .int v5)], [], (q_kN s c n))) rfl rfl (q_d_geF h434) ?_
      refine q_RP_seg (g2 := (7, [(4, .int (v4 + 1)), (0, .ref 74), (2, .int v2), (3, .int v3), (5, .int v5)], [], (q_kN s c n))) 2 (fun _ _ => rfl) ?_
      exact q_RP_xt (q_xt_mk (q_mn1 1 rfl (q_mn1 2 rfl (q_mn1 3 rfl (q_mn1 0 rfl q_mn0)))) rfl) (hk7 v2 v3 (v4 + 1))
def dz_N182_74_16 (k7 : q_S → Int32 → Int32 → Int32 → Option (Int32)) (m : Nat) : q_S → Int32 → Int32 → Int32 → Int32 → Option (Int32) := Nat.rec (motive := fun _ => q_S → Int32 → Int32 → Int32 → Int32 → Option (Int32)) (fun _ _ _ _ _ => none) (fun _ k16 s v2 v3 v4 v5 =>
  cond (decide (v5 < 4)) (cond (decide ((v2 >>> (v5 &&& 31)) &&& 1 = 1)) (cond (q_in v5 4) (k16 s v2 (v3 ||| ((s.1 11) (v5.toNatClampNeg))) v4 (v5 + 1)) none) (k16 s v2 v3 v4 (v5 + 1))) (dz_N182_74_51 k7 5000 s v2 v3 v4 0)) m
theorem dzs_N182_74_16 (k7 : q_S → Int32 → Int32 → Int32 → Option (Int32)) (m : Nat) (s : q_S) (v2 : Int32) (v3 : Int32) (v4 : Int32) (v5 : Int32) : dz_N182_74_16 k7 (m + 1) s v2 v3 v4 v5 = (fun k16 : q_S → Int32 → Int32 → Int32 → Int32 → Option (Int32) =>
  cond (decide (v5 < 4)) (cond (decide ((v2 >>> (v5 &&& 31)) &&& 1 = 1)) (cond (q_in v5 4) (k16 s v2 (v3 ||| ((s.1 11) (v5.toNatClampNeg))) v4 (v5 + 1)) none) (k16 s v2 v3 v4 (v5 + 1))) (dz_N182_74_51 k7 5000 s v2 v3 v4 0)) (dz_N182_74_16 k7 m) := rfl
set_option maxHeartbeats 4000000 in
theorem dzt_N182_74_16 (c n : Nat) (k7 : q_S → Int32 → Int32 → Int32 → Option (Int32)) (s : q_S) (hk7 : ∀ (v2 : Int32) (v3 : Int32) (v4 : Int32), q_RP q_TB0 0 181 (7, [(0, .ref 74), (2, .int v2), (3, .int v3), (4, .int v4)], [], (q_kN s c n)) (q_oP (q_kN s c n)) (k7 s v2 v3 v4)) : ∀ (m : Nat) (v2 : Int32) (v3 : Int32) (v4 : Int32) (v5 : Int32), q_RP q_TB0 0 181 (16, [(0, .ref 74), (2, .int v2), (3, .int v3), (4, .int v4), (5, .int v5)], [], (q_kN s c n)) (q_oP (q_kN s c n)) (dz_N182_74_16 k7 m s v2 v3 v4 v5) := by
  intro m
  induction m with
  | zero => intro v2 v3 v4 v5; exact q_RP_no
  | succ m ih =>
    intro v2 v3 v4 v5
    have hk16 := ih
    clear ih
    rw [dzs_N182_74_16]
    generalize dz_N182_74_16 k7 m = k16 at hk16 ⊢
    dsimp only
    refine q_RP_seg (g2 := (19, [(0, .ref 74), (2, .int v2), (3, .int v3), (4, .int v4), (5, .int v5)], [.int 4, .int v5], (q_kN s c n))) 2 (fun _ _ => rfl) ?_
    cases h431 : decide (v5 < 4) with
    | true =>
      refine q_RP_cT ?_
      refine q_RP_rsF (g2 := (22, [(0, .ref 74), (2, .int v2), (3, .int v3), (4, .int v4), (5, .int v5)], [], (q_kN s c n))) rfl rfl (q_d_geT h431) ?_
      refine q_RP_seg (g2 := (29, [(0, .ref 74), (2, .int v2), (3, .int v3), (4, .int v4), (5, .int v5)], [.int 1, .int ((v2 >>> (v5 &&& 31)) &&& 1)], (q_kN s c n))) 6 (fun _ _ => rfl) ?_
      cases h432 : decide ((v2 >>> (v5 &&& 31)) &&& 1 = 1) with
      | true =>
        refine q_RP_cT ?_
        refine q_RP_rsF (g2 := (32, [(0, .ref 74), (2, .int v2), (3, .int v3), (4, .int v4), (5, .int v5)], [], (q_kN s c n))) rfl rfl (q_d_neT h432) ?_
        refine q_RP_seg (g2 := (39, [(0, .ref 74), (2, .int v2), (3, .int v3), (4, .int v4), (5, .int v5)], [.int v5, .ref 75, .int v3], (q_kN s c n))) 4 (fun _ _ => rfl) ?_
        refine q_RP_as fun i433 => ?_
        refine q_RP_rsT (g2 := (40, [(0, .ref 74), (2, .int v2), (3, .int v3), (4, .int v4), (5, .int v5)], [.int ((s.1 11) (v5.toNatClampNeg)), .int v3], (q_kN s c n))) rfl rfl i433 ?_
        refine q_RP_seg (g2 := (16, [(5, .int (v5 + 1)), (3, .int (v3 ||| ((s.1 11) (v5.toNatClampNeg)))), (0, .ref 74), (2, .int v2), (4, .int v4)], [], (q_kN s c n))) 4 (fun _ _ => rfl) ?_
        exact q_RP_xt (q_xt_mk (q_mn1 2 rfl (q_mn1 3 rfl (q_mn1 1 rfl (q_mn1 4 rfl (q_mn1 0 rfl q_mn0))))) rfl) (hk16 v2 (v3 ||| ((s.1 11) (v5.toNatClampNeg))) v4 (v5 + 1))
      | false =>
        refine q_RP_cF ?_
        refine q_RP_rsT (g2 := (42, [(0, .ref 74), (2, .int v2), (3, .int v3), (4, .int v4), (5, .int v5)], [], (q_kN s c n))) rfl rfl (q_d_neF h432) ?_
        refine q_RP_seg (g2 := (16, [(5, .int (v5 + 1)), (0, .ref 74), (2, .int v2), (3, .int v3), (4, .int v4)], [], (q_kN s c n))) 2 (fun _ _ => rfl) ?_
        exact q_RP_xt (q_xt_mk (q_mn1 1 rfl (q_mn1 2 rfl (q_mn1 3 rfl (q_mn1 4 rfl (q_mn1 0 rfl q_mn0))))) rfl) (hk16 v2 v3 v4 (v5 + 1))
    | false =>
      refine q_RP_cF ?_
      refine q_RP_rsT (g2 := (48, [(0, .ref 74), (2, .int v2), (3, .int v3), (4, .int v4), (5, .int v5)], [], (q_kN s c n))) rfl rfl (q_d_geF h431) ?_
      refine q_RP_seg (g2 := (51, [(5, .int 0), (0, .ref 74), (2, .int v2), (3, .int v3), (4, .int v4)], [], (q_kN s c n))) 2 (fun _ _ => rfl) ?_
      exact q_RP_xt (q_xt_mk (q_mn1 1 rfl (q_mn1 2 rfl (q_mn1 3 rfl (q_mn1 4 rfl (q_mn1 0 rfl q_mn0))))) rfl) (dzt_N182_74_51 c n k7 s hk7 5000 v2 v3 v4 0)
def dz_N182_74_7 (m : Nat) : q_S → Int32 → Int32 → Int32 → Option (Int32) := Nat.rec (motive := fun _ => q_S → Int32 → Int32 → Int32 → Option (Int32)) (fun _ _ _ _ => none) (fun _ k7 s v2 v3 v4 =>
  cond (decide (v4 < 4)) (dz_N182_74_16 k7 5000 s v2 v3 v4 0) (some v3)) m
theorem dzs_N182_74_7 (m : Nat) (s : q_S) (v2 : Int32) (v3 : Int32) (v4 : Int32) : dz_N182_74_7 (m + 1) s v2 v3 v4 = (fun k7 : q_S → Int32 → Int32 → Int32 → Option (Int32) =>
  cond (decide (v4 < 4)) (dz_N182_74_16 k7 5000 s v2 v3 v4 0) (some v3)) (dz_N182_74_7 m) := rfl
set_option maxHeartbeats 4000000 in
theorem dzt_N182_74_7 (c n : Nat) (s : q_S) : ∀ (m : Nat) (v2 : Int32) (v3 : Int32) (v4 : Int32), q_RP q_TB0 0 181 (7, [(0, .ref 74), (2, .int v2), (3, .int v3), (4, .int v4)], [], (q_kN s c n)) (q_oP (q_kN s c n)) (dz_N182_74_7 m s v2 v3 v4) := by
  intro m
  induction m with
  | zero => intro v2 v3 v4; exact q_RP_no
  | succ m ih =>
    intro v2 v3 v4
    have hk7 := ih
    clear ih
    rw [dzs_N182_74_7]
    generalize dz_N182_74_7 m = k7 at hk7 ⊢
    dsimp only
    refine q_RP_seg (g2 := (10, [(0, .ref 74), (2, .int v2), (3, .int v3), (4, .int v4)], [.int 4, .int v4], (q_kN s c n))) 2 (fun _ _ => rfl) ?_
    cases h430 : decide (v4 < 4) with
    | true =>
      refine q_RP_cT ?_
      refine q_RP_rsF (g2 := (13, [(0, .ref 74), (2, .int v2), (3, .int v3), (4, .int v4)], [], (q_kN s c n))) rfl rfl (q_d_geT h430) ?_
      refine q_RP_seg (g2 := (16, [(5, .int 0), (0, .ref 74), (2, .int v2), (3, .int v3), (4, .int v4)], [], (q_kN s c n))) 2 (fun _ _ => rfl) ?_
      exact q_RP_xt (q_xt_mk (q_mn1 1 rfl (q_mn1 2 rfl (q_mn1 3 rfl (q_mn1 4 rfl (q_mn1 0 rfl q_mn0))))) rfl) (dzt_N182_74_16 c n k7 s hk7 5000 v2 v3 v4 0)
    | false =>
      refine q_RP_cF ?_
      refine q_RP_rsT (g2 := (88, [(0, .ref 74), (2, .int v2), (3, .int v3), (4, .int v4)], [], (q_kN s c n))) rfl rfl (q_d_geF h430) ?_
      refine q_RP_seg (g2 := (89, [(0, .ref 74), (2, .int v2), (3, .int v3), (4, .int v4)], [.int v3], (q_kN s c n))) 1 (fun _ _ => rfl) ?_
      exact q_RP_ret rfl rfl rfl
def dz_N182_74 (s : q_S) (a1 : Int32) : Option (Int32) :=
  dz_N182_74_7 5000 s a1 0 0
set_option maxHeartbeats 4000000 in
theorem dzt_N182_74 (s : q_S) (c n : Nat) (a1 : Int32) (x : Int32) (h : dz_N182_74 s a1 = some x) : q_Ca q_TB0 1 181 [.ref 74, .int a1] (q_kN s c n) ((q_oP (q_kN s c n)) x) := by
  refine q_CaP_of (φ := (q_oP (q_kN s c n))) (Nat.le_of_ble_eq_true rfl) ?_ h
  clear h
  unfold dz_N182_74
  refine q_RP_seg (g2 := (7, [(4, .int 0), (3, .int 0), (2, .int a1), (0, .ref 74), (1, .int a1)], [], (q_kN s c n))) 6 (fun _ _ => rfl) ?_
  exact q_RP_xt (q_xt_mk (q_mn1 3 rfl (q_mn1 2 rfl (q_mn1 1 rfl (q_mn1 0 rfl q_mn0)))) rfl) (dzt_N182_74_7 c n s 5000 a1 0 0)
def dz_N181_74_45 (m : Nat) : q_S → Int32 → Int32 → Option (q_S × Int32) := Nat.rec (motive := fun _ => q_S → Int32 → Int32 → Option (q_S × Int32)) (fun _ _ _ => none) (fun _ k45 s v5 v6 =>
  cond (decide (15 < v6)) (some (s, v5)) ((dz_N182_74 s v6).bind fun r349 => cond (q_in v6 16) (k45 (q_sA s 12 (upd (s.1 12) (v6.toNatClampNeg) r349)) v5 (v6 + 1)) none)) m
theorem dzs_N181_74_45 (m : Nat) (s : q_S) (v5 : Int32) (v6 : Int32) : dz_N181_74_45 (m + 1) s v5 v6 = (fun k45 : q_S → Int32 → Int32 → Option (q_S × Int32) =>
  cond (decide (15 < v6)) (some (s, v5)) ((dz_N182_74 s v6).bind fun r349 => cond (q_in v6 16) (k45 (q_sA s 12 (upd (s.1 12) (v6.toNatClampNeg) r349)) v5 (v6 + 1)) none)) (dz_N181_74_45 m) := rfl
set_option maxHeartbeats 4000000 in
theorem dzt_N181_74_45 (c n : Nat) : ∀ (m : Nat) (s : q_S) (v5 : Int32) (v6 : Int32), q_RP q_TB0 1 180 (45, [(0, .ref 74), (5, .int v5), (6, .int v6)], [], (q_kN s c n)) (q_oIN c n) (dz_N181_74_45 m s v5 v6) := by
  intro m
  induction m with
  | zero => intro s v5 v6; exact q_RP_no
  | succ m ih =>
    intro s v5 v6
    have hk45 := ih
    clear ih
    rw [dzs_N181_74_45]
    generalize dz_N181_74_45 m = k45 at hk45 ⊢
    dsimp only
    refine q_RP_seg (g2 := (49, [(0, .ref 74), (5, .int v5), (6, .int v6)], [.int 15, .int v6], (q_kN s c n))) 2 (fun _ _ => rfl) ?_
    cases h429 : decide (15 < v6) with
    | true =>
      refine q_RP_cT ?_
      refine q_RP_rsT (g2 := (71, [(0, .ref 74), (5, .int v5), (6, .int v6)], [], (q_kN s c n))) rfl rfl h429 ?_
      refine q_RP_seg (g2 := (73, [(0, .ref 74), (5, .int v5), (6, .int v6)], [.int v5], (q_kN s c n))) 1 (fun _ _ => rfl) ?_
      exact q_RP_ret rfl rfl rfl
    | false =>
      refine q_RP_cF ?_
      refine q_RP_rsF (g2 := (52, [(0, .ref 74), (5, .int v5), (6, .int v6)], [], (q_kN s c n))) rfl rfl h429 ?_
      refine q_RP_seg (g2 := (61, [(0, .ref 74), (5, .int v5), (6, .int v6)], [.int v6, .ref 74, .int v6, .ref 76], (q_kN s c n))) 5 (fun _ _ => rfl) ?_
      refine q_RP_bd fun r349 er349 => ?_
      refine q_RP_call (v := (some (.int r349))) (h2 := (q_kN s c n)) rfl rfl ((dzt_N182_74 s c n v6 r349 er349).le (Nat.le_of_ble_eq_true rfl)) ?_
      show q_RP _ _ _ (64, [(0, .ref 74), (5, .int v5), (6, .int v6)], [.int r349, .int v6, .ref 76], (q_kN s c n)) _ _
      refine q_RP_as fun i437 => ?_
      refine q_RP_rsT (g2 := (65, [(0, .ref 74), (5, .int v5), (6, .int v6)], [], (q_kN (q_sA s 12 (upd (s.1 12) (v6.toNatClampNeg) r349)) c n))) rfl rfl i437 ?_
      refine q_RP_seg (g2 := (45, [(6, .int (v6 + 1)), (0, .ref 74), (5, .int v5)], [], (q_kN (q_sA s 12 (upd (s.1 12) (v6.toNatClampNeg) r349)) c n))) 2 (fun _ _ => rfl) ?_
      exact q_RP_xt (q_xt_mk (q_mn1 1 rfl (q_mn1 2 rfl (q_mn1 0 rfl q_mn0))) rfl) (hk45 (q_sA s 12 (upd (s.1 12) (v6.toNatClampNeg) r349)) v5 (v6 + 1))
def dz_N181_74 (s : q_S) (a1 : Int32) (a2 : Int32) (a3 : Int32) : Option (q_S × Int32) :=
  q_let ((((s.1 11) ((a1 &&& 3).toNatClampNeg)) >>> (a2 &&& 31)) &&& 1) fun x348 => dz_N181_74_45 5000 (q_sA s 11 (upd (s.1 11) ((a1 &&& 3).toNatClampNeg) ((((s.1 11) ((a1 &&& 3).toNatClampNeg)) &&& (((1 : Int32) <<< (a2 &&& 31)) ^^^ (-1))) ||| (a3 <<< (a2 &&& 31))))) x348 0
set_option maxHeartbeats 4000000 in
theorem dzt_N181_74 (s : q_S) (c n : Nat) (a1 : Int32) (a2 : Int32) (a3 : Int32) (x : q_S × Int32) (h : dz_N181_74 s a1 a2 a3 = some x) : q_Ca q_TB0 2 180 [.ref 74, .int a1, .int a2, .int a3] (q_kN s c n) ((q_oIN c n) x) := by
  refine q_CaP_of (φ := (q_oIN c n)) (Nat.le_of_ble_eq_true rfl) ?_ h
  clear h
  unfold dz_N181_74
  refine q_RP_seg (g2 := (11, [(4, .int (a1 &&& 3)), (0, .ref 74), (1, .int a1), (2, .int a2), (3, .int a3)], [.int (a1 &&& 3), .ref 75], (q_kN s c n))) 7 (fun _ _ => rfl) ?_
  refine q_RP_rsT (g2 := (12, [(4, .int (a1 &&& 3)), (0, .ref 74), (1, .int a1), (2, .int a2), (3, .int a3)], [.int ((s.1 11) ((a1 &&& 3).toNatClampNeg))], (q_kN s c n))) rfl rfl (q_in_bd (x := a1 &&& 3) (n := 4) (U := 3) (L := 0) (q_and_lo a1 3) (q_and_hi a1 3 3)) ?_
  refine q_RP_seg (g2 := (16, [(4, .int (a1 &&& 3)), (0, .ref 74), (1, .int a1), (2, .int a2), (3, .int a3)], [.int ((((s.1 11) ((a1 &&& 3).toNatClampNeg)) >>> (a2 &&& 31)) &&& 1)], (q_kN s c n))) 4 (fun _ _ => rfl) ?_
  generalize ((((s.1 11) ((a1 &&& 3).toNatClampNeg)) >>> (a2 &&& 31)) &&& 1) = x348
  refine q_RP_let ?_
  show q_RP _ _ _ (16, [(4, .int (a1 &&& 3)), (0, .ref 74), (1, .int a1), (2, .int a2), (3, .int a3)], [.int x348], (q_kN s c n)) _ _
  refine q_RP_seg (g2 := (30, [(5, .int x348), (4, .int (a1 &&& 3)), (0, .ref 74), (1, .int a1), (2, .int a2), (3, .int a3)], [.int (a1 &&& 3), .ref 75, .int (a1 &&& 3), .ref 75], (q_kN s c n))) 7 (fun _ _ => rfl) ?_
  refine q_RP_rsT (g2 := (31, [(5, .int x348), (4, .int (a1 &&& 3)), (0, .ref 74), (1, .int a1), (2, .int a2), (3, .int a3)], [.int ((s.1 11) ((a1 &&& 3).toNatClampNeg)), .int (a1 &&& 3), .ref 75], (q_kN s c n))) rfl rfl (q_in_bd (x := a1 &&& 3) (n := 4) (U := 3) (L := 0) (q_and_lo a1 3) (q_and_hi a1 3 3)) ?_
  refine q_RP_seg (g2 := (41, [(5, .int x348), (4, .int (a1 &&& 3)), (0, .ref 74), (1, .int a1), (2, .int a2), (3, .int a3)], [.int ((((s.1 11) ((a1 &&& 3).toNatClampNeg)) &&& (((1 : Int32) <<< (a2 &&& 31)) ^^^ (-1))) ||| (a3 <<< (a2 &&& 31))), .int (a1 &&& 3), .ref 75], (q_kN s c n))) 10 (fun _ _ => rfl) ?_
  refine q_RP_rsT (g2 := (42, [(5, .int x348), (4, .int (a1 &&& 3)), (0, .ref 74), (1, .int a1), (2, .int a2), (3, .int a3)], [], (q_kN (q_sA s 11 (upd (s.1 11) ((a1 &&& 3).toNatClampNeg) ((((s.1 11) ((a1 &&& 3).toNatClampNeg)) &&& (((1 : Int32) <<< (a2 &&& 31)) ^^^ (-1))) ||| (a3 <<< (a2 &&& 31))))) c n))) rfl rfl (q_in_bd (x := a1 &&& 3) (n := 4) (U := 3) (L := 0) (q_and_lo a1 3) (q_and_hi a1 3 3)) ?_
  refine q_RP_seg (g2 := (45, [(6, .int 0), (5, .int x348), (4, .int (a1 &&& 3)), (0, .ref 74), (1, .int a1), (2, .int a2), (3, .int a3)], [], (q_kN (q_sA s 11 (upd (s.1 11) ((a1 &&& 3).toNatClampNeg) ((((s.1 11) ((a1 &&& 3).toNatClampNeg)) &&& (((1 : Int32) <<< (a2 &&& 31)) ^^^ (-1))) ||| (a3 <<< (a2 &&& 31))))) c n))) 2 (fun _ _ => rfl) ?_
  exact q_RP_xt (q_xt_mk (q_mn1 3 rfl (q_mn1 1 rfl (q_mn1 0 rfl q_mn0))) rfl) (dzt_N181_74_45 c n 5000 (q_sA s 11 (upd (s.1 11) ((a1 &&& 3).toNatClampNeg) ((((s.1 11) ((a1 &&& 3).toNatClampNeg)) &&& (((1 : Int32) <<< (a2 &&& 31)) ^^^ (-1))) ||| (a3 <<< (a2 &&& 31))))) x348 0)
def dz_N180_74 (s : q_S) (a1 : Int32) : q_S × Int32 :=
  ((q_sI s 10 2 a1), (s.2.1 10 2))
set_option maxHeartbeats 4000000 in
theorem dzt_N180_74 (s : q_S) (c n : Nat) (a1 : Int32) : q_Ca q_TB0 1 179 [.ref 74, .int a1] (q_kN s c n) ((q_oIN c n) (dz_N180_74 s a1)) := by
  refine q_CaT_of (φ := (q_oIN c n)) (Nat.le_of_ble_eq_true rfl) ?_
  unfold dz_N180_74
  refine q_RT_seg (g2 := (4, [(0, .ref 74), (1, .int a1)], [.int (s.2.1 10 2)], (q_kN s c n))) 2 (fun _ _ => rfl) ?_
  refine q_RT_seg (g2 := (11, [(2, .int (s.2.1 10 2)), (0, .ref 74), (1, .int a1)], [.int (s.2.1 10 2)], (q_kN (q_sI s 10 2 a1) c n))) 5 (fun _ _ => rfl) ?_
  exact q_RT_ret rfl rfl rfl
def dz_N175_72 (s : q_S) (a1 : Int32) : q_S × Int32 :=
  cond (decide (s.2.1 8 1 < 0)) ((s, (s.2.1 8 1))) (cond (decide (s.2.1 8 1 < 40)) (((q_sI (q_sA s 9 (upd (s.1 9) ((s.2.1 8 1).toNatClampNeg) a1)) 8 1 ((s.2.1 8 1) + 1)), ((s.2.1 8 1) + 1))) ((s, (s.2.1 8 1))))
set_option maxHeartbeats 4000000 in
theorem dzt_N175_72 (s : q_S) (c n : Nat) (a1 : Int32) : q_Ca q_TB0 1 174 [.ref 72, .int a1] (q_kN s c n) ((q_oIN c n) (dz_N175_72 s a1)) := by
  refine q_CaT_of (φ := (q_oIN c n)) (Nat.le_of_ble_eq_true rfl) ?_
  unfold dz_N175_72
  refine q_RT_seg (g2 := (4, [(0, .ref 72), (1, .int a1)], [.int (s.2.1 8 1)], (q_kN s c n))) 2 (fun _ _ => rfl) ?_
  cases h440 : decide (s.2.1 8 1 < 0) with
  | true =>
    refine q_RT_cT ?_
    refine q_RT_rsT (g2 := (36, [(0, .ref 72), (1, .int a1)], [], (q_kN s c n))) rfl rfl h440 ?_
    refine q_RT_seg (g2 := (40, [(0, .ref 72), (1, .int a1)], [.int (s.2.1 8 1)], (q_kN s c n))) 2 (fun _ _ => rfl) ?_
    exact q_RT_ret rfl rfl rfl
  | false =>
    refine q_RT_cF ?_
    refine q_RT_rsF (g2 := (7, [(0, .ref 72), (1, .int a1)], [], (q_kN s c n))) rfl rfl h440 ?_
    refine q_RT_seg (g2 := (11, [(0, .ref 72), (1, .int a1)], [.int (s.2.1 8 1)], (q_kN s c n))) 2 (fun _ _ => rfl) ?_
    refine q_RT_seg (g2 := (13, [(0, .ref 72), (1, .int a1)], [.int 40, .int (s.2.1 8 1)], (q_kN s c n))) 1 (fun _ _ => rfl) ?_
    cases h441 : decide (s.2.1 8 1 < 40) with
    | true =>
      refine q_RT_cT ?_
      refine q_RT_rsF (g2 := (16, [(0, .ref 72), (1, .int a1)], [], (q_kN s c n))) rfl rfl (q_d_geT h441) ?_
      refine q_RT_seg (g2 := (24, [(0, .ref 72), (1, .int a1)], [.int (s.2.1 8 1), .ref 73], (q_kN s c n))) 4 (fun _ _ => rfl) ?_
      refine q_RT_seg (g2 := (25, [(0, .ref 72), (1, .int a1)], [.int a1, .int (s.2.1 8 1), .ref 73], (q_kN s c n))) 1 (fun _ _ => rfl) ?_
      refine q_RT_rsT (g2 := (26, [(0, .ref 72), (1, .int a1)], [], (q_kN (q_sA s 9 (upd (s.1 9) ((s.2.1 8 1).toNatClampNeg) a1)) c n))) rfl rfl (q_in_bd (x := s.2.1 8 1) (n := 40) (U := 39) (L := 0) (q_lo1 h440) (q_hi1 h441)) ?_
      refine q_RT_seg (g2 := (31, [(0, .ref 72), (1, .int a1)], [.int (s.2.1 8 1), .ref 72], (q_kN (q_sA s 9 (upd (s.1 9) ((s.2.1 8 1).toNatClampNeg) a1)) c n))) 3 (fun _ _ => rfl) ?_
      refine q_RT_seg (g2 := (40, [(0, .ref 72), (1, .int a1)], [.int ((s.2.1 8 1) + 1)], (q_kN (q_sI (q_sA s 9 (upd (s.1 9) ((s.2.1 8 1).toNatClampNeg) a1)) 8 1 ((s.2.1 8 1) + 1)) c n))) 5 (fun _ _ => rfl) ?_
      exact q_RT_ret rfl rfl rfl
    | false =>
      refine q_RT_cF ?_
      refine q_RT_rsT (g2 := (36, [(0, .ref 72), (1, .int a1)], [], (q_kN s c n))) rfl rfl (q_d_geF h441) ?_
      refine q_RT_seg (g2 := (40, [(0, .ref 72), (1, .int a1)], [.int (s.2.1 8 1)], (q_kN s c n))) 2 (fun _ _ => rfl) ?_
      exact q_RT_ret rfl rfl rfl
def dz_N176_72 (s : q_S) : q_S × Int32 :=
  ((q_sI (q_sI s 8 2 0) 8 3 0), (s.2.1 8 2))
set_option maxHeartbeats 4000000 in
theorem dzt_N176_72 (s : q_S) (c n : Nat) : q_Ca q_TB0 1 175 [.ref 72] (q_kN s c n) ((q_oIN c n) (dz_N176_72 s)) := by
  refine q_CaT_of (φ := (q_oIN c n)) (Nat.le_of_ble_eq_true rfl) ?_
  unfold dz_N176_72
  refine q_RT_seg (g2 := (4, [(0, .ref 72)], [.int (s.2.1 8 2)], (q_kN s c n))) 2 (fun _ _ => rfl) ?_
  refine q_RT_seg (g2 := (16, [(1, .int (s.2.1 8 2)), (0, .ref 72)], [.int (s.2.1 8 2)], (q_kN (q_sI (q_sI s 8 2 0) 8 3 0) c n))) 8 (fun _ _ => rfl) ?_
  exact q_RT_ret rfl rfl rfl
def dz_N79_64 (s : q_S) (a1 : Int32) (a2 : Int32) (a3 : Int32) (a4 : Int32) : Option (q_S × Int32) :=
  cond (decide (a1 < 0)) (some (s, 0)) (cond (decide (12 < a1)) (some (s, 0)) (cond (decide (a1 = 0)) ((dz_N97_65 s a2 a3).bind fun r20 => some (r20.1, r20.2)) (cond (decide (a1 = 1)) (q_let (dz_N98_65 s a2 a3) fun r21 => some (r21.1, r21.2)) (cond (decide (a1 = 2)) (q_let (dz_N99_65 s ((512 * a2) + a3) a4) fun r22 => some (r22.1, r22.2)) (cond (decide (a1 = 3)) ((dz_N100_65 s a2 a3 a4).bind fun r30 => some (r30.1, r30.2)) (cond (decide (a1 = 4)) (q_let (dz_N134_87 s a2 a3) fun r32 => some (r32.1, r32.2)) (cond (decide (a1 = 5)) ((dz_N80_64 s).bind fun r49 => some (r49.1, r49.2)) (cond (decide (a1 = 6)) ((dz_N81_64 s).bind fun r52 => some (r52.1, r52.2)) (cond (decide (a1 = 7)) ((dz_N82_64_f s a2).bind fun r339 => some (r339.1, r339.2)) (cond (decide (a1 = 8)) ((dz_N82_64_t s 200).bind fun r347 => some (r347.1, r347.2)) (cond (decide (a1 = 9)) ((dz_N181_74 s a2 a3 a4).bind fun r350 => some (r350.1, r350.2)) (cond (decide (a1 = 10)) (q_let (dz_N180_74 s a2) fun r351 => some (r351.1, r351.2)) (cond (decide (a1 = 11)) (q_let (dz_N175_72 s a2) fun r352 => some (r352.1, r352.2)) (q_let (dz_N176_72 s) fun r353 => some (r353.1, r353.2)))))))))))))))
set_option maxHeartbeats 4000000 in
theorem dzt_N79_64 (s : q_S) (c n : Nat) (a1 : Int32) (a2 : Int32) (a3 : Int32) (a4 : Int32) (x : q_S × Int32) (h : dz_N79_64 s a1 a2 a3 a4 = some x) : q_Ca q_TB0 7 78 [.ref 64, .int a1, .int a2, .int a3, .int a4] (q_kN s c n) ((q_oIN c n) x) := by
  refine q_CaP_of (φ := (q_oIN c n)) (Nat.le_of_ble_eq_true rfl) ?_ h
  clear h
  unfold dz_N79_64
  refine q_RP_seg (g2 := (1, [(0, .ref 64), (1, .int a1), (2, .int a2), (3, .int a3), (4, .int a4)], [.int a1], (q_kN s c n))) 1 (fun _ _ => rfl) ?_
  cases h47 : decide (a1 < 0) with
  | true =>
    refine q_RP_cT ?_
    refine q_RP_st1 (g2 := (203, [(0, .ref 64), (1, .int a1), (2, .int a2), (3, .int a3), (4, .int a4)], [], (q_kN s c n))) rfl (if_pos (Or.inl (Int32.lt_iff_toInt_lt.mp (of_decide_eq_true h47)))) ?_
    refine q_RP_seg (g2 := (204, [(0, .ref 64), (1, .int a1), (2, .int a2), (3, .int a3), (4, .int a4)], [.int 0], (q_kN s c n))) 1 (fun _ _ => rfl) ?_
    exact q_RP_ret rfl rfl rfl
  | false =>
    refine q_RP_cF ?_
    cases h48 : decide (12 < a1) with
    | true =>
      refine q_RP_cT ?_
      refine q_RP_st1 (g2 := (203, [(0, .ref 64), (1, .int a1), (2, .int a2), (3, .int a3), (4, .int a4)], [], (q_kN s c n))) rfl (if_pos (Or.inr (Int32.lt_iff_toInt_lt.mp (of_decide_eq_true h48)))) ?_
      refine q_RP_seg (g2 := (204, [(0, .ref 64), (1, .int a1), (2, .int a2), (3, .int a3), (4, .int a4)], [.int 0], (q_kN s c n))) 1 (fun _ _ => rfl) ?_
      exact q_RP_ret rfl rfl rfl
    | false =>
      refine q_RP_cF ?_
      cases h49 : decide (a1 = 0) with
      | true =>
        refine q_RP_cT ?_
        refine q_RP_st1 (g2 := (68, [(0, .ref 64), (1, .int a1), (2, .int a2), (3, .int a3), (4, .int a4)], [], (q_kN s c n))) rfl (by rw [of_decide_eq_true h49]; rfl) ?_
        refine q_RP_seg (g2 := (74, [(0, .ref 64), (1, .int a1), (2, .int a2), (3, .int a3), (4, .int a4)], [.int a3, .int a2, .ref 65], (q_kN s c n))) 4 (fun _ _ => rfl) ?_
        refine q_RP_bd fun r20 er20 => ?_
        refine q_RP_call (v := (some (.int r20.2))) (h2 := (q_kN r20.1 c n)) rfl rfl ((dzt_N97_65 s c n a2 a3 r20 er20).le (Nat.le_of_ble_eq_true rfl)) ?_
        show q_RP _ _ _ (77, [(0, .ref 64), (1, .int a1), (2, .int a2), (3, .int a3), (4, .int a4)], [.int r20.2], (q_kN r20.1 c n)) _ _
        exact q_RP_ret rfl rfl rfl
      | false =>
        refine q_RP_cF ?_
        cases h50 : decide (a1 = 1) with
        | true =>
          refine q_RP_cT ?_
          refine q_RP_st1 (g2 := (78, [(0, .ref 64), (1, .int a1), (2, .int a2), (3, .int a3), (4, .int a4)], [], (q_kN s c n))) rfl (by rw [of_decide_eq_true h50]; rfl) ?_
          refine q_RP_seg (g2 := (84, [(0, .ref 64), (1, .int a1), (2, .int a2), (3, .int a3), (4, .int a4)], [.int a3, .int a2, .ref 65], (q_kN s c n))) 4 (fun _ _ => rfl) ?_
          refine q_RP_call (v := (some (.int (dz_N98_65 s a2 a3).2))) (h2 := (q_kN (dz_N98_65 s a2 a3).1 c n)) rfl rfl ((dzt_N98_65 s c n a2 a3).le (Nat.le_of_ble_eq_true rfl)) ?_
          generalize dz_N98_65 s a2 a3 = r21
          refine q_RP_let ?_
          show q_RP _ _ _ (87, [(0, .ref 64), (1, .int a1), (2, .int a2), (3, .int a3), (4, .int a4)], [.int r21.2], (q_kN r21.1 c n)) _ _
          exact q_RP_ret rfl rfl rfl
        | false =>
          refine q_RP_cF ?_
          cases h51 : decide (a1 = 2) with
          | true =>
            refine q_RP_cT ?_
            refine q_RP_st1 (g2 := (88, [(0, .ref 64), (1, .int a1), (2, .int a2), (3, .int a3), (4, .int a4)], [], (q_kN s c n))) rfl (by rw [of_decide_eq_true h51]; rfl) ?_
            refine q_RP_seg (g2 := (101, [(0, .ref 64), (1, .int a1), (2, .int a2), (3, .int a3), (4, .int a4)], [.int a4, .int ((512 * a2) + a3), .ref 65], (q_kN s c n))) 8 (fun _ _ => rfl) ?_
            refine q_RP_call (v := (some (.int (dz_N99_65 s ((512 * a2) + a3) a4).2))) (h2 := (q_kN (dz_N99_65 s ((512 * a2) + a3) a4).1 c n)) rfl rfl ((dzt_N99_65 s c n ((512 * a2) + a3) a4).le (Nat.le_of_ble_eq_true rfl)) ?_
            generalize dz_N99_65 s ((512 * a2) + a3) a4 = r22
            refine q_RP_let ?_
            show q_RP _ _ _ (104, [(0, .ref 64), (1, .int a1), (2, .int a2), (3, .int a3), (4, .int a4)], [.int r22.2], (q_kN r22.1 c n)) _ _
            exact q_RP_ret rfl rfl rfl
          | false =>
            refine q_RP_cF ?_
            cases h52 : decide (a1 = 3) with
            | true =>
              refine q_RP_cT ?_
              refine q_RP_st1 (g2 := (105, [(0, .ref 64), (1, .int a1), (2, .int a2), (3, .int a3), (4, .int a4)], [], (q_kN s c n))) rfl (by rw [of_decide_eq_true h52]; rfl) ?_
              refine q_RP_seg (g2 := (113, [(0, .ref 64), (1, .int a1), (2, .int a2), (3, .int a3), (4, .int a4)], [.int a4, .int a3, .int a2, .ref 65], (q_kN s c n))) 5 (fun _ _ => rfl) ?_
              refine q_RP_bd fun r30 er30 => ?_
              refine q_RP_call (v := (some (.int r30.2))) (h2 := (q_kN r30.1 c n)) rfl rfl ((dzt_N100_65 s c n a2 a3 a4 r30 er30).le (Nat.le_of_ble_eq_true rfl)) ?_
              show q_RP _ _ _ (116, [(0, .ref 64), (1, .int a1), (2, .int a2), (3, .int a3), (4, .int a4)], [.int r30.2], (q_kN r30.1 c n)) _ _
              exact q_RP_ret rfl rfl rfl
            | false =>
              refine q_RP_cF ?_
              cases h64 : decide (a1 = 4) with
              | true =>
                refine q_RP_cT ?_
                refine q_RP_st1 (g2 := (117, [(0, .ref 64), (1, .int a1), (2, .int a2), (3, .int a3), (4, .int a4)], [], (q_kN s c n))) rfl (by rw [of_decide_eq_true h64]; rfl) ?_
                refine q_RP_seg (g2 := (123, [(0, .ref 64), (1, .int a1), (2, .int a2), (3, .int a3), (4, .int a4)], [.int a3, .int a2, .ref 87], (q_kN s c n))) 4 (fun _ _ => rfl) ?_
                refine q_RP_call (v := (some (.int (dz_N134_87 s a2 a3).2))) (h2 := (q_kN (dz_N134_87 s a2 a3).1 c n)) rfl rfl ((dzt_N134_87 s c n a2 a3).le (Nat.le_of_ble_eq_true rfl)) ?_
                generalize dz_N134_87 s a2 a3 = r32
                refine q_RP_let ?_
                show q_RP _ _ _ (126, [(0, .ref 64), (1, .int a1), (2, .int a2), (3, .int a3), (4, .int a4)], [.int r32.2], (q_kN r32.1 c n)) _ _
                exact q_RP_ret rfl rfl rfl
              | false =>
                refine q_RP_cF ?_
                cases h77 : decide (a1 = 5) with
                | true =>
                  refine q_RP_cT ?_
                  refine q_RP_st1 (g2 := (127, [(0, .ref 64), (1, .int a1), (2, .int a2), (3, .int a3), (4, .int a4)], [], (q_kN s c n))) rfl (by rw [of_decide_eq_true h77]; rfl) ?_
                  refine q_RP_seg (g2 := (128, [(0, .ref 64), (1, .int a1), (2, .int a2), (3, .int a3), (4, .int a4)], [.ref 64], (q_kN s c n))) 1 (fun _ _ => rfl) ?_
                  refine q_RP_bd fun r49 er49 => ?_
                  refine q_RP_call (v := (some (.int r49.2))) (h2 := (q_kN r49.1 c n)) rfl rfl ((dzt_N80_64 s c n r49 er49).le (Nat.le_of_ble_eq_true rfl)) ?_
                  show q_RP _ _ _ (131, [(0, .ref 64), (1, .int a1), (2, .int a2), (3, .int a3), (4, .int a4)], [.int r49.2], (q_kN r49.1 c n)) _ _
                  exact q_RP_ret rfl rfl rfl
                | false =>
                  refine q_RP_cF ?_
                  cases h83 : decide (a1 = 6) with
                  | true =>
                    refine q_RP_cT ?_
                    refine q_RP_st1 (g2 := (132, [(0, .ref 64), (1, .int a1), (2, .int a2), (3, .int a3), (4, .int a4)], [], (q_kN s c n))) rfl (by rw [of_decide_eq_true h83]; rfl) ?_
                    refine q_RP_seg (g2 := (133, [(0, .ref 64), (1, .int a1), (2, .int a2), (3, .int a3), (4, .int a4)], [.ref 64], (q_kN s c n))) 1 (fun _ _ => rfl) ?_
                    refine q_RP_bd fun r52 er52 => ?_
                    refine q_RP_call (v := (some (.int r52.2))) (h2 := (q_kN r52.1 c n)) rfl rfl ((dzt_N81_64 s c n r52 er52).le (Nat.le_of_ble_eq_true rfl)) ?_
                    show q_RP _ _ _ (136, [(0, .ref 64), (1, .int a1), (2, .int a2), (3, .int a3), (4, .int a4)], [.int r52.2], (q_kN r52.1 c n)) _ _
                    exact q_RP_ret rfl rfl rfl
                  | false =>
                    refine q_RP_cF ?_
                    cases h84 : decide (a1 = 7) with
                    | true =>
                      refine q_RP_cT ?_
                      refine q_RP_st1 (g2 := (137, [(0, .ref 64), (1, .int a1), (2, .int a2), (3, .int a3), (4, .int a4)], [], (q_kN s c n))) rfl (by rw [of_decide_eq_true h84]; rfl) ?_
                      refine q_RP_seg (g2 := (140, [(0, .ref 64), (1, .int a1), (2, .int a2), (3, .int a3), (4, .int a4)], [.int 0, .int a2, .ref 64], (q_kN s c n))) 3 (fun _ _ => rfl) ?_
                      refine q_RP_bd fun r339 er339 => ?_
                      refine q_RP_call (v := (some (.int r339.2))) (h2 := (q_kN r339.1 c n)) rfl rfl ((dzt_N82_64_f s c n a2 r339 er339).le (Nat.le_of_ble_eq_true rfl)) ?_
                      show q_RP _ _ _ (143, [(0, .ref 64), (1, .int a1), (2, .int a2), (3, .int a3), (4, .int a4)], [.int r339.2], (q_kN r339.1 c n)) _ _
                      exact q_RP_ret rfl rfl rfl
                    | false =>
                      refine q_RP_cF ?_
                      cases h420 : decide (a1 = 8) with
                      | true =>
                        refine q_RP_cT ?_
                        refine q_RP_st1 (g2 := (144, [(0, .ref 64), (1, .int a1), (2, .int a2), (3, .int a3), (4, .int a4)], [], (q_kN s c n))) rfl (by rw [of_decide_eq_true h420]; rfl) ?_
                        refine q_RP_seg (g2 := (149, [(0, .ref 64), (1, .int a1), (2, .int a2), (3, .int a3), (4, .int a4)], [.int 1, .int 200, .ref 64], (q_kN s c n))) 3 (fun _ _ => rfl) ?_
                        refine q_RP_bd fun r347 er347 => ?_
                        refine q_RP_call (v := (some (.int r347.2))) (h2 := (q_kN r347.1 c n)) rfl rfl ((dzt_N82_64_t s c n 200 r347 er347).le (Nat.le_of_ble_eq_true rfl)) ?_
                        show q_RP _ _ _ (152, [(0, .ref 64), (1, .int a1), (2, .int a2), (3, .int a3), (4, .int a4)], [.int r347.2], (q_kN r347.1 c n)) _ _
                        exact q_RP_ret rfl rfl rfl
                      | false =>
                        refine q_RP_cF ?_
                        cases h428 : decide (a1 = 9) with
                        | true =>
                          refine q_RP_cT ?_
                          refine q_RP_st1 (g2 := (153, [(0, .ref 64), (1, .int a1), (2, .int a2), (3, .int a3), (4, .int a4)], [], (q_kN s c n))) rfl (by rw [of_decide_eq_true h428]; rfl) ?_
                          refine q_RP_seg (g2 := (164, [(0, .ref 64), (1, .int a1), (2, .int a2), (3, .int a3), (4, .int a4)], [.int a4, .int a3, .int a2, .ref 74], (q_kN s c n))) 6 (fun _ _ => rfl) ?_
                          refine q_RP_bd fun r350 er350 => ?_
                          refine q_RP_call (v := (some (.int r350.2))) (h2 := (q_kN r350.1 c n)) rfl rfl ((dzt_N181_74 s c n a2 a3 a4 r350 er350).le (Nat.le_of_ble_eq_true rfl)) ?_
                          show q_RP _ _ _ (167, [(0, .ref 64), (1, .int a1), (2, .int a2), (3, .int a3), (4, .int a4)], [.int r350.2], (q_kN r350.1 c n)) _ _
                          exact q_RP_ret rfl rfl rfl
                        | false =>
                          refine q_RP_cF ?_
                          cases h438 : decide (a1 = 10) with
                          | true =>
                            refine q_RP_cT ?_
                            refine q_RP_st1 (g2 := (168, [(0, .ref 64), (1, .int a1), (2, .int a2), (3, .int a3), (4, .int a4)], [], (q_kN s c n))) rfl (by rw [of_decide_eq_true h438]; rfl) ?_
                            refine q_RP_seg (g2 := (176, [(0, .ref 64), (1, .int a1), (2, .int a2), (3, .int a3), (4, .int a4)], [.int a2, .ref 74], (q_kN s c n))) 4 (fun _ _ => rfl) ?_
                            refine q_RP_call (v := (some (.int (dz_N180_74 s a2).2))) (h2 := (q_kN (dz_N180_74 s a2).1 c n)) rfl rfl ((dzt_N180_74 s c n a2).le (Nat.le_of_ble_eq_true rfl)) ?_
                            generalize dz_N180_74 s a2 = r351
                            refine q_RP_let ?_
                            show q_RP _ _ _ (179, [(0, .ref 64), (1, .int a1), (2, .int a2), (3, .int a3), (4, .int a4)], [.int r351.2], (q_kN r351.1 c n)) _ _
                            exact q_RP_ret rfl rfl rfl
                          | false =>
                            refine q_RP_cF ?_
                            cases h439 : decide (a1 = 11) with
                            | true =>
                              refine q_RP_cT ?_
                              refine q_RP_st1 (g2 := (180, [(0, .ref 64), (1, .int a1), (2, .int a2), (3, .int a3), (4, .int a4)], [], (q_kN s c n))) rfl (by rw [of_decide_eq_true h439]; rfl) ?_
                              refine q_RP_seg (g2 := (188, [(0, .ref 64), (1, .int a1), (2, .int a2), (3, .int a3), (4, .int a4)], [.int a2, .ref 72], (q_kN s c n))) 4 (fun _ _ => rfl) ?_
                              refine q_RP_call (v := (some (.int (dz_N175_72 s a2).2))) (h2 := (q_kN (dz_N175_72 s a2).1 c n)) rfl rfl ((dzt_N175_72 s c n a2).le (Nat.le_of_ble_eq_true rfl)) ?_
                              generalize dz_N175_72 s a2 = r352
                              refine q_RP_let ?_
                              show q_RP _ _ _ (191, [(0, .ref 64), (1, .int a1), (2, .int a2), (3, .int a3), (4, .int a4)], [.int r352.2], (q_kN r352.1 c n)) _ _
                              exact q_RP_ret rfl rfl rfl
                            | false =>
                              refine q_RP_cF ?_
                              have h442 : a1 = 12 := Int32.toInt_inj.mp (by have e0 := q_neI h49 (n := 0); have e1 := q_neI h50 (n := 1); have e2 := q_neI h51 (n := 2); have e3 := q_neI h52 (n := 3); have e4 := q_neI h64 (n := 4); have e5 := q_neI h77 (n := 5); have e6 := q_neI h83 (n := 6); have e7 := q_neI h84 (n := 7); have e8 := q_neI h420 (n := 8); have e9 := q_neI h428 (n := 9); have e10 := q_neI h438 (n := 10); have e11 := q_neI h439 (n := 11); have l1 : 0 ≤ (a1).toInt := q_lo1 h47; have l2 : (a1).toInt ≤ 12 := q_hi2 h48; show (a1).toInt = 12; omega)
                              refine q_RP_st1 (g2 := (192, [(0, .ref 64), (1, .int a1), (2, .int a2), (3, .int a3), (4, .int a4)], [], (q_kN s c n))) rfl (by rw [h442]; rfl) ?_
                              refine q_RP_seg (g2 := (199, [(0, .ref 64), (1, .int a1), (2, .int a2), (3, .int a3), (4, .int a4)], [.ref 72], (q_kN s c n))) 3 (fun _ _ => rfl) ?_
                              refine q_RP_call (v := (some (.int (dz_N176_72 s).2))) (h2 := (q_kN (dz_N176_72 s).1 c n)) rfl rfl ((dzt_N176_72 s c n).le (Nat.le_of_ble_eq_true rfl)) ?_
                              generalize dz_N176_72 s = r353
                              refine q_RP_let ?_
                              show q_RP _ _ _ (202, [(0, .ref 64), (1, .int a1), (2, .int a2), (3, .int a3), (4, .int a4)], [.int r353.2], (q_kN r353.1 c n)) _ _
                              exact q_RP_ret rfl rfl rfl
def dz_N110_96_78 (s : q_S) : q_S :=
  (q_sA (q_sA s 33 (va_cpy (s.1 15) (s.1 33) 0 0 4096)) 34 (va_cpy (s.1 16) (s.1 34) 0 0 48))
set_option maxHeartbeats 4000000 in
theorem dzt_N110_96_78 (s : q_S) (c n : Nat) : q_Ca q_TB0 1 109 [.ref 96, .ref 78] (q_kN s c n) ((q_oSN c n) (dz_N110_96_78 s)) := by
  refine q_CaT_of (φ := (q_oSN c n)) (Nat.le_of_ble_eq_true rfl) ?_
  unfold dz_N110_96_78
  refine q_RT_seg (g2 := (13, [(0, .ref 96), (1, .ref 78)], [.int 4096, .int 0, .ref 97, .int 0, .ref 79], (q_kN s c n))) 7 (fun _ _ => rfl) ?_
  refine q_RT_rsT (g2 := (16, [(0, .ref 96), (1, .ref 78)], [], (q_kN (q_sA s 33 (va_cpy (s.1 15) (s.1 33) 0 0 4096)) c n))) rfl rfl (q_acb rfl) ?_
  refine q_RT_seg (g2 := (28, [(0, .ref 96), (1, .ref 78)], [.int 48, .int 0, .ref 98, .int 0, .ref 80], (q_kN (q_sA s 33 (va_cpy (s.1 15) (s.1 33) 0 0 4096)) c n))) 7 (fun _ _ => rfl) ?_
  refine q_RT_rsT (g2 := (31, [(0, .ref 96), (1, .ref 78)], [], (q_kN (q_sA (q_sA s 33 (va_cpy (s.1 15) (s.1 33) 0 0 4096)) 34 (va_cpy (s.1 16) (s.1 34) 0 0 48)) c n))) rfl rfl (q_acb rfl) ?_
  exact q_RT_ret rfl rfl rfl
def dz_N318_98_5 (m : Nat) : q_S → Int32 → Int32 → Int32 → Option (q_S) := Nat.rec (motive := fun _ => q_S → Int32 → Int32 → Int32 → Option (q_S)) (fun _ _ _ _ => none) (fun _ k5 s v1 v2 v3 =>
  cond (decide (v2 < v3)) (cond (q_in v2 48) (k5 (q_sA s 34 (upd (s.1 34) (v2.toNatClampNeg) v1)) v1 (v2 + 1) v3) none) (some s)) m
theorem dzs_N318_98_5 (m : Nat) (s : q_S) (v1 : Int32) (v2 : Int32) (v3 : Int32) : dz_N318_98_5 (m + 1) s v1 v2 v3 = (fun k5 : q_S → Int32 → Int32 → Int32 → Option (q_S) =>
  cond (decide (v2 < v3)) (cond (q_in v2 48) (k5 (q_sA s 34 (upd (s.1 34) (v2.toNatClampNeg) v1)) v1 (v2 + 1) v3) none) (some s)) (dz_N318_98_5 m) := rfl
set_option maxHeartbeats 4000000 in
theorem dzt_N318_98_5 (c n : Nat) : ∀ (m : Nat) (s : q_S) (v1 : Int32) (v2 : Int32) (v3 : Int32), q_RP q_TB0 0 317 (5, [(0, .ref 98), (1, .int v1), (2, .int v2), (3, .int v3)], [], (q_kN s c n)) (q_oSN c n) (dz_N318_98_5 m s v1 v2 v3) := by
  intro m
  induction m with
  | zero => intro s v1 v2 v3; exact q_RP_no
  | succ m ih =>
    intro s v1 v2 v3
    have hk5 := ih
    clear ih
    rw [dzs_N318_98_5]
    generalize dz_N318_98_5 m = k5 at hk5 ⊢
    dsimp only
    refine q_RP_seg (g2 := (7, [(0, .ref 98), (1, .int v1), (2, .int v2), (3, .int v3)], [.int v3, .int v2], (q_kN s c n))) 2 (fun _ _ => rfl) ?_
    cases h450 : decide (v2 < v3) with
    | true =>
      refine q_RP_cT ?_
      refine q_RP_rsF (g2 := (10, [(0, .ref 98), (1, .int v1), (2, .int v2), (3, .int v3)], [], (q_kN s c n))) rfl rfl (q_d_geT h450) ?_
      refine q_RP_seg (g2 := (13, [(0, .ref 98), (1, .int v1), (2, .int v2), (3, .int v3)], [.int v1, .int v2, .ref 98], (q_kN s c n))) 3 (fun _ _ => rfl) ?_
      refine q_RP_as fun i451 => ?_
      refine q_RP_rsT (g2 := (14, [(0, .ref 98), (1, .int v1), (2, .int v2), (3, .int v3)], [], (q_kN (q_sA s 34 (upd (s.1 34) (v2.toNatClampNeg) v1)) c n))) rfl rfl i451 ?_
      refine q_RP_seg (g2 := (5, [(2, .int (v2 + 1)), (0, .ref 98), (1, .int v1), (3, .int v3)], [], (q_kN (q_sA s 34 (upd (s.1 34) (v2.toNatClampNeg) v1)) c n))) 2 (fun _ _ => rfl) ?_
      exact q_RP_xt (q_xt_mk (q_mn1 1 rfl (q_mn1 2 rfl (q_mn1 0 rfl (q_mn1 3 rfl q_mn0)))) rfl) (hk5 (q_sA s 34 (upd (s.1 34) (v2.toNatClampNeg) v1)) v1 (v2 + 1) v3)
    | false =>
      refine q_RP_cF ?_
      refine q_RP_rsT (g2 := (20, [(0, .ref 98), (1, .int v1), (2, .int v2), (3, .int v3)], [], (q_kN s c n))) rfl rfl (q_d_geF h450) ?_
      exact q_RP_ret rfl rfl rfl
def dz_N318_98 (s : q_S) (a1 : Int32) : Option (q_S) :=
  dz_N318_98_5 5000 s a1 0 48
set_option maxHeartbeats 4000000 in
theorem dzt_N318_98 (s : q_S) (c n : Nat) (a1 : Int32) (x : q_S) (h : dz_N318_98 s a1 = some x) : q_Ca q_TB0 1 317 [.ref 98, .int a1] (q_kN s c n) ((q_oSN c n) x) := by
  refine q_CaP_of (φ := (q_oSN c n)) (Nat.le_of_ble_eq_true rfl) ?_ h
  clear h
  unfold dz_N318_98
  refine q_RP_seg (g2 := (5, [(3, .int 48), (2, .int 0), (0, .ref 98), (1, .int a1)], [], (q_kN s c n))) 5 (fun _ _ => rfl) ?_
  exact q_RP_xt (q_xt_mk (q_mn1 2 rfl (q_mn1 3 rfl (q_mn1 1 rfl (q_mn1 0 rfl q_mn0)))) rfl) (dzt_N318_98_5 c n 5000 s a1 0 48)
def dz_N113_96 (s : q_S) : Option (q_S) :=
  (dz_N318_98 s 0).bind fun r356 => some r356
set_option maxHeartbeats 4000000 in
theorem dzt_N113_96 (s : q_S) (c n : Nat) (x : q_S) (h : dz_N113_96 s = some x) : q_Ca q_TB0 2 112 [.ref 96] (q_kN s c n) ((q_oSN c n) x) := by
  refine q_CaP_of (φ := (q_oSN c n)) (Nat.le_of_ble_eq_true rfl) ?_ h
  clear h
  unfold dz_N113_96
  refine q_RP_seg (g2 := (5, [(0, .ref 96)], [.int 0, .ref 98], (q_kN s c n))) 3 (fun _ _ => rfl) ?_
  refine q_RP_bd fun r356 er356 => ?_
  refine q_RP_call (v := none) (h2 := (q_kN r356 c n)) rfl rfl ((dzt_N318_98 s c n 0 r356 er356).le (Nat.le_of_ble_eq_true rfl)) ?_
  show q_RP _ _ _ (8, [(0, .ref 96)], [], (q_kN r356 c n)) _ _
  exact q_RP_ret rfl rfl rfl
def dz_N112_96 (s : q_S) (a1 : Int32) (a2 : Int32) : q_S :=
  cond (decide (a1 - 3840 < 0)) ((q_sA s 33 (upd (s.1 33) ((a1 &&& 4095).toNatClampNeg) (a2 &&& 255)))) (cond (decide (a1 - 3840 < 48)) (cond (decide ((fun j => q_o1.getD j 0) ((a1 - 3840).toNatClampNeg) = 0)) (s) ((q_sA s 34 (upd (s.1 34) ((a1 - 3840).toNatClampNeg) (a2 &&& ((fun j => q_o1.getD j 0) ((a1 - 3840).toNatClampNeg))))))) ((q_sA s 33 (upd (s.1 33) ((a1 &&& 4095).toNatClampNeg) (a2 &&& 255)))))
set_option maxHeartbeats 4000000 in
theorem dzt_N112_96 (s : q_S) (c n : Nat) (a1 : Int32) (a2 : Int32) : q_Ca q_TB0 1 111 [.ref 96, .int a1, .int a2] (q_kN s c n) ((q_oSN c n) (dz_N112_96 s a1 a2)) := by
  refine q_CaT_of (φ := (q_oSN c n)) (Nat.le_of_ble_eq_true rfl) ?_
  unfold dz_N112_96
  refine q_RT_seg (g2 := (7, [(3, .int (a1 - 3840)), (0, .ref 96), (1, .int a1), (2, .int a2)], [.int (a1 - 3840)], (q_kN s c n))) 5 (fun _ _ => rfl) ?_
  cases h452 : decide (a1 - 3840 < 0) with
  | true =>
    refine q_RT_cT ?_
    refine q_RT_rsT (g2 := (16, [(3, .int (a1 - 3840)), (0, .ref 96), (1, .int a1), (2, .int a2)], [], (q_kN s c n))) rfl rfl h452 ?_
    refine q_RT_seg (g2 := (30, [(3, .int (a1 - 3840)), (0, .ref 96), (1, .int a1), (2, .int a2)], [.int (a2 &&& 255), .int (a1 &&& 4095), .ref 97], (q_kN s c n))) 8 (fun _ _ => rfl) ?_
    refine q_RT_rsT (g2 := (31, [(3, .int (a1 - 3840)), (0, .ref 96), (1, .int a1), (2, .int a2)], [], (q_kN (q_sA s 33 (upd (s.1 33) ((a1 &&& 4095).toNatClampNeg) (a2 &&& 255))) c n))) rfl rfl (q_in_bd (x := a1 &&& 4095) (n := 4096) (U := 4095) (L := 0) (q_and_lo a1 4095) (q_and_hi a1 4095 4095)) ?_
    refine q_RT_seg (g2 := (55, [(3, .int (a1 - 3840)), (0, .ref 96), (1, .int a1), (2, .int a2)], [], (q_kN (q_sA s 33 (upd (s.1 33) ((a1 &&& 4095).toNatClampNeg) (a2 &&& 255))) c n))) 1 (fun _ _ => rfl) ?_
    exact q_RT_ret rfl rfl rfl
  | false =>
    refine q_RT_cF ?_
    refine q_RT_rsF (g2 := (10, [(3, .int (a1 - 3840)), (0, .ref 96), (1, .int a1), (2, .int a2)], [], (q_kN s c n))) rfl rfl h452 ?_
    refine q_RT_seg (g2 := (13, [(3, .int (a1 - 3840)), (0, .ref 96), (1, .int a1), (2, .int a2)], [.int 48, .int (a1 - 3840)], (q_kN s c n))) 2 (fun _ _ => rfl) ?_
    cases h453 : decide (a1 - 3840 < 48) with
    | true =>
      refine q_RT_cT ?_
      refine q_RT_rsT (g2 := (34, [(3, .int (a1 - 3840)), (0, .ref 96), (1, .int a1), (2, .int a2)], [], (q_kN s c n))) rfl rfl h453 ?_
      refine q_RT_seg (g2 := (38, [(3, .int (a1 - 3840)), (0, .ref 96), (1, .int a1), (2, .int a2)], [.int (a1 - 3840), .ref 1], (q_kN s c n))) 2 (fun _ _ => rfl) ?_
      refine q_RT_rsT (g2 := (39, [(3, .int (a1 - 3840)), (0, .ref 96), (1, .int a1), (2, .int a2)], [.int ((fun j => q_o1.getD j 0) ((a1 - 3840).toNatClampNeg))], (q_kN s c n))) rfl rfl (q_in_bd (x := a1 - 3840) (n := 48) (U := 47) (L := 0) (q_lo1 h452) (q_hi1 h453)) ?_
      cases h454 : decide ((fun j => q_o1.getD j 0) ((a1 - 3840).toNatClampNeg) = 0) with
      | true =>
        refine q_RT_cT ?_
        refine q_RT_rsT (g2 := (55, [(3, .int (a1 - 3840)), (0, .ref 96), (1, .int a1), (2, .int a2)], [], (q_kN s c n))) rfl rfl h454 ?_
        exact q_RT_ret rfl rfl rfl
      | false =>
        refine q_RT_cF ?_
        refine q_RT_rsF (g2 := (42, [(3, .int (a1 - 3840)), (0, .ref 96), (1, .int a1), (2, .int a2)], [], (q_kN s c n))) rfl rfl h454 ?_
        refine q_RT_seg (g2 := (52, [(3, .int (a1 - 3840)), (0, .ref 96), (1, .int a1), (2, .int a2)], [.int (a1 - 3840), .ref 1, .int a2, .int (a1 - 3840), .ref 98], (q_kN s c n))) 6 (fun _ _ => rfl) ?_
        refine q_RT_rsT (g2 := (53, [(3, .int (a1 - 3840)), (0, .ref 96), (1, .int a1), (2, .int a2)], [.int ((fun j => q_o1.getD j 0) ((a1 - 3840).toNatClampNeg)), .int a2, .int (a1 - 3840), .ref 98], (q_kN s c n))) rfl rfl (q_in_bd (x := a1 - 3840) (n := 48) (U := 47) (L := 0) (q_lo1 h452) (q_hi1 h453)) ?_
        refine q_RT_seg (g2 := (54, [(3, .int (a1 - 3840)), (0, .ref 96), (1, .int a1), (2, .int a2)], [.int (a2 &&& ((fun j => q_o1.getD j 0) ((a1 - 3840).toNatClampNeg))), .int (a1 - 3840), .ref 98], (q_kN s c n))) 1 (fun _ _ => rfl) ?_
        refine q_RT_rsT (g2 := (55, [(3, .int (a1 - 3840)), (0, .ref 96), (1, .int a1), (2, .int a2)], [], (q_kN (q_sA s 34 (upd (s.1 34) ((a1 - 3840).toNatClampNeg) (a2 &&& ((fun j => q_o1.getD j 0) ((a1 - 3840).toNatClampNeg))))) c n))) rfl rfl (q_in_bd (x := a1 - 3840) (n := 48) (U := 47) (L := 0) (q_lo1 h452) (q_hi1 h453)) ?_
        exact q_RT_ret rfl rfl rfl
    | false =>
      refine q_RT_cF ?_
      refine q_RT_rsF (g2 := (16, [(3, .int (a1 - 3840)), (0, .ref 96), (1, .int a1), (2, .int a2)], [], (q_kN s c n))) rfl rfl h453 ?_
      refine q_RT_seg (g2 := (30, [(3, .int (a1 - 3840)), (0, .ref 96), (1, .int a1), (2, .int a2)], [.int (a2 &&& 255), .int (a1 &&& 4095), .ref 97], (q_kN s c n))) 8 (fun _ _ => rfl) ?_
      refine q_RT_rsT (g2 := (31, [(3, .int (a1 - 3840)), (0, .ref 96), (1, .int a1), (2, .int a2)], [], (q_kN (q_sA s 33 (upd (s.1 33) ((a1 &&& 4095).toNatClampNeg) (a2 &&& 255))) c n))) rfl rfl (q_in_bd (x := a1 &&& 4095) (n := 4096) (U := 4095) (L := 0) (q_and_lo a1 4095) (q_and_hi a1 4095 4095)) ?_
      refine q_RT_seg (g2 := (55, [(3, .int (a1 - 3840)), (0, .ref 96), (1, .int a1), (2, .int a2)], [], (q_kN (q_sA s 33 (upd (s.1 33) ((a1 &&& 4095).toNatClampNeg) (a2 &&& 255))) c n))) 1 (fun _ _ => rfl) ?_
      exact q_RT_ret rfl rfl rfl
def dz_N129_77_96_10 (m : Nat) : q_S → Int32 → Int32 → Option (q_S) := Nat.rec (motive := fun _ => q_S → Int32 → Int32 → Option (q_S)) (fun _ _ _ => none) (fun _ k10 s v1 v3 =>
  cond (decide (v3 < s.2.1 13 2)) (cond (decide (v3 < 3072)) (cond (q_in v3 3072) (cond (decide (v1 < ((s.1 17) (v3.toNatClampNeg)) >>> ((21 &&& 31) : Int32))) (some s) (cond (decide ((((s.1 17) (v3.toNatClampNeg)) >>> ((8 &&& 31) : Int32)) &&& 8191 = 4096)) ((dz_N113_96 s).bind fun r357 => k10 r357 v1 (v3 + 1)) (q_let (dz_N112_96 s ((((s.1 17) (v3.toNatClampNeg)) >>> ((8 &&& 31) : Int32)) &&& 8191) (((s.1 17) (v3.toNatClampNeg)) &&& 255)) fun r358 => k10 r358 v1 (v3 + 1)))) none) (some s)) (some s)) m
theorem dzs_N129_77_96_10 (m : Nat) (s : q_S) (v1 : Int32) (v3 : Int32) : dz_N129_77_96_10 (m + 1) s v1 v3 = (fun k10 : q_S → Int32 → Int32 → Option (q_S) =>
  cond (decide (v3 < s.2.1 13 2)) (cond (decide (v3 < 3072)) (cond (q_in v3 3072) (cond (decide (v1 < ((s.1 17) (v3.toNatClampNeg)) >>> ((21 &&& 31) : Int32))) (some s) (cond (decide ((((s.1 17) (v3.toNatClampNeg)) >>> ((8 &&& 31) : Int32)) &&& 8191 = 4096)) ((dz_N113_96 s).bind fun r357 => k10 r357 v1 (v3 + 1)) (q_let (dz_N112_96 s ((((s.1 17) (v3.toNatClampNeg)) >>> ((8 &&& 31) : Int32)) &&& 8191) (((s.1 17) (v3.toNatClampNeg)) &&& 255)) fun r358 => k10 r358 v1 (v3 + 1)))) none) (some s)) (some s)) (dz_N129_77_96_10 m) := rfl
set_option maxHeartbeats 4000000 in
theorem dzt_N129_77_96_10 (c n : Nat) : ∀ (m : Nat) (s : q_S) (v1 : Int32) (v3 : Int32), q_RP q_TB0 2 128 (10, [(0, .ref 77), (1, .int v1), (2, .ref 96), (3, .int v3)], [], (q_kN s c n)) (q_oSN c n) (dz_N129_77_96_10 m s v1 v3) := by
  intro m
  induction m with
  | zero => intro s v1 v3; exact q_RP_no
  | succ m ih =>
    intro s v1 v3
    have hk10 := ih
    clear ih
    rw [dzs_N129_77_96_10]
    generalize dz_N129_77_96_10 m = k10 at hk10 ⊢
    dsimp only
    refine q_RP_seg (g2 := (15, [(0, .ref 77), (1, .int v1), (2, .ref 96), (3, .int v3)], [.int (s.2.1 13 2), .int v3], (q_kN s c n))) 3 (fun _ _ => rfl) ?_
    cases h445 : decide (v3 < s.2.1 13 2) with
    | true =>
      refine q_RP_cT ?_
      refine q_RP_rsF (g2 := (18, [(0, .ref 77), (1, .int v1), (2, .ref 96), (3, .int v3)], [], (q_kN s c n))) rfl rfl (q_d_geT h445) ?_
      refine q_RP_seg (g2 := (22, [(0, .ref 77), (1, .int v1), (2, .ref 96), (3, .int v3)], [.int 3072, .int v3], (q_kN s c n))) 2 (fun _ _ => rfl) ?_
      cases h446 : decide (v3 < 3072) with
      | true =>
        refine q_RP_cT ?_
        refine q_RP_rsF (g2 := (25, [(0, .ref 77), (1, .int v1), (2, .ref 96), (3, .int v3)], [], (q_kN s c n))) rfl rfl (q_d_geT h446) ?_
        refine q_RP_seg (g2 := (30, [(0, .ref 77), (1, .int v1), (2, .ref 96), (3, .int v3)], [.int v3, .ref 81], (q_kN s c n))) 3 (fun _ _ => rfl) ?_
        refine q_RP_as fun i447 => ?_
        refine q_RP_rsT (g2 := (31, [(0, .ref 77), (1, .int v1), (2, .ref 96), (3, .int v3)], [.int ((s.1 17) (v3.toNatClampNeg))], (q_kN s c n))) rfl rfl i447 ?_
        refine q_RP_seg (g2 := (35, [(0, .ref 77), (1, .int v1), (2, .ref 96), (3, .int v3)], [.int v1, .int (((s.1 17) (v3.toNatClampNeg)) >>> ((21 &&& 31) : Int32))], (q_kN s c n))) 3 (fun _ _ => rfl) ?_
        cases h448 : decide (v1 < ((s.1 17) (v3.toNatClampNeg)) >>> ((21 &&& 31) : Int32)) with
        | true =>
          refine q_RP_cT ?_
          refine q_RP_rsF (g2 := (38, [(0, .ref 77), (1, .int v1), (2, .ref 96), (3, .int v3)], [], (q_kN s c n))) rfl rfl (q_d_geT h448) ?_
          exact q_RP_ret rfl rfl rfl
        | false =>
          refine q_RP_cF ?_
          refine q_RP_rsT (g2 := (39, [(0, .ref 77), (1, .int v1), (2, .ref 96), (3, .int v3)], [], (q_kN s c n))) rfl rfl (q_d_geF h448) ?_
          refine q_RP_seg (g2 := (44, [(0, .ref 77), (1, .int v1), (2, .ref 96), (3, .int v3)], [.int v3, .ref 81], (q_kN s c n))) 3 (fun _ _ => rfl) ?_
          refine q_RP_rsT (g2 := (45, [(0, .ref 77), (1, .int v1), (2, .ref 96), (3, .int v3)], [.int ((s.1 17) (v3.toNatClampNeg))], (q_kN s c n))) rfl rfl i447 ?_
          refine q_RP_seg (g2 := (59, [(4, .int ((((s.1 17) (v3.toNatClampNeg)) >>> ((8 &&& 31) : Int32)) &&& 8191)), (0, .ref 77), (1, .int v1), (2, .ref 96), (3, .int v3)], [.int 4096, .int ((((s.1 17) (v3.toNatClampNeg)) >>> ((8 &&& 31) : Int32)) &&& 8191)], (q_kN s c n))) 7 (fun _ _ => rfl) ?_
          cases h449 : decide ((((s.1 17) (v3.toNatClampNeg)) >>> ((8 &&& 31) : Int32)) &&& 8191 = 4096) with
          | true =>
            refine q_RP_cT ?_
            refine q_RP_rsF (g2 := (62, [(4, .int ((((s.1 17) (v3.toNatClampNeg)) >>> ((8 &&& 31) : Int32)) &&& 8191)), (0, .ref 77), (1, .int v1), (2, .ref 96), (3, .int v3)], [], (q_kN s c n))) rfl rfl (q_d_neT h449) ?_
            refine q_RP_seg (g2 := (63, [(4, .int ((((s.1 17) (v3.toNatClampNeg)) >>> ((8 &&& 31) : Int32)) &&& 8191)), (0, .ref 77), (1, .int v1), (2, .ref 96), (3, .int v3)], [.ref 96], (q_kN s c n))) 1 (fun _ _ => rfl) ?_
            refine q_RP_bd fun r357 er357 => ?_
            refine q_RP_call (v := none) (h2 := (q_kN r357 c n)) rfl rfl ((dzt_N113_96 s c n r357 er357).le (Nat.le_of_ble_eq_true rfl)) ?_
            show q_RP _ _ _ (66, [(4, .int ((((s.1 17) (v3.toNatClampNeg)) >>> ((8 &&& 31) : Int32)) &&& 8191)), (0, .ref 77), (1, .int v1), (2, .ref 96), (3, .int v3)], [], (q_kN r357 c n)) _ _
            refine q_RP_seg (g2 := (10, [(3, .int (v3 + 1)), (4, .int ((((s.1 17) (v3.toNatClampNeg)) >>> ((8 &&& 31) : Int32)) &&& 8191)), (0, .ref 77), (1, .int v1), (2, .ref 96)], [], (q_kN r357 c n))) 3 (fun _ _ => rfl) ?_
            exact q_RP_xt (q_xt_mk (q_mn1 2 rfl (q_mn1 3 rfl (q_mn1 4 rfl (q_mn1 0 rfl q_mn0)))) rfl) (hk10 r357 v1 (v3 + 1))
          | false =>
            refine q_RP_cF ?_
            refine q_RP_rsT (g2 := (69, [(4, .int ((((s.1 17) (v3.toNatClampNeg)) >>> ((8 &&& 31) : Int32)) &&& 8191)), (0, .ref 77), (1, .int v1), (2, .ref 96), (3, .int v3)], [], (q_kN s c n))) rfl rfl (q_d_neF h449) ?_
            refine q_RP_seg (g2 := (77, [(4, .int ((((s.1 17) (v3.toNatClampNeg)) >>> ((8 &&& 31) : Int32)) &&& 8191)), (0, .ref 77), (1, .int v1), (2, .ref 96), (3, .int v3)], [.int v3, .ref 81, .int ((((s.1 17) (v3.toNatClampNeg)) >>> ((8 &&& 31) : Int32)) &&& 8191), .ref 96], (q_kN s c n))) 5 (fun _ _ => rfl) ?_
            refine q_RP_rsT (g2 := (78, [(4, .int ((((s.1 17) (v3.toNatClampNeg)) >>> ((8 &&& 31) : Int32)) &&& 8191)), (0, .ref 77), (1, .int v1), (2, .ref 96), (3, .int v3)], [.int ((s.1 17) (v3.toNatClampNeg)), .int ((((s.1 17) (v3.toNatClampNeg)) >>> ((8 &&& 31) : Int32)) &&& 8191), .ref 96], (q_kN s c n))) rfl rfl i447 ?_
            refine q_RP_seg (g2 := (82, [(4, .int ((((s.1 17) (v3.toNatClampNeg)) >>> ((8 &&& 31) : Int32)) &&& 8191)), (0, .ref 77), (1, .int v1), (2, .ref 96), (3, .int v3)], [.int (((s.1 17) (v3.toNatClampNeg)) &&& 255), .int ((((s.1 17) (v3.toNatClampNeg)) >>> ((8 &&& 31) : Int32)) &&& 8191), .ref 96], (q_kN s c n))) 2 (fun _ _ => rfl) ?_
            refine q_RP_call (v := none) (h2 := (q_kN (dz_N112_96 s ((((s.1 17) (v3.toNatClampNeg)) >>> ((8 &&& 31) : Int32)) &&& 8191) (((s.1 17) (v3.toNatClampNeg)) &&& 255)) c n)) rfl rfl ((dzt_N112_96 s c n ((((s.1 17) (v3.toNatClampNeg)) >>> ((8 &&& 31) : Int32)) &&& 8191) (((s.1 17) (v3.toNatClampNeg)) &&& 255)).le (Nat.le_of_ble_eq_true rfl)) ?_
            generalize dz_N112_96 s ((((s.1 17) (v3.toNatClampNeg)) >>> ((8 &&& 31) : Int32)) &&& 8191) (((s.1 17) (v3.toNatClampNeg)) &&& 255) = r358
            refine q_RP_let ?_
            show q_RP _ _ _ (85, [(4, .int ((((s.1 17) (v3.toNatClampNeg)) >>> ((8 &&& 31) : Int32)) &&& 8191)), (0, .ref 77), (1, .int v1), (2, .ref 96), (3, .int v3)], [], (q_kN r358 c n)) _ _
            refine q_RP_seg (g2 := (10, [(3, .int (v3 + 1)), (4, .int ((((s.1 17) (v3.toNatClampNeg)) >>> ((8 &&& 31) : Int32)) &&& 8191)), (0, .ref 77), (1, .int v1), (2, .ref 96)], [], (q_kN r358 c n))) 2 (fun _ _ => rfl) ?_
            exact q_RP_xt (q_xt_mk (q_mn1 2 rfl (q_mn1 3 rfl (q_mn1 4 rfl (q_mn1 0 rfl q_mn0)))) rfl) (hk10 r358 v1 (v3 + 1))
      | false =>
        refine q_RP_cF ?_
        refine q_RP_rsT (g2 := (91, [(0, .ref 77), (1, .int v1), (2, .ref 96), (3, .int v3)], [], (q_kN s c n))) rfl rfl (q_d_geF h446) ?_
        exact q_RP_ret rfl rfl rfl
    | false =>
      refine q_RP_cF ?_
      refine q_RP_rsT (g2 := (91, [(0, .ref 77), (1, .int v1), (2, .ref 96), (3, .int v3)], [], (q_kN s c n))) rfl rfl (q_d_geF h445) ?_
      exact q_RP_ret rfl rfl rfl
def dz_N129_77_96 (s : q_S) (a1 : Int32) : Option (q_S) :=
  q_let (dz_N110_96_78 s) fun r354 => dz_N129_77_96_10 5000 r354 a1 0
set_option maxHeartbeats 4000000 in
theorem dzt_N129_77_96 (s : q_S) (c n : Nat) (a1 : Int32) (x : q_S) (h : dz_N129_77_96 s a1 = some x) : q_Ca q_TB0 3 128 [.ref 77, .int a1, .ref 96] (q_kN s c n) ((q_oSN c n) x) := by
  refine q_CaP_of (φ := (q_oSN c n)) (Nat.le_of_ble_eq_true rfl) ?_ h
  clear h
  unfold dz_N129_77_96
  refine q_RP_seg (g2 := (5, [(0, .ref 77), (1, .int a1), (2, .ref 96)], [.ref 78, .ref 96], (q_kN s c n))) 3 (fun _ _ => rfl) ?_
  refine q_RP_call (v := none) (h2 := (q_kN (dz_N110_96_78 s) c n)) rfl rfl ((dzt_N110_96_78 s c n).le (Nat.le_of_ble_eq_true rfl)) ?_
  generalize dz_N110_96_78 s = r354
  refine q_RP_let ?_
  show q_RP _ _ _ (8, [(0, .ref 77), (1, .int a1), (2, .ref 96)], [], (q_kN r354 c n)) _ _
  refine q_RP_seg (g2 := (10, [(3, .int 0), (0, .ref 77), (1, .int a1), (2, .ref 96)], [], (q_kN r354 c n))) 2 (fun _ _ => rfl) ?_
  exact q_RP_xt (q_xt_mk (q_mn1 1 rfl (q_mn1 2 rfl (q_mn1 3 rfl (q_mn1 0 rfl q_mn0)))) rfl) (dzt_N129_77_96_10 c n 5000 r354 a1 0)
def dz_N114_96 (s : q_S) : Int32 :=
  (((s.1 34) 2) &&& 3)
set_option maxHeartbeats 4000000 in
theorem dzt_N114_96 (s : q_S) (c n : Nat) : q_Ca q_TB0 1 113 [.ref 96] (q_kN s c n) ((q_oP (q_kN s c n)) (dz_N114_96 s)) := by
  refine q_CaT_of (φ := (q_oP (q_kN s c n))) (Nat.le_of_ble_eq_true rfl) ?_
  unfold dz_N114_96
  refine q_RT_seg (g2 := (6, [(0, .ref 96)], [.int ((s.1 34) 2)], (q_kN s c n))) 4 (fun _ _ => rfl) ?_
  refine q_RT_seg (g2 := (8, [(0, .ref 96)], [.int (((s.1 34) 2) &&& 3)], (q_kN s c n))) 2 (fun _ _ => rfl) ?_
  exact q_RT_ret rfl rfl rfl
def dz_N115_96 (s : q_S) : Int32 :=
  (((s.1 34) 2) >>> ((2 &&& 31) : Int32))
set_option maxHeartbeats 4000000 in
theorem dzt_N115_96 (s : q_S) (c n : Nat) : q_Ca q_TB0 1 114 [.ref 96] (q_kN s c n) ((q_oP (q_kN s c n)) (dz_N115_96 s)) := by
  refine q_CaT_of (φ := (q_oP (q_kN s c n))) (Nat.le_of_ble_eq_true rfl) ?_
  unfold dz_N115_96
  refine q_RT_seg (g2 := (6, [(0, .ref 96)], [.int ((s.1 34) 2)], (q_kN s c n))) 4 (fun _ _ => rfl) ?_
  refine q_RT_seg (g2 := (8, [(0, .ref 96)], [.int (((s.1 34) 2) >>> ((2 &&& 31) : Int32))], (q_kN s c n))) 2 (fun _ _ => rfl) ?_
  exact q_RT_ret rfl rfl rfl
def dz_N120_96 (s : q_S) (a1 : Int32) : Int32 :=
  ((s.1 33) ((a1 &&& 4095).toNatClampNeg))
set_option maxHeartbeats 4000000 in
theorem dzt_N120_96 (s : q_S) (c n : Nat) (a1 : Int32) : q_Ca q_TB0 1 119 [.ref 96, .int a1] (q_kN s c n) ((q_oP (q_kN s c n)) (dz_N120_96 s a1)) := by
  refine q_CaT_of (φ := (q_oP (q_kN s c n))) (Nat.le_of_ble_eq_true rfl) ?_
  unfold dz_N120_96
  refine q_RT_seg (g2 := (9, [(0, .ref 96), (1, .int a1)], [.int (a1 &&& 4095), .ref 97], (q_kN s c n))) 5 (fun _ _ => rfl) ?_
  refine q_RT_rsT (g2 := (10, [(0, .ref 96), (1, .int a1)], [.int ((s.1 33) ((a1 &&& 4095).toNatClampNeg))], (q_kN s c n))) rfl rfl (q_in_bd (x := a1 &&& 4095) (n := 4096) (U := 4095) (L := 0) (q_and_lo a1 4095) (q_and_hi a1 4095 4095)) ?_
  exact q_RT_ret rfl rfl rfl
def dz_N119_96 (s : q_S) (a1 : Int32) (a2 : Int32) : Int32 :=
  q_let (dz_N114_96 s) fun r361 => q_let (dz_N115_96 s) fun r362 => q_let (dz_N120_96 s (((256 * ((s.1 34) 7)) + (4 * ((a2 + r362) - (a2 + r362) / 32 * 32))) + (((a1 + r361) - (a1 + r361) / 32 * 32) / 8))) fun r363 => cond (decide ((s.1 34) 1 < 0)) (0) (cond (decide (2 < (s.1 34) 1)) (0) (cond (decide ((s.1 34) 1 = 0)) (q_let (dz_N120_96 s (((256 * ((s.1 34) 7)) + (8 * (((a2 + r362) - (a2 + r362) / 32 * 32) / 8))) + (((a1 + r361) - (a1 + r361) / 32 * 32) / 4))) fun r364 => q_let (dz_N120_96 s (((256 * ((s.1 34) 8)) + (8 * r364)) + (((a2 + r362) - (a2 + r362) / 32 * 32) - ((a2 + r362) - (a2 + r362) / 32 * 32) / 8 * 8))) fun r365 => ((r365 >>> (((3 : Int32) - (((a1 + r361) - (a1 + r361) / 32 * 32) - ((a1 + r361) - (a1 + r361) / 32 * 32) / 4 * 4)) &&& 31)) &&& 1)) (cond (decide ((s.1 34) 1 = 1)) (((r363 >>> (((7 : Int32) - (((a1 + r361) - (a1 + r361) / 32 * 32) - ((a1 + r361) - (a1 + r361) / 32 * 32) / 8 * 8)) &&& 31)) &&& 1)) (((r363 >>> (((6 : Int32) - (2 * ((((a1 + r361) - (a1 + r361) / 32 * 32) - ((a1 + r361) - (a1 + r361) / 32 * 32) / 8 * 8) / 2))) &&& 31)) &&& 3)))))
set_option maxHeartbeats 4000000 in
theorem dzt_N119_96 (s : q_S) (c n : Nat) (a1 : Int32) (a2 : Int32) : q_Ca q_TB0 2 118 [.ref 96, .int a1, .int a2] (q_kN s c n) ((q_oP (q_kN s c n)) (dz_N119_96 s a1 a2)) := by
  refine q_CaT_of (φ := (q_oP (q_kN s c n))) (Nat.le_of_ble_eq_true rfl) ?_
  unfold dz_N119_96
  refine q_RT_seg (g2 := (2, [(0, .ref 96), (1, .int a1), (2, .int a2)], [.ref 96, .int a1], (q_kN s c n))) 2 (fun _ _ => rfl) ?_
  refine q_RT_call (v := (some (.int (dz_N114_96 s)))) (h2 := (q_kN s c n)) rfl rfl ((dzt_N114_96 s c n).le (Nat.le_of_ble_eq_true rfl)) ?_
  generalize dz_N114_96 s = r361
  refine q_RT_let ?_
  show q_RT _ _ _ (5, [(0, .ref 96), (1, .int a1), (2, .int a2)], [.int r361, .int a1], (q_kN s c n)) _ _
  refine q_RT_seg (g2 := (12, [(3, .int ((a1 + r361) - (a1 + r361) / 32 * 32)), (0, .ref 96), (1, .int a1), (2, .int a2)], [.ref 96, .int a2], (q_kN s c n))) 6 (fun _ _ => rfl) ?_
  refine q_RT_call (v := (some (.int (dz_N115_96 s)))) (h2 := (q_kN s c n)) rfl rfl ((dzt_N115_96 s c n).le (Nat.le_of_ble_eq_true rfl)) ?_
  generalize dz_N115_96 s = r362
  refine q_RT_let ?_
  show q_RT _ _ _ (15, [(3, .int ((a1 + r361) - (a1 + r361) / 32 * 32)), (0, .ref 96), (1, .int a1), (2, .int a2)], [.int r362, .int a2], (q_kN s c n)) _ _
  refine q_RT_seg (g2 := (31, [(4, .int ((a2 + r362) - (a2 + r362) / 32 * 32)), (3, .int ((a1 + r361) - (a1 + r361) / 32 * 32)), (0, .ref 96), (1, .int a1), (2, .int a2)], [.int ((s.1 34) 7), .int 256], (q_kN s c n))) 9 (fun _ _ => rfl) ?_
  refine q_RT_seg (g2 := (47, [(5, .int (256 * ((s.1 34) 7))), (4, .int ((a2 + r362) - (a2 + r362) / 32 * 32)), (3, .int ((a1 + r361) - (a1 + r361) / 32 * 32)), (0, .ref 96), (1, .int a1), (2, .int a2)], [.int (((256 * ((s.1 34) 7)) + (4 * ((a2 + r362) - (a2 + r362) / 32 * 32))) + (((a1 + r361) - (a1 + r361) / 32 * 32) / 8)), .ref 96], (q_kN s c n))) 12 (fun _ _ => rfl) ?_
  refine q_RT_call (v := (some (.int (dz_N120_96 s (((256 * ((s.1 34) 7)) + (4 * ((a2 + r362) - (a2 + r362) / 32 * 32))) + (((a1 + r361) - (a1 + r361) / 32 * 32) / 8)))))) (h2 := (q_kN s c n)) rfl rfl ((dzt_N120_96 s c n (((256 * ((s.1 34) 7)) + (4 * ((a2 + r362) - (a2 + r362) / 32 * 32))) + (((a1 + r361) - (a1 + r361) / 32 * 32) / 8))).le (Nat.le_of_ble_eq_true rfl)) ?_
  generalize dz_N120_96 s (((256 * ((s.1 34) 7)) + (4 * ((a2 + r362) - (a2 + r362) / 32 * 32))) + (((a1 + r361) - (a1 + r361) / 32 * 32) / 8)) = r363
  refine q_RT_let ?_
  show q_RT _ _ _ (50, [(5, .int (256 * ((s.1 34) 7))), (4, .int ((a2 + r362) - (a2 + r362) / 32 * 32)), (3, .int ((a1 + r361) - (a1 + r361) / 32 * 32)), (0, .ref 96), (1, .int a1), (2, .int a2)], [.int r363], (q_kN s c n)) _ _
  refine q_RT_seg (g2 := (58, [(6, .int r363), (5, .int (256 * ((s.1 34) 7))), (4, .int ((a2 + r362) - (a2 + r362) / 32 * 32)), (3, .int ((a1 + r361) - (a1 + r361) / 32 * 32)), (0, .ref 96), (1, .int a1), (2, .int a2)], [.int ((s.1 34) 1)], (q_kN s c n))) 5 (fun _ _ => rfl) ?_
  cases h457 : decide ((s.1 34) 1 < 0) with
  | true =>
    refine q_RT_cT ?_
    refine q_RT_st1 (g2 := (171, [(6, .int r363), (5, .int (256 * ((s.1 34) 7))), (4, .int ((a2 + r362) - (a2 + r362) / 32 * 32)), (3, .int ((a1 + r361) - (a1 + r361) / 32 * 32)), (0, .ref 96), (1, .int a1), (2, .int a2)], [], (q_kN s c n))) rfl (if_pos (Or.inl (Int32.lt_iff_toInt_lt.mp (of_decide_eq_true h457)))) ?_
    refine q_RT_seg (g2 := (172, [(6, .int r363), (5, .int (256 * ((s.1 34) 7))), (4, .int ((a2 + r362) - (a2 + r362) / 32 * 32)), (3, .int ((a1 + r361) - (a1 + r361) / 32 * 32)), (0, .ref 96), (1, .int a1), (2, .int a2)], [.int 0], (q_kN s c n))) 1 (fun _ _ => rfl) ?_
    exact q_RT_ret rfl rfl rfl
  | false =>
    refine q_RT_cF ?_
    cases h458 : decide (2 < (s.1 34) 1) with
    | true =>
      refine q_RT_cT ?_
      refine q_RT_st1 (g2 := (171, [(6, .int r363), (5, .int (256 * ((s.1 34) 7))), (4, .int ((a2 + r362) - (a2 + r362) / 32 * 32)), (3, .int ((a1 + r361) - (a1 + r361) / 32 * 32)), (0, .ref 96), (1, .int a1), (2, .int a2)], [], (q_kN s c n))) rfl (if_pos (Or.inr (Int32.lt_iff_toInt_lt.mp (of_decide_eq_true h458)))) ?_
      refine q_RT_seg (g2 := (172, [(6, .int r363), (5, .int (256 * ((s.1 34) 7))), (4, .int ((a2 + r362) - (a2 + r362) / 32 * 32)), (3, .int ((a1 + r361) - (a1 + r361) / 32 * 32)), (0, .ref 96), (1, .int a1), (2, .int a2)], [.int 0], (q_kN s c n))) 1 (fun _ _ => rfl) ?_
      exact q_RT_ret rfl rfl rfl
    | false =>
      refine q_RT_cF ?_
      cases h459 : decide ((s.1 34) 1 = 0) with
      | true =>
        refine q_RT_cT ?_
        refine q_RT_st1 (g2 := (84, [(6, .int r363), (5, .int (256 * ((s.1 34) 7))), (4, .int ((a2 + r362) - (a2 + r362) / 32 * 32)), (3, .int ((a1 + r361) - (a1 + r361) / 32 * 32)), (0, .ref 96), (1, .int a1), (2, .int a2)], [], (q_kN s c n))) rfl (by rw [of_decide_eq_true h459]; rfl) ?_
        refine q_RT_seg (g2 := (100, [(6, .int r363), (5, .int (256 * ((s.1 34) 7))), (4, .int ((a2 + r362) - (a2 + r362) / 32 * 32)), (3, .int ((a1 + r361) - (a1 + r361) / 32 * 32)), (0, .ref 96), (1, .int a1), (2, .int a2)], [.int (((256 * ((s.1 34) 7)) + (8 * (((a2 + r362) - (a2 + r362) / 32 * 32) / 8))) + (((a1 + r361) - (a1 + r361) / 32 * 32) / 4)), .ref 96], (q_kN s c n))) 12 (fun _ _ => rfl) ?_
        refine q_RT_call (v := (some (.int (dz_N120_96 s (((256 * ((s.1 34) 7)) + (8 * (((a2 + r362) - (a2 + r362) / 32 * 32) / 8))) + (((a1 + r361) - (a1 + r361) / 32 * 32) / 4)))))) (h2 := (q_kN s c n)) rfl rfl ((dzt_N120_96 s c n (((256 * ((s.1 34) 7)) + (8 * (((a2 + r362) - (a2 + r362) / 32 * 32) / 8))) + (((a1 + r361) - (a1 + r361) / 32 * 32) / 4))).le (Nat.le_of_ble_eq_true rfl)) ?_
        generalize dz_N120_96 s (((256 * ((s.1 34) 7)) + (8 * (((a2 + r362) - (a2 + r362) / 32 * 32) / 8))) + (((a1 + r361) - (a1 + r361) / 32 * 32) / 4)) = r364
        refine q_RT_let ?_
        show q_RT _ _ _ (103, [(6, .int r363), (5, .int (256 * ((s.1 34) 7))), (4, .int ((a2 + r362) - (a2 + r362) / 32 * 32)), (3, .int ((a1 + r361) - (a1 + r361) / 32 * 32)), (0, .ref 96), (1, .int a1), (2, .int a2)], [.int r364], (q_kN s c n)) _ _
        refine q_RT_seg (g2 := (116, [(7, .int r364), (6, .int r363), (5, .int (256 * ((s.1 34) 7))), (4, .int ((a2 + r362) - (a2 + r362) / 32 * 32)), (3, .int ((a1 + r361) - (a1 + r361) / 32 * 32)), (0, .ref 96), (1, .int a1), (2, .int a2)], [.int ((s.1 34) 8), .int 256, .ref 96], (q_kN s c n))) 7 (fun _ _ => rfl) ?_
        refine q_RT_seg (g2 := (129, [(7, .int r364), (6, .int r363), (5, .int (256 * ((s.1 34) 7))), (4, .int ((a2 + r362) - (a2 + r362) / 32 * 32)), (3, .int ((a1 + r361) - (a1 + r361) / 32 * 32)), (0, .ref 96), (1, .int a1), (2, .int a2)], [.int (((256 * ((s.1 34) 8)) + (8 * r364)) + (((a2 + r362) - (a2 + r362) / 32 * 32) - ((a2 + r362) - (a2 + r362) / 32 * 32) / 8 * 8)), .ref 96], (q_kN s c n))) 9 (fun _ _ => rfl) ?_
        refine q_RT_call (v := (some (.int (dz_N120_96 s (((256 * ((s.1 34) 8)) + (8 * r364)) + (((a2 + r362) - (a2 + r362) / 32 * 32) - ((a2 + r362) - (a2 + r362) / 32 * 32) / 8 * 8)))))) (h2 := (q_kN s c n)) rfl rfl ((dzt_N120_96 s c n (((256 * ((s.1 34) 8)) + (8 * r364)) + (((a2 + r362) - (a2 + r362) / 32 * 32) - ((a2 + r362) - (a2 + r362) / 32 * 32) / 8 * 8))).le (Nat.le_of_ble_eq_true rfl)) ?_
        generalize dz_N120_96 s (((256 * ((s.1 34) 8)) + (8 * r364)) + (((a2 + r362) - (a2 + r362) / 32 * 32) - ((a2 + r362) - (a2 + r362) / 32 * 32) / 8 * 8)) = r365
        refine q_RT_let ?_
        show q_RT _ _ _ (132, [(7, .int r364), (6, .int r363), (5, .int (256 * ((s.1 34) 7))), (4, .int ((a2 + r362) - (a2 + r362) / 32 * 32)), (3, .int ((a1 + r361) - (a1 + r361) / 32 * 32)), (0, .ref 96), (1, .int a1), (2, .int a2)], [.int r365], (q_kN s c n)) _ _
        refine q_RT_seg (g2 := (140, [(7, .int r364), (6, .int r363), (5, .int (256 * ((s.1 34) 7))), (4, .int ((a2 + r362) - (a2 + r362) / 32 * 32)), (3, .int ((a1 + r361) - (a1 + r361) / 32 * 32)), (0, .ref 96), (1, .int a1), (2, .int a2)], [.int ((r365 >>> (((3 : Int32) - (((a1 + r361) - (a1 + r361) / 32 * 32) - ((a1 + r361) - (a1 + r361) / 32 * 32) / 4 * 4)) &&& 31)) &&& 1)], (q_kN s c n))) 8 (fun _ _ => rfl) ?_
        exact q_RT_ret rfl rfl rfl
      | false =>
        refine q_RT_cF ?_
        cases h460 : decide ((s.1 34) 1 = 1) with
        | true =>
          refine q_RT_cT ?_
          refine q_RT_st1 (g2 := (141, [(6, .int r363), (5, .int (256 * ((s.1 34) 7))), (4, .int ((a2 + r362) - (a2 + r362) / 32 * 32)), (3, .int ((a1 + r361) - (a1 + r361) / 32 * 32)), (0, .ref 96), (1, .int a1), (2, .int a2)], [], (q_kN s c n))) rfl (by rw [of_decide_eq_true h460]; rfl) ?_
          refine q_RT_seg (g2 := (153, [(6, .int r363), (5, .int (256 * ((s.1 34) 7))), (4, .int ((a2 + r362) - (a2 + r362) / 32 * 32)), (3, .int ((a1 + r361) - (a1 + r361) / 32 * 32)), (0, .ref 96), (1, .int a1), (2, .int a2)], [.int ((r363 >>> (((7 : Int32) - (((a1 + r361) - (a1 + r361) / 32 * 32) - ((a1 + r361) - (a1 + r361) / 32 * 32) / 8 * 8)) &&& 31)) &&& 1)], (q_kN s c n))) 9 (fun _ _ => rfl) ?_
          exact q_RT_ret rfl rfl rfl
        | false =>
          refine q_RT_cF ?_
          have h461 : (s.1 34) 1 = 2 := Int32.toInt_inj.mp (by have e0 := q_neI h459 (n := 0); have e1 := q_neI h460 (n := 1); have l1 : 0 ≤ ((s.1 34) 1).toInt := q_lo1 h457; have l2 : ((s.1 34) 1).toInt ≤ 2 := q_hi2 h458; show ((s.1 34) 1).toInt = 2; omega)
          refine q_RT_st1 (g2 := (154, [(6, .int r363), (5, .int (256 * ((s.1 34) 7))), (4, .int ((a2 + r362) - (a2 + r362) / 32 * 32)), (3, .int ((a1 + r361) - (a1 + r361) / 32 * 32)), (0, .ref 96), (1, .int a1), (2, .int a2)], [], (q_kN s c n))) rfl (by rw [h461]; rfl) ?_
          refine q_RT_seg (g2 := (170, [(6, .int r363), (5, .int (256 * ((s.1 34) 7))), (4, .int ((a2 + r362) - (a2 + r362) / 32 * 32)), (3, .int ((a1 + r361) - (a1 + r361) / 32 * 32)), (0, .ref 96), (1, .int a1), (2, .int a2)], [.int ((r363 >>> (((6 : Int32) - (2 * ((((a1 + r361) - (a1 + r361) / 32 * 32) - ((a1 + r361) - (a1 + r361) / 32 * 32) / 8 * 8) / 2))) &&& 31)) &&& 3)], (q_kN s c n))) 13 (fun _ _ => rfl) ?_
          exact q_RT_ret rfl rfl rfl
def dz_N118_96 (s : q_S) (a1 : Int32) (a2 : Int32) : Int32 :=
  cond (decide (a1 < 0)) (0) (cond (decide (a1 < 48)) (((((s.1 34) (a1.toNatClampNeg)) >>> (a2 &&& 31)) &&& 1)) (0))
set_option maxHeartbeats 4000000 in
theorem dzt_N118_96 (s : q_S) (c n : Nat) (a1 : Int32) (a2 : Int32) : q_Ca q_TB0 1 117 [.ref 96, .int a1, .int a2] (q_kN s c n) ((q_oP (q_kN s c n)) (dz_N118_96 s a1 a2)) := by
  refine q_CaT_of (φ := (q_oP (q_kN s c n))) (Nat.le_of_ble_eq_true rfl) ?_
  unfold dz_N118_96
  refine q_RT_seg (g2 := (1, [(0, .ref 96), (1, .int a1), (2, .int a2)], [.int a1], (q_kN s c n))) 1 (fun _ _ => rfl) ?_
  cases h463 : decide (a1 < 0) with
  | true =>
    refine q_RT_cT ?_
    refine q_RT_rsT (g2 := (23, [(0, .ref 96), (1, .int a1), (2, .int a2)], [], (q_kN s c n))) rfl rfl h463 ?_
    refine q_RT_seg (g2 := (24, [(0, .ref 96), (1, .int a1), (2, .int a2)], [.int 0], (q_kN s c n))) 1 (fun _ _ => rfl) ?_
    exact q_RT_ret rfl rfl rfl
  | false =>
    refine q_RT_cF ?_
    refine q_RT_rsF (g2 := (4, [(0, .ref 96), (1, .int a1), (2, .int a2)], [], (q_kN s c n))) rfl rfl h463 ?_
    refine q_RT_seg (g2 := (7, [(0, .ref 96), (1, .int a1), (2, .int a2)], [.int 48, .int a1], (q_kN s c n))) 2 (fun _ _ => rfl) ?_
    cases h464 : decide (a1 < 48) with
    | true =>
      refine q_RT_cT ?_
      refine q_RT_rsF (g2 := (10, [(0, .ref 96), (1, .int a1), (2, .int a2)], [], (q_kN s c n))) rfl rfl (q_d_geT h464) ?_
      refine q_RT_seg (g2 := (15, [(0, .ref 96), (1, .int a1), (2, .int a2)], [.int a1, .ref 98], (q_kN s c n))) 3 (fun _ _ => rfl) ?_
      refine q_RT_rsT (g2 := (16, [(0, .ref 96), (1, .int a1), (2, .int a2)], [.int ((s.1 34) (a1.toNatClampNeg))], (q_kN s c n))) rfl rfl (q_in_bd (x := a1) (n := 48) (U := 47) (L := 0) (q_lo1 h463) (q_hi1 h464)) ?_
      refine q_RT_seg (g2 := (24, [(0, .ref 96), (1, .int a1), (2, .int a2)], [.int ((((s.1 34) (a1.toNatClampNeg)) >>> (a2 &&& 31)) &&& 1)], (q_kN s c n))) 5 (fun _ _ => rfl) ?_
      exact q_RT_ret rfl rfl rfl
    | false =>
      refine q_RT_cF ?_
      refine q_RT_rsT (g2 := (23, [(0, .ref 96), (1, .int a1), (2, .int a2)], [], (q_kN s c n))) rfl rfl (q_d_geF h464) ?_
      refine q_RT_seg (g2 := (24, [(0, .ref 96), (1, .int a1), (2, .int a2)], [.int 0], (q_kN s c n))) 1 (fun _ _ => rfl) ?_
      exact q_RT_ret rfl rfl rfl
def dz_N122_96_5 (m : Nat) : q_S → Int32 → Int32 → Int32 → Int32 → Option (Int32) := Nat.rec (motive := fun _ => q_S → Int32 → Int32 → Int32 → Int32 → Option (Int32)) (fun _ _ _ _ _ => none) (fun _ k5 s v1 v2 v3 v4 =>
  cond (decide (v4 < 4)) (q_let (dz_N118_96 s 18 v4) fun r367 => cond (q_in ((20 : Int32) + v4) 48) (q_let ((v1 - ((s.1 34) (((20 : Int32) + v4).toNatClampNeg))) >>> (r367 &&& 31)) fun x368 => cond (q_in ((24 : Int32) + v4) 48) (q_let ((v2 - ((s.1 34) (((24 : Int32) + v4).toNatClampNeg))) >>> (r367 &&& 31)) fun x369 => q_let (dz_N118_96 s 17 v4) fun r370 => cond (decide (r370 = 1)) (cond (decide (x368 < 0)) (k5 s v1 v2 v3 (v4 + 1)) (cond (decide (x368 < 8)) (cond (decide (x369 < 0)) (k5 s v1 v2 v3 (v4 + 1)) (cond (decide (x369 < 8)) (q_let (dz_N120_96 s ((((256 * ((s.1 34) 7)) + 128) + (8 * v4)) + x369)) fun r371 => q_let (v3 ||| (((r371 >>> (((7 : Int32) - x368) &&& 31)) &&& 1) <<< (v4 &&& 31))) fun x372 => k5 s v1 v2 x372 (v4 + 1)) (k5 s v1 v2 v3 (v4 + 1)))) (k5 s v1 v2 v3 (v4 + 1)))) (k5 s v1 v2 v3 (v4 + 1))) none) none) (some v3)) m
theorem dzs_N122_96_5 (m : Nat) (s : q_S) (v1 : Int32) (v2 : Int32) (v3 : Int32) (v4 : Int32) : dz_N122_96_5 (m + 1) s v1 v2 v3 v4 = (fun k5 : q_S → Int32 → Int32 → Int32 → Int32 → Option (Int32) =>
  cond (decide (v4 < 4)) (q_let (dz_N118_96 s 18 v4) fun r367 => cond (q_in ((20 : Int32) + v4) 48) (q_let ((v1 - ((s.1 34) (((20 : Int32) + v4).toNatClampNeg))) >>> (r367 &&& 31)) fun x368 => cond (q_in ((24 : Int32) + v4) 48) (q_let ((v2 - ((s.1 34) (((24 : Int32) + v4).toNatClampNeg))) >>> (r367 &&& 31)) fun x369 => q_let (dz_N118_96 s 17 v4) fun r370 => cond (decide (r370 = 1)) (cond (decide (x368 < 0)) (k5 s v1 v2 v3 (v4 + 1)) (cond (decide (x368 < 8)) (cond (decide (x369 < 0)) (k5 s v1 v2 v3 (v4 + 1)) (cond (decide (x369 < 8)) (q_let (dz_N120_96 s ((((256 * ((s.1 34) 7)) + 128) + (8 * v4)) + x369)) fun r371 => q_let (v3 ||| (((r371 >>> (((7 : Int32) - x368) &&& 31)) &&& 1) <<< (v4 &&& 31))) fun x372 => k5 s v1 v2 x372 (v4 + 1)) (k5 s v1 v2 v3 (v4 + 1)))) (k5 s v1 v2 v3 (v4 + 1)))) (k5 s v1 v2 v3 (v4 + 1))) none) none) (some v3)) (dz_N122_96_5 m) := rfl
set_option maxHeartbeats 4000000 in
theorem dzt_N122_96_5 (c n : Nat) (s : q_S) : ∀ (m : Nat) (v1 : Int32) (v2 : Int32) (v3 : Int32) (v4 : Int32), q_RP q_TB0 1 121 (5, [(0, .ref 96), (1, .int v1), (2, .int v2), (3, .int v3), (4, .int v4)], [], (q_kN s c n)) (q_oP (q_kN s c n)) (dz_N122_96_5 m s v1 v2 v3 v4) := by
  intro m
  induction m with
  | zero => intro v1 v2 v3 v4; exact q_RP_no
  | succ m ih =>
    intro v1 v2 v3 v4
    have hk5 := ih
    clear ih
    rw [dzs_N122_96_5]
    generalize dz_N122_96_5 m = k5 at hk5 ⊢
    dsimp only
    refine q_RP_seg (g2 := (8, [(0, .ref 96), (1, .int v1), (2, .int v2), (3, .int v3), (4, .int v4)], [.int 4, .int v4], (q_kN s c n))) 2 (fun _ _ => rfl) ?_
    cases h462 : decide (v4 < 4) with
    | true =>
      refine q_RP_cT ?_
      refine q_RP_rsF (g2 := (11, [(0, .ref 96), (1, .int v1), (2, .int v2), (3, .int v3), (4, .int v4)], [], (q_kN s c n))) rfl rfl (q_d_geT h462) ?_
      refine q_RP_seg (g2 := (16, [(0, .ref 96), (1, .int v1), (2, .int v2), (3, .int v3), (4, .int v4)], [.int v4, .int 18, .ref 96], (q_kN s c n))) 3 (fun _ _ => rfl) ?_
      refine q_RP_call (v := (some (.int (dz_N118_96 s 18 v4)))) (h2 := (q_kN s c n)) rfl rfl ((dzt_N118_96 s c n 18 v4).le (Nat.le_of_ble_eq_true rfl)) ?_
      generalize dz_N118_96 s 18 v4 = r367
      refine q_RP_let ?_
      show q_RP _ _ _ (19, [(0, .ref 96), (1, .int v1), (2, .int v2), (3, .int v3), (4, .int v4)], [.int r367], (q_kN s c n)) _ _
      refine q_RP_seg (g2 := (31, [(5, .int r367), (0, .ref 96), (1, .int v1), (2, .int v2), (3, .int v3), (4, .int v4)], [.int ((20 : Int32) + v4), .ref 98, .int v1], (q_kN s c n))) 7 (fun _ _ => rfl) ?_
      refine q_RP_as fun i465 => ?_
      refine q_RP_rsT (g2 := (32, [(5, .int r367), (0, .ref 96), (1, .int v1), (2, .int v2), (3, .int v3), (4, .int v4)], [.int ((s.1 34) (((20 : Int32) + v4).toNatClampNeg)), .int v1], (q_kN s c n))) rfl rfl i465 ?_
      refine q_RP_seg (g2 := (36, [(5, .int r367), (0, .ref 96), (1, .int v1), (2, .int v2), (3, .int v3), (4, .int v4)], [.int ((v1 - ((s.1 34) (((20 : Int32) + v4).toNatClampNeg))) >>> (r367 &&& 31))], (q_kN s c n))) 3 (fun _ _ => rfl) ?_
      generalize ((v1 - ((s.1 34) (((20 : Int32) + v4).toNatClampNeg))) >>> (r367 &&& 31)) = x368
      refine q_RP_let ?_
      show q_RP _ _ _ (36, [(5, .int r367), (0, .ref 96), (1, .int v1), (2, .int v2), (3, .int v3), (4, .int v4)], [.int x368], (q_kN s c n)) _ _
      refine q_RP_seg (g2 := (48, [(6, .int x368), (5, .int r367), (0, .ref 96), (1, .int v1), (2, .int v2), (3, .int v3), (4, .int v4)], [.int ((24 : Int32) + v4), .ref 98, .int v2], (q_kN s c n))) 7 (fun _ _ => rfl) ?_
      refine q_RP_as fun i466 => ?_
      refine q_RP_rsT (g2 := (49, [(6, .int x368), (5, .int r367), (0, .ref 96), (1, .int v1), (2, .int v2), (3, .int v3), (4, .int v4)], [.int ((s.1 34) (((24 : Int32) + v4).toNatClampNeg)), .int v2], (q_kN s c n))) rfl rfl i466 ?_
      refine q_RP_seg (g2 := (53, [(6, .int x368), (5, .int r367), (0, .ref 96), (1, .int v1), (2, .int v2), (3, .int v3), (4, .int v4)], [.int ((v2 - ((s.1 34) (((24 : Int32) + v4).toNatClampNeg))) >>> (r367 &&& 31))], (q_kN s c n))) 3 (fun _ _ => rfl) ?_
      generalize ((v2 - ((s.1 34) (((24 : Int32) + v4).toNatClampNeg))) >>> (r367 &&& 31)) = x369
      refine q_RP_let ?_
      show q_RP _ _ _ (53, [(6, .int x368), (5, .int r367), (0, .ref 96), (1, .int v1), (2, .int v2), (3, .int v3), (4, .int v4)], [.int x369], (q_kN s c n)) _ _
      refine q_RP_seg (g2 := (60, [(7, .int x369), (6, .int x368), (5, .int r367), (0, .ref 96), (1, .int v1), (2, .int v2), (3, .int v3), (4, .int v4)], [.int v4, .int 17, .ref 96], (q_kN s c n))) 4 (fun _ _ => rfl) ?_
      refine q_RP_call (v := (some (.int (dz_N118_96 s 17 v4)))) (h2 := (q_kN s c n)) rfl rfl ((dzt_N118_96 s c n 17 v4).le (Nat.le_of_ble_eq_true rfl)) ?_
      generalize dz_N118_96 s 17 v4 = r370
      refine q_RP_let ?_
      show q_RP _ _ _ (63, [(7, .int x369), (6, .int x368), (5, .int r367), (0, .ref 96), (1, .int v1), (2, .int v2), (3, .int v3), (4, .int v4)], [.int r370], (q_kN s c n)) _ _
      refine q_RP_seg (g2 := (64, [(7, .int x369), (6, .int x368), (5, .int r367), (0, .ref 96), (1, .int v1), (2, .int v2), (3, .int v3), (4, .int v4)], [.int 1, .int r370], (q_kN s c n))) 1 (fun _ _ => rfl) ?_
      cases h467 : decide (r370 = 1) with
      | true =>
        refine q_RP_cT ?_
        refine q_RP_rsF (g2 := (67, [(7, .int x369), (6, .int x368), (5, .int r367), (0, .ref 96), (1, .int v1), (2, .int v2), (3, .int v3), (4, .int v4)], [], (q_kN s c n))) rfl rfl (q_d_neT h467) ?_
        refine q_RP_seg (g2 := (69, [(7, .int x369), (6, .int x368), (5, .int r367), (0, .ref 96), (1, .int v1), (2, .int v2), (3, .int v3), (4, .int v4)], [.int x368], (q_kN s c n))) 1 (fun _ _ => rfl) ?_
        cases h468 : decide (x368 < 0) with
        | true =>
          refine q_RP_cT ?_
          refine q_RP_rsT (g2 := (137, [(7, .int x369), (6, .int x368), (5, .int r367), (0, .ref 96), (1, .int v1), (2, .int v2), (3, .int v3), (4, .int v4)], [], (q_kN s c n))) rfl rfl h468 ?_
          refine q_RP_seg (g2 := (5, [(4, .int (v4 + 1)), (7, .int x369), (6, .int x368), (5, .int r367), (0, .ref 96), (1, .int v1), (2, .int v2), (3, .int v3)], [], (q_kN s c n))) 2 (fun _ _ => rfl) ?_
          exact q_RP_xt (q_xt_mk (q_mn1 4 rfl (q_mn1 5 rfl (q_mn1 6 rfl (q_mn1 7 rfl (q_mn1 0 rfl q_mn0))))) rfl) (hk5 v1 v2 v3 (v4 + 1))
        | false =>
          refine q_RP_cF ?_
          refine q_RP_rsF (g2 := (72, [(7, .int x369), (6, .int x368), (5, .int r367), (0, .ref 96), (1, .int v1), (2, .int v2), (3, .int v3), (4, .int v4)], [], (q_kN s c n))) rfl rfl h468 ?_
          refine q_RP_seg (g2 := (76, [(7, .int x369), (6, .int x368), (5, .int r367), (0, .ref 96), (1, .int v1), (2, .int v2), (3, .int v3), (4, .int v4)], [.int 8, .int x368], (q_kN s c n))) 2 (fun _ _ => rfl) ?_
          cases h469 : decide (x368 < 8) with
          | true =>
            refine q_RP_cT ?_
            refine q_RP_rsF (g2 := (79, [(7, .int x369), (6, .int x368), (5, .int r367), (0, .ref 96), (1, .int v1), (2, .int v2), (3, .int v3), (4, .int v4)], [], (q_kN s c n))) rfl rfl (q_d_geT h469) ?_
            refine q_RP_seg (g2 := (81, [(7, .int x369), (6, .int x368), (5, .int r367), (0, .ref 96), (1, .int v1), (2, .int v2), (3, .int v3), (4, .int v4)], [.int x369], (q_kN s c n))) 1 (fun _ _ => rfl) ?_
            cases h470 : decide (x369 < 0) with
            | true =>
              refine q_RP_cT ?_
              refine q_RP_rsT (g2 := (137, [(7, .int x369), (6, .int x368), (5, .int r367), (0, .ref 96), (1, .int v1), (2, .int v2), (3, .int v3), (4, .int v4)], [], (q_kN s c n))) rfl rfl h470 ?_
              refine q_RP_seg (g2 := (5, [(4, .int (v4 + 1)), (7, .int x369), (6, .int x368), (5, .int r367), (0, .ref 96), (1, .int v1), (2, .int v2), (3, .int v3)], [], (q_kN s c n))) 2 (fun _ _ => rfl) ?_
              exact q_RP_xt (q_xt_mk (q_mn1 4 rfl (q_mn1 5 rfl (q_mn1 6 rfl (q_mn1 7 rfl (q_mn1 0 rfl q_mn0))))) rfl) (hk5 v1 v2 v3 (v4 + 1))
            | false =>
              refine q_RP_cF ?_
              refine q_RP_rsF (g2 := (84, [(7, .int x369), (6, .int x368), (5, .int r367), (0, .ref 96), (1, .int v1), (2, .int v2), (3, .int v3), (4, .int v4)], [], (q_kN s c n))) rfl rfl h470 ?_
              refine q_RP_seg (g2 := (88, [(7, .int x369), (6, .int x368), (5, .int r367), (0, .ref 96), (1, .int v1), (2, .int v2), (3, .int v3), (4, .int v4)], [.int 8, .int x369], (q_kN s c n))) 2 (fun _ _ => rfl) ?_
              cases h471 : decide (x369 < 8) with
              | true =>
                refine q_RP_cT ?_
                refine q_RP_rsF (g2 := (91, [(7, .int x369), (6, .int x368), (5, .int r367), (0, .ref 96), (1, .int v1), (2, .int v2), (3, .int v3), (4, .int v4)], [], (q_kN s c n))) rfl rfl (q_d_geT h471) ?_
                refine q_RP_seg (g2 := (102, [(7, .int x369), (6, .int x368), (5, .int r367), (0, .ref 96), (1, .int v1), (2, .int v2), (3, .int v3), (4, .int v4)], [.int ((s.1 34) 7), .int 256, .ref 96], (q_kN s c n))) 6 (fun _ _ => rfl) ?_
                refine q_RP_seg (g2 := (116, [(7, .int x369), (6, .int x368), (5, .int r367), (0, .ref 96), (1, .int v1), (2, .int v2), (3, .int v3), (4, .int v4)], [.int ((((256 * ((s.1 34) 7)) + 128) + (8 * v4)) + x369), .ref 96], (q_kN s c n))) 9 (fun _ _ => rfl) ?_
                refine q_RP_call (v := (some (.int (dz_N120_96 s ((((256 * ((s.1 34) 7)) + 128) + (8 * v4)) + x369))))) (h2 := (q_kN s c n)) rfl rfl ((dzt_N120_96 s c n ((((256 * ((s.1 34) 7)) + 128) + (8 * v4)) + x369)).le (Nat.le_of_ble_eq_true rfl)) ?_
                generalize dz_N120_96 s ((((256 * ((s.1 34) 7)) + 128) + (8 * v4)) + x369) = r371
                refine q_RP_let ?_
                show q_RP _ _ _ (119, [(7, .int x369), (6, .int x368), (5, .int r367), (0, .ref 96), (1, .int v1), (2, .int v2), (3, .int v3), (4, .int v4)], [.int r371], (q_kN s c n)) _ _
                refine q_RP_seg (g2 := (136, [(8, .int r371), (7, .int x369), (6, .int x368), (5, .int r367), (0, .ref 96), (1, .int v1), (2, .int v2), (3, .int v3), (4, .int v4)], [.int (v3 ||| (((r371 >>> (((7 : Int32) - x368) &&& 31)) &&& 1) <<< (v4 &&& 31)))], (q_kN s c n))) 12 (fun _ _ => rfl) ?_
                generalize (v3 ||| (((r371 >>> (((7 : Int32) - x368) &&& 31)) &&& 1) <<< (v4 &&& 31))) = x372
                refine q_RP_let ?_
                show q_RP _ _ _ (136, [(8, .int r371), (7, .int x369), (6, .int x368), (5, .int r367), (0, .ref 96), (1, .int v1), (2, .int v2), (3, .int v3), (4, .int v4)], [.int x372], (q_kN s c n)) _ _
                refine q_RP_seg (g2 := (5, [(4, .int (v4 + 1)), (3, .int x372), (8, .int r371), (7, .int x369), (6, .int x368), (5, .int r367), (0, .ref 96), (1, .int v1), (2, .int v2)], [], (q_kN s c n))) 3 (fun _ _ => rfl) ?_
                exact q_RP_xt (q_xt_mk (q_mn1 6 rfl (q_mn1 7 rfl (q_mn1 8 rfl (q_mn1 1 rfl (q_mn1 0 rfl q_mn0))))) rfl) (hk5 v1 v2 x372 (v4 + 1))
              | false =>
                refine q_RP_cF ?_
                refine q_RP_rsT (g2 := (137, [(7, .int x369), (6, .int x368), (5, .int r367), (0, .ref 96), (1, .int v1), (2, .int v2), (3, .int v3), (4, .int v4)], [], (q_kN s c n))) rfl rfl (q_d_geF h471) ?_
                refine q_RP_seg (g2 := (5, [(4, .int (v4 + 1)), (7, .int x369), (6, .int x368), (5, .int r367), (0, .ref 96), (1, .int v1), (2, .int v2), (3, .int v3)], [], (q_kN s c n))) 2 (fun _ _ => rfl) ?_
                exact q_RP_xt (q_xt_mk (q_mn1 4 rfl (q_mn1 5 rfl (q_mn1 6 rfl (q_mn1 7 rfl (q_mn1 0 rfl q_mn0))))) rfl) (hk5 v1 v2 v3 (v4 + 1))
          | false =>
            refine q_RP_cF ?_
            refine q_RP_rsT (g2 := (137, [(7, .int x369), (6, .int x368), (5, .int r367), (0, .ref 96), (1, .int v1), (2, .int v2), (3, .int v3), (4, .int v4)], [], (q_kN s c n))) rfl rfl (q_d_geF h469) ?_
            refine q_RP_seg (g2 := (5, [(4, .int (v4 + 1)), (7, .int x369), (6, .int x368), (5, .int r367), (0, .ref 96), (1, .int v1), (2, .int v2), (3, .int v3)], [], (q_kN s c n))) 2 (fun _ _ => rfl) ?_
            exact q_RP_xt (q_xt_mk (q_mn1 4 rfl (q_mn1 5 rfl (q_mn1 6 rfl (q_mn1 7 rfl (q_mn1 0 rfl q_mn0))))) rfl) (hk5 v1 v2 v3 (v4 + 1))
      | false =>
        refine q_RP_cF ?_
        refine q_RP_rsT (g2 := (137, [(7, .int x369), (6, .int x368), (5, .int r367), (0, .ref 96), (1, .int v1), (2, .int v2), (3, .int v3), (4, .int v4)], [], (q_kN s c n))) rfl rfl (q_d_neF h467) ?_
        refine q_RP_seg (g2 := (5, [(4, .int (v4 + 1)), (7, .int x369), (6, .int x368), (5, .int r367), (0, .ref 96), (1, .int v1), (2, .int v2), (3, .int v3)], [], (q_kN s c n))) 2 (fun _ _ => rfl) ?_
        exact q_RP_xt (q_xt_mk (q_mn1 4 rfl (q_mn1 5 rfl (q_mn1 6 rfl (q_mn1 7 rfl (q_mn1 0 rfl q_mn0))))) rfl) (hk5 v1 v2 v3 (v4 + 1))
    | false =>
      refine q_RP_cF ?_
      refine q_RP_rsT (g2 := (143, [(0, .ref 96), (1, .int v1), (2, .int v2), (3, .int v3), (4, .int v4)], [], (q_kN s c n))) rfl rfl (q_d_geF h462) ?_
      refine q_RP_seg (g2 := (144, [(0, .ref 96), (1, .int v1), (2, .int v2), (3, .int v3), (4, .int v4)], [.int v3], (q_kN s c n))) 1 (fun _ _ => rfl) ?_
      exact q_RP_ret rfl rfl rfl
def dz_N122_96 (s : q_S) (a1 : Int32) (a2 : Int32) : Option (Int32) :=
  dz_N122_96_5 5000 s a1 a2 0 0
set_option maxHeartbeats 4000000 in
theorem dzt_N122_96 (s : q_S) (c n : Nat) (a1 : Int32) (a2 : Int32) (x : Int32) (h : dz_N122_96 s a1 a2 = some x) : q_Ca q_TB0 2 121 [.ref 96, .int a1, .int a2] (q_kN s c n) ((q_oP (q_kN s c n)) x) := by
  refine q_CaP_of (φ := (q_oP (q_kN s c n))) (Nat.le_of_ble_eq_true rfl) ?_ h
  clear h
  unfold dz_N122_96
  refine q_RP_seg (g2 := (5, [(4, .int 0), (3, .int 0), (0, .ref 96), (1, .int a1), (2, .int a2)], [], (q_kN s c n))) 4 (fun _ _ => rfl) ?_
  exact q_RP_xt (q_xt_mk (q_mn1 2 rfl (q_mn1 3 rfl (q_mn1 4 rfl (q_mn1 1 rfl (q_mn1 0 rfl q_mn0))))) rfl) (dzt_N122_96_5 c n s 5000 a1 a2 0 0)
def dz_N121_96 (s : q_S) (a1 : Int32) : Bool :=
  cond (decide ((s.1 34) 1 = 2)) (cond (decide (a1 < 2)) (false) (true)) (cond (decide (a1 = 1)) (true) (false))
set_option maxHeartbeats 4000000 in
theorem dzt_N121_96 (s : q_S) (c n : Nat) (a1 : Int32) : q_Ca q_TB0 1 120 [.ref 96, .int a1] (q_kN s c n) ((q_oB (q_kN s c n)) (dz_N121_96 s a1)) := by
  refine q_CaT_of (φ := (q_oB (q_kN s c n))) (Nat.le_of_ble_eq_true rfl) ?_
  unfold dz_N121_96
  refine q_RT_seg (g2 := (6, [(0, .ref 96), (1, .int a1)], [.int ((s.1 34) 1)], (q_kN s c n))) 4 (fun _ _ => rfl) ?_
  refine q_RT_seg (g2 := (7, [(0, .ref 96), (1, .int a1)], [.int 2, .int ((s.1 34) 1)], (q_kN s c n))) 1 (fun _ _ => rfl) ?_
  cases h475 : decide ((s.1 34) 1 = 2) with
  | true =>
    refine q_RT_cT ?_
    refine q_RT_rsF (g2 := (10, [(0, .ref 96), (1, .int a1)], [], (q_kN s c n))) rfl rfl (q_d_neT h475) ?_
    refine q_RT_seg (g2 := (12, [(0, .ref 96), (1, .int a1)], [.int 2, .int a1], (q_kN s c n))) 2 (fun _ _ => rfl) ?_
    cases h476 : decide (a1 < 2) with
    | true =>
      refine q_RT_cT ?_
      refine q_RT_rsT (g2 := (19, [(0, .ref 96), (1, .int a1)], [], (q_kN s c n))) rfl rfl h476 ?_
      refine q_RT_seg (g2 := (33, [(0, .ref 96), (1, .int a1)], [.int 0], (q_kN s c n))) 2 (fun _ _ => rfl) ?_
      exact q_RT_ret rfl rfl rfl
    | false =>
      refine q_RT_cF ?_
      refine q_RT_rsF (g2 := (15, [(0, .ref 96), (1, .int a1)], [], (q_kN s c n))) rfl rfl h476 ?_
      refine q_RT_seg (g2 := (33, [(0, .ref 96), (1, .int a1)], [.int 1], (q_kN s c n))) 2 (fun _ _ => rfl) ?_
      exact q_RT_ret rfl rfl rfl
  | false =>
    refine q_RT_cF ?_
    refine q_RT_rsT (g2 := (23, [(0, .ref 96), (1, .int a1)], [], (q_kN s c n))) rfl rfl (q_d_neF h475) ?_
    refine q_RT_seg (g2 := (25, [(0, .ref 96), (1, .int a1)], [.int 1, .int a1], (q_kN s c n))) 2 (fun _ _ => rfl) ?_
    cases h477 : decide (a1 = 1) with
    | true =>
      refine q_RT_cT ?_
      refine q_RT_rsF (g2 := (28, [(0, .ref 96), (1, .int a1)], [], (q_kN s c n))) rfl rfl (q_d_neT h477) ?_
      refine q_RT_seg (g2 := (33, [(0, .ref 96), (1, .int a1)], [.int 1], (q_kN s c n))) 2 (fun _ _ => rfl) ?_
      exact q_RT_ret rfl rfl rfl
    | false =>
      refine q_RT_cF ?_
      refine q_RT_rsT (g2 := (32, [(0, .ref 96), (1, .int a1)], [], (q_kN s c n))) rfl rfl (q_d_neF h477) ?_
      refine q_RT_seg (g2 := (33, [(0, .ref 96), (1, .int a1)], [.int 0], (q_kN s c n))) 1 (fun _ _ => rfl) ?_
      exact q_RT_ret rfl rfl rfl
def dz_N123_96_39 (s : q_S) (v1 : Int32) (v3 : Int32) : Option (Int32) :=
  some ((((s.1 34) 28) + v3) - (((s.1 34) 28) + v3) / 16 * 16)
set_option maxHeartbeats 4000000 in
theorem dzt_N123_96_39 (c n : Nat) (s : q_S) (v1 : Int32) (v3 : Int32) : q_RP q_TB0 1 122 (39, [(0, .ref 96), (1, .int v1), (3, .int v3)], [], (q_kN s c n)) (q_oP (q_kN s c n)) (dz_N123_96_39 s v1 v3) := by
  unfold dz_N123_96_39
  refine q_RP_seg (g2 := (67, [(4, .int 0), (0, .ref 96), (1, .int v1), (3, .int v3)], [.int ((s.1 34) 28)], (q_kN s c n))) 8 (fun _ _ => rfl) ?_
  refine q_RP_seg (g2 := (72, [(4, .int 0), (0, .ref 96), (1, .int v1), (3, .int v3)], [.int ((((s.1 34) 28) + v3) - (((s.1 34) 28) + v3) / 16 * 16)], (q_kN s c n))) 4 (fun _ _ => rfl) ?_
  exact q_RP_ret rfl rfl rfl
def dz_N123_96_2 (m : Nat) : q_S → Int32 → Int32 → Int32 → Option (Int32) := Nat.rec (motive := fun _ => q_S → Int32 → Int32 → Int32 → Option (Int32)) (fun _ _ _ _ => none) (fun _ k2 s v1 v2 v3 =>
  cond (decide (v3 < 4)) (cond (decide ((v2 >>> (v3 &&& 31)) &&& 1 = 1)) (q_let (dz_N118_96 s 19 v3) fun r374 => cond (decide (r374 = 1)) (q_let (dz_N121_96 s v1) fun r375 => cond r375 (cond (q_in ((3 : Int32) + (v1 &&& 3)) 48) (some ((s.1 34) (((3 : Int32) + (v1 &&& 3)).toNatClampNeg))) none) (dz_N123_96_39 s v1 v3)) (dz_N123_96_39 s v1 v3)) (k2 s v1 v2 (v3 + 1))) (cond (q_in ((3 : Int32) + (v1 &&& 3)) 48) (some ((s.1 34) (((3 : Int32) + (v1 &&& 3)).toNatClampNeg))) none)) m
theorem dzs_N123_96_2 (m : Nat) (s : q_S) (v1 : Int32) (v2 : Int32) (v3 : Int32) : dz_N123_96_2 (m + 1) s v1 v2 v3 = (fun k2 : q_S → Int32 → Int32 → Int32 → Option (Int32) =>
  cond (decide (v3 < 4)) (cond (decide ((v2 >>> (v3 &&& 31)) &&& 1 = 1)) (q_let (dz_N118_96 s 19 v3) fun r374 => cond (decide (r374 = 1)) (q_let (dz_N121_96 s v1) fun r375 => cond r375 (cond (q_in ((3 : Int32) + (v1 &&& 3)) 48) (some ((s.1 34) (((3 : Int32) + (v1 &&& 3)).toNatClampNeg))) none) (dz_N123_96_39 s v1 v3)) (dz_N123_96_39 s v1 v3)) (k2 s v1 v2 (v3 + 1))) (cond (q_in ((3 : Int32) + (v1 &&& 3)) 48) (some ((s.1 34) (((3 : Int32) + (v1 &&& 3)).toNatClampNeg))) none)) (dz_N123_96_2 m) := rfl
set_option maxHeartbeats 4000000 in
theorem dzt_N123_96_2 (c n : Nat) (s : q_S) : ∀ (m : Nat) (v1 : Int32) (v2 : Int32) (v3 : Int32), q_RP q_TB0 1 122 (2, [(0, .ref 96), (1, .int v1), (2, .int v2), (3, .int v3)], [], (q_kN s c n)) (q_oP (q_kN s c n)) (dz_N123_96_2 m s v1 v2 v3) := by
  intro m
  induction m with
  | zero => intro v1 v2 v3; exact q_RP_no
  | succ m ih =>
    intro v1 v2 v3
    have hk2 := ih
    clear ih
    rw [dzs_N123_96_2]
    generalize dz_N123_96_2 m = k2 at hk2 ⊢
    dsimp only
    refine q_RP_seg (g2 := (4, [(0, .ref 96), (1, .int v1), (2, .int v2), (3, .int v3)], [.int 4, .int v3], (q_kN s c n))) 2 (fun _ _ => rfl) ?_
    cases h472 : decide (v3 < 4) with
    | true =>
      refine q_RP_cT ?_
      refine q_RP_rsF (g2 := (7, [(0, .ref 96), (1, .int v1), (2, .int v2), (3, .int v3)], [], (q_kN s c n))) rfl rfl (q_d_geT h472) ?_
      refine q_RP_seg (g2 := (13, [(0, .ref 96), (1, .int v1), (2, .int v2), (3, .int v3)], [.int 1, .int ((v2 >>> (v3 &&& 31)) &&& 1)], (q_kN s c n))) 6 (fun _ _ => rfl) ?_
      cases h473 : decide ((v2 >>> (v3 &&& 31)) &&& 1 = 1) with
      | true =>
        refine q_RP_cT ?_
        refine q_RP_rsF (g2 := (16, [(0, .ref 96), (1, .int v1), (2, .int v2), (3, .int v3)], [], (q_kN s c n))) rfl rfl (q_d_neT h473) ?_
        refine q_RP_seg (g2 := (20, [(0, .ref 96), (1, .int v1), (2, .int v2), (3, .int v3)], [.int v3, .int 19, .ref 96], (q_kN s c n))) 3 (fun _ _ => rfl) ?_
        refine q_RP_call (v := (some (.int (dz_N118_96 s 19 v3)))) (h2 := (q_kN s c n)) rfl rfl ((dzt_N118_96 s c n 19 v3).le (Nat.le_of_ble_eq_true rfl)) ?_
        generalize dz_N118_96 s 19 v3 = r374
        refine q_RP_let ?_
        show q_RP _ _ _ (23, [(0, .ref 96), (1, .int v1), (2, .int v2), (3, .int v3)], [.int r374], (q_kN s c n)) _ _
        refine q_RP_seg (g2 := (24, [(0, .ref 96), (1, .int v1), (2, .int v2), (3, .int v3)], [.int 1, .int r374], (q_kN s c n))) 1 (fun _ _ => rfl) ?_
        cases h474 : decide (r374 = 1) with
        | true =>
          refine q_RP_cT ?_
          refine q_RP_rsF (g2 := (27, [(0, .ref 96), (1, .int v1), (2, .int v2), (3, .int v3)], [], (q_kN s c n))) rfl rfl (q_d_neT h474) ?_
          refine q_RP_seg (g2 := (29, [(0, .ref 96), (1, .int v1), (2, .int v2), (3, .int v3)], [.int v1, .ref 96], (q_kN s c n))) 2 (fun _ _ => rfl) ?_
          refine q_RP_call (v := (some (.int (q_b (dz_N121_96 s v1))))) (h2 := (q_kN s c n)) rfl rfl ((dzt_N121_96 s c n v1).le (Nat.le_of_ble_eq_true rfl)) ?_
          generalize dz_N121_96 s v1 = r375
          refine q_RP_let ?_
          show q_RP _ _ _ (32, [(0, .ref 96), (1, .int v1), (2, .int v2), (3, .int v3)], [.int (q_b r375)], (q_kN s c n)) _ _
          cases h478 : r375 with
          | true =>
            refine q_RP_cT ?_
            show q_RP _ _ _ (32, [(0, .ref 96), (1, .int v1), (2, .int v2), (3, .int v3)], [.int 1], (q_kN s c n)) _ _
            refine q_RP_seg (g2 := (56, [(4, .int 1), (0, .ref 96), (1, .int v1), (2, .int v2), (3, .int v3)], [.int ((3 : Int32) + (v1 &&& 3)), .ref 98], (q_kN s c n))) 13 (fun _ _ => rfl) ?_
            refine q_RP_as fun i479 => ?_
            refine q_RP_rsT (g2 := (57, [(4, .int 1), (0, .ref 96), (1, .int v1), (2, .int v2), (3, .int v3)], [.int ((s.1 34) (((3 : Int32) + (v1 &&& 3)).toNatClampNeg))], (q_kN s c n))) rfl rfl i479 ?_
            refine q_RP_seg (g2 := (72, [(4, .int 1), (0, .ref 96), (1, .int v1), (2, .int v2), (3, .int v3)], [.int ((s.1 34) (((3 : Int32) + (v1 &&& 3)).toNatClampNeg))], (q_kN s c n))) 1 (fun _ _ => rfl) ?_
            exact q_RP_ret rfl rfl rfl
          | false =>
            refine q_RP_cF ?_
            show q_RP _ _ _ (32, [(0, .ref 96), (1, .int v1), (2, .int v2), (3, .int v3)], [.int 0], (q_kN s c n)) _ _
            refine q_RP_seg (g2 := (39, [(0, .ref 96), (1, .int v1), (2, .int v2), (3, .int v3)], [], (q_kN s c n))) 1 (fun _ _ => rfl) ?_
            exact q_RP_xt (q_xt_mk (q_mn1 0 rfl (q_mn1 1 rfl (q_mn1 3 rfl q_mn0))) rfl) (dzt_N123_96_39 c n s v1 v3)
        | false =>
          refine q_RP_cF ?_
          refine q_RP_rsT (g2 := (39, [(0, .ref 96), (1, .int v1), (2, .int v2), (3, .int v3)], [], (q_kN s c n))) rfl rfl (q_d_neF h474) ?_
          exact q_RP_xt (q_xt_mk (q_mn1 0 rfl (q_mn1 1 rfl (q_mn1 3 rfl q_mn0))) rfl) (dzt_N123_96_39 c n s v1 v3)
      | false =>
        refine q_RP_cF ?_
        refine q_RP_rsT (g2 := (73, [(0, .ref 96), (1, .int v1), (2, .int v2), (3, .int v3)], [], (q_kN s c n))) rfl rfl (q_d_neF h473) ?_
        refine q_RP_seg (g2 := (2, [(3, .int (v3 + 1)), (0, .ref 96), (1, .int v1), (2, .int v2)], [], (q_kN s c n))) 2 (fun _ _ => rfl) ?_
        exact q_RP_xt (q_xt_mk (q_mn1 1 rfl (q_mn1 2 rfl (q_mn1 3 rfl (q_mn1 0 rfl q_mn0)))) rfl) (hk2 v1 v2 (v3 + 1))
    | false =>
      refine q_RP_cF ?_
      refine q_RP_rsT (g2 := (79, [(0, .ref 96), (1, .int v1), (2, .int v2), (3, .int v3)], [], (q_kN s c n))) rfl rfl (q_d_geF h472) ?_
      refine q_RP_seg (g2 := (88, [(0, .ref 96), (1, .int v1), (2, .int v2), (3, .int v3)], [.int ((3 : Int32) + (v1 &&& 3)), .ref 98], (q_kN s c n))) 7 (fun _ _ => rfl) ?_
      refine q_RP_as fun i480 => ?_
      refine q_RP_rsT (g2 := (89, [(0, .ref 96), (1, .int v1), (2, .int v2), (3, .int v3)], [.int ((s.1 34) (((3 : Int32) + (v1 &&& 3)).toNatClampNeg))], (q_kN s c n))) rfl rfl i480 ?_
      exact q_RP_ret rfl rfl rfl
def dz_N123_96 (s : q_S) (a1 : Int32) (a2 : Int32) : Option (Int32) :=
  dz_N123_96_2 5000 s a1 a2 0
set_option maxHeartbeats 4000000 in
theorem dzt_N123_96 (s : q_S) (c n : Nat) (a1 : Int32) (a2 : Int32) (x : Int32) (h : dz_N123_96 s a1 a2 = some x) : q_Ca q_TB0 2 122 [.ref 96, .int a1, .int a2] (q_kN s c n) ((q_oP (q_kN s c n)) x) := by
  refine q_CaP_of (φ := (q_oP (q_kN s c n))) (Nat.le_of_ble_eq_true rfl) ?_ h
  clear h
  unfold dz_N123_96
  refine q_RP_seg (g2 := (2, [(3, .int 0), (0, .ref 96), (1, .int a1), (2, .int a2)], [], (q_kN s c n))) 2 (fun _ _ => rfl) ?_
  exact q_RP_xt (q_xt_mk (q_mn1 1 rfl (q_mn1 2 rfl (q_mn1 3 rfl (q_mn1 0 rfl q_mn0)))) rfl) (dzt_N123_96_2 c n s 5000 a1 a2 0)
def dz_N110_96_83 (s : q_S) : q_S :=
  (q_sA (q_sA s 33 (va_cpy (s.1 20) (s.1 33) 0 0 4096)) 34 (va_cpy (s.1 21) (s.1 34) 0 0 48))
set_option maxHeartbeats 4000000 in
theorem dzt_N110_96_83 (s : q_S) (c n : Nat) : q_Ca q_TB0 1 109 [.ref 96, .ref 83] (q_kN s c n) ((q_oSN c n) (dz_N110_96_83 s)) := by
  refine q_CaT_of (φ := (q_oSN c n)) (Nat.le_of_ble_eq_true rfl) ?_
  unfold dz_N110_96_83
  refine q_RT_seg (g2 := (13, [(0, .ref 96), (1, .ref 83)], [.int 4096, .int 0, .ref 97, .int 0, .ref 84], (q_kN s c n))) 7 (fun _ _ => rfl) ?_
  refine q_RT_rsT (g2 := (16, [(0, .ref 96), (1, .ref 83)], [], (q_kN (q_sA s 33 (va_cpy (s.1 20) (s.1 33) 0 0 4096)) c n))) rfl rfl (q_acb rfl) ?_
  refine q_RT_seg (g2 := (28, [(0, .ref 96), (1, .ref 83)], [.int 48, .int 0, .ref 98, .int 0, .ref 85], (q_kN (q_sA s 33 (va_cpy (s.1 20) (s.1 33) 0 0 4096)) c n))) 7 (fun _ _ => rfl) ?_
  refine q_RT_rsT (g2 := (31, [(0, .ref 96), (1, .ref 83)], [], (q_kN (q_sA (q_sA s 33 (va_cpy (s.1 20) (s.1 33) 0 0 4096)) 34 (va_cpy (s.1 21) (s.1 34) 0 0 48)) c n))) rfl rfl (q_acb rfl) ?_
  exact q_RT_ret rfl rfl rfl
def dz_N129_82_96_10 (m : Nat) : q_S → Int32 → Int32 → Option (q_S) := Nat.rec (motive := fun _ => q_S → Int32 → Int32 → Option (q_S)) (fun _ _ _ => none) (fun _ k10 s v1 v3 =>
  cond (decide (v3 < s.2.1 18 2)) (cond (decide (v3 < 3072)) (cond (q_in v3 3072) (cond (decide (v1 < ((s.1 22) (v3.toNatClampNeg)) >>> ((21 &&& 31) : Int32))) (some s) (cond (decide ((((s.1 22) (v3.toNatClampNeg)) >>> ((8 &&& 31) : Int32)) &&& 8191 = 4096)) ((dz_N113_96 s).bind fun r378 => k10 r378 v1 (v3 + 1)) (q_let (dz_N112_96 s ((((s.1 22) (v3.toNatClampNeg)) >>> ((8 &&& 31) : Int32)) &&& 8191) (((s.1 22) (v3.toNatClampNeg)) &&& 255)) fun r379 => k10 r379 v1 (v3 + 1)))) none) (some s)) (some s)) m
theorem dzs_N129_82_96_10 (m : Nat) (s : q_S) (v1 : Int32) (v3 : Int32) : dz_N129_82_96_10 (m + 1) s v1 v3 = (fun k10 : q_S → Int32 → Int32 → Option (q_S) =>
  cond (decide (v3 < s.2.1 18 2)) (cond (decide (v3 < 3072)) (cond (q_in v3 3072) (cond (decide (v1 < ((s.1 22) (v3.toNatClampNeg)) >>> ((21 &&& 31) : Int32))) (some s) (cond (decide ((((s.1 22) (v3.toNatClampNeg)) >>> ((8 &&& 31) : Int32)) &&& 8191 = 4096)) ((dz_N113_96 s).bind fun r378 => k10 r378 v1 (v3 + 1)) (q_let (dz_N112_96 s ((((s.1 22) (v3.toNatClampNeg)) >>> ((8 &&& 31) : Int32)) &&& 8191) (((s.1 22) (v3.toNatClampNeg)) &&& 255)) fun r379 => k10 r379 v1 (v3 + 1)))) none) (some s)) (some s)) (dz_N129_82_96_10 m) := rfl
set_option maxHeartbeats 4000000 in
theorem dzt_N129_82_96_10 (c n : Nat) : ∀ (m : Nat) (s : q_S) (v1 : Int32) (v3 : Int32), q_RP q_TB0 2 128 (10, [(0, .ref 82), (1, .int v1), (2, .ref 96), (3, .int v3)], [], (q_kN s c n)) (q_oSN c n) (dz_N129_82_96_10 m s v1 v3) := by
  intro m
  induction m with
  | zero => intro s v1 v3; exact q_RP_no
  | succ m ih =>
    intro s v1 v3
    have hk10 := ih
    clear ih
    rw [dzs_N129_82_96_10]
    generalize dz_N129_82_96_10 m = k10 at hk10 ⊢
    dsimp only
    refine q_RP_seg (g2 := (15, [(0, .ref 82), (1, .int v1), (2, .ref 96), (3, .int v3)], [.int (s.2.1 18 2), .int v3], (q_kN s c n))) 3 (fun _ _ => rfl) ?_
    cases h482 : decide (v3 < s.2.1 18 2) with
    | true =>
      refine q_RP_cT ?_
      refine q_RP_rsF (g2 := (18, [(0, .ref 82), (1, .int v1), (2, .ref 96), (3, .int v3)], [], (q_kN s c n))) rfl rfl (q_d_geT h482) ?_
      refine q_RP_seg (g2 := (22, [(0, .ref 82), (1, .int v1), (2, .ref 96), (3, .int v3)], [.int 3072, .int v3], (q_kN s c n))) 2 (fun _ _ => rfl) ?_
      cases h483 : decide (v3 < 3072) with
      | true =>
        refine q_RP_cT ?_
        refine q_RP_rsF (g2 := (25, [(0, .ref 82), (1, .int v1), (2, .ref 96), (3, .int v3)], [], (q_kN s c n))) rfl rfl (q_d_geT h483) ?_
        refine q_RP_seg (g2 := (30, [(0, .ref 82), (1, .int v1), (2, .ref 96), (3, .int v3)], [.int v3, .ref 86], (q_kN s c n))) 3 (fun _ _ => rfl) ?_
        refine q_RP_as fun i484 => ?_
        refine q_RP_rsT (g2 := (31, [(0, .ref 82), (1, .int v1), (2, .ref 96), (3, .int v3)], [.int ((s.1 22) (v3.toNatClampNeg))], (q_kN s c n))) rfl rfl i484 ?_
        refine q_RP_seg (g2 := (35, [(0, .ref 82), (1, .int v1), (2, .ref 96), (3, .int v3)], [.int v1, .int (((s.1 22) (v3.toNatClampNeg)) >>> ((21 &&& 31) : Int32))], (q_kN s c n))) 3 (fun _ _ => rfl) ?_
        cases h485 : decide (v1 < ((s.1 22) (v3.toNatClampNeg)) >>> ((21 &&& 31) : Int32)) with
        | true =>
          refine q_RP_cT ?_
          refine q_RP_rsF (g2 := (38, [(0, .ref 82), (1, .int v1), (2, .ref 96), (3, .int v3)], [], (q_kN s c n))) rfl rfl (q_d_geT h485) ?_
          exact q_RP_ret rfl rfl rfl
        | false =>
          refine q_RP_cF ?_
          refine q_RP_rsT (g2 := (39, [(0, .ref 82), (1, .int v1), (2, .ref 96), (3, .int v3)], [], (q_kN s c n))) rfl rfl (q_d_geF h485) ?_
          refine q_RP_seg (g2 := (44, [(0, .ref 82), (1, .int v1), (2, .ref 96), (3, .int v3)], [.int v3, .ref 86], (q_kN s c n))) 3 (fun _ _ => rfl) ?_
          refine q_RP_rsT (g2 := (45, [(0, .ref 82), (1, .int v1), (2, .ref 96), (3, .int v3)], [.int ((s.1 22) (v3.toNatClampNeg))], (q_kN s c n))) rfl rfl i484 ?_
          refine q_RP_seg (g2 := (59, [(4, .int ((((s.1 22) (v3.toNatClampNeg)) >>> ((8 &&& 31) : Int32)) &&& 8191)), (0, .ref 82), (1, .int v1), (2, .ref 96), (3, .int v3)], [.int 4096, .int ((((s.1 22) (v3.toNatClampNeg)) >>> ((8 &&& 31) : Int32)) &&& 8191)], (q_kN s c n))) 7 (fun _ _ => rfl) ?_
          cases h486 : decide ((((s.1 22) (v3.toNatClampNeg)) >>> ((8 &&& 31) : Int32)) &&& 8191 = 4096) with
          | true =>
            refine q_RP_cT ?_
            refine q_RP_rsF (g2 := (62, [(4, .int ((((s.1 22) (v3.toNatClampNeg)) >>> ((8 &&& 31) : Int32)) &&& 8191)), (0, .ref 82), (1, .int v1), (2, .ref 96), (3, .int v3)], [], (q_kN s c n))) rfl rfl (q_d_neT h486) ?_
            refine q_RP_seg (g2 := (63, [(4, .int ((((s.1 22) (v3.toNatClampNeg)) >>> ((8 &&& 31) : Int32)) &&& 8191)), (0, .ref 82), (1, .int v1), (2, .ref 96), (3, .int v3)], [.ref 96], (q_kN s c n))) 1 (fun _ _ => rfl) ?_
            refine q_RP_bd fun r378 er378 => ?_
            refine q_RP_call (v := none) (h2 := (q_kN r378 c n)) rfl rfl ((dzt_N113_96 s c n r378 er378).le (Nat.le_of_ble_eq_true rfl)) ?_
            show q_RP _ _ _ (66, [(4, .int ((((s.1 22) (v3.toNatClampNeg)) >>> ((8 &&& 31) : Int32)) &&& 8191)), (0, .ref 82), (1, .int v1), (2, .ref 96), (3, .int v3)], [], (q_kN r378 c n)) _ _
            refine q_RP_seg (g2 := (10, [(3, .int (v3 + 1)), (4, .int ((((s.1 22) (v3.toNatClampNeg)) >>> ((8 &&& 31) : Int32)) &&& 8191)), (0, .ref 82), (1, .int v1), (2, .ref 96)], [], (q_kN r378 c n))) 3 (fun _ _ => rfl) ?_
            exact q_RP_xt (q_xt_mk (q_mn1 2 rfl (q_mn1 3 rfl (q_mn1 4 rfl (q_mn1 0 rfl q_mn0)))) rfl) (hk10 r378 v1 (v3 + 1))
          | false =>
            refine q_RP_cF ?_
            refine q_RP_rsT (g2 := (69, [(4, .int ((((s.1 22) (v3.toNatClampNeg)) >>> ((8 &&& 31) : Int32)) &&& 8191)), (0, .ref 82), (1, .int v1), (2, .ref 96), (3, .int v3)], [], (q_kN s c n))) rfl rfl (q_d_neF h486) ?_
            refine q_RP_seg (g2 := (77, [(4, .int ((((s.1 22) (v3.toNatClampNeg)) >>> ((8 &&& 31) : Int32)) &&& 8191)), (0, .ref 82), (1, .int v1), (2, .ref 96), (3, .int v3)], [.int v3, .ref 86, .int ((((s.1 22) (v3.toNatClampNeg)) >>> ((8 &&& 31) : Int32)) &&& 8191), .ref 96], (q_kN s c n))) 5 (fun _ _ => rfl) ?_
            refine q_RP_rsT (g2 := (78, [(4, .int ((((s.1 22) (v3.toNatClampNeg)) >>> ((8 &&& 31) : Int32)) &&& 8191)), (0, .ref 82), (1, .int v1), (2, .ref 96), (3, .int v3)], [.int ((s.1 22) (v3.toNatClampNeg)), .int ((((s.1 22) (v3.toNatClampNeg)) >>> ((8 &&& 31) : Int32)) &&& 8191), .ref 96], (q_kN s c n))) rfl rfl i484 ?_
            refine q_RP_seg (g2 := (82, [(4, .int ((((s.1 22) (v3.toNatClampNeg)) >>> ((8 &&& 31) : Int32)) &&& 8191)), (0, .ref 82), (1, .int v1), (2, .ref 96), (3, .int v3)], [.int (((s.1 22) (v3.toNatClampNeg)) &&& 255), .int ((((s.1 22) (v3.toNatClampNeg)) >>> ((8 &&& 31) : Int32)) &&& 8191), .ref 96], (q_kN s c n))) 2 (fun _ _ => rfl) ?_
            refine q_RP_call (v := none) (h2 := (q_kN (dz_N112_96 s ((((s.1 22) (v3.toNatClampNeg)) >>> ((8 &&& 31) : Int32)) &&& 8191) (((s.1 22) (v3.toNatClampNeg)) &&& 255)) c n)) rfl rfl ((dzt_N112_96 s c n ((((s.1 22) (v3.toNatClampNeg)) >>> ((8 &&& 31) : Int32)) &&& 8191) (((s.1 22) (v3.toNatClampNeg)) &&& 255)).le (Nat.le_of_ble_eq_true rfl)) ?_
            generalize dz_N112_96 s ((((s.1 22) (v3.toNatClampNeg)) >>> ((8 &&& 31) : Int32)) &&& 8191) (((s.1 22) (v3.toNatClampNeg)) &&& 255) = r379
            refine q_RP_let ?_
            show q_RP _ _ _ (85, [(4, .int ((((s.1 22) (v3.toNatClampNeg)) >>> ((8 &&& 31) : Int32)) &&& 8191)), (0, .ref 82), (1, .int v1), (2, .ref 96), (3, .int v3)], [], (q_kN r379 c n)) _ _
            refine q_RP_seg (g2 := (10, [(3, .int (v3 + 1)), (4, .int ((((s.1 22) (v3.toNatClampNeg)) >>> ((8 &&& 31) : Int32)) &&& 8191)), (0, .ref 82), (1, .int v1), (2, .ref 96)], [], (q_kN r379 c n))) 2 (fun _ _ => rfl) ?_
            exact q_RP_xt (q_xt_mk (q_mn1 2 rfl (q_mn1 3 rfl (q_mn1 4 rfl (q_mn1 0 rfl q_mn0)))) rfl) (hk10 r379 v1 (v3 + 1))
      | false =>
        refine q_RP_cF ?_
        refine q_RP_rsT (g2 := (91, [(0, .ref 82), (1, .int v1), (2, .ref 96), (3, .int v3)], [], (q_kN s c n))) rfl rfl (q_d_geF h483) ?_
        exact q_RP_ret rfl rfl rfl
    | false =>
      refine q_RP_cF ?_
      refine q_RP_rsT (g2 := (91, [(0, .ref 82), (1, .int v1), (2, .ref 96), (3, .int v3)], [], (q_kN s c n))) rfl rfl (q_d_geF h482) ?_
      exact q_RP_ret rfl rfl rfl
def dz_N129_82_96 (s : q_S) (a1 : Int32) : Option (q_S) :=
  q_let (dz_N110_96_83 s) fun r377 => dz_N129_82_96_10 5000 r377 a1 0
set_option maxHeartbeats 4000000 in
theorem dzt_N129_82_96 (s : q_S) (c n : Nat) (a1 : Int32) (x : q_S) (h : dz_N129_82_96 s a1 = some x) : q_Ca q_TB0 3 128 [.ref 82, .int a1, .ref 96] (q_kN s c n) ((q_oSN c n) x) := by
  refine q_CaP_of (φ := (q_oSN c n)) (Nat.le_of_ble_eq_true rfl) ?_ h
  clear h
  unfold dz_N129_82_96
  refine q_RP_seg (g2 := (5, [(0, .ref 82), (1, .int a1), (2, .ref 96)], [.ref 83, .ref 96], (q_kN s c n))) 3 (fun _ _ => rfl) ?_
  refine q_RP_call (v := none) (h2 := (q_kN (dz_N110_96_83 s) c n)) rfl rfl ((dzt_N110_96_83 s c n).le (Nat.le_of_ble_eq_true rfl)) ?_
  generalize dz_N110_96_83 s = r377
  refine q_RP_let ?_
  show q_RP _ _ _ (8, [(0, .ref 82), (1, .int a1), (2, .ref 96)], [], (q_kN r377 c n)) _ _
  refine q_RP_seg (g2 := (10, [(3, .int 0), (0, .ref 82), (1, .int a1), (2, .ref 96)], [], (q_kN r377 c n))) 2 (fun _ _ => rfl) ?_
  exact q_RP_xt (q_xt_mk (q_mn1 1 rfl (q_mn1 2 rfl (q_mn1 3 rfl (q_mn1 0 rfl q_mn0)))) rfl) (dzt_N129_82_96_10 c n 5000 r377 a1 0)
def dz_N108_65_96 (s : q_S) (a1 : Int32) (a2 : Int32) : Option (q_S × Int32) :=
  cond (decide (lg_cmp (((s.2.2 1 8) / 960) - ((s.2.2 1 8) / 960) / 2 * 2) 0 = 0)) (cond (decide ((24 * (a2 + 4)) + ((a1 / 2) + 4) < s.2.1 13 3)) ((dz_N129_77_96 s ((24 * (a2 + 4)) + ((a1 / 2) + 4))).bind fun r360 => q_let (dz_N119_96 r360 a1 a2) fun r366 => (dz_N122_96 r360 a1 a2).bind fun r373 => (dz_N123_96 r360 r366 r373).bind fun r376 => some (r360, r376)) (cond (decide ((24 * (a2 + 4)) + ((a1 / 2) + 4) < s.2.1 18 3)) ((dz_N129_82_96 s ((24 * (a2 + 4)) + ((a1 / 2) + 4))).bind fun r380 => q_let (dz_N119_96 r380 a1 a2) fun r381 => (dz_N122_96 r380 a1 a2).bind fun r382 => (dz_N123_96 r380 r381 r382).bind fun r383 => some (r380, r383)) (some (s, 0)))) (cond (decide ((24 * (a2 + 4)) + ((a1 / 2) + 4) < s.2.1 18 3)) ((dz_N129_82_96 s ((24 * (a2 + 4)) + ((a1 / 2) + 4))).bind fun r384 => q_let (dz_N119_96 r384 a1 a2) fun r385 => (dz_N122_96 r384 a1 a2).bind fun r386 => (dz_N123_96 r384 r385 r386).bind fun r387 => some (r384, r387)) (cond (decide ((24 * (a2 + 4)) + ((a1 / 2) + 4) < s.2.1 13 3)) ((dz_N129_77_96 s ((24 * (a2 + 4)) + ((a1 / 2) + 4))).bind fun r388 => q_let (dz_N119_96 r388 a1 a2) fun r389 => (dz_N122_96 r388 a1 a2).bind fun r390 => (dz_N123_96 r388 r389 r390).bind fun r391 => some (r388, r391)) (some (s, 0))))
set_option maxHeartbeats 4000000 in
theorem dzt_N108_65_96 (s : q_S) (c n : Nat) (a1 : Int32) (a2 : Int32) (x : q_S × Int32) (h : dz_N108_65_96 s a1 a2 = some x) : q_Ca q_TB0 4 107 [.ref 65, .int a1, .int a2, .ref 96] (q_kN s c n) ((q_oIN c n) x) := by
  refine q_CaP_of (φ := (q_oIN c n)) (Nat.le_of_ble_eq_true rfl) ?_ h
  clear h
  unfold dz_N108_65_96
  refine q_RP_seg (g2 := (21, [(5, .int ((24 * (a2 + 4)) + ((a1 / 2) + 4))), (4, .int ((a1 / 2) + 4)), (0, .ref 65), (1, .int a1), (2, .int a2), (3, .ref 96)], [.ref 65, .int ((24 * (a2 + 4)) + ((a1 / 2) + 4))], (q_kN s c n))) 16 (fun _ _ => rfl) ?_
  cases h455 : decide (lg_cmp (((s.2.2 1 8) / 960) - ((s.2.2 1 8) / 960) / 2 * 2) 0 = 0) with
  | true =>
    refine q_RP_cT ?_
    refine q_RP_call (v := (some (.ref 77))) (h2 := (q_kN s c n)) rfl rfl ?_ ?_
    · refine q_Ca_of (Nat.le_of_ble_eq_true rfl) ?_
      refine q_Ru_seg (g2 := (14, [(0, .ref 65)], [.int (lg_cmp (((s.2.2 1 8) / 960) - ((s.2.2 1 8) / 960) / 2 * 2) 0)], (q_kN s c n))) 8 (fun _ _ => rfl) ?_
      refine q_Ru_rsF (g2 := (17, [(0, .ref 65)], [], (q_kN s c n))) rfl rfl (q_d_neT h455) ?_
      refine q_Ru_seg (g2 := (28, [(0, .ref 65)], [.ref 77], (q_kN s c n))) 3 (fun _ _ => rfl) ?_
      exact q_Ru_ret rfl rfl
    show q_RP _ _ _ (24, [(5, .int ((24 * (a2 + 4)) + ((a1 / 2) + 4))), (4, .int ((a1 / 2) + 4)), (0, .ref 65), (1, .int a1), (2, .int a2), (3, .ref 96)], [.ref 77, .int ((24 * (a2 + 4)) + ((a1 / 2) + 4))], (q_kN s c n)) _ _
    refine q_RP_seg (g2 := (27, [(5, .int ((24 * (a2 + 4)) + ((a1 / 2) + 4))), (4, .int ((a1 / 2) + 4)), (0, .ref 65), (1, .int a1), (2, .int a2), (3, .ref 96)], [.int (s.2.1 13 3), .int ((24 * (a2 + 4)) + ((a1 / 2) + 4))], (q_kN s c n))) 1 (fun _ _ => rfl) ?_
    cases h456 : decide ((24 * (a2 + 4)) + ((a1 / 2) + 4) < s.2.1 13 3) with
    | true =>
      refine q_RP_cT ?_
      refine q_RP_rsF (g2 := (30, [(5, .int ((24 * (a2 + 4)) + ((a1 / 2) + 4))), (4, .int ((a1 / 2) + 4)), (0, .ref 65), (1, .int a1), (2, .int a2), (3, .ref 96)], [], (q_kN s c n))) rfl rfl (q_d_geT h456) ?_
      refine q_RP_seg (g2 := (31, [(5, .int ((24 * (a2 + 4)) + ((a1 / 2) + 4))), (4, .int ((a1 / 2) + 4)), (0, .ref 65), (1, .int a1), (2, .int a2), (3, .ref 96)], [.ref 65], (q_kN s c n))) 1 (fun _ _ => rfl) ?_
      refine q_RP_call (v := (some (.ref 77))) (h2 := (q_kN s c n)) rfl rfl ?_ ?_
      · refine q_Ca_of (Nat.le_of_ble_eq_true rfl) ?_
        refine q_Ru_seg (g2 := (14, [(0, .ref 65)], [.int (lg_cmp (((s.2.2 1 8) / 960) - ((s.2.2 1 8) / 960) / 2 * 2) 0)], (q_kN s c n))) 8 (fun _ _ => rfl) ?_
        refine q_Ru_rsF (g2 := (17, [(0, .ref 65)], [], (q_kN s c n))) rfl rfl (q_d_neT h455) ?_
        refine q_Ru_seg (g2 := (28, [(0, .ref 65)], [.ref 77], (q_kN s c n))) 3 (fun _ _ => rfl) ?_
        exact q_Ru_ret rfl rfl
      show q_RP _ _ _ (34, [(5, .int ((24 * (a2 + 4)) + ((a1 / 2) + 4))), (4, .int ((a1 / 2) + 4)), (0, .ref 65), (1, .int a1), (2, .int a2), (3, .ref 96)], [.ref 77], (q_kN s c n)) _ _
      refine q_RP_seg (g2 := (50, [(6, .ref 77), (5, .int ((24 * (a2 + 4)) + ((a1 / 2) + 4))), (4, .int ((a1 / 2) + 4)), (0, .ref 65), (1, .int a1), (2, .int a2), (3, .ref 96)], [.int (s.2.1 13 3), .int ((24 * (a2 + 4)) + ((a1 / 2) + 4))], (q_kN s c n))) 5 (fun _ _ => rfl) ?_
      refine q_RP_rsT (g2 := (55, [(6, .ref 77), (5, .int ((24 * (a2 + 4)) + ((a1 / 2) + 4))), (4, .int ((a1 / 2) + 4)), (0, .ref 65), (1, .int a1), (2, .int a2), (3, .ref 96)], [], (q_kN s c n))) rfl rfl h456 ?_
      refine q_RP_seg (g2 := (60, [(6, .ref 77), (5, .int ((24 * (a2 + 4)) + ((a1 / 2) + 4))), (4, .int ((a1 / 2) + 4)), (0, .ref 65), (1, .int a1), (2, .int a2), (3, .ref 96)], [.ref 96, .int ((24 * (a2 + 4)) + ((a1 / 2) + 4)), .ref 77], (q_kN s c n))) 3 (fun _ _ => rfl) ?_
      refine q_RP_bd fun r360 er360 => ?_
      refine q_RP_call (v := none) (h2 := (q_kN r360 c n)) rfl rfl ((dzt_N129_77_96 s c n ((24 * (a2 + 4)) + ((a1 / 2) + 4)) r360 er360).le (Nat.le_of_ble_eq_true rfl)) ?_
      show q_RP _ _ _ (63, [(6, .ref 77), (5, .int ((24 * (a2 + 4)) + ((a1 / 2) + 4))), (4, .int ((a1 / 2) + 4)), (0, .ref 65), (1, .int a1), (2, .int a2), (3, .ref 96)], [], (q_kN r360 c n)) _ _
      refine q_RP_seg (g2 := (67, [(6, .ref 77), (5, .int ((24 * (a2 + 4)) + ((a1 / 2) + 4))), (4, .int ((a1 / 2) + 4)), (0, .ref 65), (1, .int a1), (2, .int a2), (3, .ref 96)], [.int a2, .int a1, .ref 96, .ref 96], (q_kN r360 c n))) 4 (fun _ _ => rfl) ?_
      refine q_RP_call (v := (some (.int (dz_N119_96 r360 a1 a2)))) (h2 := (q_kN r360 c n)) rfl rfl ((dzt_N119_96 r360 c n a1 a2).le (Nat.le_of_ble_eq_true rfl)) ?_
      generalize dz_N119_96 r360 a1 a2 = r366
      refine q_RP_let ?_
      show q_RP _ _ _ (70, [(6, .ref 77), (5, .int ((24 * (a2 + 4)) + ((a1 / 2) + 4))), (4, .int ((a1 / 2) + 4)), (0, .ref 65), (1, .int a1), (2, .int a2), (3, .ref 96)], [.int r366, .ref 96], (q_kN r360 c n)) _ _
      refine q_RP_seg (g2 := (73, [(6, .ref 77), (5, .int ((24 * (a2 + 4)) + ((a1 / 2) + 4))), (4, .int ((a1 / 2) + 4)), (0, .ref 65), (1, .int a1), (2, .int a2), (3, .ref 96)], [.int a2, .int a1, .ref 96, .int r366, .ref 96], (q_kN r360 c n))) 3 (fun _ _ => rfl) ?_
      refine q_RP_bd fun r373 er373 => ?_
      refine q_RP_call (v := (some (.int r373))) (h2 := (q_kN r360 c n)) rfl rfl ((dzt_N122_96 r360 c n a1 a2 r373 er373).le (Nat.le_of_ble_eq_true rfl)) ?_
      show q_RP _ _ _ (76, [(6, .ref 77), (5, .int ((24 * (a2 + 4)) + ((a1 / 2) + 4))), (4, .int ((a1 / 2) + 4)), (0, .ref 65), (1, .int a1), (2, .int a2), (3, .ref 96)], [.int r373, .int r366, .ref 96], (q_kN r360 c n)) _ _
      refine q_RP_bd fun r376 er376 => ?_
      refine q_RP_call (v := (some (.int r376))) (h2 := (q_kN r360 c n)) rfl rfl ((dzt_N123_96 r360 c n r366 r373 r376 er376).le (Nat.le_of_ble_eq_true rfl)) ?_
      show q_RP _ _ _ (79, [(6, .ref 77), (5, .int ((24 * (a2 + 4)) + ((a1 / 2) + 4))), (4, .int ((a1 / 2) + 4)), (0, .ref 65), (1, .int a1), (2, .int a2), (3, .ref 96)], [.int r376], (q_kN r360 c n)) _ _
      exact q_RP_ret rfl rfl rfl
    | false =>
      refine q_RP_cF ?_
      refine q_RP_rsT (g2 := (37, [(5, .int ((24 * (a2 + 4)) + ((a1 / 2) + 4))), (4, .int ((a1 / 2) + 4)), (0, .ref 65), (1, .int a1), (2, .int a2), (3, .ref 96)], [], (q_kN s c n))) rfl rfl (q_d_geF h456) ?_
      refine q_RP_seg (g2 := (38, [(5, .int ((24 * (a2 + 4)) + ((a1 / 2) + 4))), (4, .int ((a1 / 2) + 4)), (0, .ref 65), (1, .int a1), (2, .int a2), (3, .ref 96)], [.ref 65], (q_kN s c n))) 1 (fun _ _ => rfl) ?_
      refine q_RP_call (v := (some (.ref 82))) (h2 := (q_kN s c n)) rfl rfl ?_ ?_
      · refine q_Ca_of (Nat.le_of_ble_eq_true rfl) ?_
        refine q_Ru_seg (g2 := (14, [(0, .ref 65)], [.int (lg_cmp (((s.2.2 1 8) / 960) - ((s.2.2 1 8) / 960) / 2 * 2) 0)], (q_kN s c n))) 8 (fun _ _ => rfl) ?_
        refine q_Ru_rsF (g2 := (17, [(0, .ref 65)], [], (q_kN s c n))) rfl rfl (q_d_neT h455) ?_
        refine q_Ru_seg (g2 := (28, [(0, .ref 65)], [.ref 82], (q_kN s c n))) 3 (fun _ _ => rfl) ?_
        exact q_Ru_ret rfl rfl
      show q_RP _ _ _ (41, [(5, .int ((24 * (a2 + 4)) + ((a1 / 2) + 4))), (4, .int ((a1 / 2) + 4)), (0, .ref 65), (1, .int a1), (2, .int a2), (3, .ref 96)], [.ref 82], (q_kN s c n)) _ _
      refine q_RP_seg (g2 := (50, [(6, .ref 82), (5, .int ((24 * (a2 + 4)) + ((a1 / 2) + 4))), (4, .int ((a1 / 2) + 4)), (0, .ref 65), (1, .int a1), (2, .int a2), (3, .ref 96)], [.int (s.2.1 18 3), .int ((24 * (a2 + 4)) + ((a1 / 2) + 4))], (q_kN s c n))) 4 (fun _ _ => rfl) ?_
      cases h481 : decide ((24 * (a2 + 4)) + ((a1 / 2) + 4) < s.2.1 18 3) with
      | true =>
        refine q_RP_cT ?_
        refine q_RP_rsT (g2 := (55, [(6, .ref 82), (5, .int ((24 * (a2 + 4)) + ((a1 / 2) + 4))), (4, .int ((a1 / 2) + 4)), (0, .ref 65), (1, .int a1), (2, .int a2), (3, .ref 96)], [], (q_kN s c n))) rfl rfl h481 ?_
        refine q_RP_seg (g2 := (60, [(6, .ref 82), (5, .int ((24 * (a2 + 4)) + ((a1 / 2) + 4))), (4, .int ((a1 / 2) + 4)), (0, .ref 65), (1, .int a1), (2, .int a2), (3, .ref 96)], [.ref 96, .int ((24 * (a2 + 4)) + ((a1 / 2) + 4)), .ref 82], (q_kN s c n))) 3 (fun _ _ => rfl) ?_
        refine q_RP_bd fun r380 er380 => ?_
        refine q_RP_call (v := none) (h2 := (q_kN r380 c n)) rfl rfl ((dzt_N129_82_96 s c n ((24 * (a2 + 4)) + ((a1 / 2) + 4)) r380 er380).le (Nat.le_of_ble_eq_true rfl)) ?_
        show q_RP _ _ _ (63, [(6, .ref 82), (5, .int ((24 * (a2 + 4)) + ((a1 / 2) + 4))), (4, .int ((a1 / 2) + 4)), (0, .ref 65), (1, .int a1), (2, .int a2), (3, .ref 96)], [], (q_kN r380 c n)) _ _
        refine q_RP_seg (g2 := (67, [(6, .ref 82), (5, .int ((24 * (a2 + 4)) + ((a1 / 2) + 4))), (4, .int ((a1 / 2) + 4)), (0, .ref 65), (1, .int a1), (2, .int a2), (3, .ref 96)], [.int a2, .int a1, .ref 96, .ref 96], (q_kN r380 c n))) 4 (fun _ _ => rfl) ?_
        refine q_RP_call (v := (some (.int (dz_N119_96 r380 a1 a2)))) (h2 := (q_kN r380 c n)) rfl rfl ((dzt_N119_96 r380 c n a1 a2).le (Nat.le_of_ble_eq_true rfl)) ?_
        generalize dz_N119_96 r380 a1 a2 = r381
        refine q_RP_let ?_
        show q_RP _ _ _ (70, [(6, .ref 82), (5, .int ((24 * (a2 + 4)) + ((a1 / 2) + 4))), (4, .int ((a1 / 2) + 4)), (0, .ref 65), (1, .int a1), (2, .int a2), (3, .ref 96)], [.int r381, .ref 96], (q_kN r380 c n)) _ _
        refine q_RP_seg (g2 := (73, [(6, .ref 82), (5, .int ((24 * (a2 + 4)) + ((a1 / 2) + 4))), (4, .int ((a1 / 2) + 4)), (0, .ref 65), (1, .int a1), (2, .int a2), (3, .ref 96)], [.int a2, .int a1, .ref 96, .int r381, .ref 96], (q_kN r380 c n))) 3 (fun _ _ => rfl) ?_
        refine q_RP_bd fun r382 er382 => ?_
        refine q_RP_call (v := (some (.int r382))) (h2 := (q_kN r380 c n)) rfl rfl ((dzt_N122_96 r380 c n a1 a2 r382 er382).le (Nat.le_of_ble_eq_true rfl)) ?_
        show q_RP _ _ _ (76, [(6, .ref 82), (5, .int ((24 * (a2 + 4)) + ((a1 / 2) + 4))), (4, .int ((a1 / 2) + 4)), (0, .ref 65), (1, .int a1), (2, .int a2), (3, .ref 96)], [.int r382, .int r381, .ref 96], (q_kN r380 c n)) _ _
        refine q_RP_bd fun r383 er383 => ?_
        refine q_RP_call (v := (some (.int r383))) (h2 := (q_kN r380 c n)) rfl rfl ((dzt_N123_96 r380 c n r381 r382 r383 er383).le (Nat.le_of_ble_eq_true rfl)) ?_
        show q_RP _ _ _ (79, [(6, .ref 82), (5, .int ((24 * (a2 + 4)) + ((a1 / 2) + 4))), (4, .int ((a1 / 2) + 4)), (0, .ref 65), (1, .int a1), (2, .int a2), (3, .ref 96)], [.int r383], (q_kN r380 c n)) _ _
        exact q_RP_ret rfl rfl rfl
      | false =>
        refine q_RP_cF ?_
        refine q_RP_rsF (g2 := (53, [(6, .ref 82), (5, .int ((24 * (a2 + 4)) + ((a1 / 2) + 4))), (4, .int ((a1 / 2) + 4)), (0, .ref 65), (1, .int a1), (2, .int a2), (3, .ref 96)], [], (q_kN s c n))) rfl rfl h481 ?_
        refine q_RP_seg (g2 := (54, [(6, .ref 82), (5, .int ((24 * (a2 + 4)) + ((a1 / 2) + 4))), (4, .int ((a1 / 2) + 4)), (0, .ref 65), (1, .int a1), (2, .int a2), (3, .ref 96)], [.int 0], (q_kN s c n))) 1 (fun _ _ => rfl) ?_
        exact q_RP_ret rfl rfl rfl
  | false =>
    refine q_RP_cF ?_
    refine q_RP_call (v := (some (.ref 82))) (h2 := (q_kN s c n)) rfl rfl ?_ ?_
    · refine q_Ca_of (Nat.le_of_ble_eq_true rfl) ?_
      refine q_Ru_seg (g2 := (14, [(0, .ref 65)], [.int (lg_cmp (((s.2.2 1 8) / 960) - ((s.2.2 1 8) / 960) / 2 * 2) 0)], (q_kN s c n))) 8 (fun _ _ => rfl) ?_
      refine q_Ru_rsT (g2 := (24, [(0, .ref 65)], [], (q_kN s c n))) rfl rfl (q_d_neF h455) ?_
      refine q_Ru_seg (g2 := (28, [(0, .ref 65)], [.ref 82], (q_kN s c n))) 2 (fun _ _ => rfl) ?_
      exact q_Ru_ret rfl rfl
    show q_RP _ _ _ (24, [(5, .int ((24 * (a2 + 4)) + ((a1 / 2) + 4))), (4, .int ((a1 / 2) + 4)), (0, .ref 65), (1, .int a1), (2, .int a2), (3, .ref 96)], [.ref 82, .int ((24 * (a2 + 4)) + ((a1 / 2) + 4))], (q_kN s c n)) _ _
    refine q_RP_seg (g2 := (27, [(5, .int ((24 * (a2 + 4)) + ((a1 / 2) + 4))), (4, .int ((a1 / 2) + 4)), (0, .ref 65), (1, .int a1), (2, .int a2), (3, .ref 96)], [.int (s.2.1 18 3), .int ((24 * (a2 + 4)) + ((a1 / 2) + 4))], (q_kN s c n))) 1 (fun _ _ => rfl) ?_
    cases h487 : decide ((24 * (a2 + 4)) + ((a1 / 2) + 4) < s.2.1 18 3) with
    | true =>
      refine q_RP_cT ?_
      refine q_RP_rsF (g2 := (30, [(5, .int ((24 * (a2 + 4)) + ((a1 / 2) + 4))), (4, .int ((a1 / 2) + 4)), (0, .ref 65), (1, .int a1), (2, .int a2), (3, .ref 96)], [], (q_kN s c n))) rfl rfl (q_d_geT h487) ?_
      refine q_RP_seg (g2 := (31, [(5, .int ((24 * (a2 + 4)) + ((a1 / 2) + 4))), (4, .int ((a1 / 2) + 4)), (0, .ref 65), (1, .int a1), (2, .int a2), (3, .ref 96)], [.ref 65], (q_kN s c n))) 1 (fun _ _ => rfl) ?_
      refine q_RP_call (v := (some (.ref 82))) (h2 := (q_kN s c n)) rfl rfl ?_ ?_
      · refine q_Ca_of (Nat.le_of_ble_eq_true rfl) ?_
        refine q_Ru_seg (g2 := (14, [(0, .ref 65)], [.int (lg_cmp (((s.2.2 1 8) / 960) - ((s.2.2 1 8) / 960) / 2 * 2) 0)], (q_kN s c n))) 8 (fun _ _ => rfl) ?_
        refine q_Ru_rsT (g2 := (24, [(0, .ref 65)], [], (q_kN s c n))) rfl rfl (q_d_neF h455) ?_
        refine q_Ru_seg (g2 := (28, [(0, .ref 65)], [.ref 82], (q_kN s c n))) 2 (fun _ _ => rfl) ?_
        exact q_Ru_ret rfl rfl
      show q_RP _ _ _ (34, [(5, .int ((24 * (a2 + 4)) + ((a1 / 2) + 4))), (4, .int ((a1 / 2) + 4)), (0, .ref 65), (1, .int a1), (2, .int a2), (3, .ref 96)], [.ref 82], (q_kN s c n)) _ _
      refine q_RP_seg (g2 := (50, [(6, .ref 82), (5, .int ((24 * (a2 + 4)) + ((a1 / 2) + 4))), (4, .int ((a1 / 2) + 4)), (0, .ref 65), (1, .int a1), (2, .int a2), (3, .ref 96)], [.int (s.2.1 18 3), .int ((24 * (a2 + 4)) + ((a1 / 2) + 4))], (q_kN s c n))) 5 (fun _ _ => rfl) ?_
      refine q_RP_rsT (g2 := (55, [(6, .ref 82), (5, .int ((24 * (a2 + 4)) + ((a1 / 2) + 4))), (4, .int ((a1 / 2) + 4)), (0, .ref 65), (1, .int a1), (2, .int a2), (3, .ref 96)], [], (q_kN s c n))) rfl rfl h487 ?_
      refine q_RP_seg (g2 := (60, [(6, .ref 82), (5, .int ((24 * (a2 + 4)) + ((a1 / 2) + 4))), (4, .int ((a1 / 2) + 4)), (0, .ref 65), (1, .int a1), (2, .int a2), (3, .ref 96)], [.ref 96, .int ((24 * (a2 + 4)) + ((a1 / 2) + 4)), .ref 82], (q_kN s c n))) 3 (fun _ _ => rfl) ?_
      refine q_RP_bd fun r384 er384 => ?_
      refine q_RP_call (v := none) (h2 := (q_kN r384 c n)) rfl rfl ((dzt_N129_82_96 s c n ((24 * (a2 + 4)) + ((a1 / 2) + 4)) r384 er384).le (Nat.le_of_ble_eq_true rfl)) ?_
      show q_RP _ _ _ (63, [(6, .ref 82), (5, .int ((24 * (a2 + 4)) + ((a1 / 2) + 4))), (4, .int ((a1 / 2) + 4)), (0, .ref 65), (1, .int a1), (2, .int a2), (3, .ref 96)], [], (q_kN r384 c n)) _ _
      refine q_RP_seg (g2 := (67, [(6, .ref 82), (5, .int ((24 * (a2 + 4)) + ((a1 / 2) + 4))), (4, .int ((a1 / 2) + 4)), (0, .ref 65), (1, .int a1), (2, .int a2), (3, .ref 96)], [.int a2, .int a1, .ref 96, .ref 96], (q_kN r384 c n))) 4 (fun _ _ => rfl) ?_
      refine q_RP_call (v := (some (.int (dz_N119_96 r384 a1 a2)))) (h2 := (q_kN r384 c n)) rfl rfl ((dzt_N119_96 r384 c n a1 a2).le (Nat.le_of_ble_eq_true rfl)) ?_
      generalize dz_N119_96 r384 a1 a2 = r385
      refine q_RP_let ?_
      show q_RP _ _ _ (70, [(6, .ref 82), (5, .int ((24 * (a2 + 4)) + ((a1 / 2) + 4))), (4, .int ((a1 / 2) + 4)), (0, .ref 65), (1, .int a1), (2, .int a2), (3, .ref 96)], [.int r385, .ref 96], (q_kN r384 c n)) _ _
      refine q_RP_seg (g2 := (73, [(6, .ref 82), (5, .int ((24 * (a2 + 4)) + ((a1 / 2) + 4))), (4, .int ((a1 / 2) + 4)), (0, .ref 65), (1, .int a1), (2, .int a2), (3, .ref 96)], [.int a2, .int a1, .ref 96, .int r385, .ref 96], (q_kN r384 c n))) 3 (fun _ _ => rfl) ?_
      refine q_RP_bd fun r386 er386 => ?_
      refine q_RP_call (v := (some (.int r386))) (h2 := (q_kN r384 c n)) rfl rfl ((dzt_N122_96 r384 c n a1 a2 r386 er386).le (Nat.le_of_ble_eq_true rfl)) ?_
      show q_RP _ _ _ (76, [(6, .ref 82), (5, .int ((24 * (a2 + 4)) + ((a1 / 2) + 4))), (4, .int ((a1 / 2) + 4)), (0, .ref 65), (1, .int a1), (2, .int a2), (3, .ref 96)], [.int r386, .int r385, .ref 96], (q_kN r384 c n)) _ _
      refine q_RP_bd fun r387 er387 => ?_
      refine q_RP_call (v := (some (.int r387))) (h2 := (q_kN r384 c n)) rfl rfl ((dzt_N123_96 r384 c n r385 r386 r387 er387).le (Nat.le_of_ble_eq_true rfl)) ?_
      show q_RP _ _ _ (79, [(6, .ref 82), (5, .int ((24 * (a2 + 4)) + ((a1 / 2) + 4))), (4, .int ((a1 / 2) + 4)), (0, .ref 65), (1, .int a1), (2, .int a2), (3, .ref 96)], [.int r387], (q_kN r384 c n)) _ _
      exact q_RP_ret rfl rfl rfl
    | false =>
      refine q_RP_cF ?_
      refine q_RP_rsT (g2 := (37, [(5, .int ((24 * (a2 + 4)) + ((a1 / 2) + 4))), (4, .int ((a1 / 2) + 4)), (0, .ref 65), (1, .int a1), (2, .int a2), (3, .ref 96)], [], (q_kN s c n))) rfl rfl (q_d_geF h487) ?_
      refine q_RP_seg (g2 := (38, [(5, .int ((24 * (a2 + 4)) + ((a1 / 2) + 4))), (4, .int ((a1 / 2) + 4)), (0, .ref 65), (1, .int a1), (2, .int a2), (3, .ref 96)], [.ref 65], (q_kN s c n))) 1 (fun _ _ => rfl) ?_
      refine q_RP_call (v := (some (.ref 77))) (h2 := (q_kN s c n)) rfl rfl ?_ ?_
      · refine q_Ca_of (Nat.le_of_ble_eq_true rfl) ?_
        refine q_Ru_seg (g2 := (14, [(0, .ref 65)], [.int (lg_cmp (((s.2.2 1 8) / 960) - ((s.2.2 1 8) / 960) / 2 * 2) 0)], (q_kN s c n))) 8 (fun _ _ => rfl) ?_
        refine q_Ru_rsT (g2 := (24, [(0, .ref 65)], [], (q_kN s c n))) rfl rfl (q_d_neF h455) ?_
        refine q_Ru_seg (g2 := (28, [(0, .ref 65)], [.ref 77], (q_kN s c n))) 2 (fun _ _ => rfl) ?_
        exact q_Ru_ret rfl rfl
      show q_RP _ _ _ (41, [(5, .int ((24 * (a2 + 4)) + ((a1 / 2) + 4))), (4, .int ((a1 / 2) + 4)), (0, .ref 65), (1, .int a1), (2, .int a2), (3, .ref 96)], [.ref 77], (q_kN s c n)) _ _
      refine q_RP_seg (g2 := (50, [(6, .ref 77), (5, .int ((24 * (a2 + 4)) + ((a1 / 2) + 4))), (4, .int ((a1 / 2) + 4)), (0, .ref 65), (1, .int a1), (2, .int a2), (3, .ref 96)], [.int (s.2.1 13 3), .int ((24 * (a2 + 4)) + ((a1 / 2) + 4))], (q_kN s c n))) 4 (fun _ _ => rfl) ?_
      cases h488 : decide ((24 * (a2 + 4)) + ((a1 / 2) + 4) < s.2.1 13 3) with
      | true =>
        refine q_RP_cT ?_
        refine q_RP_rsT (g2 := (55, [(6, .ref 77), (5, .int ((24 * (a2 + 4)) + ((a1 / 2) + 4))), (4, .int ((a1 / 2) + 4)), (0, .ref 65), (1, .int a1), (2, .int a2), (3, .ref 96)], [], (q_kN s c n))) rfl rfl h488 ?_
        refine q_RP_seg (g2 := (60, [(6, .ref 77), (5, .int ((24 * (a2 + 4)) + ((a1 / 2) + 4))), (4, .int ((a1 / 2) + 4)), (0, .ref 65), (1, .int a1), (2, .int a2), (3, .ref 96)], [.ref 96, .int ((24 * (a2 + 4)) + ((a1 / 2) + 4)), .ref 77], (q_kN s c n))) 3 (fun _ _ => rfl) ?_
        refine q_RP_bd fun r388 er388 => ?_
        refine q_RP_call (v := none) (h2 := (q_kN r388 c n)) rfl rfl ((dzt_N129_77_96 s c n ((24 * (a2 + 4)) + ((a1 / 2) + 4)) r388 er388).le (Nat.le_of_ble_eq_true rfl)) ?_
        show q_RP _ _ _ (63, [(6, .ref 77), (5, .int ((24 * (a2 + 4)) + ((a1 / 2) + 4))), (4, .int ((a1 / 2) + 4)), (0, .ref 65), (1, .int a1), (2, .int a2), (3, .ref 96)], [], (q_kN r388 c n)) _ _
        refine q_RP_seg (g2 := (67, [(6, .ref 77), (5, .int ((24 * (a2 + 4)) + ((a1 / 2) + 4))), (4, .int ((a1 / 2) + 4)), (0, .ref 65), (1, .int a1), (2, .int a2), (3, .ref 96)], [.int a2, .int a1, .ref 96, .ref 96], (q_kN r388 c n))) 4 (fun _ _ => rfl) ?_
        refine q_RP_call (v := (some (.int (dz_N119_96 r388 a1 a2)))) (h2 := (q_kN r388 c n)) rfl rfl ((dzt_N119_96 r388 c n a1 a2).le (Nat.le_of_ble_eq_true rfl)) ?_
        generalize dz_N119_96 r388 a1 a2 = r389
        refine q_RP_let ?_
        show q_RP _ _ _ (70, [(6, .ref 77), (5, .int ((24 * (a2 + 4)) + ((a1 / 2) + 4))), (4, .int ((a1 / 2) + 4)), (0, .ref 65), (1, .int a1), (2, .int a2), (3, .ref 96)], [.int r389, .ref 96], (q_kN r388 c n)) _ _
        refine q_RP_seg (g2 := (73, [(6, .ref 77), (5, .int ((24 * (a2 + 4)) + ((a1 / 2) + 4))), (4, .int ((a1 / 2) + 4)), (0, .ref 65), (1, .int a1), (2, .int a2), (3, .ref 96)], [.int a2, .int a1, .ref 96, .int r389, .ref 96], (q_kN r388 c n))) 3 (fun _ _ => rfl) ?_
        refine q_RP_bd fun r390 er390 => ?_
        refine q_RP_call (v := (some (.int r390))) (h2 := (q_kN r388 c n)) rfl rfl ((dzt_N122_96 r388 c n a1 a2 r390 er390).le (Nat.le_of_ble_eq_true rfl)) ?_
        show q_RP _ _ _ (76, [(6, .ref 77), (5, .int ((24 * (a2 + 4)) + ((a1 / 2) + 4))), (4, .int ((a1 / 2) + 4)), (0, .ref 65), (1, .int a1), (2, .int a2), (3, .ref 96)], [.int r390, .int r389, .ref 96], (q_kN r388 c n)) _ _
        refine q_RP_bd fun r391 er391 => ?_
        refine q_RP_call (v := (some (.int r391))) (h2 := (q_kN r388 c n)) rfl rfl ((dzt_N123_96 r388 c n r389 r390 r391 er391).le (Nat.le_of_ble_eq_true rfl)) ?_
        show q_RP _ _ _ (79, [(6, .ref 77), (5, .int ((24 * (a2 + 4)) + ((a1 / 2) + 4))), (4, .int ((a1 / 2) + 4)), (0, .ref 65), (1, .int a1), (2, .int a2), (3, .ref 96)], [.int r391], (q_kN r388 c n)) _ _
        exact q_RP_ret rfl rfl rfl
      | false =>
        refine q_RP_cF ?_
        refine q_RP_rsF (g2 := (53, [(6, .ref 77), (5, .int ((24 * (a2 + 4)) + ((a1 / 2) + 4))), (4, .int ((a1 / 2) + 4)), (0, .ref 65), (1, .int a1), (2, .int a2), (3, .ref 96)], [], (q_kN s c n))) rfl rfl h488 ?_
        refine q_RP_seg (g2 := (54, [(6, .ref 77), (5, .int ((24 * (a2 + 4)) + ((a1 / 2) + 4))), (4, .int ((a1 / 2) + 4)), (0, .ref 65), (1, .int a1), (2, .int a2), (3, .ref 96)], [.int 0], (q_kN s c n))) 1 (fun _ _ => rfl) ?_
        exact q_RP_ret rfl rfl rfl
def dz_N322_16 (m : Nat) : q_S → Int32 → Int32 → Int32 → Int32 → Option (Int32) := Nat.rec (motive := fun _ => q_S → Int32 → Int32 → Int32 → Int32 → Option (Int32)) (fun _ _ _ _ _ => none) (fun _ k16 s v0 v1 v2 v3 =>
  cond (decide (v3 < 10)) (cond (decide (v2 < v0)) (some (v3 + v1)) (k16 s v0 v1 (10 * v2) (v3 + 1))) (some ((10 : Int32) + v1))) m
theorem dzs_N322_16 (m : Nat) (s : q_S) (v0 : Int32) (v1 : Int32) (v2 : Int32) (v3 : Int32) : dz_N322_16 (m + 1) s v0 v1 v2 v3 = (fun k16 : q_S → Int32 → Int32 → Int32 → Int32 → Option (Int32) =>
  cond (decide (v3 < 10)) (cond (decide (v2 < v0)) (some (v3 + v1)) (k16 s v0 v1 (10 * v2) (v3 + 1))) (some ((10 : Int32) + v1))) (dz_N322_16 m) := rfl
set_option maxHeartbeats 4000000 in
theorem dzt_N322_16 (c n : Nat) (s : q_S) : ∀ (m : Nat) (v0 : Int32) (v1 : Int32) (v2 : Int32) (v3 : Int32), q_RP q_TB0 0 321 (16, [(0, .int v0), (1, .int v1), (2, .int v2), (3, .int v3)], [], (q_kN s c n)) (q_oP (q_kN s c n)) (dz_N322_16 m s v0 v1 v2 v3) := by
  intro m
  induction m with
  | zero => intro v0 v1 v2 v3; exact q_RP_no
  | succ m ih =>
    intro v0 v1 v2 v3
    have hk16 := ih
    clear ih
    rw [dzs_N322_16]
    generalize dz_N322_16 m = k16 at hk16 ⊢
    dsimp only
    refine q_RP_seg (g2 := (19, [(0, .int v0), (1, .int v1), (2, .int v2), (3, .int v3)], [.int 10, .int v3], (q_kN s c n))) 2 (fun _ _ => rfl) ?_
    cases h620 : decide (v3 < 10) with
    | true =>
      refine q_RP_cT ?_
      refine q_RP_rsF (g2 := (22, [(0, .int v0), (1, .int v1), (2, .int v2), (3, .int v3)], [], (q_kN s c n))) rfl rfl (q_d_geT h620) ?_
      refine q_RP_seg (g2 := (24, [(0, .int v0), (1, .int v1), (2, .int v2), (3, .int v3)], [.int v2, .int v0], (q_kN s c n))) 2 (fun _ _ => rfl) ?_
      cases h621 : decide (v2 < v0) with
      | true =>
        refine q_RP_cT ?_
        refine q_RP_rsF (g2 := (27, [(0, .int v0), (1, .int v1), (2, .int v2), (3, .int v3)], [], (q_kN s c n))) rfl rfl (q_d_geT h621) ?_
        refine q_RP_seg (g2 := (30, [(0, .int v0), (1, .int v1), (2, .int v2), (3, .int v3)], [.int (v3 + v1)], (q_kN s c n))) 3 (fun _ _ => rfl) ?_
        exact q_RP_ret rfl rfl rfl
      | false =>
        refine q_RP_cF ?_
        refine q_RP_rsT (g2 := (31, [(0, .int v0), (1, .int v1), (2, .int v2), (3, .int v3)], [], (q_kN s c n))) rfl rfl (q_d_geF h621) ?_
        refine q_RP_seg (g2 := (16, [(3, .int (v3 + 1)), (2, .int (10 * v2)), (0, .int v0), (1, .int v1)], [], (q_kN s c n))) 6 (fun _ _ => rfl) ?_
        exact q_RP_xt (q_xt_mk (q_mn1 2 rfl (q_mn1 3 rfl (q_mn1 1 rfl (q_mn1 0 rfl q_mn0)))) rfl) (hk16 v0 v1 (10 * v2) (v3 + 1))
    | false =>
      refine q_RP_cF ?_
      refine q_RP_rsT (g2 := (42, [(0, .int v0), (1, .int v1), (2, .int v2), (3, .int v3)], [], (q_kN s c n))) rfl rfl (q_d_geF h620) ?_
      refine q_RP_seg (g2 := (46, [(0, .int v0), (1, .int v1), (2, .int v2), (3, .int v3)], [.int ((10 : Int32) + v1)], (q_kN s c n))) 3 (fun _ _ => rfl) ?_
      exact q_RP_ret rfl rfl rfl
def dz_N322 (s : q_S) (a0 : Int32) : Option (Int32) :=
  cond (decide (a0 < 0)) (dz_N322_16 5000 s a0 1 (-10) 1) (dz_N322_16 5000 s (-a0) 0 (-10) 1)
set_option maxHeartbeats 4000000 in
theorem dzt_N322 (s : q_S) (c n : Nat) (a0 : Int32) (x : Int32) (h : dz_N322 s a0 = some x) : q_Ca q_TB0 1 321 [.int a0] (q_kN s c n) ((q_oP (q_kN s c n)) x) := by
  refine q_CaP_of (φ := (q_oP (q_kN s c n))) (Nat.le_of_ble_eq_true rfl) ?_ h
  clear h
  unfold dz_N322
  refine q_RP_seg (g2 := (3, [(1, .int 1), (0, .int a0)], [.int a0], (q_kN s c n))) 3 (fun _ _ => rfl) ?_
  cases h619 : decide (a0 < 0) with
  | true =>
    refine q_RP_cT ?_
    refine q_RP_rsT (g2 := (11, [(1, .int 1), (0, .int a0)], [], (q_kN s c n))) rfl rfl h619 ?_
    refine q_RP_seg (g2 := (16, [(3, .int 1), (2, .int (-10)), (1, .int 1), (0, .int a0)], [], (q_kN s c n))) 4 (fun _ _ => rfl) ?_
    exact q_RP_xt (q_xt_mk (q_mn1 3 rfl (q_mn1 2 rfl (q_mn1 1 rfl (q_mn1 0 rfl q_mn0)))) rfl) (dzt_N322_16 c n s 5000 a0 1 (-10) 1)
  | false =>
    refine q_RP_cF ?_
    refine q_RP_rsF (g2 := (6, [(1, .int 1), (0, .int a0)], [], (q_kN s c n))) rfl rfl h619 ?_
    refine q_RP_seg (g2 := (16, [(3, .int 1), (2, .int (-10)), (0, .int (-a0)), (1, .int 0)], [], (q_kN s c n))) 9 (fun _ _ => rfl) ?_
    exact q_RP_xt (q_xt_mk (q_mn1 2 rfl (q_mn1 3 rfl (q_mn1 1 rfl (q_mn1 0 rfl q_mn0)))) rfl) (dzt_N322_16 c n s 5000 (-a0) 0 (-10) 1)
def dz_N354 (s : q_S) (a0 : Int32) : Bool :=
  cond (decide (255 < a0)) (false) (true)
set_option maxHeartbeats 4000000 in
theorem dzt_N354 (s : q_S) (c n : Nat) (a0 : Int32) : q_Ca q_TB0 1 353 [.int a0] (q_kN s c n) ((q_oB (q_kN s c n)) (dz_N354 s a0)) := by
  refine q_CaT_of (φ := (q_oB (q_kN s c n))) (Nat.le_of_ble_eq_true rfl) ?_
  unfold dz_N354
  refine q_RT_seg (g2 := (4, [(0, .int a0)], [.int 255, .int a0], (q_kN s c n))) 2 (fun _ _ => rfl) ?_
  cases h637 : decide (255 < a0) with
  | true =>
    refine q_RT_cT ?_
    refine q_RT_rsT (g2 := (11, [(0, .int a0)], [], (q_kN s c n))) rfl rfl h637 ?_
    refine q_RT_seg (g2 := (12, [(0, .int a0)], [.int 0], (q_kN s c n))) 1 (fun _ _ => rfl) ?_
    exact q_RT_ret rfl rfl rfl
  | false =>
    refine q_RT_cF ?_
    refine q_RT_rsF (g2 := (7, [(0, .int a0)], [], (q_kN s c n))) rfl rfl h637 ?_
    refine q_RT_seg (g2 := (12, [(0, .int a0)], [.int 1], (q_kN s c n))) 2 (fun _ _ => rfl) ?_
    exact q_RT_ret rfl rfl rfl
def dz_N196 (s : q_S) (a0 : Int32) : Int32 :=
  q_let (dz_N186 s a0) fun r507 => cond (decide (r507 < 0)) (cond (decide (a0 = 159)) (8) (3)) ((a0 &&& 7))
set_option maxHeartbeats 4000000 in
theorem dzt_N196 (s : q_S) (c n : Nat) (a0 : Int32) : q_Ca q_TB0 2 195 [.int a0] (q_kN s c n) ((q_oP (q_kN s c n)) (dz_N196 s a0)) := by
  refine q_CaT_of (φ := (q_oP (q_kN s c n))) (Nat.le_of_ble_eq_true rfl) ?_
  unfold dz_N196
  refine q_RT_seg (g2 := (1, [(0, .int a0)], [.int a0], (q_kN s c n))) 1 (fun _ _ => rfl) ?_
  refine q_RT_call (v := (some (.int (dz_N186 s a0)))) (h2 := (q_kN s c n)) rfl rfl ((dzt_N186 s c n a0).le (Nat.le_of_ble_eq_true rfl)) ?_
  generalize dz_N186 s a0 = r507
  refine q_RT_let ?_
  show q_RT _ _ _ (4, [(0, .int a0)], [.int r507], (q_kN s c n)) _ _
  cases h683 : decide (r507 < 0) with
  | true =>
    refine q_RT_cT ?_
    refine q_RT_rsT (g2 := (12, [(0, .int a0)], [], (q_kN s c n))) rfl rfl h683 ?_
    refine q_RT_seg (g2 := (16, [(0, .int a0)], [.int 159, .int a0], (q_kN s c n))) 2 (fun _ _ => rfl) ?_
    cases h684 : decide (a0 = 159) with
    | true =>
      refine q_RT_cT ?_
      refine q_RT_rsF (g2 := (19, [(0, .int a0)], [], (q_kN s c n))) rfl rfl (q_d_neT h684) ?_
      refine q_RT_seg (g2 := (25, [(0, .int a0)], [.int 8], (q_kN s c n))) 2 (fun _ _ => rfl) ?_
      exact q_RT_ret rfl rfl rfl
    | false =>
      refine q_RT_cF ?_
      refine q_RT_rsT (g2 := (24, [(0, .int a0)], [], (q_kN s c n))) rfl rfl (q_d_neF h684) ?_
      refine q_RT_seg (g2 := (25, [(0, .int a0)], [.int 3], (q_kN s c n))) 1 (fun _ _ => rfl) ?_
      exact q_RT_ret rfl rfl rfl
  | false =>
    refine q_RT_cF ?_
    refine q_RT_rsF (g2 := (7, [(0, .int a0)], [], (q_kN s c n))) rfl rfl h683 ?_
    refine q_RT_seg (g2 := (11, [(0, .int a0)], [.int (a0 &&& 7)], (q_kN s c n))) 3 (fun _ _ => rfl) ?_
    exact q_RT_ret rfl rfl rfl
