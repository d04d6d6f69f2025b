section
-- 52.b
set_option maxHeartbeats 4000000 in
theorem dzj_N151_87  (s : q_S) (hI : q_iN s) (a1 : Int32) (a2 : Int32) : (q_iN) (dz_N151_87 s a1 a2) := by
  refine q_S_of (P := (q_iN)) ?_
  unfold dz_N151_87
  cases h2505 : decide (a1 < a2) with
  | true =>
    have g2506 := (q_rg_ltT1 (l := -2147483648) (U := 2147483646) h2505 (q_rg_full _) (q_rg_full _) (by decide))
    have g2507 := (q_rg_ltT2 (L := -2147483647) (u2 := 2147483647) h2505 (q_rg_full _) (q_rg_full _) (by decide))
    refine q_S_T ?_
    have j2508 := dzj_N149_87_f (s) hI (1)
    refine q_S_L ?_
    generalize dz_N149_87_f s 1 = r1 at j2508 ⊢
    have j2509 := dzj_N150_87 (r1) j2508 ((a1 - a2) &&& 255)
    refine q_S_L ?_
    generalize dz_N150_87 r1 ((a1 - a2) &&& 255) = r2 at j2509 ⊢
    exact q_E_x j2509
  | false =>
    refine q_S_F ?_
    have j2510 := dzj_N149_87_t (s) hI (1)
    refine q_S_L ?_
    generalize dz_N149_87_t s 1 = r3 at j2510 ⊢
    have j2511 := dzj_N150_87 (r3) j2510 ((a1 - a2) &&& 255)
    refine q_S_L ?_
    generalize dz_N150_87 r3 ((a1 - a2) &&& 255) = r4 at j2511 ⊢
    exact q_E_x j2511
set_option maxHeartbeats 4000000 in
theorem dzj_N152_87  (s : q_S) (hI : q_iN s) (a1 : Int32) (a2 : Int32) : (q_iN) (dz_N152_87 s a1 a2) := by
  refine q_S_of (P := (q_iN)) ?_
  unfold dz_N152_87
  cases h2624 : decide (a1 < 0) with
  | true =>
    have g2625 := (q_rg_ltT1 (l := -2147483648) (U := -1) h2624 (q_rg_full _) (q_rg_lit (n := 0) (x := 0) rfl) (by decide))
    refine q_S_T ?_
    exact q_E_x hI
  | false =>
    have g2626 := (q_rg_ltF1 (l2 := 0) (u := 2147483647) h2624 (q_rg_full _) (q_rg_lit (n := 0) (x := 0) rfl))
    refine q_S_F ?_
    cases h2627 : decide (20 < a1) with
    | true =>
      have g2628 := (q_rg_ltT2 (L := 21) (u2 := 2147483647) h2627 (q_rg_lit (n := 20) (x := 20) rfl) g2626 (by decide))
      refine q_S_T ?_
      exact q_E_x hI
    | false =>
      have g2629 := (q_rg_ltF2 (l2 := 0) (u := 20) h2627 (q_rg_lit (n := 20) (x := 20) rfl) g2626)
      refine q_S_F ?_
      cases h2630 : decide (a1 = 0) with
      | true =>
        have g2631 := q_rg_eqT h2630 (q_rg_lit (n := 0) (x := 0) rfl)
        refine q_S_T ?_
        have j2632 := dzj_N150_87 (s) hI (a2)
        refine q_S_L ?_
        generalize dz_N150_87 s a2 = r1 at j2632 ⊢
        exact q_E_x (q_iN_I (i := 23) (m := 0) j2632 (by decide))
      | false =>
        have g2633 := (q_rg_neL (l := 0) (u := 20) (n := 0) (L := 1) h2630 g2629 rfl (by decide) (by decide))
        refine q_S_F ?_
        cases h2634 : decide (a1 = 1) with
        | true =>
          have g2635 := q_rg_eqT h2634 (q_rg_lit (n := 1) (x := 1) rfl)
          refine q_S_T ?_
          have j2636 := dzj_N150_87 (s) hI (a2)
          refine q_S_L ?_
          generalize dz_N150_87 s a2 = r2 at j2636 ⊢
          exact q_E_x (q_iN_I (i := 23) (m := 1) j2636 (by decide))
        | false =>
          have g2637 := (q_rg_neL (l := 1) (u := 20) (n := 1) (L := 2) h2634 g2633 rfl (by decide) (by decide))
          refine q_S_F ?_
          cases h2638 : decide (a1 = 2) with
          | true =>
            have g2639 := q_rg_eqT h2638 (q_rg_lit (n := 2) (x := 2) rfl)
            refine q_S_T ?_
            have j2640 := dzj_N150_87 (s) hI (a2)
            refine q_S_L ?_
            generalize dz_N150_87 s a2 = r3 at j2640 ⊢
            exact q_E_x (q_iN_I (i := 23) (m := 2) j2640 (by decide))
          | false =>
            have g2641 := (q_rg_neL (l := 2) (u := 20) (n := 2) (L := 3) h2638 g2637 rfl (by decide) (by decide))
            refine q_S_F ?_
            cases h2642 : decide (a1 = 3) with
            | true =>
              have g2643 := q_rg_eqT h2642 (q_rg_lit (n := 3) (x := 3) rfl)
              refine q_S_T ?_
              exact q_E_x hI
            | false =>
              have g2644 := (q_rg_neL (l := 3) (u := 20) (n := 3) (L := 4) h2642 g2641 rfl (by decide) (by decide))
              refine q_S_F ?_
              cases h2645 : decide (a1 = 4) with
              | true =>
                have g2646 := q_rg_eqT h2645 (q_rg_lit (n := 4) (x := 4) rfl)
                refine q_S_T ?_
                exact q_E_x hI
              | false =>
                have g2647 := (q_rg_neL (l := 4) (u := 20) (n := 4) (L := 5) h2645 g2644 rfl (by decide) (by decide))
                refine q_S_F ?_
                cases h2648 : decide (a1 = 5) with
                | true =>
                  have g2649 := q_rg_eqT h2648 (q_rg_lit (n := 5) (x := 5) rfl)
                  refine q_S_T ?_
                  exact q_E_x hI
                | false =>
                  have g2650 := (q_rg_neL (l := 5) (u := 20) (n := 5) (L := 6) h2648 g2647 rfl (by decide) (by decide))
                  refine q_S_F ?_
                  cases h2651 : decide (a1 = 6) with
                  | true =>
                    have g2652 := q_rg_eqT h2651 (q_rg_lit (n := 6) (x := 6) rfl)
                    refine q_S_T ?_
                    have j2653 := dzj_N154_87 (s) hI (a2)
                    refine q_S_L ?_
                    generalize dz_N154_87 s a2 = r4 at j2653 ⊢
                    exact q_E_x j2653
                  | false =>
                    have g2654 := (q_rg_neL (l := 6) (u := 20) (n := 6) (L := 7) h2651 g2650 rfl (by decide) (by decide))
                    refine q_S_F ?_
                    cases h2655 : decide (a1 = 7) with
                    | true =>
                      have g2656 := q_rg_eqT h2655 (q_rg_lit (n := 7) (x := 7) rfl)
                      refine q_S_T ?_
                      have j2657 := dzj_N155_87 (s) hI (a2)
                      refine q_S_L ?_
                      generalize dz_N155_87 s a2 = r5 at j2657 ⊢
                      exact q_E_x j2657
                    | false =>
                      have g2658 := (q_rg_neL (l := 7) (u := 20) (n := 7) (L := 8) h2655 g2654 rfl (by decide) (by decide))
                      refine q_S_F ?_
                      cases h2659 : decide (a1 = 8) with
                      | true =>
                        have g2660 := q_rg_eqT h2659 (q_rg_lit (n := 8) (x := 8) rfl)
                        refine q_S_T ?_
                        have j2661 := dzj_N150_87 (s) hI ((s.2.1 23 0) &&& a2)
                        refine q_S_L ?_
                        generalize dz_N150_87 s ((s.2.1 23 0) &&& a2) = r6 at j2661 ⊢
                        exact q_E_x (q_iN_I (i := 23) (m := 0) j2661 (by decide))
                      | false =>
                        have g2662 := (q_rg_neL (l := 8) (u := 20) (n := 8) (L := 9) h2659 g2658 rfl (by decide) (by decide))
                        refine q_S_F ?_
                        cases h2663 : decide (a1 = 9) with
                        | true =>
                          have g2664 := q_rg_eqT h2663 (q_rg_lit (n := 9) (x := 9) rfl)
                          refine q_S_T ?_
                          have j2665 := dzj_N150_87 (s) hI ((s.2.1 23 0) ||| a2)
                          refine q_S_L ?_
                          generalize dz_N150_87 s ((s.2.1 23 0) ||| a2) = r7 at j2665 ⊢
                          exact q_E_x (q_iN_I (i := 23) (m := 0) j2665 (by decide))
                        | false =>
                          have g2666 := (q_rg_neL (l := 9) (u := 20) (n := 9) (L := 10) h2663 g2662 rfl (by decide) (by decide))
                          refine q_S_F ?_
                          cases h2667 : decide (a1 = 10) with
                          | true =>
                            have g2668 := q_rg_eqT h2667 (q_rg_lit (n := 10) (x := 10) rfl)
                            refine q_S_T ?_
                            have j2669 := dzj_N150_87 (s) hI ((s.2.1 23 0) ^^^ a2)
                            refine q_S_L ?_
                            generalize dz_N150_87 s ((s.2.1 23 0) ^^^ a2) = r8 at j2669 ⊢
                            exact q_E_x (q_iN_I (i := 23) (m := 0) j2669 (by decide))
                          | false =>
                            have g2670 := (q_rg_neL (l := 10) (u := 20) (n := 10) (L := 11) h2667 g2666 rfl (by decide) (by decide))
                            refine q_S_F ?_
                            cases h2671 : decide (a1 = 11) with
                            | true =>
                              have g2672 := q_rg_eqT h2671 (q_rg_lit (n := 11) (x := 11) rfl)
                              refine q_S_T ?_
                              have j2673 := dzj_N151_87 (s) hI (s.2.1 23 0) (a2)
                              refine q_S_L ?_
                              generalize dz_N151_87 s (s.2.1 23 0) a2 = r9 at j2673 ⊢
                              exact q_E_x j2673
                            | false =>
                              have g2674 := (q_rg_neL (l := 11) (u := 20) (n := 11) (L := 12) h2671 g2670 rfl (by decide) (by decide))
                              refine q_S_F ?_
                              cases h2675 : decide (a1 = 12) with
                              | true =>
                                have g2676 := q_rg_eqT h2675 (q_rg_lit (n := 12) (x := 12) rfl)
                                refine q_S_T ?_
                                have j2677 := dzj_N151_87 (s) hI (s.2.1 23 1) (a2)
                                refine q_S_L ?_
                                generalize dz_N151_87 s (s.2.1 23 1) a2 = r10 at j2677 ⊢
                                exact q_E_x j2677
                              | false =>
                                have g2678 := (q_rg_neL (l := 12) (u := 20) (n := 12) (L := 13) h2675 g2674 rfl (by decide) (by decide))
                                refine q_S_F ?_
                                cases h2679 : decide (a1 = 13) with
                                | true =>
                                  have g2680 := q_rg_eqT h2679 (q_rg_lit (n := 13) (x := 13) rfl)
                                  refine q_S_T ?_
                                  have j2681 := dzj_N151_87 (s) hI (s.2.1 23 2) (a2)
                                  refine q_S_L ?_
                                  generalize dz_N151_87 s (s.2.1 23 2) a2 = r11 at j2681 ⊢
                                  exact q_E_x j2681
                                | false =>
                                  have g2682 := (q_rg_neL (l := 13) (u := 20) (n := 13) (L := 14) h2679 g2678 rfl (by decide) (by decide))
                                  refine q_S_F ?_
                                  cases h2683 : decide (a1 = 14) with
                                  | true =>
                                    have g2684 := q_rg_eqT h2683 (q_rg_lit (n := 14) (x := 14) rfl)
                                    refine q_S_T ?_
                                    exact q_E_x hI
                                  | false =>
                                    have g2685 := (q_rg_neL (l := 14) (u := 20) (n := 14) (L := 15) h2683 g2682 rfl (by decide) (by decide))
                                    refine q_S_F ?_
                                    cases h2686 : decide (a1 = 15) with
                                    | true =>
                                      have g2687 := q_rg_eqT h2686 (q_rg_lit (n := 15) (x := 15) rfl)
                                      refine q_S_T ?_
                                      exact q_E_x hI
                                    | false =>
                                      have g2688 := (q_rg_neL (l := 15) (u := 20) (n := 15) (L := 16) h2686 g2685 rfl (by decide) (by decide))
                                      refine q_S_F ?_
                                      cases h2689 : decide (a1 = 16) with
                                      | true =>
                                        have g2690 := q_rg_eqT h2689 (q_rg_lit (n := 16) (x := 16) rfl)
                                        refine q_S_T ?_
                                        have j2691 := dzj_N150_87 (s) hI (a2)
                                        refine q_S_L ?_
                                        generalize dz_N150_87 s a2 = r12 at j2691 ⊢
                                        exact q_E_x (q_iN_I (i := 23) (m := 0) (q_iN_I (i := 23) (m := 1) j2691 (by decide)) (by decide))
                                      | false =>
                                        have g2692 := (q_rg_neL (l := 16) (u := 20) (n := 16) (L := 17) h2689 g2688 rfl (by decide) (by decide))
                                        refine q_S_F ?_
                                        cases h2693 : decide (a1 = 17) with
                                        | true =>
                                          have g2694 := q_rg_eqT h2693 (q_rg_lit (n := 17) (x := 17) rfl)
                                          refine q_S_T ?_
                                          exact q_E_x hI
                                        | false =>
                                          have g2695 := (q_rg_neL (l := 17) (u := 20) (n := 17) (L := 18) h2693 g2692 rfl (by decide) (by decide))
                                          refine q_S_F ?_
                                          cases h2696 : decide (a1 = 18) with
                                          | true =>
                                            have g2697 := q_rg_eqT h2696 (q_rg_lit (n := 18) (x := 18) rfl)
                                            refine q_S_T ?_
                                            exact q_E_x hI
                                          | false =>
                                            have g2698 := (q_rg_neL (l := 18) (u := 20) (n := 18) (L := 19) h2696 g2695 rfl (by decide) (by decide))
                                            refine q_S_F ?_
                                            cases h2699 : decide (a1 = 19) with
                                            | true =>
                                              have g2700 := q_rg_eqT h2699 (q_rg_lit (n := 19) (x := 19) rfl)
                                              refine q_S_T ?_
                                              exact q_E_x hI
                                            | false =>
                                              have g2701 := (q_rg_neL (l := 19) (u := 20) (n := 19) (L := 20) h2699 g2698 rfl (by decide) (by decide))
                                              refine q_S_F ?_
                                              cases h2702 : decide ((s.2.1 23 0) &&& a2 = 0) with
                                              | true =>
                                                have g2703 := q_rg_eqT h2702 (q_rg_lit (n := 0) (x := 0) rfl)
                                                refine q_S_T ?_
                                                have j2704 := dzj_N149_87_t (s) hI (2)
                                                refine q_S_L ?_
                                                generalize dz_N149_87_t s 2 = r13 at j2704 ⊢
                                                cases h2705 : decide (a2 &&& 128 = 0) with
                                                | true =>
                                                  have g2706 := q_rg_eqT h2705 (q_rg_lit (n := 0) (x := 0) rfl)
                                                  refine q_S_T ?_
                                                  have j2707 := dzj_N149_87_f (r13) j2704 (128)
                                                  refine q_S_L ?_
                                                  generalize dz_N149_87_f r13 128 = r14 at j2707 ⊢
                                                  cases h2708 : decide (a2 &&& 64 = 0) with
                                                  | true =>
                                                    have g2709 := q_rg_eqT h2708 (q_rg_lit (n := 0) (x := 0) rfl)
                                                    refine q_S_T ?_
                                                    have j2710 := dzj_N149_87_f (r14) j2707 (64)
                                                    refine q_S_L ?_
                                                    generalize dz_N149_87_f r14 64 = r15 at j2710 ⊢
                                                    exact q_E_x j2710
                                                  | false =>
                                                    have g2711 := (q_rg_neL (l := 0) (u := 64) (n := 0) (L := 1) h2708 (q_rg_and a2 64 (U := 64) (by decide) rfl) rfl (by decide) (by decide))
                                                    refine q_S_F ?_
                                                    have j2712 := dzj_N149_87_t (r14) j2707 (64)
                                                    refine q_S_L ?_
                                                    generalize dz_N149_87_t r14 64 = r16 at j2712 ⊢
                                                    exact q_E_x j2712
                                                | false =>
                                                  have g2713 := (q_rg_neL (l := 0) (u := 128) (n := 0) (L := 1) h2705 (q_rg_and a2 128 (U := 128) (by decide) rfl) rfl (by decide) (by decide))
                                                  refine q_S_F ?_
                                                  have j2714 := dzj_N149_87_t (r13) j2704 (128)
                                                  refine q_S_L ?_
                                                  generalize dz_N149_87_t r13 128 = r17 at j2714 ⊢
                                                  cases h2715 : decide (a2 &&& 64 = 0) with
                                                  | true =>
                                                    have g2716 := q_rg_eqT h2715 (q_rg_lit (n := 0) (x := 0) rfl)
                                                    refine q_S_T ?_
                                                    have j2717 := dzj_N149_87_f (r17) j2714 (64)
                                                    refine q_S_L ?_
                                                    generalize dz_N149_87_f r17 64 = r18 at j2717 ⊢
                                                    exact q_E_x j2717
                                                  | false =>
                                                    have g2718 := (q_rg_neL (l := 0) (u := 64) (n := 0) (L := 1) h2715 (q_rg_and a2 64 (U := 64) (by decide) rfl) rfl (by decide) (by decide))
                                                    refine q_S_F ?_
                                                    have j2719 := dzj_N149_87_t (r17) j2714 (64)
                                                    refine q_S_L ?_
                                                    generalize dz_N149_87_t r17 64 = r19 at j2719 ⊢
                                                    exact q_E_x j2719
                                              | false =>
                                                refine q_S_F ?_
                                                have j2720 := dzj_N149_87_f (s) hI (2)
                                                refine q_S_L ?_
                                                generalize dz_N149_87_f s 2 = r20 at j2720 ⊢
                                                cases h2721 : decide (a2 &&& 128 = 0) with
                                                | true =>
                                                  have g2722 := q_rg_eqT h2721 (q_rg_lit (n := 0) (x := 0) rfl)
                                                  refine q_S_T ?_
                                                  have j2723 := dzj_N149_87_f (r20) j2720 (128)
                                                  refine q_S_L ?_
                                                  generalize dz_N149_87_f r20 128 = r21 at j2723 ⊢
                                                  cases h2724 : decide (a2 &&& 64 = 0) with
                                                  | true =>
                                                    have g2725 := q_rg_eqT h2724 (q_rg_lit (n := 0) (x := 0) rfl)
                                                    refine q_S_T ?_
                                                    have j2726 := dzj_N149_87_f (r21) j2723 (64)
                                                    refine q_S_L ?_
                                                    generalize dz_N149_87_f r21 64 = r22 at j2726 ⊢
                                                    exact q_E_x j2726
                                                  | false =>
                                                    have g2727 := (q_rg_neL (l := 0) (u := 64) (n := 0) (L := 1) h2724 (q_rg_and a2 64 (U := 64) (by decide) rfl) rfl (by decide) (by decide))
                                                    refine q_S_F ?_
                                                    have j2728 := dzj_N149_87_t (r21) j2723 (64)
                                                    refine q_S_L ?_
                                                    generalize dz_N149_87_t r21 64 = r23 at j2728 ⊢
                                                    exact q_E_x j2728
                                                | false =>
                                                  have g2729 := (q_rg_neL (l := 0) (u := 128) (n := 0) (L := 1) h2721 (q_rg_and a2 128 (U := 128) (by decide) rfl) rfl (by decide) (by decide))
                                                  refine q_S_F ?_
                                                  have j2730 := dzj_N149_87_t (r20) j2720 (128)
                                                  refine q_S_L ?_
                                                  generalize dz_N149_87_t r20 128 = r24 at j2730 ⊢
                                                  cases h2731 : decide (a2 &&& 64 = 0) with
                                                  | true =>
                                                    have g2732 := q_rg_eqT h2731 (q_rg_lit (n := 0) (x := 0) rfl)
                                                    refine q_S_T ?_
                                                    have j2733 := dzj_N149_87_f (r24) j2730 (64)
                                                    refine q_S_L ?_
                                                    generalize dz_N149_87_f r24 64 = r25 at j2733 ⊢
                                                    exact q_E_x j2733
                                                  | false =>
                                                    have g2734 := (q_rg_neL (l := 0) (u := 64) (n := 0) (L := 1) h2731 (q_rg_and a2 64 (U := 64) (by decide) rfl) rfl (by decide) (by decide))
                                                    refine q_S_F ?_
                                                    have j2735 := dzj_N149_87_t (r24) j2730 (64)
                                                    refine q_S_L ?_
                                                    generalize dz_N149_87_t r24 64 = r26 at j2735 ⊢
                                                    exact q_E_x j2735
set_option maxHeartbeats 4000000 in
theorem dzj_N144_87_65  (s : q_S) (hI : q_iN s) (a2 : Int32) : q_Ex (dz_N144_87_65 s a2) (fun _ => True) := by
  unfold dz_N144_87_65
  obtain ⟨r2, e2740, j2739⟩ := dzj_N145_87_65 (s) hI (a2)
  rw [e2740]
  refine q_E_B ?_
  have j2741 := dzj_N143_87 (s) hI (a2)
  refine q_E_L ?_
  generalize dz_N143_87 s a2 = r3 at j2741 ⊢
  exact q_E_x trivial
set_option maxHeartbeats 4000000 in
theorem dzj_N93_65  (s : q_S) (hI : q_iN s) (a1 : Int32) : q_Ex (dz_N93_65 s a1) (fun (x : q_S × Int32) => q_iN x.1) := by
  unfold dz_N93_65
  obtain ⟨r2, e2749, j2748⟩ := dzj_N90_65 (s) hI (a1)
  rw [e2749]
  refine q_E_B ?_
  cases h2750 : decide (a1 = 3869) with
  | true =>
    have g2751 := q_rg_eqT h2750 (q_rg_lit (n := 3869) (x := 3869) rfl)
    refine q_E_T ?_
    exact q_E_x (q_iN_A hI)
  | false =>
    refine q_E_F ?_
    cases h2752 : decide (a1 = 3870) with
    | true =>
      have g2753 := q_rg_eqT h2752 (q_rg_lit (n := 3870) (x := 3870) rfl)
      refine q_E_T ?_
      exact q_E_x (q_iN_A hI)
    | false =>
      refine q_E_F ?_
      exact q_E_x hI
set_option maxHeartbeats 4000000 in
theorem dzj_N153_87_65_101  (s : q_S) (hI : q_iN s) (v2 : Int32) (v3 : Int32) (rv2 : q_rgz 14 19 v2) : q_Ex (dz_N153_87_65_101 s v2 v3) (q_iN) := by
  unfold dz_N153_87_65_101
  obtain ⟨r6, e2823, j2822⟩ := dzj_N93_65 (s) hI (v3)
  rw [e2823]
  refine q_E_B ?_
  obtain ⟨r7, e2825, j2824⟩ := dzj_N94_65 (r6.1) j2822 (v3) ((r6.2 + 1) &&& 255)
  rw [e2825]
  refine q_E_B ?_
  cases h2826 : decide (v2 = 18) with
  | true =>
    have g2827 := q_rg_eqT h2826 (q_rg_lit (n := 18) (x := 18) rfl)
    refine q_E_T ?_
    have j2828 := dzj_N151_87 (r7) j2824 (r7.2.1 23 0) ((r6.2 + 1) &&& 255)
    refine q_E_L ?_
    generalize dz_N151_87 r7 (r7.2.1 23 0) ((r6.2 + 1) &&& 255) = r8 at j2828 ⊢
    exact q_E_x j2828
  | false =>
    refine q_E_F ?_
    cases h2829 : decide (v2 = 19) with
    | true =>
      have g2830 := q_rg_eqT h2829 (q_rg_lit (n := 19) (x := 19) rfl)
      refine q_E_T ?_
      have j2831 := dzj_N155_87 (r7) j2824 ((r6.2 + 1) &&& 255)
      refine q_E_L ?_
      generalize dz_N155_87 r7 ((r6.2 + 1) &&& 255) = r9 at j2831 ⊢
      exact q_E_x j2831
    | false =>
      have g2832 := (q_rg_neU (l := 14) (u := 19) (n := 19) (U := 18) h2829 rv2 rfl (by decide) (by decide))
      refine q_E_F ?_
      have j2833 := dzj_N150_87 (r7) j2824 ((r6.2 + 1) &&& 255)
      refine q_E_L ?_
      generalize dz_N150_87 r7 ((r6.2 + 1) &&& 255) = r10 at j2833 ⊢
      exact q_E_x j2833
set_option maxHeartbeats 4000000 in
theorem dzj_N153_87_65  (s : q_S) (hI : q_iN s) (a2 : Int32) (a3 : Int32) : q_Ex (dz_N153_87_65 s a2 a3) (q_iN) := by
  unfold dz_N153_87_65
  cases h2834 : decide (a2 = 3) with
  | true =>
    have g2835 := q_rg_eqT h2834 (q_rg_lit (n := 3) (x := 3) rfl)
    refine q_E_T ?_
    obtain ⟨r2, e2837, j2836⟩ := dzj_N94_65 (s) hI (a3) (s.2.1 23 0)
    rw [e2837]
    refine q_E_B ?_
    exact q_E_x j2836
  | false =>
    refine q_E_F ?_
    cases h2838 : decide (a2 = 4) with
    | true =>
      have g2839 := q_rg_eqT h2838 (q_rg_lit (n := 4) (x := 4) rfl)
      refine q_E_T ?_
      obtain ⟨r3, e2841, j2840⟩ := dzj_N94_65 (s) hI (a3) (s.2.1 23 1)
      rw [e2841]
      refine q_E_B ?_
      exact q_E_x j2840
    | false =>
      refine q_E_F ?_
      cases h2842 : decide (a2 = 5) with
      | true =>
        have g2843 := q_rg_eqT h2842 (q_rg_lit (n := 5) (x := 5) rfl)
        refine q_E_T ?_
        obtain ⟨r4, e2845, j2844⟩ := dzj_N94_65 (s) hI (a3) (s.2.1 23 2)
        rw [e2845]
        refine q_E_B ?_
        exact q_E_x j2844
      | false =>
        refine q_E_F ?_
        cases h2846 : decide (a2 = 17) with
        | true =>
          have g2847 := q_rg_eqT h2846 (q_rg_lit (n := 17) (x := 17) rfl)
          refine q_E_T ?_
          obtain ⟨r5, e2849, j2848⟩ := dzj_N94_65 (s) hI (a3) ((s.2.1 23 0) &&& (s.2.1 23 1))
          rw [e2849]
          refine q_E_B ?_
          exact q_E_x j2848
        | false =>
          refine q_E_F ?_
          cases h2850 : decide (a2 = 14) with
          | true =>
            have g2851 := q_rg_eqT h2850 (q_rg_lit (n := 14) (x := 14) rfl)
            refine q_E_T ?_
            exact dzj_N153_87_65_101 (s) hI (a2) (a3) (q_rg_le (L := 14) (U := 19) g2851 (by decide) (by decide))
          | false =>
            refine q_E_F ?_
            cases h2852 : decide (a2 = 19) with
            | true =>
              have g2853 := q_rg_eqT h2852 (q_rg_lit (n := 19) (x := 19) rfl)
              refine q_E_T ?_
              exact dzj_N153_87_65_101 (s) hI (a2) (a3) (q_rg_le (L := 14) (U := 19) g2853 (by decide) (by decide))
            | false =>
              refine q_E_F ?_
              obtain ⟨r11, e2855, j2854⟩ := dzj_N93_65 (s) hI (a3)
              rw [e2855]
              refine q_E_B ?_
              obtain ⟨r12, e2857, j2856⟩ := dzj_N94_65 (r11.1) j2854 (a3) ((r11.2 + (-1)) &&& 255)
              rw [e2857]
              refine q_E_B ?_
              cases h2858 : decide (a2 = 18) with
              | true =>
                have g2859 := q_rg_eqT h2858 (q_rg_lit (n := 18) (x := 18) rfl)
                refine q_E_T ?_
                have j2860 := dzj_N151_87 (r12) j2856 (r12.2.1 23 0) ((r11.2 + (-1)) &&& 255)
                refine q_E_L ?_
                generalize dz_N151_87 r12 (r12.2.1 23 0) ((r11.2 + (-1)) &&& 255) = r13 at j2860 ⊢
                exact q_E_x j2860
              | false =>
                refine q_E_F ?_
                have j2861 := dzj_N150_87 (r12) j2856 ((r11.2 + (-1)) &&& 255)
                refine q_E_L ?_
                generalize dz_N150_87 r12 ((r11.2 + (-1)) &&& 255) = r14 at j2861 ⊢
                exact q_E_x j2861
set_option maxHeartbeats 4000000 in
theorem dzj_N142_87_65_142  (s : q_S) (hI : q_iN s) (v2 : Int32) (v3 : Int32) (v4 : Int32) (v5 : Int32) (rv4 : q_rgz 0 7 v4) : q_Ex (dz_N142_87_65_142 s v2 v3 v4 v5) (q_iN) := by
  unfold dz_N142_87_65_142
  cases h2927 : decide (v3 < 0) with
  | true =>
    have g2928 := (q_rg_ltT1 (l := -2147483648) (U := -1) h2927 (q_rg_full _) (q_rg_lit (n := 0) (x := 0) rfl) (by decide))
    refine q_E_T ?_
    obtain ⟨r8, e2930, j2929⟩ := dzj_N158_87_65 (s) hI (v2) (v5)
    rw [e2930]
    refine q_E_B ?_
    exact q_E_x (q_iN_I (i := 23) (m := 4) j2929 (by decide))
  | false =>
    have g2931 := (q_rg_ltF1 (l2 := 0) (u := 2147483647) h2927 (q_rg_full _) (q_rg_lit (n := 0) (x := 0) rfl))
    refine q_E_F ?_
    cases h2932 : decide (v4 = 0) with
    | true =>
      have g2933 := q_rg_eqT h2932 (q_rg_lit (n := 0) (x := 0) rfl)
      refine q_E_T ?_
      have j2934 := dzj_N140_87 (s) hI (1)
      refine q_E_L ?_
      generalize dz_N140_87 s 1 = r9 at j2934 ⊢
      obtain ⟨r10, e2936, j2935⟩ := dzj_N90_65 (s) hI (r9)
      rw [e2936]
      refine q_E_B ?_
      have j2937 := dzj_N152_87 (s) hI (v3) (r10)
      refine q_E_L ?_
      generalize dz_N152_87 s v3 r10 = r11 at j2937 ⊢
      exact q_E_x (q_iN_I (i := 23) (m := 4) j2937 (by decide))
    | false =>
      have g2938 := (q_rg_neL (l := 0) (u := 7) (n := 0) (L := 1) h2932 rv4 rfl (by decide) (by decide))
      refine q_E_F ?_
      have j2939 := dzj_N188 (s) hI (v3)
      refine q_E_L ?_
      generalize dz_N188 s v3 = r12 at j2939 ⊢
      cases h2940 : r12 with
      | true =>
        refine q_E_T ?_
        obtain ⟨r13, e2942, j2941⟩ := dzj_N144_87_65 (s) hI (v4)
        rw [e2942]
        refine q_E_B ?_
        obtain ⟨r14, e2944, j2943⟩ := dzj_N153_87_65 (s) hI (v3) (r13)
        rw [e2944]
        refine q_E_B ?_
        exact q_E_x (q_iN_I (i := 23) (m := 4) j2943 (by decide))
      | false =>
        refine q_E_F ?_
        obtain ⟨r15, e2946, j2945⟩ := dzj_N144_87_65 (s) hI (v4)
        rw [e2946]
        refine q_E_B ?_
        obtain ⟨r16, e2948, j2947⟩ := dzj_N93_65 (s) hI (r15)
        rw [e2948]
        refine q_E_B ?_
        have j2949 := dzj_N152_87 (r16.1) j2947 (v3) (r16.2)
        refine q_E_L ?_
        generalize dz_N152_87 r16.1 v3 r16.2 = r17 at j2949 ⊢
        exact q_E_x (q_iN_I (i := 23) (m := 4) j2949 (by decide))
set_option maxHeartbeats 4000000 in
theorem dzj_N142_87_65  (s : q_S) (hI : q_iN s) : q_Ex (dz_N142_87_65 s) (q_iN) := by
  unfold dz_N142_87_65
  cases h2950 : decide (s.2.1 23 8 = 0) with
  | true =>
    have g2951 := q_rg_eqT h2950 (q_rg_lit (n := 0) (x := 0) rfl)
    refine q_E_T ?_
    obtain ⟨r2, e2953, j2952⟩ := dzj_N90_65 (q_sI (q_sA (q_sI s 23 10 ((s.2.1 23 10) + 1)) 24 (upd (s.1 24) (((s.2.1 23 11) &&& 15).toNatClampNeg) (s.2.1 23 4))) 23 11 ((s.2.1 23 11) + 1)) (q_iN_I (i := 23) (m := 11) (q_iN_A (q_iN_I (i := 23) (m := 10) hI (by decide))) (by decide)) (s.2.1 23 4)
    rw [e2953]
    refine q_E_B ?_
    have j2954 := dzj_N186 (q_sI (q_sA (q_sI s 23 10 ((s.2.1 23 10) + 1)) 24 (upd (s.1 24) (((s.2.1 23 11) &&& 15).toNatClampNeg) (s.2.1 23 4))) 23 11 ((s.2.1 23 11) + 1)) (q_iN_I (i := 23) (m := 11) (q_iN_A (q_iN_I (i := 23) (m := 10) hI (by decide))) (by decide)) (r2)
    refine q_E_L ?_
    generalize dz_N186 (q_sI (q_sA (q_sI s 23 10 ((s.2.1 23 10) + 1)) 24 (upd (s.1 24) (((s.2.1 23 11) &&& 15).toNatClampNeg) (s.2.1 23 4))) 23 11 ((s.2.1 23 11) + 1)) r2 = r3 at j2954 ⊢
    have j2955 := dzj_N190 (q_sI (q_sA (q_sI s 23 10 ((s.2.1 23 10) + 1)) 24 (upd (s.1 24) (((s.2.1 23 11) &&& 15).toNatClampNeg) (s.2.1 23 4))) 23 11 ((s.2.1 23 11) + 1)) (q_iN_I (i := 23) (m := 11) (q_iN_A (q_iN_I (i := 23) (m := 10) hI (by decide))) (by decide)) (r2)
    refine q_E_L ?_
    generalize dz_N190 (q_sI (q_sA (q_sI s 23 10 ((s.2.1 23 10) + 1)) 24 (upd (s.1 24) (((s.2.1 23 11) &&& 15).toNatClampNeg) (s.2.1 23 4))) 23 11 ((s.2.1 23 11) + 1)) r2 = r4 at j2955 ⊢
    have j2956 := dzj_N140_87 (q_sI (q_sA (q_sI s 23 10 ((s.2.1 23 10) + 1)) 24 (upd (s.1 24) (((s.2.1 23 11) &&& 15).toNatClampNeg) (s.2.1 23 4))) 23 11 ((s.2.1 23 11) + 1)) (q_iN_I (i := 23) (m := 11) (q_iN_A (q_iN_I (i := 23) (m := 10) hI (by decide))) (by decide)) (r4)
    refine q_E_L ?_
    generalize dz_N140_87 (q_sI (q_sA (q_sI s 23 10 ((s.2.1 23 10) + 1)) 24 (upd (s.1 24) (((s.2.1 23 11) &&& 15).toNatClampNeg) (s.2.1 23 4))) 23 11 ((s.2.1 23 11) + 1)) r4 = r5 at j2956 ⊢
    cases h2957 : decide (r2 = 154) with
    | true =>
      have g2958 := q_rg_eqT h2957 (q_rg_lit (n := 154) (x := 154) rfl)
      refine q_E_T ?_
      obtain ⟨r6, e2960, j2959⟩ := dzj_N148_87_65 (q_sI (q_sA (q_sI s 23 10 ((s.2.1 23 10) + 1)) 24 (upd (s.1 24) (((s.2.1 23 11) &&& 15).toNatClampNeg) (s.2.1 23 4))) 23 11 ((s.2.1 23 11) + 1)) (q_iN_I (i := 23) (m := 11) (q_iN_A (q_iN_I (i := 23) (m := 10) hI (by decide))) (by decide)) (r5) (((s.2.1 23 5) ||| 32) ||| 16) (3838)
      rw [e2960]
      refine q_E_B ?_
      exact q_E_x j2959
    | false =>
      refine q_E_F ?_
      cases h2961 : decide (r3 < 0) with
      | true =>
        have g2962 := (q_rg_ltT1 (l := -2147483648) (U := -1) h2961 (q_rg_full _) (q_rg_lit (n := 0) (x := 0) rfl) (by decide))
        refine q_E_T ?_
        cases h2963 : decide (r2 < 154) with
        | true =>
          have g2964 := (q_rg_ltT1 (l := -2147483648) (U := 153) h2963 (q_rg_full _) (q_rg_lit (n := 154) (x := 154) rfl) (by decide))
          refine q_E_T ?_
          obtain ⟨r7, e2966, j2965⟩ := dzj_N157_87_65 (q_sI (q_sA (q_sI s 23 10 ((s.2.1 23 10) + 1)) 24 (upd (s.1 24) (((s.2.1 23 11) &&& 15).toNatClampNeg) (s.2.1 23 4))) 23 11 ((s.2.1 23 11) + 1)) (q_iN_I (i := 23) (m := 11) (q_iN_A (q_iN_I (i := 23) (m := 10) hI (by decide))) (by decide)) (r2)
          rw [e2966]
          refine q_E_B ?_
          exact q_E_x (q_iN_I (i := 23) (m := 4) j2965 (by decide))
        | false =>
          have g2967 := (q_rg_ltF1 (l2 := 154) (u := 2147483647) h2963 (q_rg_full _) (q_rg_lit (n := 154) (x := 154) rfl))
          refine q_E_F ?_
          exact dzj_N142_87_65_142 (q_sI (q_sA (q_sI s 23 10 ((s.2.1 23 10) + 1)) 24 (upd (s.1 24) (((s.2.1 23 11) &&& 15).toNatClampNeg) (s.2.1 23 4))) 23 11 ((s.2.1 23 11) + 1)) (q_iN_I (i := 23) (m := 11) (q_iN_A (q_iN_I (i := 23) (m := 10) hI (by decide))) (by decide)) (r2) (r3) (r2 &&& 7) (r5) (q_rg_le (L := 0) (U := 7) (q_rg_and r2 7 (U := 7) (by decide) rfl) (by decide) (by decide))
      | false =>
        have g2968 := (q_rg_ltF1 (l2 := 0) (u := 2147483647) h2961 (q_rg_full _) (q_rg_lit (n := 0) (x := 0) rfl))
        refine q_E_F ?_
        exact dzj_N142_87_65_142 (q_sI (q_sA (q_sI s 23 10 ((s.2.1 23 10) + 1)) 24 (upd (s.1 24) (((s.2.1 23 11) &&& 15).toNatClampNeg) (s.2.1 23 4))) 23 11 ((s.2.1 23 11) + 1)) (q_iN_I (i := 23) (m := 11) (q_iN_A (q_iN_I (i := 23) (m := 10) hI (by decide))) (by decide)) (r2) (r3) (r2 &&& 7) (r5) (q_rg_le (L := 0) (U := 7) (q_rg_and r2 7 (U := 7) (by decide) rfl) (by decide) (by decide))
  | false =>
    refine q_E_F ?_
    obtain ⟨r18, e2970, j2969⟩ := dzj_N148_87_65 (q_sI s 23 10 ((s.2.1 23 10) + 1)) (q_iN_I (i := 23) (m := 10) hI (by decide)) (s.2.1 23 4) ((s.2.1 23 5) ||| 32) (s.2.1 23 8)
    rw [e2970]
    refine q_E_B ?_
    exact q_E_x j2969
set_option maxHeartbeats 4000000 in
theorem dzj_N82_64_f_69  (k14 : q_S → Int32 → Int32 → Int32 → Int32 → Int32 → Option (q_S × Int32)) (M14 : Int) (tk14 : ∀ (s : q_S), q_iN s → ∀ (v1 : Int32) (v2 : Int32) (v3 : Int32) (v4 : Int32) (v5 : Int32), q_rgz 0 0 v2 → q_rgz 0 2147483647 v4 → ((2147483647 - v4.toInt).toNat : Int) ≤ M14 → q_Ex (k14 s v1 v2 v3 v4 v5) (fun (x : q_S × Int32) => q_iN x.1)) (s : q_S) (hI : q_iN s) (v1 : Int32) (v2 : Int32) (v3 : Int32) (v4 : Int32) (v5 : Int32) (rv2 : q_rgz 0 0 v2) (rv4 : q_rgz 0 2147483646 v4) (m14 : ((2147483647 - v4.toInt).toNat : Int) ≤ M14 + 1) : q_Ex (dz_N82_64_f_69 k14 s v1 v2 v3 v4 v5) (fun (x : q_S × Int32) => q_iN x.1) := by
  unfold dz_N82_64_f_69
  have j3012 := dzj_N141_87 (s) hI
  refine q_E_L ?_
  generalize dz_N141_87 s = r4 at j3012 ⊢
  cases h3013 : r4.2 with
  | true =>
    refine q_E_T ?_
    obtain ⟨r5, e3015, j3014⟩ := dzj_N142_87_65 (r4.1) j3012
    rw [e3015]
    refine q_E_B ?_
    have j3016 := dzj_N107_65 (r5) j3014
    refine q_E_L ?_
    generalize dz_N107_65 r5 = r6 at j3016 ⊢
    exact tk14 (r6) j3016 (v1) (v2) (v3) (v4 + 1) (v5) (q_rg_le (L := 0) (U := 0) rv2 (by decide) (by decide)) (q_rg_le (L := 0) (U := 2147483647) (q_rg_add (L := 1) (U := 2147483647) rv4 (q_rg_lit (n := 1) (x := 1) rfl) (by decide) (by decide) (by decide) (by decide)) (by decide) (by decide)) (q_meu rv4 m14 (by decide) (by decide))
  | false =>
    refine q_E_F ?_
    have j3017 := dzj_N107_65 (r4.1) j3012
    refine q_E_L ?_
    generalize dz_N107_65 r4.1 = r7 at j3017 ⊢
    exact tk14 (r7) j3017 (v1) (v2) (v3) (v4 + 1) (v5) (q_rg_le (L := 0) (U := 0) rv2 (by decide) (by decide)) (q_rg_le (L := 0) (U := 2147483647) (q_rg_add (L := 1) (U := 2147483647) rv4 (q_rg_lit (n := 1) (x := 1) rfl) (by decide) (by decide) (by decide) (by decide)) (by decide) (by decide)) (q_meu rv4 m14 (by decide) (by decide))
set_option maxHeartbeats 4000000 in
theorem dzj_N82_64_f_35  (k14 : q_S → Int32 → Int32 → Int32 → Int32 → Int32 → Option (q_S × Int32)) (M14 : Int) (tk14 : ∀ (s : q_S), q_iN s → ∀ (v1 : Int32) (v2 : Int32) (v3 : Int32) (v4 : Int32) (v5 : Int32), q_rgz 0 0 v2 → q_rgz 0 2147483647 v4 → ((2147483647 - v4.toInt).toNat : Int) ≤ M14 → q_Ex (k14 s v1 v2 v3 v4 v5) (fun (x : q_S × Int32) => q_iN x.1)) (s : q_S) (hI : q_iN s) (v1 : Int32) (v2 : Int32) (v3 : Int32) (v4 : Int32) (v5 : Int32) (rv2 : q_rgz 0 0 v2) (rv4 : q_rgz 0 2147483646 v4) (m14 : ((2147483647 - v4.toInt).toNat : Int) ≤ M14 + 1) : q_Ex (dz_N82_64_f_35 k14 s v1 v2 v3 v4 v5) (fun (x : q_S × Int32) => q_iN x.1) := by
  unfold dz_N82_64_f_35
  obtain ⟨r1, e3019, j3018⟩ := dzj_N83_64 (s) hI
  rw [e3019]
  refine q_E_B ?_
  cases h3020 : r1.2 with
  | true =>
    refine q_E_T ?_
    have j3021 := dzj_N107_65 (r1.1) j3018
    refine q_E_L ?_
    generalize dz_N107_65 r1.1 = r2 at j3021 ⊢
    exact tk14 (r2) j3021 (v1) (v2) (v3) (v4 + 1) (v5 + 1) (q_rg_le (L := 0) (U := 0) rv2 (by decide) (by decide)) (q_rg_le (L := 0) (U := 2147483647) (q_rg_add (L := 1) (U := 2147483647) rv4 (q_rg_lit (n := 1) (x := 1) rfl) (by decide) (by decide) (by decide) (by decide)) (by decide) (by decide)) (q_meu rv4 m14 (by decide) (by decide))
  | false =>
    refine q_E_F ?_
    cases h3022 : decide (r1.1.2.1 23 9 = 0) with
    | true =>
      have g3023 := q_rg_eqT h3022 (q_rg_lit (n := 0) (x := 0) rfl)
      refine q_E_T ?_
      obtain ⟨r3, e3025, j3024⟩ := dzj_N136_87_65 (r1.1) j3018
      rw [e3025]
      refine q_E_B ?_
      exact dzj_N82_64_f_69 k14 M14 tk14 (r3) j3024 (v1) (v2) (v3) (v4) (v5) (q_rg_le (L := 0) (U := 0) rv2 (by decide) (by decide)) (q_rg_le (L := 0) (U := 2147483646) rv4 (by decide) (by decide)) m14
    | false =>
      refine q_E_F ?_
      exact dzj_N82_64_f_69 k14 M14 tk14 (r1.1) j3018 (v1) (v2) (v3) (v4) (v5) (q_rg_le (L := 0) (U := 0) rv2 (by decide) (by decide)) (q_rg_le (L := 0) (U := 2147483646) rv4 (by decide) (by decide)) m14
set_option maxHeartbeats 4000000 in
theorem dzj_N82_64_f_103  (s : q_S) (hI : q_iN s) (v2 : Int32) (v4 : Int32) (v5 : Int32) (rv2 : q_rgz 0 0 v2) (rv4 : q_rgz 0 2147483647 v4) : q_Ex (dz_N82_64_f_103 s v2 v4 v5) (fun (x : q_S × Int32) => q_iN x.1) := by
  unfold dz_N82_64_f_103
  cases h3026 : decide (v2 = 0) with
  | true =>
    have g3027 := q_rg_eqT h3026 (q_rg_lit (n := 0) (x := 0) rfl)
    refine q_E_T ?_
    exact q_E_x (q_iN_J hI)
  | false =>
    exact (q_rg_no (q_rg_neL (l := 0) (u := 0) (n := 0) (L := 1) h3026 rv2 rfl (by decide) (by decide)) (by decide)).elim
set_option maxHeartbeats 4000000 in
theorem dzjb_N82_64_f_14  (k14 : q_S → Int32 → Int32 → Int32 → Int32 → Int32 → Option (q_S × Int32)) (M14 : Int) (tk14 : ∀ (s : q_S), q_iN s → ∀ (v1 : Int32) (v2 : Int32) (v3 : Int32) (v4 : Int32) (v5 : Int32), q_rgz 0 0 v2 → q_rgz 0 2147483647 v4 → ((2147483647 - v4.toInt).toNat : Int) ≤ M14 → q_Ex (k14 s v1 v2 v3 v4 v5) (fun (x : q_S × Int32) => q_iN x.1)) (s : q_S) (hI : q_iN s) (v1 : Int32) (v2 : Int32) (v3 : Int32) (v4 : Int32) (v5 : Int32) (rv2 : q_rgz 0 0 v2) (rv4 : q_rgz 0 2147483647 v4) (m14 : ((2147483647 - v4.toInt).toNat : Int) ≤ M14 + 1) : q_Ex (cond (decide (v4 < v1)) (cond (decide (v2 = 0)) (dz_N82_64_f_35 k14 s v1 v2 v3 v4 v5) (cond (decide (s.2.1 23 10 = v3)) (dz_N82_64_f_35 k14 s v1 v2 v3 v4 v5) (dz_N82_64_f_103 s v2 v4 v5))) (dz_N82_64_f_103 s v2 v4 v5)) (fun (x : q_S × Int32) => q_iN x.1) := by
  cases h3028 : decide (v4 < v1) with
  | true =>
    have g3029 := (q_rg_ltT1 (l := 0) (U := 2147483646) h3028 rv4 (q_rg_full _) (by decide))
    have g3030 := (q_rg_ltT2 (L := 1) (u2 := 2147483647) h3028 rv4 (q_rg_full _) (by decide))
    refine q_E_T ?_
    cases h3031 : decide (v2 = 0) with
    | true =>
      have g3032 := q_rg_eqT h3031 (q_rg_lit (n := 0) (x := 0) rfl)
      refine q_E_T ?_
      exact dzj_N82_64_f_35 k14 M14 tk14 (s) hI (v1) (v2) (v3) (v4) (v5) (q_rg_le (L := 0) (U := 0) g3032 (by decide) (by decide)) (q_rg_le (L := 0) (U := 2147483646) g3029 (by decide) (by decide)) m14
    | false =>
      exact (q_rg_no (q_rg_neL (l := 0) (u := 0) (n := 0) (L := 1) h3031 rv2 rfl (by decide) (by decide)) (by decide)).elim
  | false =>
    refine q_E_F ?_
    exact dzj_N82_64_f_103 (s) hI (v2) (v4) (v5) (q_rg_le (L := 0) (U := 0) rv2 (by decide) (by decide)) (q_rg_le (L := 0) (U := 2147483647) rv4 (by decide) (by decide))
theorem dzj_N82_64_f_14  : ∀ (m : Nat) (s : q_S) (hI : q_iN s) (v1 : Int32) (v2 : Int32) (v3 : Int32) (v4 : Int32) (v5 : Int32) (rv2 : q_rgz 0 0 v2) (rv4 : q_rgz 0 2147483647 v4), ((2147483647 - v4.toInt).toNat : Int) ≤ (m : Int) → q_Ex (dz_N82_64_f_14 (m + 1) s v1 v2 v3 v4 v5) (fun (x : q_S × Int32) => q_iN x.1) := by
  intro m
  induction m with
  | zero => intro s hI v1 v2 v3 v4 v5 rv2 rv4 hm; rw [dzs_N82_64_f_14]; exact dzjb_N82_64_f_14 (dz_N82_64_f_14 0) (-1) (fun s hI v1 v2 v3 v4 v5 rv2 rv4 hm => absurd hm (by omega)) s hI v1 v2 v3 v4 v5 rv2 rv4 (by omega)
  | succ m ih => intro s hI v1 v2 v3 v4 v5 rv2 rv4 hm; rw [dzs_N82_64_f_14]; exact dzjb_N82_64_f_14 (dz_N82_64_f_14 (m + 1)) (m : Int) (fun s hI v1 v2 v3 v4 v5 rv2 rv4 hm => ih s hI v1 v2 v3 v4 v5 rv2 rv4 hm) s hI v1 v2 v3 v4 v5 rv2 rv4 (by omega)
set_option maxHeartbeats 4000000 in
theorem dzj_N82_64_f  (s : q_S) (hI : q_iN s) (a1 : Int32) : q_Ex (dz_N82_64_f s a1) (fun (x : q_S × Int32) => q_iN x.1) := by
  unfold dz_N82_64_f
  exact dzj_N82_64_f_14 2147483649 (s) hI (a1) (0) (s.2.1 23 10) (0) (0) (q_rg_le (L := 0) (U := 0) (q_rg_lit (n := 0) (x := 0) rfl) (by decide) (by decide)) (q_rg_le (L := 0) (U := 2147483647) (q_rg_lit (n := 0) (x := 0) rfl) (by decide) (by decide)) (q_meu0 (q_rg_lit (n := 0) (x := 0) rfl) (by decide) (by decide))
set_option maxHeartbeats 4000000 in
theorem dzj_N82_64_t_69  (k14 : q_S → Int32 → Int32 → Int32 → Int32 → Int32 → Option (q_S × Int32)) (M14 : Int) (tk14 : ∀ (s : q_S), q_iN s → ∀ (v1 : Int32) (v2 : Int32) (v3 : Int32) (v4 : Int32) (v5 : Int32), q_rgz 1 1 v2 → q_rgz 0 2147483647 v4 → ((2147483647 - v4.toInt).toNat : Int) ≤ M14 → q_Ex (k14 s v1 v2 v3 v4 v5) (fun (x : q_S × Int32) => q_iN x.1)) (s : q_S) (hI : q_iN s) (v1 : Int32) (v2 : Int32) (v3 : Int32) (v4 : Int32) (v5 : Int32) (rv2 : q_rgz 1 1 v2) (rv4 : q_rgz 0 2147483646 v4) (m14 : ((2147483647 - v4.toInt).toNat : Int) ≤ M14 + 1) : q_Ex (dz_N82_64_t_69 k14 s v1 v2 v3 v4 v5) (fun (x : q_S × Int32) => q_iN x.1) := by
  unfold dz_N82_64_t_69
  have j3072 := dzj_N141_87 (s) hI
  refine q_E_L ?_
  generalize dz_N141_87 s = r4 at j3072 ⊢
  cases h3073 : r4.2 with
  | true =>
    refine q_E_T ?_
    obtain ⟨r5, e3075, j3074⟩ := dzj_N142_87_65 (r4.1) j3072
    rw [e3075]
    refine q_E_B ?_
    have j3076 := dzj_N107_65 (r5) j3074
    refine q_E_L ?_
    generalize dz_N107_65 r5 = r6 at j3076 ⊢
    exact tk14 (r6) j3076 (v1) (v2) (v3) (v4 + 1) (v5) (q_rg_le (L := 1) (U := 1) rv2 (by decide) (by decide)) (q_rg_le (L := 0) (U := 2147483647) (q_rg_add (L := 1) (U := 2147483647) rv4 (q_rg_lit (n := 1) (x := 1) rfl) (by decide) (by decide) (by decide) (by decide)) (by decide) (by decide)) (q_meu rv4 m14 (by decide) (by decide))
  | false =>
    refine q_E_F ?_
    have j3077 := dzj_N107_65 (r4.1) j3072
    refine q_E_L ?_
    generalize dz_N107_65 r4.1 = r7 at j3077 ⊢
    exact tk14 (r7) j3077 (v1) (v2) (v3) (v4 + 1) (v5) (q_rg_le (L := 1) (U := 1) rv2 (by decide) (by decide)) (q_rg_le (L := 0) (U := 2147483647) (q_rg_add (L := 1) (U := 2147483647) rv4 (q_rg_lit (n := 1) (x := 1) rfl) (by decide) (by decide) (by decide) (by decide)) (by decide) (by decide)) (q_meu rv4 m14 (by decide) (by decide))
set_option maxHeartbeats 4000000 in
theorem dzj_N82_64_t_35  (k14 : q_S → Int32 → Int32 → Int32 → Int32 → Int32 → Option (q_S × Int32)) (M14 : Int) (tk14 : ∀ (s : q_S), q_iN s → ∀ (v1 : Int32) (v2 : Int32) (v3 : Int32) (v4 : Int32) (v5 : Int32), q_rgz 1 1 v2 → q_rgz 0 2147483647 v4 → ((2147483647 - v4.toInt).toNat : Int) ≤ M14 → q_Ex (k14 s v1 v2 v3 v4 v5) (fun (x : q_S × Int32) => q_iN x.1)) (s : q_S) (hI : q_iN s) (v1 : Int32) (v2 : Int32) (v3 : Int32) (v4 : Int32) (v5 : Int32) (rv2 : q_rgz 1 1 v2) (rv4 : q_rgz 0 2147483646 v4) (m14 : ((2147483647 - v4.toInt).toNat : Int) ≤ M14 + 1) : q_Ex (dz_N82_64_t_35 k14 s v1 v2 v3 v4 v5) (fun (x : q_S × Int32) => q_iN x.1) := by
  unfold dz_N82_64_t_35
  obtain ⟨r1, e3079, j3078⟩ := dzj_N83_64 (s) hI
  rw [e3079]
  refine q_E_B ?_
  cases h3080 : r1.2 with
  | true =>
    refine q_E_T ?_
    have j3081 := dzj_N107_65 (r1.1) j3078
    refine q_E_L ?_
    generalize dz_N107_65 r1.1 = r2 at j3081 ⊢
    exact tk14 (r2) j3081 (v1) (v2) (v3) (v4 + 1) (v5 + 1) (q_rg_le (L := 1) (U := 1) rv2 (by decide) (by decide)) (q_rg_le (L := 0) (U := 2147483647) (q_rg_add (L := 1) (U := 2147483647) rv4 (q_rg_lit (n := 1) (x := 1) rfl) (by decide) (by decide) (by decide) (by decide)) (by decide) (by decide)) (q_meu rv4 m14 (by decide) (by decide))
  | false =>
    refine q_E_F ?_
    cases h3082 : decide (r1.1.2.1 23 9 = 0) with
    | true =>
      have g3083 := q_rg_eqT h3082 (q_rg_lit (n := 0) (x := 0) rfl)
      refine q_E_T ?_
      obtain ⟨r3, e3085, j3084⟩ := dzj_N136_87_65 (r1.1) j3078
      rw [e3085]
      refine q_E_B ?_
      exact dzj_N82_64_t_69 k14 M14 tk14 (r3) j3084 (v1) (v2) (v3) (v4) (v5) (q_rg_le (L := 1) (U := 1) rv2 (by decide) (by decide)) (q_rg_le (L := 0) (U := 2147483646) rv4 (by decide) (by decide)) m14
    | false =>
      refine q_E_F ?_
      exact dzj_N82_64_t_69 k14 M14 tk14 (r1.1) j3078 (v1) (v2) (v3) (v4) (v5) (q_rg_le (L := 1) (U := 1) rv2 (by decide) (by decide)) (q_rg_le (L := 0) (U := 2147483646) rv4 (by decide) (by decide)) m14
set_option maxHeartbeats 4000000 in
theorem dzj_N82_64_t_103  (s : q_S) (hI : q_iN s) (v2 : Int32) (v4 : Int32) (v5 : Int32) (rv2 : q_rgz 1 1 v2) (rv4 : q_rgz 0 2147483647 v4) : q_Ex (dz_N82_64_t_103 s v2 v4 v5) (fun (x : q_S × Int32) => q_iN x.1) := by
  unfold dz_N82_64_t_103
  cases h3086 : decide (v2 = 0) with
  | true =>
    exact (q_rg_no (q_rg_le (L := 1) (U := 0) ⟨rv2.1, (q_rg_eqT h3086 (q_rg_lit (n := 0) (x := 0) rfl)).2⟩ (by decide) (by decide)) (by decide)).elim
  | false =>
    refine q_E_F ?_
    exact q_E_x (q_iN_J hI)
set_option maxHeartbeats 4000000 in
theorem dzjb_N82_64_t_14  (k14 : q_S → Int32 → Int32 → Int32 → Int32 → Int32 → Option (q_S × Int32)) (M14 : Int) (tk14 : ∀ (s : q_S), q_iN s → ∀ (v1 : Int32) (v2 : Int32) (v3 : Int32) (v4 : Int32) (v5 : Int32), q_rgz 1 1 v2 → q_rgz 0 2147483647 v4 → ((2147483647 - v4.toInt).toNat : Int) ≤ M14 → q_Ex (k14 s v1 v2 v3 v4 v5) (fun (x : q_S × Int32) => q_iN x.1)) (s : q_S) (hI : q_iN s) (v1 : Int32) (v2 : Int32) (v3 : Int32) (v4 : Int32) (v5 : Int32) (rv2 : q_rgz 1 1 v2) (rv4 : q_rgz 0 2147483647 v4) (m14 : ((2147483647 - v4.toInt).toNat : Int) ≤ M14 + 1) : q_Ex (cond (decide (v4 < v1)) (cond (decide (v2 = 0)) (dz_N82_64_t_35 k14 s v1 v2 v3 v4 v5) (cond (decide (s.2.1 23 10 = v3)) (dz_N82_64_t_35 k14 s v1 v2 v3 v4 v5) (dz_N82_64_t_103 s v2 v4 v5))) (dz_N82_64_t_103 s v2 v4 v5)) (fun (x : q_S × Int32) => q_iN x.1) := by
  cases h3087 : decide (v4 < v1) with
  | true =>
    have g3088 := (q_rg_ltT1 (l := 0) (U := 2147483646) h3087 rv4 (q_rg_full _) (by decide))
    have g3089 := (q_rg_ltT2 (L := 1) (u2 := 2147483647) h3087 rv4 (q_rg_full _) (by decide))
    refine q_E_T ?_
    cases h3090 : decide (v2 = 0) with
    | true =>
      exact (q_rg_no (q_rg_le (L := 1) (U := 0) ⟨rv2.1, (q_rg_eqT h3090 (q_rg_lit (n := 0) (x := 0) rfl)).2⟩ (by decide) (by decide)) (by decide)).elim
    | false =>
      refine q_E_F ?_
      cases h3091 : decide (s.2.1 23 10 = v3) with
      | true =>
        refine q_E_T ?_
        exact dzj_N82_64_t_35 k14 M14 tk14 (s) hI (v1) (v2) (v3) (v4) (v5) (q_rg_le (L := 1) (U := 1) rv2 (by decide) (by decide)) (q_rg_le (L := 0) (U := 2147483646) g3088 (by decide) (by decide)) m14
      | false =>
        refine q_E_F ?_
        exact dzj_N82_64_t_103 (s) hI (v2) (v4) (v5) (q_rg_le (L := 1) (U := 1) rv2 (by decide) (by decide)) (q_rg_le (L := 0) (U := 2147483647) g3088 (by decide) (by decide))
  | false =>
    refine q_E_F ?_
    exact dzj_N82_64_t_103 (s) hI (v2) (v4) (v5) (q_rg_le (L := 1) (U := 1) rv2 (by decide) (by decide)) (q_rg_le (L := 0) (U := 2147483647) rv4 (by decide) (by decide))
theorem dzj_N82_64_t_14  : ∀ (m : Nat) (s : q_S) (hI : q_iN s) (v1 : Int32) (v2 : Int32) (v3 : Int32) (v4 : Int32) (v5 : Int32) (rv2 : q_rgz 1 1 v2) (rv4 : q_rgz 0 2147483647 v4), ((2147483647 - v4.toInt).toNat : Int) ≤ (m : Int) → q_Ex (dz_N82_64_t_14 (m + 1) s v1 v2 v3 v4 v5) (fun (x : q_S × Int32) => q_iN x.1) := by
  intro m
  induction m with
  | zero => intro s hI v1 v2 v3 v4 v5 rv2 rv4 hm; rw [dzs_N82_64_t_14]; exact dzjb_N82_64_t_14 (dz_N82_64_t_14 0) (-1) (fun s hI v1 v2 v3 v4 v5 rv2 rv4 hm => absurd hm (by omega)) s hI v1 v2 v3 v4 v5 rv2 rv4 (by omega)
  | succ m ih => intro s hI v1 v2 v3 v4 v5 rv2 rv4 hm; rw [dzs_N82_64_t_14]; exact dzjb_N82_64_t_14 (dz_N82_64_t_14 (m + 1)) (m : Int) (fun s hI v1 v2 v3 v4 v5 rv2 rv4 hm => ih s hI v1 v2 v3 v4 v5 rv2 rv4 hm) s hI v1 v2 v3 v4 v5 rv2 rv4 (by omega)
set_option maxHeartbeats 4000000 in
theorem dzj_N82_64_t  (s : q_S) (hI : q_iN s) (a1 : Int32) : q_Ex (dz_N82_64_t s a1) (fun (x : q_S × Int32) => q_iN x.1) := by
  unfold dz_N82_64_t
  exact dzj_N82_64_t_14 2147483649 (s) hI (a1) (1) (s.2.1 23 10) (0) (0) (q_rg_le (L := 1) (U := 1) (q_rg_lit (n := 1) (x := 1) rfl) (by decide) (by decide)) (q_rg_le (L := 0) (U := 2147483647) (q_rg_lit (n := 0) (x := 0) rfl) (by decide) (by decide)) (q_meu0 (q_rg_lit (n := 0) (x := 0) rfl) (by decide) (by decide))
set_option maxHeartbeats 4000000 in
theorem dzjb_N182_74_51  (k7 : q_S → Int32 → Int32 → Int32 → Option (Int32)) (M7 : Int) (tk7 : ∀ (s : q_S), q_iN s → ∀ (v2 : Int32) (v3 : Int32) (v4 : Int32), q_rgz 0 4 v4 → ((4 - v4.toInt).toNat : Int) ≤ M7 → q_Ex (k7 s v2 v3 v4) (fun _ => True)) (k51 : q_S → Int32 → Int32 → Int32 → Int32 → Option (Int32)) (M51 : Int) (tk51 : ∀ (s : q_S), q_iN s → ∀ (v2 : Int32) (v3 : Int32) (v4 : Int32) (v5 : Int32), q_rgz 0 3 v4 → q_rgz 0 4 v5 → ((4 - v4.toInt).toNat : Int) ≤ M7 + 1 → ((4 - v5.toInt).toNat : Int) ≤ M51 → q_Ex (k51 s v2 v3 v4 v5) (fun _ => True)) (s : q_S) (hI : q_iN s) (v2 : Int32) (v3 : Int32) (v4 : Int32) (v5 : Int32) (rv4 : q_rgz 0 3 v4) (rv5 : q_rgz 0 4 v5) (m7 : ((4 - v4.toInt).toNat : Int) ≤ M7 + 1) (m51 : ((4 - v5.toInt).toNat : Int) ≤ M51 + 1) : q_Ex (cond (decide (v5 < 4)) (cond (q_in v5 4) (cond (decide (((s.1 11) (v5.toNatClampNeg)) &&& v3 = 0)) (k51 s v2 v3 v4 (v5 + 1)) (k51 s (v2 ||| ((1 : Int32) <<< (v5 &&& 31))) v3 v4 (v5 + 1))) none) (k7 s v2 v3 (v4 + 1))) (fun _ => True) := by
  cases h3170 : decide (v5 < 4) with
  | true =>
    have g3171 := (q_rg_ltT1 (l := 0) (U := 3) h3170 rv5 (q_rg_lit (n := 4) (x := 4) rfl) (by decide))
    refine q_E_T ?_
    refine q_E_A (q_in_rg g3171 (by decide) (by decide)) ?_
    cases h3172 : decide (((s.1 11) (v5.toNatClampNeg)) &&& v3 = 0) with
    | true =>
      have g3173 := q_rg_eqT h3172 (q_rg_lit (n := 0) (x := 0) rfl)
      refine q_E_T ?_
      exact tk51 (s) hI (v2) (v3) (v4) (v5 + 1) (q_rg_le (L := 0) (U := 3) rv4 (by decide) (by decide)) (q_rg_le (L := 0) (U := 4) (q_rg_add (L := 1) (U := 4) g3171 (q_rg_lit (n := 1) (x := 1) rfl) (by decide) (by decide) (by decide) (by decide)) (by decide) (by decide)) m7 (q_meu g3171 m51 (by decide) (by decide))
    | false =>
      refine q_E_F ?_
      exact tk51 (s) hI (v2 ||| ((1 : Int32) <<< (v5 &&& 31))) (v3) (v4) (v5 + 1) (q_rg_le (L := 0) (U := 3) rv4 (by decide) (by decide)) (q_rg_le (L := 0) (U := 4) (q_rg_add (L := 1) (U := 4) g3171 (q_rg_lit (n := 1) (x := 1) rfl) (by decide) (by decide) (by decide) (by decide)) (by decide) (by decide)) m7 (q_meu g3171 m51 (by decide) (by decide))
  | false =>
    have g3174 := (q_rg_ltF1 (l2 := 4) (u := 4) h3170 rv5 (q_rg_lit (n := 4) (x := 4) rfl))
    refine q_E_F ?_
    exact tk7 (s) hI (v2) (v3) (v4 + 1) (q_rg_le (L := 0) (U := 4) (q_rg_add (L := 1) (U := 4) rv4 (q_rg_lit (n := 1) (x := 1) rfl) (by decide) (by decide) (by decide) (by decide)) (by decide) (by decide)) (q_meu rv4 m7 (by decide) (by decide))
theorem dzj_N182_74_51  (k7 : q_S → Int32 → Int32 → Int32 → Option (Int32)) (M7 : Int) (tk7 : ∀ (s : q_S), q_iN s → ∀ (v2 : Int32) (v3 : Int32) (v4 : Int32), q_rgz 0 4 v4 → ((4 - v4.toInt).toNat : Int) ≤ M7 → q_Ex (k7 s v2 v3 v4) (fun _ => True)) : ∀ (m : Nat) (s : q_S) (hI : q_iN s) (v2 : Int32) (v3 : Int32) (v4 : Int32) (v5 : Int32) (rv4 : q_rgz 0 3 v4) (rv5 : q_rgz 0 4 v5) (m7 : ((4 - v4.toInt).toNat : Int) ≤ M7 + 1), ((4 - v5.toInt).toNat : Int) ≤ (m : Int) → q_Ex (dz_N182_74_51 k7 (m + 1) s v2 v3 v4 v5) (fun _ => True) := by
  intro m
  induction m with
  | zero => intro s hI v2 v3 v4 v5 rv4 rv5 m7 hm; rw [dzs_N182_74_51]; exact dzjb_N182_74_51 k7 M7 tk7 (dz_N182_74_51 k7 0) (-1) (fun s hI v2 v3 v4 v5 rv4 rv5 m7 hm => absurd hm (by omega)) s hI v2 v3 v4 v5 rv4 rv5 m7 (by omega)
  | succ m ih => intro s hI v2 v3 v4 v5 rv4 rv5 m7 hm; rw [dzs_N182_74_51]; exact dzjb_N182_74_51 k7 M7 tk7 (dz_N182_74_51 k7 (m + 1)) (m : Int) (fun s hI v2 v3 v4 v5 rv4 rv5 m7 hm => ih s hI v2 v3 v4 v5 rv4 rv5 m7 hm) s hI v2 v3 v4 v5 rv4 rv5 m7 (by omega)
set_option maxHeartbeats 4000000 in
theorem dzjb_N182_74_16  (k7 : q_S → Int32 → Int32 → Int32 → Option (Int32)) (M7 : Int) (tk7 : ∀ (s : q_S), q_iN s → ∀ (v2 : Int32) (v3 : Int32) (v4 : Int32), q_rgz 0 4 v4 → ((4 - v4.toInt).toNat : Int) ≤ M7 → q_Ex (k7 s v2 v3 v4) (fun _ => True)) (k16 : q_S → Int32 → Int32 → Int32 → Int32 → Option (Int32)) (M16 : Int) (tk16 : ∀ (s : q_S), q_iN s → ∀ (v2 : Int32) (v3 : Int32) (v4 : Int32) (v5 : Int32), q_rgz 0 3 v4 → q_rgz 0 4 v5 → ((4 - v4.toInt).toNat : Int) ≤ M7 + 1 → ((4 - v5.toInt).toNat : Int) ≤ M16 → q_Ex (k16 s v2 v3 v4 v5) (fun _ => True)) (s : q_S) (hI : q_iN s) (v2 : Int32) (v3 : Int32) (v4 : Int32) (v5 : Int32) (rv4 : q_rgz 0 3 v4) (rv5 : q_rgz 0 4 v5) (m7 : ((4 - v4.toInt).toNat : Int) ≤ M7 + 1) (m16 : ((4 - v5.toInt).toNat : Int) ≤ M16 + 1) : q_Ex (cond (decide (v5 < 4)) (cond (decide ((v2 >>> (v5 &&& 31)) &&& 1 = 1)) (cond (q_in v5 4) (k16 s v2 (v3 ||| ((s.1 11) (v5.toNatClampNeg))) v4 (v5 + 1)) none) (k16 s v2 v3 v4 (v5 + 1))) (dz_N182_74_51 k7 5000 s v2 v3 v4 0)) (fun _ => True) := by
  cases h3175 : decide (v5 < 4) with
  | true =>
    have g3176 := (q_rg_ltT1 (l := 0) (U := 3) h3175 rv5 (q_rg_lit (n := 4) (x := 4) rfl) (by decide))
    refine q_E_T ?_
    cases h3177 : decide ((v2 >>> (v5 &&& 31)) &&& 1 = 1) with
    | true =>
      have g3178 := q_rg_eqT h3177 (q_rg_lit (n := 1) (x := 1) rfl)
      refine q_E_T ?_
      refine q_E_A (q_in_rg g3176 (by decide) (by decide)) ?_
      exact tk16 (s) hI (v2) (v3 ||| ((s.1 11) (v5.toNatClampNeg))) (v4) (v5 + 1) (q_rg_le (L := 0) (U := 3) rv4 (by decide) (by decide)) (q_rg_le (L := 0) (U := 4) (q_rg_add (L := 1) (U := 4) g3176 (q_rg_lit (n := 1) (x := 1) rfl) (by decide) (by decide) (by decide) (by decide)) (by decide) (by decide)) m7 (q_meu g3176 m16 (by decide) (by decide))
    | false =>
      have g3179 := (q_rg_neU (l := 0) (u := 1) (n := 1) (U := 0) h3177 (q_rg_and (v2 >>> (v5 &&& 31)) 1 (U := 1) (by decide) rfl) rfl (by decide) (by decide))
      refine q_E_F ?_
      exact tk16 (s) hI (v2) (v3) (v4) (v5 + 1) (q_rg_le (L := 0) (U := 3) rv4 (by decide) (by decide)) (q_rg_le (L := 0) (U := 4) (q_rg_add (L := 1) (U := 4) g3176 (q_rg_lit (n := 1) (x := 1) rfl) (by decide) (by decide) (by decide) (by decide)) (by decide) (by decide)) m7 (q_meu g3176 m16 (by decide) (by decide))
  | false =>
    have g3180 := (q_rg_ltF1 (l2 := 4) (u := 4) h3175 rv5 (q_rg_lit (n := 4) (x := 4) rfl))
    refine q_E_F ?_
    exact dzj_N182_74_51 k7 M7 tk7 4999 (s) hI (v2) (v3) (v4) (0) (q_rg_le (L := 0) (U := 3) rv4 (by decide) (by decide)) (q_rg_le (L := 0) (U := 4) (q_rg_lit (n := 0) (x := 0) rfl) (by decide) (by decide)) m7 (q_meu0 (q_rg_lit (n := 0) (x := 0) rfl) (by decide) (by decide))
theorem dzj_N182_74_16  (k7 : q_S → Int32 → Int32 → Int32 → Option (Int32)) (M7 : Int) (tk7 : ∀ (s : q_S), q_iN s → ∀ (v2 : Int32) (v3 : Int32) (v4 : Int32), q_rgz 0 4 v4 → ((4 - v4.toInt).toNat : Int) ≤ M7 → q_Ex (k7 s v2 v3 v4) (fun _ => True)) : ∀ (m : Nat) (s : q_S) (hI : q_iN s) (v2 : Int32) (v3 : Int32) (v4 : Int32) (v5 : Int32) (rv4 : q_rgz 0 3 v4) (rv5 : q_rgz 0 4 v5) (m7 : ((4 - v4.toInt).toNat : Int) ≤ M7 + 1), ((4 - v5.toInt).toNat : Int) ≤ (m : Int) → q_Ex (dz_N182_74_16 k7 (m + 1) s v2 v3 v4 v5) (fun _ => True) := by
  intro m
  induction m with
  | zero => intro s hI v2 v3 v4 v5 rv4 rv5 m7 hm; rw [dzs_N182_74_16]; exact dzjb_N182_74_16 k7 M7 tk7 (dz_N182_74_16 k7 0) (-1) (fun s hI v2 v3 v4 v5 rv4 rv5 m7 hm => absurd hm (by omega)) s hI v2 v3 v4 v5 rv4 rv5 m7 (by omega)
  | succ m ih => intro s hI v2 v3 v4 v5 rv4 rv5 m7 hm; rw [dzs_N182_74_16]; exact dzjb_N182_74_16 k7 M7 tk7 (dz_N182_74_16 k7 (m + 1)) (m : Int) (fun s hI v2 v3 v4 v5 rv4 rv5 m7 hm => ih s hI v2 v3 v4 v5 rv4 rv5 m7 hm) s hI v2 v3 v4 v5 rv4 rv5 m7 (by omega)
set_option maxHeartbeats 4000000 in
theorem dzjb_N182_74_7  (k7 : q_S → Int32 → Int32 → Int32 → Option (Int32)) (M7 : Int) (tk7 : ∀ (s : q_S), q_iN s → ∀ (v2 : Int32) (v3 : Int32) (v4 : Int32), q_rgz 0 4 v4 → ((4 - v4.toInt).toNat : Int) ≤ M7 → q_Ex (k7 s v2 v3 v4) (fun _ => True)) (s : q_S) (hI : q_iN s) (v2 : Int32) (v3 : Int32) (v4 : Int32) (rv4 : q_rgz 0 4 v4) (m7 : ((4 - v4.toInt).toNat : Int) ≤ M7 + 1) : q_Ex (cond (decide (v4 < 4)) (dz_N182_74_16 k7 5000 s v2 v3 v4 0) (some v3)) (fun _ => True) := by
  cases h3181 : decide (v4 < 4) with
  | true =>
    have g3182 := (q_rg_ltT1 (l := 0) (U := 3) h3181 rv4 (q_rg_lit (n := 4) (x := 4) rfl) (by decide))
    refine q_E_T ?_
    exact dzj_N182_74_16 k7 M7 tk7 4999 (s) hI (v2) (v3) (v4) (0) (q_rg_le (L := 0) (U := 3) g3182 (by decide) (by decide)) (q_rg_le (L := 0) (U := 4) (q_rg_lit (n := 0) (x := 0) rfl) (by decide) (by decide)) m7 (q_meu0 (q_rg_lit (n := 0) (x := 0) rfl) (by decide) (by decide))
  | false =>
    have g3183 := (q_rg_ltF1 (l2 := 4) (u := 4) h3181 rv4 (q_rg_lit (n := 4) (x := 4) rfl))
    refine q_E_F ?_
    exact q_E_x trivial
theorem dzj_N182_74_7  : ∀ (m : Nat) (s : q_S) (hI : q_iN s) (v2 : Int32) (v3 : Int32) (v4 : Int32) (rv4 : q_rgz 0 4 v4), ((4 - v4.toInt).toNat : Int) ≤ (m : Int) → q_Ex (dz_N182_74_7 (m + 1) s v2 v3 v4) (fun _ => True) := by
  intro m
  induction m with
  | zero => intro s hI v2 v3 v4 rv4 hm; rw [dzs_N182_74_7]; exact dzjb_N182_74_7 (dz_N182_74_7 0) (-1) (fun s hI v2 v3 v4 rv4 hm => absurd hm (by omega)) s hI v2 v3 v4 rv4 (by omega)
  | succ m ih => intro s hI v2 v3 v4 rv4 hm; rw [dzs_N182_74_7]; exact dzjb_N182_74_7 (dz_N182_74_7 (m + 1)) (m : Int) (fun s hI v2 v3 v4 rv4 hm => ih s hI v2 v3 v4 rv4 hm) s hI v2 v3 v4 rv4 (by omega)
set_option maxHeartbeats 4000000 in
theorem dzj_N182_74  (s : q_S) (hI : q_iN s) (a1 : Int32) : q_Ex (dz_N182_74 s a1) (fun _ => True) := by
  unfold dz_N182_74
  exact dzj_N182_74_7 4999 (s) hI (a1) (0) (0) (q_rg_le (L := 0) (U := 4) (q_rg_lit (n := 0) (x := 0) rfl) (by decide) (by decide)) (q_meu0 (q_rg_lit (n := 0) (x := 0) rfl) (by decide) (by decide))
set_option maxHeartbeats 4000000 in
theorem dzjb_N181_74_45  (k45 : q_S → Int32 → Int32 → Option (q_S × Int32)) (M45 : Int) (tk45 : ∀ (s : q_S), q_iN s → ∀ (v5 : Int32) (v6 : Int32), q_rgz 0 1 v5 → q_rgz 0 16 v6 → ((16 - v6.toInt).toNat : Int) ≤ M45 → q_Ex (k45 s v5 v6) (fun (x : q_S × Int32) => q_iN x.1)) (s : q_S) (hI : q_iN s) (v5 : Int32) (v6 : Int32) (rv5 : q_rgz 0 1 v5) (rv6 : q_rgz 0 16 v6) (m45 : ((16 - v6.toInt).toNat : Int) ≤ M45 + 1) : q_Ex (cond (decide (15 < v6)) (some (s, v5)) ((dz_N182_74 s v6).bind fun r2 => cond (q_in v6 16) (k45 (q_sA s 12 (upd (s.1 12) (v6.toNatClampNeg) r2)) v5 (v6 + 1)) none)) (fun (x : q_S × Int32) => q_iN x.1) := by
  cases h3221 : decide (15 < v6) with
  | true =>
    have g3222 := (q_rg_ltT2 (L := 16) (u2 := 16) h3221 (q_rg_lit (n := 15) (x := 15) rfl) rv6 (by decide))
    refine q_E_T ?_
    exact q_E_x hI
  | false =>
    have g3223 := (q_rg_ltF2 (l2 := 0) (u := 15) h3221 (q_rg_lit (n := 15) (x := 15) rfl) rv6)
    refine q_E_F ?_
    obtain ⟨r2, e3225, j3224⟩ := dzj_N182_74 (s) hI (v6)
    rw [e3225]
    refine q_E_B ?_
    refine q_E_A (q_in_rg g3223 (by decide) (by decide)) ?_
    exact tk45 (q_sA s 12 (upd (s.1 12) (v6.toNatClampNeg) r2)) (q_iN_A hI) (v5) (v6 + 1) (q_rg_le (L := 0) (U := 1) rv5 (by decide) (by decide)) (q_rg_le (L := 0) (U := 16) (q_rg_add (L := 1) (U := 16) g3223 (q_rg_lit (n := 1) (x := 1) rfl) (by decide) (by decide) (by decide) (by decide)) (by decide) (by decide)) (q_meu g3223 m45 (by decide) (by decide))
theorem dzj_N181_74_45  : ∀ (m : Nat) (s : q_S) (hI : q_iN s) (v5 : Int32) (v6 : Int32) (rv5 : q_rgz 0 1 v5) (rv6 : q_rgz 0 16 v6), ((16 - v6.toInt).toNat : Int) ≤ (m : Int) → q_Ex (dz_N181_74_45 (m + 1) s v5 v6) (fun (x : q_S × Int32) => q_iN x.1) := by
  intro m
  induction m with
  | zero => intro s hI v5 v6 rv5 rv6 hm; rw [dzs_N181_74_45]; exact dzjb_N181_74_45 (dz_N181_74_45 0) (-1) (fun s hI v5 v6 rv5 rv6 hm => absurd hm (by omega)) s hI v5 v6 rv5 rv6 (by omega)
  | succ m ih => intro s hI v5 v6 rv5 rv6 hm; rw [dzs_N181_74_45]; exact dzjb_N181_74_45 (dz_N181_74_45 (m + 1)) (m : Int) (fun s hI v5 v6 rv5 rv6 hm => ih s hI v5 v6 rv5 rv6 hm) s hI v5 v6 rv5 rv6 (by omega)
set_option maxHeartbeats 4000000 in
theorem dzj_N181_74  (s : q_S) (hI : q_iN s) (a1 : Int32) (a2 : Int32) (a3 : Int32) : q_Ex (dz_N181_74 s a1 a2 a3) (fun (x : q_S × Int32) => q_iN x.1) := by
  unfold dz_N181_74
  have j3226 : q_rgz 0 1 ((((s.1 11) ((a1 &&& 3).toNatClampNeg)) >>> (a2 &&& 31)) &&& 1) := (q_rg_and (((s.1 11) ((a1 &&& 3).toNatClampNeg)) >>> (a2 &&& 31)) 1 (U := 1) (by decide) rfl)
  refine q_E_L ?_
  generalize ((((s.1 11) ((a1 &&& 3).toNatClampNeg)) >>> (a2 &&& 31)) &&& 1) = x1 at j3226 ⊢
  exact dzj_N181_74_45 4999 (q_sA s 11 (upd (s.1 11) ((a1 &&& 3).toNatClampNeg) ((((s.1 11) ((a1 &&& 3).toNatClampNeg)) &&& (((1 : Int32) <<< (a2 &&& 31)) ^^^ (-1))) ||| (a3 <<< (a2 &&& 31))))) (q_iN_A hI) (x1) (0) (q_rg_le (L := 0) (U := 1) j3226 (by decide) (by decide)) (q_rg_le (L := 0) (U := 16) (q_rg_lit (n := 0) (x := 0) rfl) (by decide) (by decide)) (q_meu0 (q_rg_lit (n := 0) (x := 0) rfl) (by decide) (by decide))
set_option maxHeartbeats 4000000 in
theorem dzj_N180_74  (s : q_S) (hI : q_iN s) (a1 : Int32) : (fun (x : q_S × Int32) => q_iN x.1) (dz_N180_74 s a1) := by
  refine q_S_of (P := (fun (x : q_S × Int32) => q_iN x.1)) ?_
  unfold dz_N180_74
  exact q_E_x (q_iN_I (i := 10) (m := 2) hI (by decide))
set_option maxHeartbeats 4000000 in
theorem dzj_N175_72  (s : q_S) (hI : q_iN s) (a1 : Int32) : (fun (x : q_S × Int32) => q_iN x.1) (dz_N175_72 s a1) := by
  refine q_S_of (P := (fun (x : q_S × Int32) => q_iN x.1)) ?_
  unfold dz_N175_72
  cases h3233 : decide (s.2.1 8 1 < 0) with
  | true =>
    have g3234 := (q_rg_ltT1 (l := -2147483648) (U := -1) h3233 (q_rg_full _) (q_rg_lit (n := 0) (x := 0) rfl) (by decide))
    refine q_S_T ?_
    exact q_E_x hI
  | false =>
    have g3235 := (q_rg_ltF1 (l2 := 0) (u := 2147483647) h3233 (q_rg_full _) (q_rg_lit (n := 0) (x := 0) rfl))
    refine q_S_F ?_
    cases h3236 : decide (s.2.1 8 1 < 40) with
    | true =>
      have g3237 := (q_rg_ltT1 (l := 0) (U := 39) h3236 g3235 (q_rg_lit (n := 40) (x := 40) rfl) (by decide))
      refine q_S_T ?_
      exact q_E_x (q_iN_I (i := 8) (m := 1) (q_iN_A hI) (by decide))
    | false =>
      have g3238 := (q_rg_ltF1 (l2 := 40) (u := 2147483647) h3236 g3235 (q_rg_lit (n := 40) (x := 40) rfl))
      refine q_S_F ?_
      exact q_E_x hI
set_option maxHeartbeats 4000000 in
theorem dzj_N176_72  (s : q_S) (hI : q_iN s) : (fun (x : q_S × Int32) => q_iN x.1) (dz_N176_72 s) := by
  refine q_S_of (P := (fun (x : q_S × Int32) => q_iN x.1)) ?_
  unfold dz_N176_72
  exact q_E_x (q_iN_I (i := 8) (m := 3) (q_iN_I (i := 8) (m := 2) hI (by decide)) (by decide))
set_option maxHeartbeats 4000000 in
theorem dzj_N79_64  (s : q_S) (hI : q_iN s) (a1 : Int32) (a2 : Int32) (a3 : Int32) (a4 : Int32) : q_Ex (dz_N79_64 s a1 a2 a3 a4) (fun (x : q_S × Int32) => q_iN x.1) := by
  unfold dz_N79_64
  cases h3301 : decide (a1 < 0) with
  | true =>
    have g3302 := (q_rg_ltT1 (l := -2147483648) (U := -1) h3301 (q_rg_full _) (q_rg_lit (n := 0) (x := 0) rfl) (by decide))
    refine q_E_T ?_
    exact q_E_x hI
  | false =>
    have g3303 := (q_rg_ltF1 (l2 := 0) (u := 2147483647) h3301 (q_rg_full _) (q_rg_lit (n := 0) (x := 0) rfl))
    refine q_E_F ?_
    cases h3304 : decide (12 < a1) with
    | true =>
      have g3305 := (q_rg_ltT2 (L := 13) (u2 := 2147483647) h3304 (q_rg_lit (n := 12) (x := 12) rfl) g3303 (by decide))
      refine q_E_T ?_
      exact q_E_x hI
    | false =>
      have g3306 := (q_rg_ltF2 (l2 := 0) (u := 12) h3304 (q_rg_lit (n := 12) (x := 12) rfl) g3303)
      refine q_E_F ?_
      cases h3307 : decide (a1 = 0) with
      | true =>
        have g3308 := q_rg_eqT h3307 (q_rg_lit (n := 0) (x := 0) rfl)
        refine q_E_T ?_
        obtain ⟨r2, e3310, j3309⟩ := dzj_N97_65 (s) hI (a2) (a3)
        rw [e3310]
        refine q_E_B ?_
        exact q_E_x j3309
      | false =>
        have g3311 := (q_rg_neL (l := 0) (u := 12) (n := 0) (L := 1) h3307 g3306 rfl (by decide) (by decide))
        refine q_E_F ?_
        cases h3312 : decide (a1 = 1) with
        | true =>
          have g3313 := q_rg_eqT h3312 (q_rg_lit (n := 1) (x := 1) rfl)
          refine q_E_T ?_
          have j3314 := dzj_N98_65 (s) hI (a2) (a3)
          refine q_E_L ?_
          generalize dz_N98_65 s a2 a3 = r3 at j3314 ⊢
          exact q_E_x j3314
        | false =>
          have g3315 := (q_rg_neL (l := 1) (u := 12) (n := 1) (L := 2) h3312 g3311 rfl (by decide) (by decide))
          refine q_E_F ?_
          cases h3316 : decide (a1 = 2) with
          | true =>
            have g3317 := q_rg_eqT h3316 (q_rg_lit (n := 2) (x := 2) rfl)
            refine q_E_T ?_
            have j3318 := dzj_N99_65 (s) hI ((512 * a2) + a3) (a4)
            refine q_E_L ?_
            generalize dz_N99_65 s ((512 * a2) + a3) a4 = r4 at j3318 ⊢
            exact q_E_x j3318
          | false =>
            have g3319 := (q_rg_neL (l := 2) (u := 12) (n := 2) (L := 3) h3316 g3315 rfl (by decide) (by decide))
            refine q_E_F ?_
            cases h3320 : decide (a1 = 3) with
            | true =>
              have g3321 := q_rg_eqT h3320 (q_rg_lit (n := 3) (x := 3) rfl)
              refine q_E_T ?_
              obtain ⟨r5, e3323, j3322⟩ := dzj_N100_65 (s) hI (a2) (a3) (a4)
              rw [e3323]
              refine q_E_B ?_
              exact q_E_x j3322
            | false =>
              have g3324 := (q_rg_neL (l := 3) (u := 12) (n := 3) (L := 4) h3320 g3319 rfl (by decide) (by decide))
              refine q_E_F ?_
              cases h3325 : decide (a1 = 4) with
              | true =>
                have g3326 := q_rg_eqT h3325 (q_rg_lit (n := 4) (x := 4) rfl)
                refine q_E_T ?_
                have j3327 := dzj_N134_87 (s) hI (a2) (a3)
                refine q_E_L ?_
                generalize dz_N134_87 s a2 a3 = r6 at j3327 ⊢
                exact q_E_x j3327
              | false =>
                have g3328 := (q_rg_neL (l := 4) (u := 12) (n := 4) (L := 5) h3325 g3324 rfl (by decide) (by decide))
                refine q_E_F ?_
                cases h3329 : decide (a1 = 5) with
                | true =>
                  have g3330 := q_rg_eqT h3329 (q_rg_lit (n := 5) (x := 5) rfl)
                  refine q_E_T ?_
                  obtain ⟨r7, e3332, j3331⟩ := dzj_N80_64 (s) hI
                  rw [e3332]
                  refine q_E_B ?_
                  exact q_E_x j3331
                | false =>
                  have g3333 := (q_rg_neL (l := 5) (u := 12) (n := 5) (L := 6) h3329 g3328 rfl (by decide) (by decide))
                  refine q_E_F ?_
                  cases h3334 : decide (a1 = 6) with
                  | true =>
                    have g3335 := q_rg_eqT h3334 (q_rg_lit (n := 6) (x := 6) rfl)
                    refine q_E_T ?_
                    obtain ⟨r8, e3337, j3336⟩ := dzj_N81_64 (s) hI
                    rw [e3337]
                    refine q_E_B ?_
                    exact q_E_x j3336
                  | false =>
                    have g3338 := (q_rg_neL (l := 6) (u := 12) (n := 6) (L := 7) h3334 g3333 rfl (by decide) (by decide))
                    refine q_E_F ?_
                    cases h3339 : decide (a1 = 7) with
                    | true =>
                      have g3340 := q_rg_eqT h3339 (q_rg_lit (n := 7) (x := 7) rfl)
                      refine q_E_T ?_
                      obtain ⟨r9, e3342, j3341⟩ := dzj_N82_64_f (s) hI (a2)
                      rw [e3342]
                      refine q_E_B ?_
                      exact q_E_x j3341
                    | false =>
                      have g3343 := (q_rg_neL (l := 7) (u := 12) (n := 7) (L := 8) h3339 g3338 rfl (by decide) (by decide))
                      refine q_E_F ?_
                      cases h3344 : decide (a1 = 8) with
                      | true =>
                        have g3345 := q_rg_eqT h3344 (q_rg_lit (n := 8) (x := 8) rfl)
                        refine q_E_T ?_
                        obtain ⟨r10, e3347, j3346⟩ := dzj_N82_64_t (s) hI (200)
                        rw [e3347]
                        refine q_E_B ?_
                        exact q_E_x j3346
                      | false =>
                        have g3348 := (q_rg_neL (l := 8) (u := 12) (n := 8) (L := 9) h3344 g3343 rfl (by decide) (by decide))
                        refine q_E_F ?_
                        cases h3349 : decide (a1 = 9) with
                        | true =>
                          have g3350 := q_rg_eqT h3349 (q_rg_lit (n := 9) (x := 9) rfl)
                          refine q_E_T ?_
                          obtain ⟨r11, e3352, j3351⟩ := dzj_N181_74 (s) hI (a2) (a3) (a4)
                          rw [e3352]
                          refine q_E_B ?_
                          exact q_E_x j3351
                        | false =>
                          have g3353 := (q_rg_neL (l := 9) (u := 12) (n := 9) (L := 10) h3349 g3348 rfl (by decide) (by decide))
                          refine q_E_F ?_
                          cases h3354 : decide (a1 = 10) with
                          | true =>
                            have g3355 := q_rg_eqT h3354 (q_rg_lit (n := 10) (x := 10) rfl)
                            refine q_E_T ?_
                            have j3356 := dzj_N180_74 (s) hI (a2)
                            refine q_E_L ?_
                            generalize dz_N180_74 s a2 = r12 at j3356 ⊢
                            exact q_E_x j3356
                          | false =>
                            have g3357 := (q_rg_neL (l := 10) (u := 12) (n := 10) (L := 11) h3354 g3353 rfl (by decide) (by decide))
                            refine q_E_F ?_
                            cases h3358 : decide (a1 = 11) with
                            | true =>
                              have g3359 := q_rg_eqT h3358 (q_rg_lit (n := 11) (x := 11) rfl)
                              refine q_E_T ?_
                              have j3360 := dzj_N175_72 (s) hI (a2)
                              refine q_E_L ?_
                              generalize dz_N175_72 s a2 = r13 at j3360 ⊢
                              exact q_E_x j3360
                            | false =>
                              have g3361 := (q_rg_neL (l := 11) (u := 12) (n := 11) (L := 12) h3358 g3357 rfl (by decide) (by decide))
                              refine q_E_F ?_
                              have j3362 := dzj_N176_72 (s) hI
                              refine q_E_L ?_
                              generalize dz_N176_72 s = r14 at j3362 ⊢
                              exact q_E_x j3362
set_option maxHeartbeats 4000000 in
theorem dzj_N110_96_78  (s : q_S) (hI : q_iN s) : (q_iN) (dz_N110_96_78 s) := by
  refine q_S_of (P := (q_iN)) ?_
  unfold dz_N110_96_78
  exact q_E_x (q_iN_A (q_iN_A hI))
set_option maxHeartbeats 4000000 in
theorem dzjb_N318_98_5  (k5 : q_S → Int32 → Int32 → Int32 → Option (q_S)) (M5 : Int) (tk5 : ∀ (s : q_S), q_iN s → ∀ (v1 : Int32) (v2 : Int32) (v3 : Int32), q_rgz 0 48 v2 → q_rgz 48 48 v3 → ((48 - v2.toInt).toNat : Int) ≤ M5 → q_Ex (k5 s v1 v2 v3) (q_iN)) (s : q_S) (hI : q_iN s) (v1 : Int32) (v2 : Int32) (v3 : Int32) (rv2 : q_rgz 0 48 v2) (rv3 : q_rgz 48 48 v3) (m5 : ((48 - v2.toInt).toNat : Int) ≤ M5 + 1) : q_Ex (cond (decide (v2 < v3)) (cond (q_in v2 48) (k5 (q_sA s 34 (upd (s.1 34) (v2.toNatClampNeg) v1)) v1 (v2 + 1) v3) none) (some s)) (q_iN) := by
  cases h3375 : decide (v2 < v3) with
  | true =>
    have g3376 := (q_rg_ltT1 (l := 0) (U := 47) h3375 rv2 rv3 (by decide))
    refine q_E_T ?_
    refine q_E_A (q_in_rg g3376 (by decide) (by decide)) ?_
    exact tk5 (q_sA s 34 (upd (s.1 34) (v2.toNatClampNeg) v1)) (q_iN_A hI) (v1) (v2 + 1) (v3) (q_rg_le (L := 0) (U := 48) (q_rg_add (L := 1) (U := 48) g3376 (q_rg_lit (n := 1) (x := 1) rfl) (by decide) (by decide) (by decide) (by decide)) (by decide) (by decide)) (q_rg_le (L := 48) (U := 48) rv3 (by decide) (by decide)) (q_meu g3376 m5 (by decide) (by decide))
  | false =>
    have g3377 := (q_rg_ltF1 (l2 := 48) (u := 48) h3375 rv2 rv3)
    refine q_E_F ?_
    exact q_E_x hI
theorem dzj_N318_98_5  : ∀ (m : Nat) (s : q_S) (hI : q_iN s) (v1 : Int32) (v2 : Int32) (v3 : Int32) (rv2 : q_rgz 0 48 v2) (rv3 : q_rgz 48 48 v3), ((48 - v2.toInt).toNat : Int) ≤ (m : Int) → q_Ex (dz_N318_98_5 (m + 1) s v1 v2 v3) (q_iN) := by
  intro m
  induction m with
  | zero => intro s hI v1 v2 v3 rv2 rv3 hm; rw [dzs_N318_98_5]; exact dzjb_N318_98_5 (dz_N318_98_5 0) (-1) (fun s hI v1 v2 v3 rv2 rv3 hm => absurd hm (by omega)) s hI v1 v2 v3 rv2 rv3 (by omega)
  | succ m ih => intro s hI v1 v2 v3 rv2 rv3 hm; rw [dzs_N318_98_5]; exact dzjb_N318_98_5 (dz_N318_98_5 (m + 1)) (m : Int) (fun s hI v1 v2 v3 rv2 rv3 hm => ih s hI v1 v2 v3 rv2 rv3 hm) s hI v1 v2 v3 rv2 rv3 (by omega)
set_option maxHeartbeats 4000000 in
theorem dzj_N318_98  (s : q_S) (hI : q_iN s) (a1 : Int32) : q_Ex (dz_N318_98 s a1) (q_iN) := by
  unfold dz_N318_98
  exact dzj_N318_98_5 4999 (s) hI (a1) (0) (48) (q_rg_le (L := 0) (U := 48) (q_rg_lit (n := 0) (x := 0) rfl) (by decide) (by decide)) (q_rg_le (L := 48) (U := 48) (q_rg_lit (n := 48) (x := 48) rfl) (by decide) (by decide)) (q_meu0 (q_rg_lit (n := 0) (x := 0) rfl) (by decide) (by decide))
set_option maxHeartbeats 4000000 in
theorem dzj_N113_96  (s : q_S) (hI : q_iN s) : q_Ex (dz_N113_96 s) (q_iN) := by
  unfold dz_N113_96
  obtain ⟨r2, e3381, j3380⟩ := dzj_N318_98 (s) hI (0)
  rw [e3381]
  refine q_E_B ?_
  exact q_E_x j3380
set_option maxHeartbeats 4000000 in
theorem dzj_N112_96  (s : q_S) (hI : q_iN s) (a1 : Int32) (a2 : Int32) : (q_iN) (dz_N112_96 s a1 a2) := by
  refine q_S_of (P := (q_iN)) ?_
  unfold dz_N112_96
  cases h3390 : decide (a1 - 3840 < 0) with
  | true =>
    have g3391 := (q_rg_ltT1 (l := -2147483648) (U := -1) h3390 (q_rg_full _) (q_rg_lit (n := 0) (x := 0) rfl) (by decide))
    refine q_S_T ?_
    exact q_E_x (q_iN_A hI)
  | false =>
    have g3392 := (q_rg_ltF1 (l2 := 0) (u := 2147483647) h3390 (q_rg_full _) (q_rg_lit (n := 0) (x := 0) rfl))
    refine q_S_F ?_
    cases h3393 : decide (a1 - 3840 < 48) with
    | true =>
      have g3394 := (q_rg_ltT1 (l := 0) (U := 47) h3393 g3392 (q_rg_lit (n := 48) (x := 48) rfl) (by decide))
      refine q_S_T ?_
      cases h3395 : decide ((fun j => q_o1.getD j 0) ((a1 - 3840).toNatClampNeg) = 0) with
      | true =>
        have g3396 := q_rg_eqT h3395 (q_rg_lit (n := 0) (x := 0) rfl)
        refine q_S_T ?_
        exact q_E_x hI
      | false =>
        refine q_S_F ?_
        exact q_E_x (q_iN_A hI)
    | false =>
      have g3397 := (q_rg_ltF1 (l2 := 48) (u := 2147483647) h3393 g3392 (q_rg_lit (n := 48) (x := 48) rfl))
      refine q_S_F ?_
      exact q_E_x (q_iN_A hI)
set_option maxHeartbeats 4000000 in
theorem dzjb_N129_77_96_10  (k10 : q_S → Int32 → Int32 → Option (q_S)) (M10 : Int) (tk10 : ∀ (s : q_S), q_iN s → ∀ (v1 : Int32) (v3 : Int32), q_rgz 0 3072 v3 → ((3072 - v3.toInt).toNat : Int) ≤ M10 → q_Ex (k10 s v1 v3) (q_iN)) (s : q_S) (hI : q_iN s) (v1 : Int32) (v3 : Int32) (rv3 : q_rgz 0 3072 v3) (m10 : ((3072 - v3.toInt).toNat : Int) ≤ M10 + 1) : q_Ex (cond (decide (v3 < s.2.1 13 2)) (cond (decide (v3 < 3072)) (cond (q_in v3 3072) (cond (decide (v1 < ((s.1 17) (v3.toNatClampNeg)) >>> ((21 &&& 31) : Int32))) (some s) (cond (decide ((((s.1 17) (v3.toNatClampNeg)) >>> ((8 &&& 31) : Int32)) &&& 8191 = 4096)) ((dz_N113_96 s).bind fun r2 => k10 r2 v1 (v3 + 1)) (q_let (dz_N112_96 s ((((s.1 17) (v3.toNatClampNeg)) >>> ((8 &&& 31) : Int32)) &&& 8191) (((s.1 17) (v3.toNatClampNeg)) &&& 255)) fun r3 => k10 r3 v1 (v3 + 1)))) none) (some s)) (some s)) (q_iN) := by
  cases h3507 : decide (v3 < s.2.1 13 2) with
  | true =>
    have g3508 := (q_rg_ltT2 (L := 1) (u2 := 2147483647) h3507 rv3 (q_rg_full _) (by decide))
    refine q_E_T ?_
    cases h3509 : decide (v3 < 3072) with
    | true =>
      have g3510 := (q_rg_ltT1 (l := 0) (U := 3071) h3509 rv3 (q_rg_lit (n := 3072) (x := 3072) rfl) (by decide))
      refine q_E_T ?_
      refine q_E_A (q_in_rg g3510 (by decide) (by decide)) ?_
      cases h3511 : decide (v1 < ((s.1 17) (v3.toNatClampNeg)) >>> ((21 &&& 31) : Int32)) with
      | true =>
        have g3512 := (q_rg_ltT1 (l := -2147483648) (U := 2147483646) h3511 (q_rg_full _) (q_rg_full _) (by decide))
        have g3513 := (q_rg_ltT2 (L := -2147483647) (u2 := 2147483647) h3511 (q_rg_full _) (q_rg_full _) (by decide))
        refine q_E_T ?_
        exact q_E_x hI
      | false =>
        refine q_E_F ?_
        cases h3514 : decide ((((s.1 17) (v3.toNatClampNeg)) >>> ((8 &&& 31) : Int32)) &&& 8191 = 4096) with
        | true =>
          have g3515 := q_rg_eqT h3514 (q_rg_lit (n := 4096) (x := 4096) rfl)
          refine q_E_T ?_
          obtain ⟨r2, e3517, j3516⟩ := dzj_N113_96 (s) hI
          rw [e3517]
          refine q_E_B ?_
          exact tk10 (r2) j3516 (v1) (v3 + 1) (q_rg_le (L := 0) (U := 3072) (q_rg_add (L := 1) (U := 3072) g3510 (q_rg_lit (n := 1) (x := 1) rfl) (by decide) (by decide) (by decide) (by decide)) (by decide) (by decide)) (q_meu g3510 m10 (by decide) (by decide))
        | false =>
          refine q_E_F ?_
          have j3518 := dzj_N112_96 (s) hI ((((s.1 17) (v3.toNatClampNeg)) >>> ((8 &&& 31) : Int32)) &&& 8191) (((s.1 17) (v3.toNatClampNeg)) &&& 255)
          refine q_E_L ?_
          generalize dz_N112_96 s ((((s.1 17) (v3.toNatClampNeg)) >>> ((8 &&& 31) : Int32)) &&& 8191) (((s.1 17) (v3.toNatClampNeg)) &&& 255) = r3 at j3518 ⊢
          exact tk10 (r3) j3518 (v1) (v3 + 1) (q_rg_le (L := 0) (U := 3072) (q_rg_add (L := 1) (U := 3072) g3510 (q_rg_lit (n := 1) (x := 1) rfl) (by decide) (by decide) (by decide) (by decide)) (by decide) (by decide)) (q_meu g3510 m10 (by decide) (by decide))
    | false =>
      have g3519 := (q_rg_ltF1 (l2 := 3072) (u := 3072) h3509 rv3 (q_rg_lit (n := 3072) (x := 3072) rfl))
      refine q_E_F ?_
      exact q_E_x hI
  | false =>
    have g3520 := (q_rg_ltF2 (l2 := -2147483648) (u := 3072) h3507 rv3 (q_rg_full _))
    refine q_E_F ?_
    exact q_E_x hI
theorem dzj_N129_77_96_10  : ∀ (m : Nat) (s : q_S) (hI : q_iN s) (v1 : Int32) (v3 : Int32) (rv3 : q_rgz 0 3072 v3), ((3072 - v3.toInt).toNat : Int) ≤ (m : Int) → q_Ex (dz_N129_77_96_10 (m + 1) s v1 v3) (q_iN) := by
  intro m
  induction m with
  | zero => intro s hI v1 v3 rv3 hm; rw [dzs_N129_77_96_10]; exact dzjb_N129_77_96_10 (dz_N129_77_96_10 0) (-1) (fun s hI v1 v3 rv3 hm => absurd hm (by omega)) s hI v1 v3 rv3 (by omega)
  | succ m ih => intro s hI v1 v3 rv3 hm; rw [dzs_N129_77_96_10]; exact dzjb_N129_77_96_10 (dz_N129_77_96_10 (m + 1)) (m : Int) (fun s hI v1 v3 rv3 hm => ih s hI v1 v3 rv3 hm) s hI v1 v3 rv3 (by omega)
set_option maxHeartbeats 4000000 in
theorem dzj_N129_77_96  (s : q_S) (hI : q_iN s) (a1 : Int32) : q_Ex (dz_N129_77_96 s a1) (q_iN) := by
  unfold dz_N129_77_96
  have j3521 := dzj_N110_96_78 (s) hI
  refine q_E_L ?_
  generalize dz_N110_96_78 s = r1 at j3521 ⊢
  exact dzj_N129_77_96_10 4999 (r1) j3521 (a1) (0) (q_rg_le (L := 0) (U := 3072) (q_rg_lit (n := 0) (x := 0) rfl) (by decide) (by decide)) (q_meu0 (q_rg_lit (n := 0) (x := 0) rfl) (by decide) (by decide))
theorem dzj_N114_96  (s : q_S) (hI : q_iN s) : (fun _ => True) (dz_N114_96 s) := trivial
theorem dzj_N115_96  (s : q_S) (hI : q_iN s) : (fun _ => True) (dz_N115_96 s) := trivial
theorem dzj_N120_96  (s : q_S) (hI : q_iN s) (a1 : Int32) : (fun _ => True) (dz_N120_96 s a1) := trivial
theorem dzj_N119_96  (s : q_S) (hI : q_iN s) (a1 : Int32) (a2 : Int32) : (fun _ => True) (dz_N119_96 s a1 a2) := trivial
theorem dzj_N118_96  (s : q_S) (hI : q_iN s) (a1 : Int32) (a2 : Int32) : (fun _ => True) (dz_N118_96 s a1 a2) := trivial
set_option maxHeartbeats 4000000 in
theorem dzjb_N122_96_5  (k5 : q_S → Int32 → Int32 → Int32 → Int32 → Option (Int32)) (M5 : Int) (tk5 : ∀ (s : q_S), q_iN s → ∀ (v1 : Int32) (v2 : Int32) (v3 : Int32) (v4 : Int32), q_rgz 0 4 v4 → ((4 - v4.toInt).toNat : Int) ≤ M5 → q_Ex (k5 s v1 v2 v3 v4) (fun _ => True)) (s : q_S) (hI : q_iN s) (v1 : Int32) (v2 : Int32) (v3 : Int32) (v4 : Int32) (rv4 : q_rgz 0 4 v4) (m5 : ((4 - v4.toInt).toNat : Int) ≤ M5 + 1) : q_Ex (cond (decide (v4 < 4)) (q_let (dz_N118_96 s 18 v4) fun r1 => cond (q_in ((20 : Int32) + v4) 48) (q_let ((v1 - ((s.1 34) (((20 : Int32) + v4).toNatClampNeg))) >>> (r1 &&& 31)) fun x2 => cond (q_in ((24 : Int32) + v4) 48) (q_let ((v2 - ((s.1 34) (((24 : Int32) + v4).toNatClampNeg))) >>> (r1 &&& 31)) fun x3 => q_let (dz_N118_96 s 17 v4) fun r4 => cond (decide (r4 = 1)) (cond (decide (x2 < 0)) (k5 s v1 v2 v3 (v4 + 1)) (cond (decide (x2 < 8)) (cond (decide (x3 < 0)) (k5 s v1 v2 v3 (v4 + 1)) (cond (decide (x3 < 8)) (q_let (dz_N120_96 s ((((256 * ((s.1 34) 7)) + 128) + (8 * v4)) + x3)) fun r5 => q_let (v3 ||| (((r5 >>> (((7 : Int32) - x2) &&& 31)) &&& 1) <<< (v4 &&& 31))) fun x6 => k5 s v1 v2 x6 (v4 + 1)) (k5 s v1 v2 v3 (v4 + 1)))) (k5 s v1 v2 v3 (v4 + 1)))) (k5 s v1 v2 v3 (v4 + 1))) none) none) (some v3)) (fun _ => True) := by
  cases h3675 : decide (v4 < 4) with
  | true =>
    have g3676 := (q_rg_ltT1 (l := 0) (U := 3) h3675 rv4 (q_rg_lit (n := 4) (x := 4) rfl) (by decide))
    refine q_E_T ?_
    have j3677 := dzj_N118_96 (s) hI (18) (v4)
    refine q_E_L ?_
    generalize dz_N118_96 s 18 v4 = r1 at j3677 ⊢
    refine q_E_A (q_in_rg (q_rg_add (L := 20) (U := 23) (q_rg_lit (n := 20) (x := 20) rfl) g3676 (by decide) (by decide) (by decide) (by decide)) (by decide) (by decide)) ?_
    have j3678 : q_rgz (-2147483648) 2147483647 ((v1 - ((s.1 34) (((20 : Int32) + v4).toNatClampNeg))) >>> (r1 &&& 31)) := (q_rg_full _)
    refine q_E_L ?_
    generalize ((v1 - ((s.1 34) (((20 : Int32) + v4).toNatClampNeg))) >>> (r1 &&& 31)) = x2 at j3678 ⊢
    refine q_E_A (q_in_rg (q_rg_add (L := 24) (U := 27) (q_rg_lit (n := 24) (x := 24) rfl) g3676 (by decide) (by decide) (by decide) (by decide)) (by decide) (by decide)) ?_
    have j3679 : q_rgz (-2147483648) 2147483647 ((v2 - ((s.1 34) (((24 : Int32) + v4).toNatClampNeg))) >>> (r1 &&& 31)) := (q_rg_full _)
    refine q_E_L ?_
    generalize ((v2 - ((s.1 34) (((24 : Int32) + v4).toNatClampNeg))) >>> (r1 &&& 31)) = x3 at j3679 ⊢
    have j3680 := dzj_N118_96 (s) hI (17) (v4)
    refine q_E_L ?_
    generalize dz_N118_96 s 17 v4 = r4 at j3680 ⊢
    cases h3681 : decide (r4 = 1) with
    | true =>
      have g3682 := q_rg_eqT h3681 (q_rg_lit (n := 1) (x := 1) rfl)
      refine q_E_T ?_
      cases h3683 : decide (x2 < 0) with
      | true =>
        have g3684 := (q_rg_ltT1 (l := -2147483648) (U := -1) h3683 j3678 (q_rg_lit (n := 0) (x := 0) rfl) (by decide))
        refine q_E_T ?_
        exact tk5 (s) hI (v1) (v2) (v3) (v4 + 1) (q_rg_le (L := 0) (U := 4) (q_rg_add (L := 1) (U := 4) g3676 (q_rg_lit (n := 1) (x := 1) rfl) (by decide) (by decide) (by decide) (by decide)) (by decide) (by decide)) (q_meu g3676 m5 (by decide) (by decide))
      | false =>
        have g3685 := (q_rg_ltF1 (l2 := 0) (u := 2147483647) h3683 j3678 (q_rg_lit (n := 0) (x := 0) rfl))
        refine q_E_F ?_
        cases h3686 : decide (x2 < 8) with
        | true =>
          have g3687 := (q_rg_ltT1 (l := 0) (U := 7) h3686 g3685 (q_rg_lit (n := 8) (x := 8) rfl) (by decide))
          refine q_E_T ?_
          cases h3688 : decide (x3 < 0) with
          | true =>
            have g3689 := (q_rg_ltT1 (l := -2147483648) (U := -1) h3688 j3679 (q_rg_lit (n := 0) (x := 0) rfl) (by decide))
            refine q_E_T ?_
            exact tk5 (s) hI (v1) (v2) (v3) (v4 + 1) (q_rg_le (L := 0) (U := 4) (q_rg_add (L := 1) (U := 4) g3676 (q_rg_lit (n := 1) (x := 1) rfl) (by decide) (by decide) (by decide) (by decide)) (by decide) (by decide)) (q_meu g3676 m5 (by decide) (by decide))
          | false =>
            have g3690 := (q_rg_ltF1 (l2 := 0) (u := 2147483647) h3688 j3679 (q_rg_lit (n := 0) (x := 0) rfl))
            refine q_E_F ?_
            cases h3691 : decide (x3 < 8) with
            | true =>
              have g3692 := (q_rg_ltT1 (l := 0) (U := 7) h3691 g3690 (q_rg_lit (n := 8) (x := 8) rfl) (by decide))
              refine q_E_T ?_
              have j3693 := dzj_N120_96 (s) hI ((((256 * ((s.1 34) 7)) + 128) + (8 * v4)) + x3)
              refine q_E_L ?_
              generalize dz_N120_96 s ((((256 * ((s.1 34) 7)) + 128) + (8 * v4)) + x3) = r5 at j3693 ⊢
              have j3694 : q_rgz (-2147483648) 2147483647 (v3 ||| (((r5 >>> (((7 : Int32) - x2) &&& 31)) &&& 1) <<< (v4 &&& 31))) := (q_rg_full _)
              refine q_E_L ?_
              generalize (v3 ||| (((r5 >>> (((7 : Int32) - x2) &&& 31)) &&& 1) <<< (v4 &&& 31))) = x6 at j3694 ⊢
              exact tk5 (s) hI (v1) (v2) (x6) (v4 + 1) (q_rg_le (L := 0) (U := 4) (q_rg_add (L := 1) (U := 4) g3676 (q_rg_lit (n := 1) (x := 1) rfl) (by decide) (by decide) (by decide) (by decide)) (by decide) (by decide)) (q_meu g3676 m5 (by decide) (by decide))
            | false =>
              have g3695 := (q_rg_ltF1 (l2 := 8) (u := 2147483647) h3691 g3690 (q_rg_lit (n := 8) (x := 8) rfl))
              refine q_E_F ?_
              exact tk5 (s) hI (v1) (v2) (v3) (v4 + 1) (q_rg_le (L := 0) (U := 4) (q_rg_add (L := 1) (U := 4) g3676 (q_rg_lit (n := 1) (x := 1) rfl) (by decide) (by decide) (by decide) (by decide)) (by decide) (by decide)) (q_meu g3676 m5 (by decide) (by decide))
        | false =>
          have g3696 := (q_rg_ltF1 (l2 := 8) (u := 2147483647) h3686 g3685 (q_rg_lit (n := 8) (x := 8) rfl))
          refine q_E_F ?_
          exact tk5 (s) hI (v1) (v2) (v3) (v4 + 1) (q_rg_le (L := 0) (U := 4) (q_rg_add (L := 1) (U := 4) g3676 (q_rg_lit (n := 1) (x := 1) rfl) (by decide) (by decide) (by decide) (by decide)) (by decide) (by decide)) (q_meu g3676 m5 (by decide) (by decide))
    | false =>
      refine q_E_F ?_
      exact tk5 (s) hI (v1) (v2) (v3) (v4 + 1) (q_rg_le (L := 0) (U := 4) (q_rg_add (L := 1) (U := 4) g3676 (q_rg_lit (n := 1) (x := 1) rfl) (by decide) (by decide) (by decide) (by decide)) (by decide) (by decide)) (q_meu g3676 m5 (by decide) (by decide))
  | false =>
    have g3697 := (q_rg_ltF1 (l2 := 4) (u := 4) h3675 rv4 (q_rg_lit (n := 4) (x := 4) rfl))
    refine q_E_F ?_
    exact q_E_x trivial
theorem dzj_N122_96_5  : ∀ (m : Nat) (s : q_S) (hI : q_iN s) (v1 : Int32) (v2 : Int32) (v3 : Int32) (v4 : Int32) (rv4 : q_rgz 0 4 v4), ((4 - v4.toInt).toNat : Int) ≤ (m : Int) → q_Ex (dz_N122_96_5 (m + 1) s v1 v2 v3 v4) (fun _ => True) := by
  intro m
  induction m with
  | zero => intro s hI v1 v2 v3 v4 rv4 hm; rw [dzs_N122_96_5]; exact dzjb_N122_96_5 (dz_N122_96_5 0) (-1) (fun s hI v1 v2 v3 v4 rv4 hm => absurd hm (by omega)) s hI v1 v2 v3 v4 rv4 (by omega)
  | succ m ih => intro s hI v1 v2 v3 v4 rv4 hm; rw [dzs_N122_96_5]; exact dzjb_N122_96_5 (dz_N122_96_5 (m + 1)) (m : Int) (fun s hI v1 v2 v3 v4 rv4 hm => ih s hI v1 v2 v3 v4 rv4 hm) s hI v1 v2 v3 v4 rv4 (by omega)
set_option maxHeartbeats 4000000 in
theorem dzj_N122_96  (s : q_S) (hI : q_iN s) (a1 : Int32) (a2 : Int32) : q_Ex (dz_N122_96 s a1 a2) (fun _ => True) := by
  unfold dz_N122_96
  exact dzj_N122_96_5 4999 (s) hI (a1) (a2) (0) (0) (q_rg_le (L := 0) (U := 4) (q_rg_lit (n := 0) (x := 0) rfl) (by decide) (by decide)) (q_meu0 (q_rg_lit (n := 0) (x := 0) rfl) (by decide) (by decide))
theorem dzj_N121_96  (s : q_S) (hI : q_iN s) (a1 : Int32) : (fun _ => True) (dz_N121_96 s a1) := trivial
set_option maxHeartbeats 4000000 in
theorem dzj_N123_96_39  (s : q_S) (hI : q_iN s) (v1 : Int32) (v3 : Int32) (rv3 : q_rgz 0 3 v3) : q_Ex (dz_N123_96_39 s v1 v3) (fun _ => True) := by
  unfold dz_N123_96_39
  exact q_E_x trivial
set_option maxHeartbeats 4000000 in
theorem dzjb_N123_96_2  (k2 : q_S → Int32 → Int32 → Int32 → Option (Int32)) (M2 : Int) (tk2 : ∀ (s : q_S), q_iN s → ∀ (v1 : Int32) (v2 : Int32) (v3 : Int32), q_rgz 0 4 v3 → ((4 - v3.toInt).toNat : Int) ≤ M2 → q_Ex (k2 s v1 v2 v3) (fun _ => True)) (s : q_S) (hI : q_iN s) (v1 : Int32) (v2 : Int32) (v3 : Int32) (rv3 : q_rgz 0 4 v3) (m2 : ((4 - v3.toInt).toNat : Int) ≤ M2 + 1) : q_Ex (cond (decide (v3 < 4)) (cond (decide ((v2 >>> (v3 &&& 31)) &&& 1 = 1)) (q_let (dz_N118_96 s 19 v3) fun r1 => cond (decide (r1 = 1)) (q_let (dz_N121_96 s v1) fun r2 => cond r2 (cond (q_in ((3 : Int32) + (v1 &&& 3)) 48) (some ((s.1 34) (((3 : Int32) + (v1 &&& 3)).toNatClampNeg))) none) (dz_N123_96_39 s v1 v3)) (dz_N123_96_39 s v1 v3)) (k2 s v1 v2 (v3 + 1))) (cond (q_in ((3 : Int32) + (v1 &&& 3)) 48) (some ((s.1 34) (((3 : Int32) + (v1 &&& 3)).toNatClampNeg))) none)) (fun _ => True) := by
  cases h3759 : decide (v3 < 4) with
  | true =>
    have g3760 := (q_rg_ltT1 (l := 0) (U := 3) h3759 rv3 (q_rg_lit (n := 4) (x := 4) rfl) (by decide))
    refine q_E_T ?_
    cases h3761 : decide ((v2 >>> (v3 &&& 31)) &&& 1 = 1) with
    | true =>
      have g3762 := q_rg_eqT h3761 (q_rg_lit (n := 1) (x := 1) rfl)
      refine q_E_T ?_
      have j3763 := dzj_N118_96 (s) hI (19) (v3)
      refine q_E_L ?_
      generalize dz_N118_96 s 19 v3 = r1 at j3763 ⊢
      cases h3764 : decide (r1 = 1) with
      | true =>
        have g3765 := q_rg_eqT h3764 (q_rg_lit (n := 1) (x := 1) rfl)
        refine q_E_T ?_
        have j3766 := dzj_N121_96 (s) hI (v1)
        refine q_E_L ?_
        generalize dz_N121_96 s v1 = r2 at j3766 ⊢
        cases h3767 : r2 with
        | true =>
          refine q_E_T ?_
          refine q_E_A (q_in_rg (q_rg_add (L := 3) (U := 6) (q_rg_lit (n := 3) (x := 3) rfl) (q_rg_and v1 3 (U := 3) (by decide) rfl) (by decide) (by decide) (by decide) (by decide)) (by decide) (by decide)) ?_
          exact q_E_x trivial
        | false =>
          refine q_E_F ?_
          exact dzj_N123_96_39 (s) hI (v1) (v3) (q_rg_le (L := 0) (U := 3) g3760 (by decide) (by decide))
      | false =>
        refine q_E_F ?_
        exact dzj_N123_96_39 (s) hI (v1) (v3) (q_rg_le (L := 0) (U := 3) g3760 (by decide) (by decide))
    | false =>
      have g3768 := (q_rg_neU (l := 0) (u := 1) (n := 1) (U := 0) h3761 (q_rg_and (v2 >>> (v3 &&& 31)) 1 (U := 1) (by decide) rfl) rfl (by decide) (by decide))
      refine q_E_F ?_
      exact tk2 (s) hI (v1) (v2) (v3 + 1) (q_rg_le (L := 0) (U := 4) (q_rg_add (L := 1) (U := 4) g3760 (q_rg_lit (n := 1) (x := 1) rfl) (by decide) (by decide) (by decide) (by decide)) (by decide) (by decide)) (q_meu g3760 m2 (by decide) (by decide))
  | false =>
    have g3769 := (q_rg_ltF1 (l2 := 4) (u := 4) h3759 rv3 (q_rg_lit (n := 4) (x := 4) rfl))
    refine q_E_F ?_
    refine q_E_A (q_in_rg (q_rg_add (L := 3) (U := 6) (q_rg_lit (n := 3) (x := 3) rfl) (q_rg_and v1 3 (U := 3) (by decide) rfl) (by decide) (by decide) (by decide) (by decide)) (by decide) (by decide)) ?_
    exact q_E_x trivial
theorem dzj_N123_96_2  : ∀ (m : Nat) (s : q_S) (hI : q_iN s) (v1 : Int32) (v2 : Int32) (v3 : Int32) (rv3 : q_rgz 0 4 v3), ((4 - v3.toInt).toNat : Int) ≤ (m : Int) → q_Ex (dz_N123_96_2 (m + 1) s v1 v2 v3) (fun _ => True) := by
  intro m
  induction m with
  | zero => intro s hI v1 v2 v3 rv3 hm; rw [dzs_N123_96_2]; exact dzjb_N123_96_2 (dz_N123_96_2 0) (-1) (fun s hI v1 v2 v3 rv3 hm => absurd hm (by omega)) s hI v1 v2 v3 rv3 (by omega)
  | succ m ih => intro s hI v1 v2 v3 rv3 hm; rw [dzs_N123_96_2]; exact dzjb_N123_96_2 (dz_N123_96_2 (m + 1)) (m : Int) (fun s hI v1 v2 v3 rv3 hm => ih s hI v1 v2 v3 rv3 hm) s hI v1 v2 v3 rv3 (by omega)
set_option maxHeartbeats 4000000 in
theorem dzj_N123_96  (s : q_S) (hI : q_iN s) (a1 : Int32) (a2 : Int32) : q_Ex (dz_N123_96 s a1 a2) (fun _ => True) := by
  unfold dz_N123_96
  exact dzj_N123_96_2 4999 (s) hI (a1) (a2) (0) (q_rg_le (L := 0) (U := 4) (q_rg_lit (n := 0) (x := 0) rfl) (by decide) (by decide)) (q_meu0 (q_rg_lit (n := 0) (x := 0) rfl) (by decide) (by decide))
set_option maxHeartbeats 4000000 in
theorem dzj_N110_96_83  (s : q_S) (hI : q_iN s) : (q_iN) (dz_N110_96_83 s) := by
  refine q_S_of (P := (q_iN)) ?_
  unfold dz_N110_96_83
  exact q_E_x (q_iN_A (q_iN_A hI))
set_option maxHeartbeats 4000000 in
theorem dzjb_N129_82_96_10  (k10 : q_S → Int32 → Int32 → Option (q_S)) (M10 : Int) (tk10 : ∀ (s : q_S), q_iN s → ∀ (v1 : Int32) (v3 : Int32), q_rgz 0 3072 v3 → ((3072 - v3.toInt).toNat : Int) ≤ M10 → q_Ex (k10 s v1 v3) (q_iN)) (s : q_S) (hI : q_iN s) (v1 : Int32) (v3 : Int32) (rv3 : q_rgz 0 3072 v3) (m10 : ((3072 - v3.toInt).toNat : Int) ≤ M10 + 1) : q_Ex (cond (decide (v3 < s.2.1 18 2)) (cond (decide (v3 < 3072)) (cond (q_in v3 3072) (cond (decide (v1 < ((s.1 22) (v3.toNatClampNeg)) >>> ((21 &&& 31) : Int32))) (some s) (cond (decide ((((s.1 22) (v3.toNatClampNeg)) >>> ((8 &&& 31) : Int32)) &&& 8191 = 4096)) ((dz_N113_96 s).bind fun r2 => k10 r2 v1 (v3 + 1)) (q_let (dz_N112_96 s ((((s.1 22) (v3.toNatClampNeg)) >>> ((8 &&& 31) : Int32)) &&& 8191) (((s.1 22) (v3.toNatClampNeg)) &&& 255)) fun r3 => k10 r3 v1 (v3 + 1)))) none) (some s)) (some s)) (q_iN) := by
  cases h3879 : decide (v3 < s.2.1 18 2) with
  | true =>
    have g3880 := (q_rg_ltT2 (L := 1) (u2 := 2147483647) h3879 rv3 (q_rg_full _) (by decide))
    refine q_E_T ?_
    cases h3881 : decide (v3 < 3072) with
    | true =>
      have g3882 := (q_rg_ltT1 (l := 0) (U := 3071) h3881 rv3 (q_rg_lit (n := 3072) (x := 3072) rfl) (by decide))
      refine q_E_T ?_
      refine q_E_A (q_in_rg g3882 (by decide) (by decide)) ?_
      cases h3883 : decide (v1 < ((s.1 22) (v3.toNatClampNeg)) >>> ((21 &&& 31) : Int32)) with
      | true =>
        have g3884 := (q_rg_ltT1 (l := -2147483648) (U := 2147483646) h3883 (q_rg_full _) (q_rg_full _) (by decide))
        have g3885 := (q_rg_ltT2 (L := -2147483647) (u2 := 2147483647) h3883 (q_rg_full _) (q_rg_full _) (by decide))
        refine q_E_T ?_
        exact q_E_x hI
      | false =>
        refine q_E_F ?_
        cases h3886 : decide ((((s.1 22) (v3.toNatClampNeg)) >>> ((8 &&& 31) : Int32)) &&& 8191 = 4096) with
        | true =>
          have g3887 := q_rg_eqT h3886 (q_rg_lit (n := 4096) (x := 4096) rfl)
          refine q_E_T ?_
          obtain ⟨r2, e3889, j3888⟩ := dzj_N113_96 (s) hI
          rw [e3889]
          refine q_E_B ?_
          exact tk10 (r2) j3888 (v1) (v3 + 1) (q_rg_le (L := 0) (U := 3072) (q_rg_add (L := 1) (U := 3072) g3882 (q_rg_lit (n := 1) (x := 1) rfl) (by decide) (by decide) (by decide) (by decide)) (by decide) (by decide)) (q_meu g3882 m10 (by decide) (by decide))
        | false =>
          refine q_E_F ?_
          have j3890 := dzj_N112_96 (s) hI ((((s.1 22) (v3.toNatClampNeg)) >>> ((8 &&& 31) : Int32)) &&& 8191) (((s.1 22) (v3.toNatClampNeg)) &&& 255)
          refine q_E_L ?_
          generalize dz_N112_96 s ((((s.1 22) (v3.toNatClampNeg)) >>> ((8 &&& 31) : Int32)) &&& 8191) (((s.1 22) (v3.toNatClampNeg)) &&& 255) = r3 at j3890 ⊢
          exact tk10 (r3) j3890 (v1) (v3 + 1) (q_rg_le (L := 0) (U := 3072) (q_rg_add (L := 1) (U := 3072) g3882 (q_rg_lit (n := 1) (x := 1) rfl) (by decide) (by decide) (by decide) (by decide)) (by decide) (by decide)) (q_meu g3882 m10 (by decide) (by decide))
    | false =>
      have g3891 := (q_rg_ltF1 (l2 := 3072) (u := 3072) h3881 rv3 (q_rg_lit (n := 3072) (x := 3072) rfl))
      refine q_E_F ?_
      exact q_E_x hI
  | false =>
    have g3892 := (q_rg_ltF2 (l2 := -2147483648) (u := 3072) h3879 rv3 (q_rg_full _))
    refine q_E_F ?_
    exact q_E_x hI
theorem dzj_N129_82_96_10  : ∀ (m : Nat) (s : q_S) (hI : q_iN s) (v1 : Int32) (v3 : Int32) (rv3 : q_rgz 0 3072 v3), ((3072 - v3.toInt).toNat : Int) ≤ (m : Int) → q_Ex (dz_N129_82_96_10 (m + 1) s v1 v3) (q_iN) := by
  intro m
  induction m with
  | zero => intro s hI v1 v3 rv3 hm; rw [dzs_N129_82_96_10]; exact dzjb_N129_82_96_10 (dz_N129_82_96_10 0) (-1) (fun s hI v1 v3 rv3 hm => absurd hm (by omega)) s hI v1 v3 rv3 (by omega)
  | succ m ih => intro s hI v1 v3 rv3 hm; rw [dzs_N129_82_96_10]; exact dzjb_N129_82_96_10 (dz_N129_82_96_10 (m + 1)) (m : Int) (fun s hI v1 v3 rv3 hm => ih s hI v1 v3 rv3 hm) s hI v1 v3 rv3 (by omega)
set_option maxHeartbeats 4000000 in
theorem dzj_N129_82_96  (s : q_S) (hI : q_iN s) (a1 : Int32) : q_Ex (dz_N129_82_96 s a1) (q_iN) := by
  unfold dz_N129_82_96
  have j3893 := dzj_N110_96_83 (s) hI
  refine q_E_L ?_
  generalize dz_N110_96_83 s = r1 at j3893 ⊢
  exact dzj_N129_82_96_10 4999 (r1) j3893 (a1) (0) (q_rg_le (L := 0) (U := 3072) (q_rg_lit (n := 0) (x := 0) rfl) (by decide) (by decide)) (q_meu0 (q_rg_lit (n := 0) (x := 0) rfl) (by decide) (by decide))
set_option maxHeartbeats 4000000 in
theorem dzj_N108_65_96  (s : q_S) (hI : q_iN s) (a1 : Int32) (a2 : Int32) : q_Ex (dz_N108_65_96 s a1 a2) (fun (x : q_S × Int32) => q_iN x.1) := by
  unfold dz_N108_65_96
  cases h3936 : decide (lg_cmp (((s.2.2 1 8) / 960) - ((s.2.2 1 8) / 960) / 2 * 2) 0 = 0) with
  | true =>
    have g3937 := q_rg_eqT h3936 (q_rg_lit (n := 0) (x := 0) rfl)
    refine q_E_T ?_
    cases h3938 : decide ((24 * (a2 + 4)) + ((a1 / 2) + 4) < s.2.1 13 3) with
    | true =>
      have g3939 := (q_rg_ltT1 (l := -2147483648) (U := 2147483646) h3938 (q_rg_full _) (q_rg_full _) (by decide))
      have g3940 := (q_rg_ltT2 (L := -2147483647) (u2 := 2147483647) h3938 (q_rg_full _) (q_rg_full _) (by decide))
      refine q_E_T ?_
      obtain ⟨r2, e3942, j3941⟩ := dzj_N129_77_96 (s) hI ((24 * (a2 + 4)) + ((a1 / 2) + 4))
      rw [e3942]
      refine q_E_B ?_
      have j3943 := dzj_N119_96 (r2) j3941 (a1) (a2)
      refine q_E_L ?_
      generalize dz_N119_96 r2 a1 a2 = r3 at j3943 ⊢
      obtain ⟨r4, e3945, j3944⟩ := dzj_N122_96 (r2) j3941 (a1) (a2)
      rw [e3945]
      refine q_E_B ?_
      obtain ⟨r5, e3947, j3946⟩ := dzj_N123_96 (r2) j3941 (r3) (r4)
      rw [e3947]
      refine q_E_B ?_
      exact q_E_x j3941
    | false =>
      refine q_E_F ?_
      cases h3948 : decide ((24 * (a2 + 4)) + ((a1 / 2) + 4) < s.2.1 18 3) with
      | true =>
        have g3949 := (q_rg_ltT1 (l := -2147483648) (U := 2147483646) h3948 (q_rg_full _) (q_rg_full _) (by decide))
        have g3950 := (q_rg_ltT2 (L := -2147483647) (u2 := 2147483647) h3948 (q_rg_full _) (q_rg_full _) (by decide))
        refine q_E_T ?_
        obtain ⟨r6, e3952, j3951⟩ := dzj_N129_82_96 (s) hI ((24 * (a2 + 4)) + ((a1 / 2) + 4))
        rw [e3952]
        refine q_E_B ?_
        have j3953 := dzj_N119_96 (r6) j3951 (a1) (a2)
        refine q_E_L ?_
        generalize dz_N119_96 r6 a1 a2 = r7 at j3953 ⊢
        obtain ⟨r8, e3955, j3954⟩ := dzj_N122_96 (r6) j3951 (a1) (a2)
        rw [e3955]
        refine q_E_B ?_
        obtain ⟨r9, e3957, j3956⟩ := dzj_N123_96 (r6) j3951 (r7) (r8)
        rw [e3957]
        refine q_E_B ?_
        exact q_E_x j3951
      | false =>
        refine q_E_F ?_
        exact q_E_x hI
  | false =>
    refine q_E_F ?_
    cases h3958 : decide ((24 * (a2 + 4)) + ((a1 / 2) + 4) < s.2.1 18 3) with
    | true =>
      have g3959 := (q_rg_ltT1 (l := -2147483648) (U := 2147483646) h3958 (q_rg_full _) (q_rg_full _) (by decide))
      have g3960 := (q_rg_ltT2 (L := -2147483647) (u2 := 2147483647) h3958 (q_rg_full _) (q_rg_full _) (by decide))
      refine q_E_T ?_
      obtain ⟨r10, e3962, j3961⟩ := dzj_N129_82_96 (s) hI ((24 * (a2 + 4)) + ((a1 / 2) + 4))
      rw [e3962]
      refine q_E_B ?_
      have j3963 := dzj_N119_96 (r10) j3961 (a1) (a2)
      refine q_E_L ?_
      generalize dz_N119_96 r10 a1 a2 = r11 at j3963 ⊢
      obtain ⟨r12, e3965, j3964⟩ := dzj_N122_96 (r10) j3961 (a1) (a2)
      rw [e3965]
      refine q_E_B ?_
      obtain ⟨r13, e3967, j3966⟩ := dzj_N123_96 (r10) j3961 (r11) (r12)
      rw [e3967]
      refine q_E_B ?_
      exact q_E_x j3961
    | false =>
      refine q_E_F ?_
      cases h3968 : decide ((24 * (a2 + 4)) + ((a1 / 2) + 4) < s.2.1 13 3) with
      | true =>
        have g3969 := (q_rg_ltT1 (l := -2147483648) (U := 2147483646) h3968 (q_rg_full _) (q_rg_full _) (by decide))
        have g3970 := (q_rg_ltT2 (L := -2147483647) (u2 := 2147483647) h3968 (q_rg_full _) (q_rg_full _) (by decide))
        refine q_E_T ?_
        obtain ⟨r14, e3972, j3971⟩ := dzj_N129_77_96 (s) hI ((24 * (a2 + 4)) + ((a1 / 2) + 4))
        rw [e3972]
        refine q_E_B ?_
        have j3973 := dzj_N119_96 (r14) j3971 (a1) (a2)
        refine q_E_L ?_
        generalize dz_N119_96 r14 a1 a2 = r15 at j3973 ⊢
        obtain ⟨r16, e3975, j3974⟩ := dzj_N122_96 (r14) j3971 (a1) (a2)
        rw [e3975]
        refine q_E_B ?_
        obtain ⟨r17, e3977, j3976⟩ := dzj_N123_96 (r14) j3971 (r15) (r16)
        rw [e3977]
        refine q_E_B ?_
        exact q_E_x j3971
      | false =>
        refine q_E_F ?_
        exact q_E_x hI
theorem dzj_N196  (s : q_S) (hI : q_iN s) (a0 : Int32) : (fun _ => True) (dz_N196 s a0) := trivial
set_option maxHeartbeats 4000000 in
theorem dzjb_W111_66_98_4  (k4 : q_S → Int32 → Int32 → Option (Int32)) (M4 : Int) (tk4 : ∀ (s : q_S), q_iW s → ∀ (v2 : Int32) (v3 : Int32), q_rgz 0 4096 v3 → ((4096 - v3.toInt).toNat : Int) ≤ M4 → q_Ex (k4 s v2 v3) (fun _ => True)) (s : q_S) (hI : q_iW s) (v2 : Int32) (v3 : Int32) (rv3 : q_rgz 0 4096 v3) (m4 : ((4096 - v3.toInt).toNat : Int) ≤ M4 + 1) : q_Ex (cond (decide (v3 < 4096)) (cond (q_in v3 4096) (cond (decide ((s.1 3) (v3.toNatClampNeg) = (s.1 35) (v3.toNatClampNeg))) (k4 s v2 (v3 + 1)) (k4 s (v2 + 1) (v3 + 1))) none) (some v2)) (fun _ => True) := by
  cases h21 : decide (v3 < 4096) with
  | true =>
    have g22 := (q_rg_ltT1 (l := 0) (U := 4095) h21 rv3 (q_rg_lit (n := 4096) (x := 4096) rfl) (by decide))
    refine q_E_T ?_
    refine q_E_A (q_in_rg g22 (by decide) (by decide)) ?_
    cases h23 : decide ((s.1 3) (v3.toNatClampNeg) = (s.1 35) (v3.toNatClampNeg)) with
    | true =>
      refine q_E_T ?_
      exact tk4 (s) hI (v2) (v3 + 1) (q_rg_le (L := 0) (U := 4096) (q_rg_add (L := 1) (U := 4096) g22 (q_rg_lit (n := 1) (x := 1) rfl) (by decide) (by decide) (by decide) (by decide)) (by decide) (by decide)) (q_meu g22 m4 (by decide) (by decide))
    | false =>
      refine q_E_F ?_
      exact tk4 (s) hI (v2 + 1) (v3 + 1) (q_rg_le (L := 0) (U := 4096) (q_rg_add (L := 1) (U := 4096) g22 (q_rg_lit (n := 1) (x := 1) rfl) (by decide) (by decide) (by decide) (by decide)) (by decide) (by decide)) (q_meu g22 m4 (by decide) (by decide))
  | false =>
    have g24 := (q_rg_ltF1 (l2 := 4096) (u := 4096) h21 rv3 (q_rg_lit (n := 4096) (x := 4096) rfl))
    refine q_E_F ?_
    exact q_E_x trivial
theorem dzj_W111_66_98_4  : ∀ (m : Nat) (s : q_S) (hI : q_iW s) (v2 : Int32) (v3 : Int32) (rv3 : q_rgz 0 4096 v3), ((4096 - v3.toInt).toNat : Int) ≤ (m : Int) → q_Ex (dz_W111_66_98_4 (m + 1) s v2 v3) (fun _ => True) := by
  intro m
  induction m with
  | zero => intro s hI v2 v3 rv3 hm; rw [dzs_W111_66_98_4]; exact dzjb_W111_66_98_4 (dz_W111_66_98_4 0) (-1) (fun s hI v2 v3 rv3 hm => absurd hm (by omega)) s hI v2 v3 rv3 (by omega)
  | succ m ih => intro s hI v2 v3 rv3 hm; rw [dzs_W111_66_98_4]; exact dzjb_W111_66_98_4 (dz_W111_66_98_4 (m + 1)) (m : Int) (fun s hI v2 v3 rv3 hm => ih s hI v2 v3 rv3 hm) s hI v2 v3 rv3 (by omega)
set_option maxHeartbeats 4000000 in
theorem dzj_W111_66_98  (s : q_S) (hI : q_iW s) : q_Ex (dz_W111_66_98 s) (fun _ => True) := by
  unfold dz_W111_66_98
  exact dzj_W111_66_98_4 4999 (s) hI (0) (0) (q_rg_le (L := 0) (U := 4096) (q_rg_lit (n := 0) (x := 0) rfl) (by decide) (by decide)) (q_meu0 (q_rg_lit (n := 0) (x := 0) rfl) (by decide) (by decide))
set_option maxHeartbeats 4000000 in
theorem dzj_W110_66_98  (s : q_S) (hI : q_iW s) : (q_iW) (dz_W110_66_98 s) := by
  refine q_S_of (P := (q_iW)) ?_
  unfold dz_W110_66_98
  exact q_E_x (q_iW_A (q_iW_A hI))
set_option maxHeartbeats 4000000 in
theorem dzj_W174_72_104  (s : q_S) (hI : q_iW s) : (q_iW) (dz_W174_72_104 s) := by
  refine q_S_of (P := (q_iW)) ?_
  unfold dz_W174_72_104
  exact q_E_x (q_iW_I (i := 8) (m := 4) (q_iW_I (i := 8) (m := 3) (q_iW_I (i := 8) (m := 2) (q_iW_I (i := 8) (m := 1) (q_iW_A hI) (by decide)) (by decide)) (by decide)) (by decide))
set_option maxHeartbeats 4000000 in
theorem dzj_W179_74_106  (s : q_S) (hI : q_iW s) : (q_iW) (dz_W179_74_106 s) := by
  refine q_S_of (P := (q_iW)) ?_
  unfold dz_W179_74_106
  exact q_E_x (q_iW_I (i := 10) (m := 2) (q_iW_A (q_iW_A hI)) (by decide))
set_option maxHeartbeats 4000000 in
theorem dzj_W110_78_110  (s : q_S) (hI : q_iW s) : (q_iW) (dz_W110_78_110 s) := by
  refine q_S_of (P := (q_iW)) ?_
  unfold dz_W110_78_110
  exact q_E_x (q_iW_A (q_iW_A hI))
set_option maxHeartbeats 4000000 in
theorem dzj_W126_77_109  (s : q_S) (hI : q_iW s) : (q_iW) (dz_W126_77_109 s) := by
  refine q_S_of (P := (q_iW)) ?_
  unfold dz_W126_77_109
  have j26 := dzj_W110_78_110 (s) hI
  refine q_S_L ?_
  generalize dz_W110_78_110 s = r1 at j26 ⊢
  exact q_E_x (q_iW_I (i := 13) (m := 3) (q_iW_I (i := 13) (m := 2) (q_iW_A j26) (by decide)) (by decide))
set_option maxHeartbeats 4000000 in
theorem dzj_W110_83_115  (s : q_S) (hI : q_iW s) : (q_iW) (dz_W110_83_115 s) := by
  refine q_S_of (P := (q_iW)) ?_
  unfold dz_W110_83_115
  exact q_E_x (q_iW_A (q_iW_A hI))
set_option maxHeartbeats 4000000 in
theorem dzj_W126_82_114  (s : q_S) (hI : q_iW s) : (q_iW) (dz_W126_82_114 s) := by
  refine q_S_of (P := (q_iW)) ?_
  unfold dz_W126_82_114
  have j28 := dzj_W110_83_115 (s) hI
  refine q_S_L ?_
  generalize dz_W110_83_115 s = r1 at j28 ⊢
  exact q_E_x (q_iW_I (i := 18) (m := 3) (q_iW_I (i := 18) (m := 2) (q_iW_A j28) (by decide)) (by decide))
set_option maxHeartbeats 4000000 in
theorem dzj_W85_65_97  (s : q_S) (hI : q_iW s) : (q_iW) (dz_W85_65_97 s) := by
  refine q_S_of (P := (q_iW)) ?_
  unfold dz_W85_65_97
  have j34 := dzj_W110_66_98 (s) hI
  refine q_S_L ?_
  generalize dz_W110_66_98 s = r1 at j34 ⊢
  have j35 := dzj_W174_72_104 (q_sA (q_sA (q_sA r1 5 (va_cpy (r1.1 37) (r1.1 5) 0 0 512)) 6 (va_cpy (r1.1 38) (r1.1 6) 0 0 2048)) 7 (va_cpy (r1.1 39) (r1.1 7) 0 0 2)) (q_iW_A (q_iW_A (q_iW_A j34)))
  refine q_S_L ?_
  generalize dz_W174_72_104 (q_sA (q_sA (q_sA r1 5 (va_cpy (r1.1 37) (r1.1 5) 0 0 512)) 6 (va_cpy (r1.1 38) (r1.1 6) 0 0 2048)) 7 (va_cpy (r1.1 39) (r1.1 7) 0 0 2)) = r2 at j35 ⊢
  have j36 := dzj_W179_74_106 (r2) j35
  refine q_S_L ?_
  generalize dz_W179_74_106 r2 = r3 at j36 ⊢
  have j37 := dzj_W126_77_109 (r3) j36
  refine q_S_L ?_
  generalize dz_W126_77_109 r3 = r4 at j37 ⊢
  have j38 := dzj_W126_82_114 (r4) j37
  refine q_S_L ?_
  generalize dz_W126_82_114 r4 = r5 at j38 ⊢
  exact q_E_x (q_iW_J j38)
set_option maxHeartbeats 4000000 in
theorem dzj_W131_87_119  (s : q_S) (hI : q_iW s) : q_Ex (dz_W131_87_119 s) (q_iW) := by
  unfold dz_W131_87_119
  refine q_E_A (q_z1_rg (q_rg_le (q_iW16 hI) (by decide) (by decide))) ?_
  refine q_E_A (q_z1_rg (q_rg_le (q_iW17 hI) (by decide) (by decide))) ?_
  exact q_E_x (q_iW_A (q_iW_I (i := 23) (m := 11) (q_iW_I (i := 23) (m := 10) (q_iW_I (i := 23) (m := 9) (q_iW_I (i := 23) (m := 8) (q_iW_F7 (q_iW_F6 (q_iW_I (i := 23) (m := 5) (q_iW_I (i := 23) (m := 4) (q_iW_I (i := 23) (m := 3) (q_iW_I (i := 23) (m := 2) (q_iW_I (i := 23) (m := 1) (q_iW_I (i := 23) (m := 0) hI (by decide)) (by decide)) (by decide)) (by decide)) (by decide)) (by decide)) (q_rg_le (q_iW16 hI) (by decide) (by decide))) (q_rg_le (q_iW17 hI) (by decide) (by decide))) (by decide)) (by decide)) (by decide)) (by decide)))
set_option maxHeartbeats 4000000 in
theorem dzj_W166_89_121  (s : q_S) (hI : q_iW s) : (q_iW) (dz_W166_89_121 s) := by
  refine q_S_of (P := (q_iW)) ?_
  unfold dz_W166_89_121
  exact q_E_x (q_iW_A (q_iW_A (q_iW_A (q_iW_A (q_iW_A hI)))))
set_option maxHeartbeats 4000000 in
theorem dzj_W77_64_96  (s : q_S) (hI : q_iW s) : q_Ex (dz_W77_64_96 s) (q_iW) := by
  unfold dz_W77_64_96
  have j43 := dzj_W85_65_97 (s) hI
  refine q_E_L ?_
  generalize dz_W85_65_97 s = r3 at j43 ⊢
  obtain ⟨r4, e45, j44⟩ := dzj_W131_87_119 (r3) j43
  rw [e45]
  refine q_E_B ?_
  have j46 := dzj_W166_89_121 (r4) j44
  refine q_E_L ?_
  generalize dz_W166_89_121 r4 = r5 at j46 ⊢
  exact q_E_x (q_iW_J (q_iW_A j46))
theorem dzj_W91_65  (s : q_S) (hI : q_iW s) (a1 : Int32) (a2 : Int32) : (fun _ => True) (dz_W91_65 s a1 a2) := trivial
set_option maxHeartbeats 4000000 in
theorem dzj_W90_65_73  (s : q_S) (hI : q_iW s) (v1 : Int32) (v3 : Int32) : q_Ex (dz_W90_65_73 s v1 v3) (fun _ => True) := by
  unfold dz_W90_65_73
  cases h129 : decide (v3 &&& 2 = 2) with
  | true =>
    have g130 := q_rg_eqT h129 (q_rg_lit (n := 2) (x := 2) rfl)
    refine q_E_T ?_
    cases h131 : decide (v1 < 2048) with
    | true =>
      have g132 := (q_rg_ltT1 (l := -2147483648) (U := 2047) h131 (q_rg_full _) (q_rg_lit (n := 2048) (x := 2048) rfl) (by decide))
      refine q_E_T ?_
      exact q_E_x trivial
    | false =>
      have g133 := (q_rg_ltF1 (l2 := 2048) (u := 2147483647) h131 (q_rg_full _) (q_rg_lit (n := 2048) (x := 2048) rfl))
      refine q_E_F ?_
      cases h134 : decide (v1 < 2560) with
      | true =>
        have g135 := (q_rg_ltT1 (l := 2048) (U := 2559) h134 g133 (q_rg_lit (n := 2560) (x := 2560) rfl) (by decide))
        refine q_E_T ?_
        refine q_E_A (q_in_rg (q_rg_sub (L := 0) (U := 2047) (q_rg_add (L := 2048) (U := 4095) (q_rg_mul (L := 0) (U := 1536) (q_rg_lit (n := 512) (x := 512) rfl) (q_rg_and (v3 >>> ((2 &&& 31) : Int32)) 3 (U := 3) (by decide) rfl) (by decide) (by decide) (by decide) (by decide) (by decide) (by decide)) g135 (by decide) (by decide) (by decide) (by decide)) (q_rg_lit (n := 2048) (x := 2048) rfl) (by decide) (by decide) (by decide) (by decide)) (by decide) (by decide)) ?_
        exact q_E_x trivial
      | false =>
        have g136 := (q_rg_ltF1 (l2 := 2560) (u := 2147483647) h134 g133 (q_rg_lit (n := 2560) (x := 2560) rfl))
        refine q_E_F ?_
        exact q_E_x trivial
  | false =>
    have g137 := (q_rg_neU (l := 0) (u := 2) (n := 2) (U := 1) h129 (q_rg_and v3 2 (U := 2) (by decide) rfl) rfl (by decide) (by decide))
    refine q_E_F ?_
    exact q_E_x trivial
set_option maxHeartbeats 4000000 in
theorem dzj_W90_65_31  (s : q_S) (hI : q_iW s) (v1 : Int32) : q_Ex (dz_W90_65_31 s v1) (fun _ => True) := by
  unfold dz_W90_65_31
  cases h138 : decide (((s.1 4) 0) &&& 1 = 1) with
  | true =>
    have g139 := q_rg_eqT h138 (q_rg_lit (n := 1) (x := 1) rfl)
    refine q_E_T ?_
    cases h140 : decide (v1 < 3072) with
    | true =>
      have g141 := (q_rg_ltT1 (l := -2147483648) (U := 3071) h140 (q_rg_full _) (q_rg_lit (n := 3072) (x := 3072) rfl) (by decide))
      refine q_E_T ?_
      exact dzj_W90_65_73 (s) hI (v1) ((s.1 4) 0)
    | false =>
      have g142 := (q_rg_ltF1 (l2 := 3072) (u := 2147483647) h140 (q_rg_full _) (q_rg_lit (n := 3072) (x := 3072) rfl))
      refine q_E_F ?_
      cases h143 : decide (v1 < 3584) with
      | true =>
        have g144 := (q_rg_ltT1 (l := 3072) (U := 3583) h143 g142 (q_rg_lit (n := 3584) (x := 3584) rfl) (by decide))
        refine q_E_T ?_
        exact q_E_x trivial
      | false =>
        have g145 := (q_rg_ltF1 (l2 := 3584) (u := 2147483647) h143 g142 (q_rg_lit (n := 3584) (x := 3584) rfl))
        refine q_E_F ?_
        exact dzj_W90_65_73 (s) hI (v1) ((s.1 4) 0)
  | false =>
    have g146 := (q_rg_neU (l := 0) (u := 1) (n := 1) (U := 0) h138 (q_rg_and ((s.1 4) 0) 1 (U := 1) (by decide) rfl) rfl (by decide) (by decide))
    refine q_E_F ?_
    exact dzj_W90_65_73 (s) hI (v1) ((s.1 4) 0)
set_option maxHeartbeats 4000000 in
theorem dzj_W90_65  (s : q_S) (hI : q_iW s) (a1 : Int32) : q_Ex (dz_W90_65 s a1) (fun _ => True) := by
  unfold dz_W90_65
  cases h147 : decide (a1 - 3840 < 0) with
  | true =>
    have g148 := (q_rg_ltT1 (l := -2147483648) (U := -1) h147 (q_rg_full _) (q_rg_lit (n := 0) (x := 0) rfl) (by decide))
    refine q_E_T ?_
    exact dzj_W90_65_31 (s) hI (a1)
  | false =>
    have g149 := (q_rg_ltF1 (l2 := 0) (u := 2147483647) h147 (q_rg_full _) (q_rg_lit (n := 0) (x := 0) rfl))
    refine q_E_F ?_
    cases h150 : decide (a1 - 3840 < 48) with
    | true =>
      have g151 := (q_rg_ltT1 (l := 0) (U := 47) h150 g149 (q_rg_lit (n := 48) (x := 48) rfl) (by decide))
      refine q_E_T ?_
      have j152 := dzj_W91_65 (s) hI (a1 - 3840) ((s.1 4) ((a1 - 3840).toNatClampNeg))
      refine q_E_L ?_
      generalize dz_W91_65 s (a1 - 3840) ((s.1 4) ((a1 - 3840).toNatClampNeg)) = r1 at j152 ⊢
      exact q_E_x trivial
    | false =>
      have g153 := (q_rg_ltF1 (l2 := 48) (u := 2147483647) h150 g149 (q_rg_lit (n := 48) (x := 48) rfl))
      refine q_E_F ?_
      exact dzj_W90_65_31 (s) hI (a1)
theorem dzj_W91_97  (s : q_S) (hI : q_iW s) (a1 : Int32) (a2 : Int32) : (fun _ => True) (dz_W91_97 s a1 a2) := trivial
set_option maxHeartbeats 4000000 in
theorem dzj_W90_97_73  (s : q_S) (hI : q_iW s) (v1 : Int32) (v3 : Int32) : q_Ex (dz_W90_97_73 s v1 v3) (fun _ => True) := by
  unfold dz_W90_97_73
  cases h236 : decide (v3 &&& 2 = 2) with
  | true =>
    have g237 := q_rg_eqT h236 (q_rg_lit (n := 2) (x := 2) rfl)
    refine q_E_T ?_
    cases h238 : decide (v1 < 2048) with
    | true =>
      have g239 := (q_rg_ltT1 (l := -2147483648) (U := 2047) h238 (q_rg_full _) (q_rg_lit (n := 2048) (x := 2048) rfl) (by decide))
      refine q_E_T ?_
      exact q_E_x trivial
    | false =>
      have g240 := (q_rg_ltF1 (l2 := 2048) (u := 2147483647) h238 (q_rg_full _) (q_rg_lit (n := 2048) (x := 2048) rfl))
      refine q_E_F ?_
      cases h241 : decide (v1 < 2560) with
      | true =>
        have g242 := (q_rg_ltT1 (l := 2048) (U := 2559) h241 g240 (q_rg_lit (n := 2560) (x := 2560) rfl) (by decide))
        refine q_E_T ?_
        refine q_E_A (q_in_rg (q_rg_sub (L := 0) (U := 2047) (q_rg_add (L := 2048) (U := 4095) (q_rg_mul (L := 0) (U := 1536) (q_rg_lit (n := 512) (x := 512) rfl) (q_rg_and (v3 >>> ((2 &&& 31) : Int32)) 3 (U := 3) (by decide) rfl) (by decide) (by decide) (by decide) (by decide) (by decide) (by decide)) g242 (by decide) (by decide) (by decide) (by decide)) (q_rg_lit (n := 2048) (x := 2048) rfl) (by decide) (by decide) (by decide) (by decide)) (by decide) (by decide)) ?_
        exact q_E_x trivial
      | false =>
        have g243 := (q_rg_ltF1 (l2 := 2560) (u := 2147483647) h241 g240 (q_rg_lit (n := 2560) (x := 2560) rfl))
        refine q_E_F ?_
        exact q_E_x trivial
  | false =>
    have g244 := (q_rg_neU (l := 0) (u := 2) (n := 2) (U := 1) h236 (q_rg_and v3 2 (U := 2) (by decide) rfl) rfl (by decide) (by decide))
    refine q_E_F ?_
    exact q_E_x trivial
set_option maxHeartbeats 4000000 in
theorem dzj_W90_97_31  (s : q_S) (hI : q_iW s) (v1 : Int32) : q_Ex (dz_W90_97_31 s v1) (fun _ => True) := by
  unfold dz_W90_97_31
  cases h245 : decide (((s.1 36) 0) &&& 1 = 1) with
  | true =>
    have g246 := q_rg_eqT h245 (q_rg_lit (n := 1) (x := 1) rfl)
    refine q_E_T ?_
    cases h247 : decide (v1 < 3072) with
    | true =>
      have g248 := (q_rg_ltT1 (l := -2147483648) (U := 3071) h247 (q_rg_full _) (q_rg_lit (n := 3072) (x := 3072) rfl) (by decide))
      refine q_E_T ?_
      exact dzj_W90_97_73 (s) hI (v1) ((s.1 36) 0)
    | false =>
      have g249 := (q_rg_ltF1 (l2 := 3072) (u := 2147483647) h247 (q_rg_full _) (q_rg_lit (n := 3072) (x := 3072) rfl))
      refine q_E_F ?_
      cases h250 : decide (v1 < 3584) with
      | true =>
        have g251 := (q_rg_ltT1 (l := 3072) (U := 3583) h250 g249 (q_rg_lit (n := 3584) (x := 3584) rfl) (by decide))
        refine q_E_T ?_
        exact q_E_x trivial
      | false =>
        have g252 := (q_rg_ltF1 (l2 := 3584) (u := 2147483647) h250 g249 (q_rg_lit (n := 3584) (x := 3584) rfl))
        refine q_E_F ?_
        exact dzj_W90_97_73 (s) hI (v1) ((s.1 36) 0)
  | false =>
    have g253 := (q_rg_neU (l := 0) (u := 1) (n := 1) (U := 0) h245 (q_rg_and ((s.1 36) 0) 1 (U := 1) (by decide) rfl) rfl (by decide) (by decide))
    refine q_E_F ?_
    exact dzj_W90_97_73 (s) hI (v1) ((s.1 36) 0)
set_option maxHeartbeats 4000000 in
theorem dzj_W90_97  (s : q_S) (hI : q_iW s) (a1 : Int32) : q_Ex (dz_W90_97 s a1) (fun _ => True) := by
  unfold dz_W90_97
  cases h254 : decide (a1 - 3840 < 0) with
  | true =>
    have g255 := (q_rg_ltT1 (l := -2147483648) (U := -1) h254 (q_rg_full _) (q_rg_lit (n := 0) (x := 0) rfl) (by decide))
    refine q_E_T ?_
    exact dzj_W90_97_31 (s) hI (a1)
  | false =>
    have g256 := (q_rg_ltF1 (l2 := 0) (u := 2147483647) h254 (q_rg_full _) (q_rg_lit (n := 0) (x := 0) rfl))
    refine q_E_F ?_
    cases h257 : decide (a1 - 3840 < 48) with
    | true =>
      have g258 := (q_rg_ltT1 (l := 0) (U := 47) h257 g256 (q_rg_lit (n := 48) (x := 48) rfl) (by decide))
      refine q_E_T ?_
      have j259 := dzj_W91_97 (s) hI (a1 - 3840) ((s.1 36) ((a1 - 3840).toNatClampNeg))
      refine q_E_L ?_
      generalize dz_W91_97 s (a1 - 3840) ((s.1 36) ((a1 - 3840).toNatClampNeg)) = r1 at j259 ⊢
      exact q_E_x trivial
    | false =>
      have g260 := (q_rg_ltF1 (l2 := 48) (u := 2147483647) h257 g256 (q_rg_lit (n := 48) (x := 48) rfl))
      refine q_E_F ?_
      exact dzj_W90_97_31 (s) hI (a1)
theorem dzj_W132_87_119  (s : q_S) (hI : q_iW s) : (fun _ => True) (dz_W132_87_119 s) := trivial
set_option maxHeartbeats 4000000 in
theorem dzjb_W167_89_121_2  (k2 : q_S → Int32 → Option (Bool)) (M2 : Int) (tk2 : ∀ (s : q_S), q_iW s → ∀ (v2 : Int32), q_rgz 0 40 v2 → ((40 - v2.toInt).toNat : Int) ≤ M2 → q_Ex (k2 s v2) (fun _ => True)) (s : q_S) (hI : q_iW s) (v2 : Int32) (rv2 : q_rgz 0 40 v2) (m2 : ((40 - v2.toInt).toNat : Int) ≤ M2 + 1) : q_Ex (cond (decide (v2 < 40)) (cond (q_in v2 40) (cond (decide ((s.1 30) (v2.toNatClampNeg) = (s.1 62) (v2.toNatClampNeg))) (k2 s (v2 + 1)) (some false)) none) (some true)) (fun _ => True) := by
  cases h293 : decide (v2 < 40) with
  | true =>
    have g294 := (q_rg_ltT1 (l := 0) (U := 39) h293 rv2 (q_rg_lit (n := 40) (x := 40) rfl) (by decide))
    refine q_E_T ?_
    refine q_E_A (q_in_rg g294 (by decide) (by decide)) ?_
    cases h295 : decide ((s.1 30) (v2.toNatClampNeg) = (s.1 62) (v2.toNatClampNeg)) with
    | true =>
      refine q_E_T ?_
      exact tk2 (s) hI (v2 + 1) (q_rg_le (L := 0) (U := 40) (q_rg_add (L := 1) (U := 40) g294 (q_rg_lit (n := 1) (x := 1) rfl) (by decide) (by decide) (by decide) (by decide)) (by decide) (by decide)) (q_meu g294 m2 (by decide) (by decide))
    | false =>
      refine q_E_F ?_
      exact q_E_x trivial
  | false =>
    have g296 := (q_rg_ltF1 (l2 := 40) (u := 40) h293 rv2 (q_rg_lit (n := 40) (x := 40) rfl))
    refine q_E_F ?_
    exact q_E_x trivial
theorem dzj_W167_89_121_2  : ∀ (m : Nat) (s : q_S) (hI : q_iW s) (v2 : Int32) (rv2 : q_rgz 0 40 v2), ((40 - v2.toInt).toNat : Int) ≤ (m : Int) → q_Ex (dz_W167_89_121_2 (m + 1) s v2) (fun _ => True) := by
  intro m
  induction m with
  | zero => intro s hI v2 rv2 hm; rw [dzs_W167_89_121_2]; exact dzjb_W167_89_121_2 (dz_W167_89_121_2 0) (-1) (fun s hI v2 rv2 hm => absurd hm (by omega)) s hI v2 rv2 (by omega)
  | succ m ih => intro s hI v2 rv2 hm; rw [dzs_W167_89_121_2]; exact dzjb_W167_89_121_2 (dz_W167_89_121_2 (m + 1)) (m : Int) (fun s hI v2 rv2 hm => ih s hI v2 rv2 hm) s hI v2 rv2 (by omega)
set_option maxHeartbeats 4000000 in
theorem dzj_W167_89_121  (s : q_S) (hI : q_iW s) : q_Ex (dz_W167_89_121 s) (fun _ => True) := by
  unfold dz_W167_89_121
  exact dzj_W167_89_121_2 4999 (s) hI (0) (q_rg_le (L := 0) (U := 40) (q_rg_lit (n := 0) (x := 0) rfl) (by decide) (by decide)) (q_meu0 (q_rg_lit (n := 0) (x := 0) rfl) (by decide) (by decide))
set_option maxHeartbeats 4000000 in
theorem dzjb_W78_64_96_45  (k45 : q_S → Int32 → Option (Bool)) (M45 : Int) (tk45 : ∀ (s : q_S), q_iW s → ∀ (v2 : Int32), q_rgz 0 1024 v2 → ((1024 - v2.toInt).toNat : Int) ≤ M45 → q_Ex (k45 s v2) (fun _ => True)) (s : q_S) (hI : q_iW s) (v2 : Int32) (rv2 : q_rgz 0 1024 v2) (m45 : ((1024 - v2.toInt).toNat : Int) ≤ M45 + 1) : q_Ex (cond (decide (v2 < 1024)) (cond (q_in v2 1024) (cond (decide ((s.1 31) (v2.toNatClampNeg) = (s.1 63) (v2.toNatClampNeg))) (k45 s (v2 + 1)) (some false)) none) ((dz_W111_66_98 s).bind fun r3 => cond (decide (r3 = 0)) (q_let (dz_W132_87_119 s) fun r4 => cond r4 ((dz_W167_89_121 s).bind fun r5 => cond r5 (some true) (some false)) (some false)) (some false))) (fun _ => True) := by
  cases h393 : decide (v2 < 1024) with
  | true =>
    have g394 := (q_rg_ltT1 (l := 0) (U := 1023) h393 rv2 (q_rg_lit (n := 1024) (x := 1024) rfl) (by decide))
    refine q_E_T ?_
    refine q_E_A (q_in_rg g394 (by decide) (by decide)) ?_
    cases h395 : decide ((s.1 31) (v2.toNatClampNeg) = (s.1 63) (v2.toNatClampNeg)) with
    | true =>
      refine q_E_T ?_
      exact tk45 (s) hI (v2 + 1) (q_rg_le (L := 0) (U := 1024) (q_rg_add (L := 1) (U := 1024) g394 (q_rg_lit (n := 1) (x := 1) rfl) (by decide) (by decide) (by decide) (by decide)) (by decide) (by decide)) (q_meu g394 m45 (by decide) (by decide))
    | false =>
      refine q_E_F ?_
      exact q_E_x trivial
  | false =>
    have g396 := (q_rg_ltF1 (l2 := 1024) (u := 1024) h393 rv2 (q_rg_lit (n := 1024) (x := 1024) rfl))
    refine q_E_F ?_
    obtain ⟨r3, e398, j397⟩ := dzj_W111_66_98 (s) hI
    rw [e398]
    refine q_E_B ?_
    cases h399 : decide (r3 = 0) with
    | true =>
      have g400 := q_rg_eqT h399 (q_rg_lit (n := 0) (x := 0) rfl)
      refine q_E_T ?_
      have j401 := dzj_W132_87_119 (s) hI
      refine q_E_L ?_
      generalize dz_W132_87_119 s = r4 at j401 ⊢
      cases h402 : r4 with
      | true =>
        refine q_E_T ?_
        obtain ⟨r5, e404, j403⟩ := dzj_W167_89_121 (s) hI
        rw [e404]
        refine q_E_B ?_
        cases h405 : r5 with
        | true =>
          refine q_E_T ?_
          exact q_E_x trivial
        | false =>
          refine q_E_F ?_
          exact q_E_x trivial
      | false =>
        refine q_E_F ?_
        exact q_E_x trivial
    | false =>
      refine q_E_F ?_
      exact q_E_x trivial
theorem dzj_W78_64_96_45  : ∀ (m : Nat) (s : q_S) (hI : q_iW s) (v2 : Int32) (rv2 : q_rgz 0 1024 v2), ((1024 - v2.toInt).toNat : Int) ≤ (m : Int) → q_Ex (dz_W78_64_96_45 (m + 1) s v2) (fun _ => True) := by
  intro m
  induction m with
  | zero => intro s hI v2 rv2 hm; rw [dzs_W78_64_96_45]; exact dzjb_W78_64_96_45 (dz_W78_64_96_45 0) (-1) (fun s hI v2 rv2 hm => absurd hm (by omega)) s hI v2 rv2 (by omega)
  | succ m ih => intro s hI v2 rv2 hm; rw [dzs_W78_64_96_45]; exact dzjb_W78_64_96_45 (dz_W78_64_96_45 (m + 1)) (m : Int) (fun s hI v2 rv2 hm => ih s hI v2 rv2 hm) s hI v2 rv2 (by omega)
set_option maxHeartbeats 4000000 in
theorem dzjb_W78_64_96_2  (k2 : q_S → Int32 → Option (Bool)) (M2 : Int) (tk2 : ∀ (s : q_S), q_iW s → ∀ (v2 : Int32), q_rgz 0 48 v2 → ((48 - v2.toInt).toNat : Int) ≤ M2 → q_Ex (k2 s v2) (fun _ => True)) (s : q_S) (hI : q_iW s) (v2 : Int32) (rv2 : q_rgz 0 48 v2) (m2 : ((48 - v2.toInt).toNat : Int) ≤ M2 + 1) : q_Ex (cond (decide (v2 < 48)) ((dz_W90_65 s ((3840 : Int32) + v2)).bind fun r1 => (dz_W90_97 s ((3840 : Int32) + v2)).bind fun r2 => cond (decide (r1 = r2)) (k2 s (v2 + 1)) (some false)) (dz_W78_64_96_45 5000 s 0)) (fun _ => True) := by
  cases h406 : decide (v2 < 48) with
  | true =>
    have g407 := (q_rg_ltT1 (l := 0) (U := 47) h406 rv2 (q_rg_lit (n := 48) (x := 48) rfl) (by decide))
    refine q_E_T ?_
    obtain ⟨r1, e409, j408⟩ := dzj_W90_65 (s) hI ((3840 : Int32) + v2)
    rw [e409]
    refine q_E_B ?_
    obtain ⟨r2, e411, j410⟩ := dzj_W90_97 (s) hI ((3840 : Int32) + v2)
    rw [e411]
    refine q_E_B ?_
    cases h412 : decide (r1 = r2) with
    | true =>
      refine q_E_T ?_
      exact tk2 (s) hI (v2 + 1) (q_rg_le (L := 0) (U := 48) (q_rg_add (L := 1) (U := 48) g407 (q_rg_lit (n := 1) (x := 1) rfl) (by decide) (by decide) (by decide) (by decide)) (by decide) (by decide)) (q_meu g407 m2 (by decide) (by decide))
    | false =>
      refine q_E_F ?_
      exact q_E_x trivial
  | false =>
    have g413 := (q_rg_ltF1 (l2 := 48) (u := 48) h406 rv2 (q_rg_lit (n := 48) (x := 48) rfl))
    refine q_E_F ?_
    exact dzj_W78_64_96_45 4999 (s) hI (0) (q_rg_le (L := 0) (U := 1024) (q_rg_lit (n := 0) (x := 0) rfl) (by decide) (by decide)) (q_meu0 (q_rg_lit (n := 0) (x := 0) rfl) (by decide) (by decide))
theorem dzj_W78_64_96_2  : ∀ (m : Nat) (s : q_S) (hI : q_iW s) (v2 : Int32) (rv2 : q_rgz 0 48 v2), ((48 - v2.toInt).toNat : Int) ≤ (m : Int) → q_Ex (dz_W78_64_96_2 (m + 1) s v2) (fun _ => True) := by
  intro m
  induction m with
  | zero => intro s hI v2 rv2 hm; rw [dzs_W78_64_96_2]; exact dzjb_W78_64_96_2 (dz_W78_64_96_2 0) (-1) (fun s hI v2 rv2 hm => absurd hm (by omega)) s hI v2 rv2 (by omega)
  | succ m ih => intro s hI v2 rv2 hm; rw [dzs_W78_64_96_2]; exact dzjb_W78_64_96_2 (dz_W78_64_96_2 (m + 1)) (m : Int) (fun s hI v2 rv2 hm => ih s hI v2 rv2 hm) s hI v2 rv2 (by omega)
set_option maxHeartbeats 4000000 in
theorem dzj_W78_64_96  (s : q_S) (hI : q_iW s) : q_Ex (dz_W78_64_96 s) (fun _ => True) := by
  unfold dz_W78_64_96
  exact dzj_W78_64_96_2 4999 (s) hI (0) (q_rg_le (L := 0) (U := 48) (q_rg_lit (n := 0) (x := 0) rfl) (by decide) (by decide)) (q_meu0 (q_rg_lit (n := 0) (x := 0) rfl) (by decide) (by decide))
end
section
-- 52.s
section
variable {K b b2 T : Nat → Bool} {F : (Nat → Bool) → Nat → Bool}
/-- one key of a sweep; a sweep -/
def q_k1 (K : Nat → Bool) (j : Nat) (b : Nat → Bool) : Nat → Bool := fun i => cond (K j && (Nat.beq i (j / 4) || Nat.beq i (4 + j % 4))) (b (j / 4) || b (4 + j % 4)) (b i)
def q_kNn (K : Nat → Bool) (n : Nat) (b : Nat → Bool) : Nat → Bool := Nat.rec (motive := fun _ => Nat → Bool) b (fun j r => q_k1 K j r) n
def q_it (F : (Nat → Bool) → Nat → Bool) (n : Nat) (b : Nat → Bool) : Nat → Bool := Nat.rec (motive := fun _ => Nat → Bool) b (fun _ r => F r) n
def q_kcl (K T : Nat → Bool) : Prop := ∀ j, j < 16 → K j = true → T (j / 4) = T (4 + j % 4)
def q_ksb (b T : Nat → Bool) : Prop := ∀ i, i < 8 → b i = true → T i = true
theorem q_k1_inf {j i : Nat} (h : b i = true) : q_k1 K j b i = true := by
  unfold q_k1
  cases e : (K j && (Nat.beq i (j / 4) || Nat.beq i (4 + j % 4))) with
  | false => exact h
  | true =>
    rw [Bool.and_eq_true, Bool.or_eq_true] at e
    rcases e.2 with q | q
    · rw [← Nat.eq_of_beq_eq_true q, h]; rfl
    · rw [← Nat.eq_of_beq_eq_true q, h]; exact Bool.or_true _
theorem q_k1_cl {j : Nat} (hT : q_kcl K T) (hj : j < 16) (h : q_ksb b T) : q_ksb (q_k1 K j b) T := by
  intro i hi q
  unfold q_k1 at q
  cases e : (K j && (Nat.beq i (j / 4) || Nat.beq i (4 + j % 4))) with
  | false => rw [e] at q; exact h i hi q
  | true =>
    rw [e, cond_true] at q
    rw [Bool.and_eq_true, Bool.or_eq_true] at e
    have t := hT j hj e.1
    have g : T (j / 4) = true := by
      rcases (Bool.or_eq_true _ _).mp q with p | p
      · exact h _ (by omega) p
      · rw [t]; exact h _ (by omega) p
    rcases e.2 with p | p
    · rw [Nat.eq_of_beq_eq_true p]; exact g
    · rw [Nat.eq_of_beq_eq_true p, ← t]; exact g
theorem q_nbF {i n : Nat} (h : ¬ i = n) : Nat.beq i n = false := by
  cases e : Nat.beq i n with
  | false => rfl
  | true => exact absurd (Nat.eq_of_beq_eq_true e) h
theorem q_nbT {i n : Nat} (h : i = n) : Nat.beq i n = true := by rw [h]; exact Nat.beq_refl n
theorem q_k1_out {j i : Nat} (hj : j < 16) (hi : 8 ≤ i) : q_k1 K j b i = b i := by
  unfold q_k1
  rw [q_nbF (show ¬ i = j / 4 by omega), q_nbF (show ¬ i = 4 + j % 4 by omega), Bool.or_false, Bool.and_false]
  rfl
theorem q_k1_st {j : Nat} (hK : K j = true) (h : b (j / 4) = true ∨ b (4 + j % 4) = true) : q_k1 K j b (j / 4) = true ∧ q_k1 K j b (4 + j % 4) = true := by
  have g : (b (j / 4) || b (4 + j % 4)) = true := (Bool.or_eq_true _ _).mpr h
  unfold q_k1
  rw [hK, q_nbT (show j / 4 = j / 4 from rfl), q_nbT (show 4 + j % 4 = 4 + j % 4 from rfl), Bool.true_or, Bool.or_true]
  exact ⟨g, g⟩
theorem q_kNn_inf {i : Nat} (h : b i = true) : ∀ n, q_kNn K n b i = true := by
  intro n
  induction n with
  | zero => exact h
  | succ n ih => exact q_k1_inf ih
theorem q_kNn_cl (hT : q_kcl K T) (h : q_ksb b T) : ∀ n, n ≤ 16 → q_ksb (q_kNn K n b) T := by
  intro n
  induction n with
  | zero => intro _; exact h
  | succ n ih => intro hn; exact q_k1_cl hT (by omega) (ih (by omega))
theorem q_kNn_out {i : Nat} (hi : 8 ≤ i) : ∀ n, n ≤ 16 → q_kNn K n b i = b i := by
  intro n
  induction n with
  | zero => intro _; rfl
  | succ n ih => intro hn; exact (q_k1_out (by omega) hi).trans (ih (by omega))
theorem q_kNn_st {j : Nat} (hK : K j = true) (h : b (j / 4) = true ∨ b (4 + j % 4) = true) : ∀ n, j < n → q_kNn K n b (j / 4) = true ∧ q_kNn K n b (4 + j % 4) = true := by
  intro n
  induction n with
  | zero => intro q; omega
  | succ n ih =>
    intro q
    by_cases e : j = n
    · subst e
      have g : q_kNn K j b (j / 4) = true ∨ q_kNn K j b (4 + j % 4) = true := by
        rcases h with p | p
        · exact Or.inl (q_kNn_inf p j)
        · exact Or.inr (q_kNn_inf p j)
      exact q_k1_st hK g
    · obtain ⟨g1, g2⟩ := ih (by omega)
      exact ⟨q_k1_inf g1, q_k1_inf g2⟩
theorem q_bext {a c : Bool} (h1 : a = true → c = true) (h2 : c = true → a = true) : a = c := by
  cases a with
  | false =>
    cases c with
    | false => rfl
    | true => exact h2 rfl
  | true => exact (h1 rfl).symm
theorem q_kfix (h : q_kNn K 16 b = b) : q_kcl K b := by
  intro j hj hK
  refine q_bext (fun q => ?_) (fun q => ?_)
  · have g := (q_kNn_st hK (Or.inl q) 16 hj).2
    rw [h] at g; exact g
  · have g := (q_kNn_st hK (Or.inr q) 16 hj).1
    rw [h] at g; exact g
theorem q_it_fix {u : Nat} (h : F (q_it F u b) = q_it F u b) : ∀ k, q_it F (u + k) b = q_it F u b := by
  intro k
  induction k with
  | zero => rfl
  | succ k ih =>
    show F (q_it F (u + k) b) = _
    rw [ih, h]
/-- how many of some are true -/
def q_yn1 (a : Bool) : Nat := cond a 1 0
theorem q_yn1_le (a : Bool) : q_yn1 a ≤ 1 := by cases a <;> decide
theorem q_yn1_mo {a c : Bool} (h : a = true → c = true) : q_yn1 a ≤ q_yn1 c := by
  cases a with
  | false => exact Nat.zero_le _
  | true => rw [h rfl]; exact Nat.le_refl _
theorem q_yn1_eq {a c : Bool} (h : q_yn1 a = q_yn1 c) : a = c := by
  cases a <;> cases c <;> first | rfl | (cases h)
theorem q_yn1_0 {a : Bool} (h : q_yn1 a = 0) : a = false := by
  cases a with
  | false => rfl
  | true => cases h
def q_c4 (b : Nat → Bool) : Nat := q_yn1 (b 0) + q_yn1 (b 1) + q_yn1 (b 2) + q_yn1 (b 3)
def q_c8 (b : Nat → Bool) : Nat := q_c4 b + (q_yn1 (b 4) + q_yn1 (b 5) + q_yn1 (b 6) + q_yn1 (b 7))
theorem q_i8 {i : Nat} (h : i < 8) : i = 0 ∨ i = 1 ∨ i = 2 ∨ i = 3 ∨ i = 4 ∨ i = 5 ∨ i = 6 ∨ i = 7 := by omega
theorem q_c4_eq (h : ∀ i, i < 4 → b i = true → b2 i = true) (hc : q_c4 b2 ≤ q_c4 b) : ∀ i, i < 4 → b2 i = b i := by
  have g0 := q_yn1_mo (h 0 (by decide))
  have g1 := q_yn1_mo (h 1 (by decide))
  have g2 := q_yn1_mo (h 2 (by decide))
  have g3 := q_yn1_mo (h 3 (by decide))
  unfold q_c4 at hc
  intro i hi
  rcases (by omega : i = 0 ∨ i = 1 ∨ i = 2 ∨ i = 3) with rfl | rfl | rfl | rfl <;> exact q_yn1_eq (by omega)
theorem q_c8_eq (h : ∀ i, i < 8 → b i = true → b2 i = true) (hc : q_c8 b2 ≤ q_c8 b) : ∀ i, i < 8 → b2 i = b i := by
  have g0 := q_yn1_mo (h 0 (by decide))
  have g1 := q_yn1_mo (h 1 (by decide))
  have g2 := q_yn1_mo (h 2 (by decide))
  have g3 := q_yn1_mo (h 3 (by decide))
  have g4 := q_yn1_mo (h 4 (by decide))
  have g5 := q_yn1_mo (h 5 (by decide))
  have g6 := q_yn1_mo (h 6 (by decide))
  have g7 := q_yn1_mo (h 7 (by decide))
  unfold q_c8 q_c4 at hc
  intro i hi
  rcases q_i8 hi with rfl | rfl | rfl | rfl | rfl | rfl | rfl | rfl <;> exact q_yn1_eq (by omega)
theorem q_kFal : q_kcl K (fun _ => false) := fun _ _ _ => rfl
/-- eight sweeps are enough -/
theorem q_mfix (K b : Nat → Bool) : q_kNn K 16 (q_it (q_kNn K 16) 8 b) = q_it (q_kNn K 16) 8 b := by
  have key : ∀ t, (∃ u, u < t ∧ q_kNn K 16 (q_it (q_kNn K 16) u b) = q_it (q_kNn K 16) u b) ∨ q_c8 b + t ≤ q_c8 (q_it (q_kNn K 16) t b) := by
    intro t
    induction t with
    | zero => exact Or.inr (Nat.le_refl _)
    | succ t ih =>
      rcases ih with ⟨u, hu, h⟩ | h
      · exact Or.inl ⟨u, by omega, h⟩
      · by_cases e : q_kNn K 16 (q_it (q_kNn K 16) t b) = q_it (q_kNn K 16) t b
        · exact Or.inl ⟨t, by omega, e⟩
        · refine Or.inr ?_
          show q_c8 b + (t + 1) ≤ q_c8 (q_kNn K 16 (q_it (q_kNn K 16) t b))
          refine Classical.byContradiction fun q => e ?_
          have g := q_c8_eq (b := q_it (q_kNn K 16) t b) (b2 := q_kNn K 16 (q_it (q_kNn K 16) t b)) (fun i _ p => q_kNn_inf p 16) (by omega)
          funext i
          rcases Nat.lt_or_ge i 8 with p | p
          · exact g i p
          · exact q_kNn_out p 16 (by decide)
  have fin : ∃ u, u ≤ 8 ∧ q_kNn K 16 (q_it (q_kNn K 16) u b) = q_it (q_kNn K 16) u b := by
    rcases key 8 with ⟨u, hu, h⟩ | h
    · exact ⟨u, by omega, h⟩
    · refine ⟨0, by decide, ?_⟩
      have m : q_c8 (q_it (q_kNn K 16) 8 b) ≤ 8 := by
        generalize q_it (q_kNn K 16) 8 b = s
        have a0 := q_yn1_le (s 0)
        have a1 := q_yn1_le (s 1)
        have a2 := q_yn1_le (s 2)
        have a3 := q_yn1_le (s 3)
        have a4 := q_yn1_le (s 4)
        have a5 := q_yn1_le (s 5)
        have a6 := q_yn1_le (s 6)
        have a7 := q_yn1_le (s 7)
        unfold q_c8 q_c4
        omega
      have z : q_c8 b = 0 := by omega
      unfold q_c8 q_c4 at z
      have zz : ∀ i, i < 8 → b i = false := by
        intro i hi
        rcases q_i8 hi with rfl | rfl | rfl | rfl | rfl | rfl | rfl | rfl <;> exact q_yn1_0 (by omega)
      show q_kNn K 16 b = b
      funext i
      rcases Nat.lt_or_ge i 8 with p | p
      · rw [zz i p]
        cases e : q_kNn K 16 b i with
        | false => rfl
        | true => exact (Bool.false_ne_true (q_kNn_cl q_kFal (fun i hi q => by rw [zz i hi] at q; cases q) 16 (by decide) i p e)).elim
      · exact q_kNn_out p 16 (by decide)
  obtain ⟨u, hu, h⟩ := fin
  have e := q_it_fix h (8 - u)
  rw [show u + (8 - u) = 8 by omega] at e
  rw [e, h]
theorem q_it_cl (hT : q_kcl K T) (h : q_ksb b T) : ∀ n, q_ksb (q_it (q_kNn K 16) n b) T := by
  intro n
  induction n with
  | zero => exact h
  | succ n ih => exact q_kNn_cl hT ih 16 (by decide)
theorem q_it_inf {i : Nat} (h : b i = true) : ∀ n, q_it (q_kNn K 16) n b i = true := by
  intro n
  induction n with
  | zero => exact h
  | succ n ih => exact q_kNn_inf ih 16
/-- the class' turn: columns, then rows -/
def q_pc (K b : Nat → Bool) : Nat → Bool := fun i => cond (Nat.beq i 4) (b 4 || (b 0 && K 0) || (b 1 && K 4) || (b 2 && K 8) || (b 3 && K 12)) (cond (Nat.beq i 5) (b 5 || (b 0 && K 1) || (b 1 && K 5) || (b 2 && K 9) || (b 3 && K 13)) (cond (Nat.beq i 6) (b 6 || (b 0 && K 2) || (b 1 && K 6) || (b 2 && K 10) || (b 3 && K 14)) (cond (Nat.beq i 7) (b 7 || (b 0 && K 3) || (b 1 && K 7) || (b 2 && K 11) || (b 3 && K 15)) (b i))))
def q_pr (K b : Nat → Bool) : Nat → Bool := fun i => cond (Nat.beq i 0) (b 0 || ((K 0 && b 4) || (K 1 && b 5) || (K 2 && b 6) || (K 3 && b 7))) (cond (Nat.beq i 1) (b 1 || ((K 4 && b 4) || (K 5 && b 5) || (K 6 && b 6) || (K 7 && b 7))) (cond (Nat.beq i 2) (b 2 || ((K 8 && b 4) || (K 9 && b 5) || (K 10 && b 6) || (K 11 && b 7))) (cond (Nat.beq i 3) (b 3 || ((K 12 && b 4) || (K 13 && b 5) || (K 14 && b 6) || (K 15 && b 7))) (b i))))
def q_pp (K b : Nat → Bool) : Nat → Bool := q_pr K (q_pc K b)
theorem q_pc_inf {i : Nat} (h : b i = true) : q_pc K b i = true := by
  by_cases q : 4 ≤ i ∧ i < 8
  · rcases (by omega : i = 4 ∨ i = 5 ∨ i = 6 ∨ i = 7) with rfl | rfl | rfl | rfl
    · show (b 4 || (b 0 && K 0) || (b 1 && K 4) || (b 2 && K 8) || (b 3 && K 12)) = true
      rw [h]; rfl
    · show (b 5 || (b 0 && K 1) || (b 1 && K 5) || (b 2 && K 9) || (b 3 && K 13)) = true
      rw [h]; rfl
    · show (b 6 || (b 0 && K 2) || (b 1 && K 6) || (b 2 && K 10) || (b 3 && K 14)) = true
      rw [h]; rfl
    · show (b 7 || (b 0 && K 3) || (b 1 && K 7) || (b 2 && K 11) || (b 3 && K 15)) = true
      rw [h]; rfl
  · unfold q_pc
    rw [q_nbF (show ¬ i = 4 by omega), q_nbF (show ¬ i = 5 by omega), q_nbF (show ¬ i = 6 by omega), q_nbF (show ¬ i = 7 by omega)]
    exact h
theorem q_pr_inf {i : Nat} (h : b i = true) : q_pr K b i = true := by
  by_cases q : i < 4
  · rcases (by omega : i = 0 ∨ i = 1 ∨ i = 2 ∨ i = 3) with rfl | rfl | rfl | rfl
    · show (b 0 || ((K 0 && b 4) || (K 1 && b 5) || (K 2 && b 6) || (K 3 && b 7))) = true
      rw [h]; rfl
    · show (b 1 || ((K 4 && b 4) || (K 5 && b 5) || (K 6 && b 6) || (K 7 && b 7))) = true
      rw [h]; rfl
    · show (b 2 || ((K 8 && b 4) || (K 9 && b 5) || (K 10 && b 6) || (K 11 && b 7))) = true
      rw [h]; rfl
    · show (b 3 || ((K 12 && b 4) || (K 13 && b 5) || (K 14 && b 6) || (K 15 && b 7))) = true
      rw [h]; rfl
  · unfold q_pr
    rw [q_nbF (show ¬ i = 0 by omega), q_nbF (show ¬ i = 1 by omega), q_nbF (show ¬ i = 2 by omega), q_nbF (show ¬ i = 3 by omega)]
    exact h
theorem q_pc_out {i : Nat} (h : i < 4 ∨ 8 ≤ i) : q_pc K b i = b i := by
  unfold q_pc
  rw [q_nbF (show ¬ i = 4 by omega), q_nbF (show ¬ i = 5 by omega), q_nbF (show ¬ i = 6 by omega), q_nbF (show ¬ i = 7 by omega)]
  rfl
theorem q_pr_out {i : Nat} (h : 4 ≤ i) : q_pr K b i = b i := by
  unfold q_pr
  rw [q_nbF (show ¬ i = 0 by omega), q_nbF (show ¬ i = 1 by omega), q_nbF (show ¬ i = 2 by omega), q_nbF (show ¬ i = 3 by omega)]
  rfl
theorem q_or5 {a c e f g : Bool} (h : (a || c || e || f || g) = true) : a = true ∨ c = true ∨ e = true ∨ f = true ∨ g = true := by
  cases a <;> cases c <;> cases e <;> cases f <;> cases g <;> simp_all
theorem q_or5b {a c e f g : Bool} (h : (a || (c || e || f || g)) = true) : a = true ∨ c = true ∨ e = true ∨ f = true ∨ g = true := by
  cases a <;> cases c <;> cases e <;> cases f <;> cases g <;> simp_all
theorem q_and2 {a c : Bool} (h : (a && c) = true) : a = true ∧ c = true := (Bool.and_eq_true _ _).mp h
theorem q_pc_cl (hT : q_kcl K T) (h : q_ksb b T) : q_ksb (q_pc K b) T := by
  intro i hi q
  by_cases p : 4 ≤ i
  · rcases (by omega : i = 4 ∨ i = 5 ∨ i = 6 ∨ i = 7) with rfl | rfl | rfl | rfl
    · have q : (b 4 || (b 0 && K 0) || (b 1 && K 4) || (b 2 && K 8) || (b 3 && K 12)) = true := q
      rcases q_or5 q with s | s | s | s | s
      · exact h _ (by decide) s
      · have t : T 0 = T 4 := hT 0 (by decide) (q_and2 s).2
        rw [← t]; exact h _ (by decide) (q_and2 s).1
      · have t : T 1 = T 4 := hT 4 (by decide) (q_and2 s).2
        rw [← t]; exact h _ (by decide) (q_and2 s).1
      · have t : T 2 = T 4 := hT 8 (by decide) (q_and2 s).2
        rw [← t]; exact h _ (by decide) (q_and2 s).1
      · have t : T 3 = T 4 := hT 12 (by decide) (q_and2 s).2
        rw [← t]; exact h _ (by decide) (q_and2 s).1
    · have q : (b 5 || (b 0 && K 1) || (b 1 && K 5) || (b 2 && K 9) || (b 3 && K 13)) = true := q
      rcases q_or5 q with s | s | s | s | s
      · exact h _ (by decide) s
      · have t : T 0 = T 5 := hT 1 (by decide) (q_and2 s).2
        rw [← t]; exact h _ (by decide) (q_and2 s).1
      · have t : T 1 = T 5 := hT 5 (by decide) (q_and2 s).2
        rw [← t]; exact h _ (by decide) (q_and2 s).1
      · have t : T 2 = T 5 := hT 9 (by decide) (q_and2 s).2
        rw [← t]; exact h _ (by decide) (q_and2 s).1
      · have t : T 3 = T 5 := hT 13 (by decide) (q_and2 s).2
        rw [← t]; exact h _ (by decide) (q_and2 s).1
    · have q : (b 6 || (b 0 && K 2) || (b 1 && K 6) || (b 2 && K 10) || (b 3 && K 14)) = true := q
      rcases q_or5 q with s | s | s | s | s
      · exact h _ (by decide) s
      · have t : T 0 = T 6 := hT 2 (by decide) (q_and2 s).2
        rw [← t]; exact h _ (by decide) (q_and2 s).1
      · have t : T 1 = T 6 := hT 6 (by decide) (q_and2 s).2
        rw [← t]; exact h _ (by decide) (q_and2 s).1
      · have t : T 2 = T 6 := hT 10 (by decide) (q_and2 s).2
        rw [← t]; exact h _ (by decide) (q_and2 s).1
      · have t : T 3 = T 6 := hT 14 (by decide) (q_and2 s).2
        rw [← t]; exact h _ (by decide) (q_and2 s).1
    · have q : (b 7 || (b 0 && K 3) || (b 1 && K 7) || (b 2 && K 11) || (b 3 && K 15)) = true := q
      rcases q_or5 q with s | s | s | s | s
      · exact h _ (by decide) s
      · have t : T 0 = T 7 := hT 3 (by decide) (q_and2 s).2
        rw [← t]; exact h _ (by decide) (q_and2 s).1
      · have t : T 1 = T 7 := hT 7 (by decide) (q_and2 s).2
        rw [← t]; exact h _ (by decide) (q_and2 s).1
      · have t : T 2 = T 7 := hT 11 (by decide) (q_and2 s).2
        rw [← t]; exact h _ (by decide) (q_and2 s).1
      · have t : T 3 = T 7 := hT 15 (by decide) (q_and2 s).2
        rw [← t]; exact h _ (by decide) (q_and2 s).1
  · rw [q_pc_out (Or.inl (by omega))] at q
    exact h i hi q
theorem q_pr_cl (hT : q_kcl K T) (h : q_ksb b T) : q_ksb (q_pr K b) T := by
  intro i hi q
  by_cases p : i < 4
  · rcases (by omega : i = 0 ∨ i = 1 ∨ i = 2 ∨ i = 3) with rfl | rfl | rfl | rfl
    · have q : (b 0 || ((K 0 && b 4) || (K 1 && b 5) || (K 2 && b 6) || (K 3 && b 7))) = true := q
      rcases q_or5b q with s | s | s | s | s
      · exact h _ (by decide) s
      · have t : T 0 = T 4 := hT 0 (by decide) (q_and2 s).1
        rw [t]; exact h _ (by decide) (q_and2 s).2
      · have t : T 0 = T 5 := hT 1 (by decide) (q_and2 s).1
        rw [t]; exact h _ (by decide) (q_and2 s).2
      · have t : T 0 = T 6 := hT 2 (by decide) (q_and2 s).1
        rw [t]; exact h _ (by decide) (q_and2 s).2
      · have t : T 0 = T 7 := hT 3 (by decide) (q_and2 s).1
        rw [t]; exact h _ (by decide) (q_and2 s).2
    · have q : (b 1 || ((K 4 && b 4) || (K 5 && b 5) || (K 6 && b 6) || (K 7 && b 7))) = true := q
      rcases q_or5b q with s | s | s | s | s
      · exact h _ (by decide) s
      · have t : T 1 = T 4 := hT 4 (by decide) (q_and2 s).1
        rw [t]; exact h _ (by decide) (q_and2 s).2
      · have t : T 1 = T 5 := hT 5 (by decide) (q_and2 s).1
        rw [t]; exact h _ (by decide) (q_and2 s).2
      · have t : T 1 = T 6 := hT 6 (by decide) (q_and2 s).1
        rw [t]; exact h _ (by decide) (q_and2 s).2
      · have t : T 1 = T 7 := hT 7 (by decide) (q_and2 s).1
        rw [t]; exact h _ (by decide) (q_and2 s).2
    · have q : (b 2 || ((K 8 && b 4) || (K 9 && b 5) || (K 10 && b 6) || (K 11 && b 7))) = true := q
      rcases q_or5b q with s | s | s | s | s
      · exact h _ (by decide) s
      · have t : T 2 = T 4 := hT 8 (by decide) (q_and2 s).1
        rw [t]; exact h _ (by decide) (q_and2 s).2
      · have t : T 2 = T 5 := hT 9 (by decide) (q_and2 s).1
        rw [t]; exact h _ (by decide) (q_and2 s).2
      · have t : T 2 = T 6 := hT 10 (by decide) (q_and2 s).1
        rw [t]; exact h _ (by decide) (q_and2 s).2
      · have t : T 2 = T 7 := hT 11 (by decide) (q_and2 s).1
        rw [t]; exact h _ (by decide) (q_and2 s).2
    · have q : (b 3 || ((K 12 && b 4) || (K 13 && b 5) || (K 14 && b 6) || (K 15 && b 7))) = true := q
      rcases q_or5b q with s | s | s | s | s
      · exact h _ (by decide) s
      · have t : T 3 = T 4 := hT 12 (by decide) (q_and2 s).1
        rw [t]; exact h _ (by decide) (q_and2 s).2
      · have t : T 3 = T 5 := hT 13 (by decide) (q_and2 s).1
        rw [t]; exact h _ (by decide) (q_and2 s).2
      · have t : T 3 = T 6 := hT 14 (by decide) (q_and2 s).1
        rw [t]; exact h _ (by decide) (q_and2 s).2
      · have t : T 3 = T 7 := hT 15 (by decide) (q_and2 s).1
        rw [t]; exact h _ (by decide) (q_and2 s).2
  · rw [q_pr_out (by omega)] at q
    exact h i hi q
theorem q_pp_fix (h : q_pp K b = b) : q_kcl K b := by
  have h1 : q_pc K b = b := by
    funext i
    refine q_bext (fun q => ?_) (fun q => q_pc_inf q)
    have g := congrFun h i
    have g2 : q_pp K b i = true := q_pr_inf q
    rw [g] at g2; exact g2
  have h2 : q_pr K b = b := by
    have g := h
    unfold q_pp at g
    rw [h1] at g; exact g
  intro j hj hK
  rcases (by omega : j = 0 ∨ j = 1 ∨ j = 2 ∨ j = 3 ∨ j = 4 ∨ j = 5 ∨ j = 6 ∨ j = 7 ∨ j = 8 ∨ j = 9 ∨ j = 10 ∨ j = 11 ∨ j = 12 ∨ j = 13 ∨ j = 14 ∨ j = 15) with rfl | rfl | rfl | rfl | rfl | rfl | rfl | rfl | rfl | rfl | rfl | rfl | rfl | rfl | rfl | rfl
  · show b 0 = b 4
    refine q_bext (fun q => ?_) (fun q => ?_)
    · rw [← h1]
      show (b 4 || (b 0 && K 0) || (b 1 && K 4) || (b 2 && K 8) || (b 3 && K 12)) = true
      rw [q, hK]
      simp
    · rw [← h2]
      show (b 0 || ((K 0 && b 4) || (K 1 && b 5) || (K 2 && b 6) || (K 3 && b 7))) = true
      rw [q, hK]
      simp
  · show b 0 = b 5
    refine q_bext (fun q => ?_) (fun q => ?_)
    · rw [← h1]
      show (b 5 || (b 0 && K 1) || (b 1 && K 5) || (b 2 && K 9) || (b 3 && K 13)) = true
      rw [q, hK]
      simp
    · rw [← h2]
      show (b 0 || ((K 0 && b 4) || (K 1 && b 5) || (K 2 && b 6) || (K 3 && b 7))) = true
      rw [q, hK]
      simp
  · show b 0 = b 6
    refine q_bext (fun q => ?_) (fun q => ?_)
    · rw [← h1]
      show (b 6 || (b 0 && K 2) || (b 1 && K 6) || (b 2 && K 10) || (b 3 && K 14)) = true
      rw [q, hK]
      simp
    · rw [← h2]
      show (b 0 || ((K 0 && b 4) || (K 1 && b 5) || (K 2 && b 6) || (K 3 && b 7))) = true
      rw [q, hK]
      simp
  · show b 0 = b 7
    refine q_bext (fun q => ?_) (fun q => ?_)
    · rw [← h1]
      show (b 7 || (b 0 && K 3) || (b 1 && K 7) || (b 2 && K 11) || (b 3 && K 15)) = true
      rw [q, hK]
      simp
    · rw [← h2]
      show (b 0 || ((K 0 && b 4) || (K 1 && b 5) || (K 2 && b 6) || (K 3 && b 7))) = true
      rw [q, hK]
      simp
  · show b 1 = b 4
    refine q_bext (fun q => ?_) (fun q => ?_)
    · rw [← h1]
      show (b 4 || (b 0 && K 0) || (b 1 && K 4) || (b 2 && K 8) || (b 3 && K 12)) = true
      rw [q, hK]
      simp
    · rw [← h2]
      show (b 1 || ((K 4 && b 4) || (K 5 && b 5) || (K 6 && b 6) || (K 7 && b 7))) = true
      rw [q, hK]
      simp
  · show b 1 = b 5
    refine q_bext (fun q => ?_) (fun q => ?_)
    · rw [← h1]
      show (b 5 || (b 0 && K 1) || (b 1 && K 5) || (b 2 && K 9) || (b 3 && K 13)) = true
      rw [q, hK]
      simp
    · rw [← h2]
      show (b 1 || ((K 4 && b 4) || (K 5 && b 5) || (K 6 && b 6) || (K 7 && b 7))) = true
      rw [q, hK]
      simp
  · show b 1 = b 6
    refine q_bext (fun q => ?_) (fun q => ?_)
    · rw [← h1]
      show (b 6 || (b 0 && K 2) || (b 1 && K 6) || (b 2 && K 10) || (b 3 && K 14)) = true
      rw [q, hK]
      simp
    · rw [← h2]
      show (b 1 || ((K 4 && b 4) || (K 5 && b 5) || (K 6 && b 6) || (K 7 && b 7))) = true
      rw [q, hK]
      simp
  · show b 1 = b 7
    refine q_bext (fun q => ?_) (fun q => ?_)
    · rw [← h1]
      show (b 7 || (b 0 && K 3) || (b 1 && K 7) || (b 2 && K 11) || (b 3 && K 15)) = true
      rw [q, hK]
      simp
    · rw [← h2]
      show (b 1 || ((K 4 && b 4) || (K 5 && b 5) || (K 6 && b 6) || (K 7 && b 7))) = true
      rw [q, hK]
      simp
  · show b 2 = b 4
    refine q_bext (fun q => ?_) (fun q => ?_)
    · rw [← h1]
      show (b 4 || (b 0 && K 0) || (b 1 && K 4) || (b 2 && K 8) || (b 3 && K 12)) = true
      rw [q, hK]
      simp
    · rw [← h2]
      show (b 2 || ((K 8 && b 4) || (K 9 && b 5) || (K 10 && b 6) || (K 11 && b 7))) = true
      rw [q, hK]
      simp
  · show b 2 = b 5
    refine q_bext (fun q => ?_) (fun q => ?_)
    · rw [← h1]
      show (b 5 || (b 0 && K 1) || (b 1 && K 5) || (b 2 && K 9) || (b 3 && K 13)) = true
      rw [q, hK]
      simp
    · rw [← h2]
      show (b 2 || ((K 8 && b 4) || (K 9 && b 5) || (K 10 && b 6) || (K 11 && b 7))) = true
      rw [q, hK]
      simp
  · show b 2 = b 6
    refine q_bext (fun q => ?_) (fun q => ?_)
    · rw [← h1]
      show (b 6 || (b 0 && K 2) || (b 1 && K 6) || (b 2 && K 10) || (b 3 && K 14)) = true
      rw [q, hK]
      simp
    · rw [← h2]
      show (b 2 || ((K 8 && b 4) || (K 9 && b 5) || (K 10 && b 6) || (K 11 && b 7))) = true
      rw [q, hK]
      simp
  · show b 2 = b 7
    refine q_bext (fun q => ?_) (fun q => ?_)
    · rw [← h1]
      show (b 7 || (b 0 && K 3) || (b 1 && K 7) || (b 2 && K 11) || (b 3 && K 15)) = true
      rw [q, hK]
      simp
    · rw [← h2]
      show (b 2 || ((K 8 && b 4) || (K 9 && b 5) || (K 10 && b 6) || (K 11 && b 7))) = true
      rw [q, hK]
      simp
  · show b 3 = b 4
    refine q_bext (fun q => ?_) (fun q => ?_)
    · rw [← h1]
      show (b 4 || (b 0 && K 0) || (b 1 && K 4) || (b 2 && K 8) || (b 3 && K 12)) = true
      rw [q, hK]
      simp
    · rw [← h2]
      show (b 3 || ((K 12 && b 4) || (K 13 && b 5) || (K 14 && b 6) || (K 15 && b 7))) = true
      rw [q, hK]
      simp
  · show b 3 = b 5
    refine q_bext (fun q => ?_) (fun q => ?_)
    · rw [← h1]
      show (b 5 || (b 0 && K 1) || (b 1 && K 5) || (b 2 && K 9) || (b 3 && K 13)) = true
      rw [q, hK]
      simp
    · rw [← h2]
      show (b 3 || ((K 12 && b 4) || (K 13 && b 5) || (K 14 && b 6) || (K 15 && b 7))) = true
      rw [q, hK]
      simp
  · show b 3 = b 6
    refine q_bext (fun q => ?_) (fun q => ?_)
    · rw [← h1]
      show (b 6 || (b 0 && K 2) || (b 1 && K 6) || (b 2 && K 10) || (b 3 && K 14)) = true
      rw [q, hK]
      simp
    · rw [← h2]
      show (b 3 || ((K 12 && b 4) || (K 13 && b 5) || (K 14 && b 6) || (K 15 && b 7))) = true
      rw [q, hK]
      simp
  · show b 3 = b 7
    refine q_bext (fun q => ?_) (fun q => ?_)
    · rw [← h1]
      show (b 7 || (b 0 && K 3) || (b 1 && K 7) || (b 2 && K 11) || (b 3 && K 15)) = true
      rw [q, hK]
      simp
    · rw [← h2]
      show (b 3 || ((K 12 && b 4) || (K 13 && b 5) || (K 14 && b 6) || (K 15 && b 7))) = true
      rw [q, hK]
      simp
/-- four turns are enough -/
theorem q_xfix (K b : Nat → Bool) (hb : ∀ i, 4 ≤ i → b i = false) : q_pp K (q_it (q_pp K) 4 b) = q_it (q_pp K) 4 b := by
  have st : ∀ s : Nat → Bool, (∀ i, i < 4 → q_pp K s i = s i) → q_pp K (q_pp K s) = q_pp K s := by
    intro s hs
    have e1 : q_pc K (q_pp K s) = q_pp K s := by
      funext i
      by_cases p : 4 ≤ i ∧ i < 8
      · rcases (by omega : i = 4 ∨ i = 5 ∨ i = 6 ∨ i = 7) with rfl | rfl | rfl | rfl
        · have g : q_pp K s 4 = (s 4 || (s 0 && K 0) || (s 1 && K 4) || (s 2 && K 8) || (s 3 && K 12)) := q_pr_out (b := q_pc K s) (i := 4) (by decide)
          show (q_pp K s 4 || (q_pp K s 0 && K 0) || (q_pp K s 1 && K 4) || (q_pp K s 2 && K 8) || (q_pp K s 3 && K 12)) = q_pp K s 4
          rw [hs 0 (by decide), hs 1 (by decide), hs 2 (by decide), hs 3 (by decide), g]
          cases s 4 <;> cases (s 0 && K 0) <;> cases (s 1 && K 4) <;> cases (s 2 && K 8) <;> cases (s 3 && K 12) <;> rfl
        · have g : q_pp K s 5 = (s 5 || (s 0 && K 1) || (s 1 && K 5) || (s 2 && K 9) || (s 3 && K 13)) := q_pr_out (b := q_pc K s) (i := 5) (by decide)
          show (q_pp K s 5 || (q_pp K s 0 && K 1) || (q_pp K s 1 && K 5) || (q_pp K s 2 && K 9) || (q_pp K s 3 && K 13)) = q_pp K s 5
          rw [hs 0 (by decide), hs 1 (by decide), hs 2 (by decide), hs 3 (by decide), g]
          cases s 5 <;> cases (s 0 && K 1) <;> cases (s 1 && K 5) <;> cases (s 2 && K 9) <;> cases (s 3 && K 13) <;> rfl
        · have g : q_pp K s 6 = (s 6 || (s 0 && K 2) || (s 1 && K 6) || (s 2 && K 10) || (s 3 && K 14)) := q_pr_out (b := q_pc K s) (i := 6) (by decide)
          show (q_pp K s 6 || (q_pp K s 0 && K 2) || (q_pp K s 1 && K 6) || (q_pp K s 2 && K 10) || (q_pp K s 3 && K 14)) = q_pp K s 6
          rw [hs 0 (by decide), hs 1 (by decide), hs 2 (by decide), hs 3 (by decide), g]
          cases s 6 <;> cases (s 0 && K 2) <;> cases (s 1 && K 6) <;> cases (s 2 && K 10) <;> cases (s 3 && K 14) <;> rfl
        · have g : q_pp K s 7 = (s 7 || (s 0 && K 3) || (s 1 && K 7) || (s 2 && K 11) || (s 3 && K 15)) := q_pr_out (b := q_pc K s) (i := 7) (by decide)
          show (q_pp K s 7 || (q_pp K s 0 && K 3) || (q_pp K s 1 && K 7) || (q_pp K s 2 && K 11) || (q_pp K s 3 && K 15)) = q_pp K s 7
          rw [hs 0 (by decide), hs 1 (by decide), hs 2 (by decide), hs 3 (by decide), g]
          cases s 7 <;> cases (s 0 && K 3) <;> cases (s 1 && K 7) <;> cases (s 2 && K 11) <;> cases (s 3 && K 15) <;> rfl
      · exact q_pc_out (by omega)
    funext i
    by_cases p : i < 4
    · refine q_bext (fun q => ?_) (fun q => q_pr_inf (q_pc_inf q))
      have q : q_pr K (q_pc K (q_pp K s)) i = true := q
      rw [e1] at q
      rcases (by omega : i = 0 ∨ i = 1 ∨ i = 2 ∨ i = 3) with rfl | rfl | rfl | rfl
      · have q : (q_pp K s 0 || ((K 0 && q_pp K s 4) || (K 1 && q_pp K s 5) || (K 2 && q_pp K s 6) || (K 3 && q_pp K s 7))) = true := q
        rcases q_or5b q with t | t | t | t | t
        · exact t
        · have t2 : q_pc K s 4 = true := by
            have := (q_and2 t).2
            rwa [show q_pp K s 4 = q_pc K s 4 from q_pr_out (by decide)] at this
          show (q_pc K s 0 || ((K 0 && q_pc K s 4) || (K 1 && q_pc K s 5) || (K 2 && q_pc K s 6) || (K 3 && q_pc K s 7))) = true
          rw [(q_and2 t).1, t2]
          simp
        · have t2 : q_pc K s 5 = true := by
            have := (q_and2 t).2
            rwa [show q_pp K s 5 = q_pc K s 5 from q_pr_out (by decide)] at this
          show (q_pc K s 0 || ((K 0 && q_pc K s 4) || (K 1 && q_pc K s 5) || (K 2 && q_pc K s 6) || (K 3 && q_pc K s 7))) = true
          rw [(q_and2 t).1, t2]
          simp
        · have t2 : q_pc K s 6 = true := by
            have := (q_and2 t).2
            rwa [show q_pp K s 6 = q_pc K s 6 from q_pr_out (by decide)] at this
          show (q_pc K s 0 || ((K 0 && q_pc K s 4) || (K 1 && q_pc K s 5) || (K 2 && q_pc K s 6) || (K 3 && q_pc K s 7))) = true
          rw [(q_and2 t).1, t2]
          simp
        · have t2 : q_pc K s 7 = true := by
            have := (q_and2 t).2
            rwa [show q_pp K s 7 = q_pc K s 7 from q_pr_out (by decide)] at this
          show (q_pc K s 0 || ((K 0 && q_pc K s 4) || (K 1 && q_pc K s 5) || (K 2 && q_pc K s 6) || (K 3 && q_pc K s 7))) = true
          rw [(q_and2 t).1, t2]
          simp
      · have q : (q_pp K s 1 || ((K 4 && q_pp K s 4) || (K 5 && q_pp K s 5) || (K 6 && q_pp K s 6) || (K 7 && q_pp K s 7))) = true := q
        rcases q_or5b q with t | t | t | t | t
        · exact t
        · have t2 : q_pc K s 4 = true := by
            have := (q_and2 t).2
            rwa [show q_pp K s 4 = q_pc K s 4 from q_pr_out (by decide)] at this
          show (q_pc K s 1 || ((K 4 && q_pc K s 4) || (K 5 && q_pc K s 5) || (K 6 && q_pc K s 6) || (K 7 && q_pc K s 7))) = true
          rw [(q_and2 t).1, t2]
          simp
        · have t2 : q_pc K s 5 = true := by
            have := (q_and2 t).2
            rwa [show q_pp K s 5 = q_pc K s 5 from q_pr_out (by decide)] at this
          show (q_pc K s 1 || ((K 4 && q_pc K s 4) || (K 5 && q_pc K s 5) || (K 6 && q_pc K s 6) || (K 7 && q_pc K s 7))) = true
          rw [(q_and2 t).1, t2]
          simp
        · have t2 : q_pc K s 6 = true := by
            have := (q_and2 t).2
            rwa [show q_pp K s 6 = q_pc K s 6 from q_pr_out (by decide)] at this
          show (q_pc K s 1 || ((K 4 && q_pc K s 4) || (K 5 && q_pc K s 5) || (K 6 && q_pc K s 6) || (K 7 && q_pc K s 7))) = true
          rw [(q_and2 t).1, t2]
          simp
        · have t2 : q_pc K s 7 = true := by
            have := (q_and2 t).2
            rwa [show q_pp K s 7 = q_pc K s 7 from q_pr_out (by decide)] at this
          show (q_pc K s 1 || ((K 4 && q_pc K s 4) || (K 5 && q_pc K s 5) || (K 6 && q_pc K s 6) || (K 7 && q_pc K s 7))) = true
          rw [(q_and2 t).1, t2]
          simp
      · have q : (q_pp K s 2 || ((K 8 && q_pp K s 4) || (K 9 && q_pp K s 5) || (K 10 && q_pp K s 6) || (K 11 && q_pp K s 7))) = true := q
        rcases q_or5b q with t | t | t | t | t
        · exact t
        · have t2 : q_pc K s 4 = true := by
            have := (q_and2 t).2
            rwa [show q_pp K s 4 = q_pc K s 4 from q_pr_out (by decide)] at this
          show (q_pc K s 2 || ((K 8 && q_pc K s 4) || (K 9 && q_pc K s 5) || (K 10 && q_pc K s 6) || (K 11 && q_pc K s 7))) = true
          rw [(q_and2 t).1, t2]
          simp
        · have t2 : q_pc K s 5 = true := by
            have := (q_and2 t).2
            rwa [show q_pp K s 5 = q_pc K s 5 from q_pr_out (by decide)] at this
          show (q_pc K s 2 || ((K 8 && q_pc K s 4) || (K 9 && q_pc K s 5) || (K 10 && q_pc K s 6) || (K 11 && q_pc K s 7))) = true
          rw [(q_and2 t).1, t2]
          simp
        · have t2 : q_pc K s 6 = true := by
            have := (q_and2 t).2
            rwa [show q_pp K s 6 = q_pc K s 6 from q_pr_out (by decide)] at this
          show (q_pc K s 2 || ((K 8 && q_pc K s 4) || (K 9 && q_pc K s 5) || (K 10 && q_pc K s 6) || (K 11 && q_pc K s 7))) = true
          rw [(q_and2 t).1, t2]
          simp
        · have t2 : q_pc K s 7 = true := by
            have := (q_and2 t).2
            rwa [show q_pp K s 7 = q_pc K s 7 from q_pr_out (by decide)] at this
          show (q_pc K s 2 || ((K 8 && q_pc K s 4) || (K 9 && q_pc K s 5) || (K 10 && q_pc K s 6) || (K 11 && q_pc K s 7))) = true
          rw [(q_and2 t).1, t2]
          simp
      · have q : (q_pp K s 3 || ((K 12 && q_pp K s 4) || (K 13 && q_pp K s 5) || (K 14 && q_pp K s 6) || (K 15 && q_pp K s 7))) = true := q
        rcases q_or5b q with t | t | t | t | t
        · exact t
        · have t2 : q_pc K s 4 = true := by
            have := (q_and2 t).2
            rwa [show q_pp K s 4 = q_pc K s 4 from q_pr_out (by decide)] at this
          show (q_pc K s 3 || ((K 12 && q_pc K s 4) || (K 13 && q_pc K s 5) || (K 14 && q_pc K s 6) || (K 15 && q_pc K s 7))) = true
          rw [(q_and2 t).1, t2]
          simp
        · have t2 : q_pc K s 5 = true := by
            have := (q_and2 t).2
            rwa [show q_pp K s 5 = q_pc K s 5 from q_pr_out (by decide)] at this
          show (q_pc K s 3 || ((K 12 && q_pc K s 4) || (K 13 && q_pc K s 5) || (K 14 && q_pc K s 6) || (K 15 && q_pc K s 7))) = true
          rw [(q_and2 t).1, t2]
          simp
        · have t2 : q_pc K s 6 = true := by
            have := (q_and2 t).2
            rwa [show q_pp K s 6 = q_pc K s 6 from q_pr_out (by decide)] at this
          show (q_pc K s 3 || ((K 12 && q_pc K s 4) || (K 13 && q_pc K s 5) || (K 14 && q_pc K s 6) || (K 15 && q_pc K s 7))) = true
          rw [(q_and2 t).1, t2]
          simp
        · have t2 : q_pc K s 7 = true := by
            have := (q_and2 t).2
            rwa [show q_pp K s 7 = q_pc K s 7 from q_pr_out (by decide)] at this
          show (q_pc K s 3 || ((K 12 && q_pc K s 4) || (K 13 && q_pc K s 5) || (K 14 && q_pc K s 6) || (K 15 && q_pc K s 7))) = true
          rw [(q_and2 t).1, t2]
          simp
    · rw [show q_pp K (q_pp K s) i = q_pc K (q_pp K s) i from q_pr_out (by omega), e1]
  have key : ∀ t, (∃ u, u < t ∧ ∀ i, i < 4 → q_pp K (q_it (q_pp K) u b) i = q_it (q_pp K) u b i) ∨ q_c4 b + t ≤ q_c4 (q_it (q_pp K) t b) := by
    intro t
    induction t with
    | zero => exact Or.inr (Nat.le_refl _)
    | succ t ih =>
      rcases ih with ⟨u, hu, h⟩ | h
      · exact Or.inl ⟨u, by omega, h⟩
      · by_cases e : ∀ i, i < 4 → q_pp K (q_it (q_pp K) t b) i = q_it (q_pp K) t b i
        · exact Or.inl ⟨t, by omega, e⟩
        · refine Or.inr ?_
          show q_c4 b + (t + 1) ≤ q_c4 (q_pp K (q_it (q_pp K) t b))
          exact Classical.byContradiction fun q => e (q_c4_eq (b := q_it (q_pp K) t b) (b2 := q_pp K (q_it (q_pp K) t b)) (fun i _ p => q_pr_inf (q_pc_inf p)) (by omega))
  have fin : ∃ u, u ≤ 4 ∧ q_pp K (q_it (q_pp K) u b) = q_it (q_pp K) u b := by
    rcases key 4 with ⟨u, hu, h⟩ | h
    · exact ⟨u + 1, by omega, st _ h⟩
    · refine ⟨0, by decide, ?_⟩
      have m : q_c4 (q_it (q_pp K) 4 b) ≤ 4 := by
        generalize q_it (q_pp K) 4 b = s
        have a0 := q_yn1_le (s 0)
        have a1 := q_yn1_le (s 1)
        have a2 := q_yn1_le (s 2)
        have a3 := q_yn1_le (s 3)
        unfold q_c4
        omega
      have z : q_c4 b = 0 := by omega
      unfold q_c4 at z
      have zz : ∀ i, b i = false := by
        intro i
        rcases Nat.lt_or_ge i 4 with hi | hi
        · rcases (by omega : i = 0 ∨ i = 1 ∨ i = 2 ∨ i = 3) with rfl | rfl | rfl | rfl <;> exact q_yn1_0 (by omega)
        · exact hb i hi
      show q_pp K b = b
      funext i
      rw [zz i]
      cases e : q_pp K b i with
      | false => rfl
      | true =>
        rcases Nat.lt_or_ge i 8 with p | p
        · have c1 : q_ksb b (fun _ => false) := fun i _ q => by rw [zz i] at q; cases q
          exact (Bool.false_ne_true (q_pr_cl q_kFal (q_pc_cl q_kFal c1) i p e)).elim
        · rw [show q_pp K b i = b i from (q_pr_out (by omega)).trans (q_pc_out (by omega)), zz i] at e
          cases e
  obtain ⟨u, hu, h⟩ := fin
  have e := q_it_fix h (4 - u)
  rw [show u + (4 - u) = 4 by omega] at e
  rw [e, h]
theorem q_ix_cl (hT : q_kcl K T) (h : q_ksb b T) : ∀ n, q_ksb (q_it (q_pp K) n b) T := by
  intro n
  induction n with
  | zero => exact h
  | succ n ih => exact q_pr_cl hT (q_pc_cl hT ih)
theorem q_ix_inf {i : Nat} (h : b i = true) : ∀ n, q_it (q_pp K) n b i = true := by
  intro n
  induction n with
  | zero => exact h
  | succ n ih => exact q_pr_inf (q_pc_inf ih)
/-- both see the same -/
theorem q_same (K b : Nat → Bool) (hb : ∀ i, 4 ≤ i → b i = false) : ∀ i, i < 8 → q_it (q_kNn K 16) 8 b i = q_it (q_pp K) 4 b i := fun i hi =>
  q_bext (q_it_cl (q_pp_fix (q_xfix K b hb)) (fun _ _ q => q_ix_inf q 4) 8 i hi) (q_ix_cl (q_kfix (q_mfix K b)) (fun _ _ q => q_it_inf q 8) 4 i hi)
end
end
section
-- 52.t
section
variable {K b : Nat → Bool} {s m : q_S} {r : Int32}
/-- four Booleans as a mask -/
def q_bm4 (a0 a1 a2 a3 : Bool) : Int32 := Int32.ofNat (q_yn1 a0 + 2 * q_yn1 a1 + 4 * q_yn1 a2 + 8 * q_yn1 a3)
def q_mL (b : Nat → Bool) : Int32 := q_bm4 (b 0) (b 1) (b 2) (b 3)
def q_mC (b : Nat → Bool) : Int32 := q_bm4 (b 4) (b 5) (b 6) (b 7)
theorem q_bm4t0 : ∀ a0 a1 a2 a3 : Bool, decide ((q_bm4 a0 a1 a2 a3 >>> ((0 : Int32) &&& 31)) &&& 1 = 1) = a0 := by decide +kernel
theorem q_bm4s0 : ∀ a0 a1 a2 a3 : Bool, q_bm4 a0 a1 a2 a3 ||| ((1 : Int32) <<< ((0 : Int32) &&& 31)) = q_bm4 true a1 a2 a3 := by decide +kernel
theorem q_bm4t1 : ∀ a0 a1 a2 a3 : Bool, decide ((q_bm4 a0 a1 a2 a3 >>> ((1 : Int32) &&& 31)) &&& 1 = 1) = a1 := by decide +kernel
theorem q_bm4s1 : ∀ a0 a1 a2 a3 : Bool, q_bm4 a0 a1 a2 a3 ||| ((1 : Int32) <<< ((1 : Int32) &&& 31)) = q_bm4 a0 true a2 a3 := by decide +kernel
theorem q_bm4t2 : ∀ a0 a1 a2 a3 : Bool, decide ((q_bm4 a0 a1 a2 a3 >>> ((2 : Int32) &&& 31)) &&& 1 = 1) = a2 := by decide +kernel
theorem q_bm4s2 : ∀ a0 a1 a2 a3 : Bool, q_bm4 a0 a1 a2 a3 ||| ((1 : Int32) <<< ((2 : Int32) &&& 31)) = q_bm4 a0 a1 true a3 := by decide +kernel
theorem q_bm4t3 : ∀ a0 a1 a2 a3 : Bool, decide ((q_bm4 a0 a1 a2 a3 >>> ((3 : Int32) &&& 31)) &&& 1 = 1) = a3 := by decide +kernel
theorem q_bm4s3 : ∀ a0 a1 a2 a3 : Bool, q_bm4 a0 a1 a2 a3 ||| ((1 : Int32) <<< ((3 : Int32) &&& 31)) = q_bm4 a0 a1 a2 true := by decide +kernel
theorem q_bm4o : ∀ a0 a1 a2 a3 c0 c1 c2 c3 : Bool, q_bm4 a0 a1 a2 a3 ||| q_bm4 c0 c1 c2 c3 = q_bm4 (a0 || c0) (a1 || c1) (a2 || c2) (a3 || c3) := by decide +kernel
theorem q_bm4a : ∀ a0 a1 a2 a3 c0 c1 c2 c3 : Bool, decide (q_bm4 a0 a1 a2 a3 &&& q_bm4 c0 c1 c2 c3 = 0) = !((a0 && c0) || (a1 && c1) || (a2 && c2) || (a3 && c3)) := by decide +kernel
theorem q_bm4k : ∀ a0 a1 a2 a3 : Bool, q_b a0 + 2 * q_b a1 + 4 * q_b a2 + 8 * q_b a3 = q_bm4 a0 a1 a2 a3 := by decide +kernel
theorem q_bm4f : ∀ a0 a1 a2 a3 : Bool, (0 : Int32) + cond a0 1 0 + cond a1 2 0 + cond a2 4 0 + cond a3 8 0 = q_bm4 a0 a1 a2 a3 := by decide +kernel
def q_sz : q_S := (fun _ _ => 0, fun _ _ => 0, fun _ _ => 0)
theorem q_bm4r : ∀ n, n < 256 → Int32.ofNat n &&& 15 = q_bm4 (dz_M206 q_sz (Int32.ofNat n) 0) (dz_M206 q_sz (Int32.ofNat n) 1) (dz_M206 q_sz (Int32.ofNat n) 2) (dz_M206 q_sz (Int32.ofNat n) 3) := by decide +kernel
theorem q_ys16_0 (k7 : q_S → Int32 → Int32 → Int32 → Option Int32) (f : Nat) (l0 l1 l2 l3 c0 c1 c2 c3 k0 k1 k2 k3 : Bool) (v4 : Int32) (hF : s.1 11 0 = q_bm4 k0 k1 k2 k3) : dz_N182_74_16 k7 (f + 1) s (q_bm4 l0 l1 l2 l3) (q_bm4 c0 c1 c2 c3) v4 0 = dz_N182_74_16 k7 f s (q_bm4 l0 l1 l2 l3) (q_bm4 (c0 || (l0 && k0)) (c1 || (l0 && k1)) (c2 || (l0 && k2)) (c3 || (l0 && k3))) v4 1 := by
  rw [dzs_N182_74_16]
  generalize dz_N182_74_16 k7 f = kk
  dsimp only
  rw [show decide ((0 : Int32) < 4) = true by decide, cond_true, q_bm4t0, show q_in (0 : Int32) 4 = true by decide, cond_true, show (0 : Int32).toNatClampNeg = 0 by decide, show (0 : Int32) + 1 = 1 by decide, hF, q_bm4o]
  cases l0 with
  | true => simp only [Bool.true_and, cond_true]
  | false => simp only [Bool.false_and, Bool.or_false, cond_false]
theorem q_ys51_0 (k7 : q_S → Int32 → Int32 → Int32 → Option Int32) (f : Nat) (l0 l1 l2 l3 c0 c1 c2 c3 k0 k1 k2 k3 : Bool) (v4 : Int32) (hF : s.1 11 0 = q_bm4 k0 k1 k2 k3) : dz_N182_74_51 k7 (f + 1) s (q_bm4 l0 l1 l2 l3) (q_bm4 c0 c1 c2 c3) v4 0 = dz_N182_74_51 k7 f s (q_bm4 (l0 || ((k0 && c0) || (k1 && c1) || (k2 && c2) || (k3 && c3))) l1 l2 l3) (q_bm4 c0 c1 c2 c3) v4 1 := by
  rw [dzs_N182_74_51]
  generalize dz_N182_74_51 k7 f = kk
  dsimp only
  rw [show decide ((0 : Int32) < 4) = true by decide, cond_true, show q_in (0 : Int32) 4 = true by decide, cond_true, show (0 : Int32).toNatClampNeg = 0 by decide, show (0 : Int32) + 1 = 1 by decide, hF, q_bm4a, q_bm4s0]
  cases ((k0 && c0) || (k1 && c1) || (k2 && c2) || (k3 && c3)) with
  | true => simp only [Bool.or_true, Bool.not_true, cond_false]
  | false => simp only [Bool.or_false, Bool.not_false, cond_true]
theorem q_ys16_1 (k7 : q_S → Int32 → Int32 → Int32 → Option Int32) (f : Nat) (l0 l1 l2 l3 c0 c1 c2 c3 k0 k1 k2 k3 : Bool) (v4 : Int32) (hF : s.1 11 1 = q_bm4 k0 k1 k2 k3) : dz_N182_74_16 k7 (f + 1) s (q_bm4 l0 l1 l2 l3) (q_bm4 c0 c1 c2 c3) v4 1 = dz_N182_74_16 k7 f s (q_bm4 l0 l1 l2 l3) (q_bm4 (c0 || (l1 && k0)) (c1 || (l1 && k1)) (c2 || (l1 && k2)) (c3 || (l1 && k3))) v4 2 := by
  rw [dzs_N182_74_16]
  generalize dz_N182_74_16 k7 f = kk
  dsimp only
  rw [show decide ((1 : Int32) < 4) = true by decide, cond_true, q_bm4t1, show q_in (1 : Int32) 4 = true by decide, cond_true, show (1 : Int32).toNatClampNeg = 1 by decide, show (1 : Int32) + 1 = 2 by decide, hF, q_bm4o]
  cases l1 with
  | true => simp only [Bool.true_and, cond_true]
  | false => simp only [Bool.false_and, Bool.or_false, cond_false]
theorem q_ys51_1 (k7 : q_S → Int32 → Int32 → Int32 → Option Int32) (f : Nat) (l0 l1 l2 l3 c0 c1 c2 c3 k0 k1 k2 k3 : Bool) (v4 : Int32) (hF : s.1 11 1 = q_bm4 k0 k1 k2 k3) : dz_N182_74_51 k7 (f + 1) s (q_bm4 l0 l1 l2 l3) (q_bm4 c0 c1 c2 c3) v4 1 = dz_N182_74_51 k7 f s (q_bm4 l0 (l1 || ((k0 && c0) || (k1 && c1) || (k2 && c2) || (k3 && c3))) l2 l3) (q_bm4 c0 c1 c2 c3) v4 2 := by
  rw [dzs_N182_74_51]
  generalize dz_N182_74_51 k7 f = kk
  dsimp only
  rw [show decide ((1 : Int32) < 4) = true by decide, cond_true, show q_in (1 : Int32) 4 = true by decide, cond_true, show (1 : Int32).toNatClampNeg = 1 by decide, show (1 : Int32) + 1 = 2 by decide, hF, q_bm4a, q_bm4s1]
  cases ((k0 && c0) || (k1 && c1) || (k2 && c2) || (k3 && c3)) with
  | true => simp only [Bool.or_true, Bool.not_true, cond_false]
  | false => simp only [Bool.or_false, Bool.not_false, cond_true]
theorem q_ys16_2 (k7 : q_S → Int32 → Int32 → Int32 → Option Int32) (f : Nat) (l0 l1 l2 l3 c0 c1 c2 c3 k0 k1 k2 k3 : Bool) (v4 : Int32) (hF : s.1 11 2 = q_bm4 k0 k1 k2 k3) : dz_N182_74_16 k7 (f + 1) s (q_bm4 l0 l1 l2 l3) (q_bm4 c0 c1 c2 c3) v4 2 = dz_N182_74_16 k7 f s (q_bm4 l0 l1 l2 l3) (q_bm4 (c0 || (l2 && k0)) (c1 || (l2 && k1)) (c2 || (l2 && k2)) (c3 || (l2 && k3))) v4 3 := by
  rw [dzs_N182_74_16]
  generalize dz_N182_74_16 k7 f = kk
  dsimp only
  rw [show decide ((2 : Int32) < 4) = true by decide, cond_true, q_bm4t2, show q_in (2 : Int32) 4 = true by decide, cond_true, show (2 : Int32).toNatClampNeg = 2 by decide, show (2 : Int32) + 1 = 3 by decide, hF, q_bm4o]
  cases l2 with
  | true => simp only [Bool.true_and, cond_true]
  | false => simp only [Bool.false_and, Bool.or_false, cond_false]
theorem q_ys51_2 (k7 : q_S → Int32 → Int32 → Int32 → Option Int32) (f : Nat) (l0 l1 l2 l3 c0 c1 c2 c3 k0 k1 k2 k3 : Bool) (v4 : Int32) (hF : s.1 11 2 = q_bm4 k0 k1 k2 k3) : dz_N182_74_51 k7 (f + 1) s (q_bm4 l0 l1 l2 l3) (q_bm4 c0 c1 c2 c3) v4 2 = dz_N182_74_51 k7 f s (q_bm4 l0 l1 (l2 || ((k0 && c0) || (k1 && c1) || (k2 && c2) || (k3 && c3))) l3) (q_bm4 c0 c1 c2 c3) v4 3 := by
  rw [dzs_N182_74_51]
  generalize dz_N182_74_51 k7 f = kk
  dsimp only
  rw [show decide ((2 : Int32) < 4) = true by decide, cond_true, show q_in (2 : Int32) 4 = true by decide, cond_true, show (2 : Int32).toNatClampNeg = 2 by decide, show (2 : Int32) + 1 = 3 by decide, hF, q_bm4a, q_bm4s2]
  cases ((k0 && c0) || (k1 && c1) || (k2 && c2) || (k3 && c3)) with
  | true => simp only [Bool.or_true, Bool.not_true, cond_false]
  | false => simp only [Bool.or_false, Bool.not_false, cond_true]
theorem q_ys16_3 (k7 : q_S → Int32 → Int32 → Int32 → Option Int32) (f : Nat) (l0 l1 l2 l3 c0 c1 c2 c3 k0 k1 k2 k3 : Bool) (v4 : Int32) (hF : s.1 11 3 = q_bm4 k0 k1 k2 k3) : dz_N182_74_16 k7 (f + 1) s (q_bm4 l0 l1 l2 l3) (q_bm4 c0 c1 c2 c3) v4 3 = dz_N182_74_16 k7 f s (q_bm4 l0 l1 l2 l3) (q_bm4 (c0 || (l3 && k0)) (c1 || (l3 && k1)) (c2 || (l3 && k2)) (c3 || (l3 && k3))) v4 4 := by
  rw [dzs_N182_74_16]
  generalize dz_N182_74_16 k7 f = kk
  dsimp only
  rw [show decide ((3 : Int32) < 4) = true by decide, cond_true, q_bm4t3, show q_in (3 : Int32) 4 = true by decide, cond_true, show (3 : Int32).toNatClampNeg = 3 by decide, show (3 : Int32) + 1 = 4 by decide, hF, q_bm4o]
  cases l3 with
  | true => simp only [Bool.true_and, cond_true]
  | false => simp only [Bool.false_and, Bool.or_false, cond_false]
theorem q_ys51_3 (k7 : q_S → Int32 → Int32 → Int32 → Option Int32) (f : Nat) (l0 l1 l2 l3 c0 c1 c2 c3 k0 k1 k2 k3 : Bool) (v4 : Int32) (hF : s.1 11 3 = q_bm4 k0 k1 k2 k3) : dz_N182_74_51 k7 (f + 1) s (q_bm4 l0 l1 l2 l3) (q_bm4 c0 c1 c2 c3) v4 3 = dz_N182_74_51 k7 f s (q_bm4 l0 l1 l2 (l3 || ((k0 && c0) || (k1 && c1) || (k2 && c2) || (k3 && c3)))) (q_bm4 c0 c1 c2 c3) v4 4 := by
  rw [dzs_N182_74_51]
  generalize dz_N182_74_51 k7 f = kk
  dsimp only
  rw [show decide ((3 : Int32) < 4) = true by decide, cond_true, show q_in (3 : Int32) 4 = true by decide, cond_true, show (3 : Int32).toNatClampNeg = 3 by decide, show (3 : Int32) + 1 = 4 by decide, hF, q_bm4a, q_bm4s3]
  cases ((k0 && c0) || (k1 && c1) || (k2 && c2) || (k3 && c3)) with
  | true => simp only [Bool.or_true, Bool.not_true, cond_false]
  | false => simp only [Bool.or_false, Bool.not_false, cond_true]
/-- a turn of the class -/
theorem q_ys7 (hF : s.1 11 0 = q_bm4 (K 0) (K 1) (K 2) (K 3) ∧ s.1 11 1 = q_bm4 (K 4) (K 5) (K 6) (K 7) ∧ s.1 11 2 = q_bm4 (K 8) (K 9) (K 10) (K 11) ∧ s.1 11 3 = q_bm4 (K 12) (K 13) (K 14) (K 15)) (f : Nat) (b : Nat → Bool) (v4 v5 : Int32) (h4 : decide (v4 < 4) = true) (h5 : v4 + 1 = v5) : dz_N182_74_7 (f + 1) s (q_mL b) (q_mC b) v4 = dz_N182_74_7 f s (q_mL (q_pp K b)) (q_mC (q_pp K b)) v5 := by
  obtain ⟨f0, f1, f2, f3⟩ := hF
  rw [dzs_N182_74_7]
  generalize dz_N182_74_7 f = k7
  dsimp only
  rw [h4, cond_true]
  unfold q_mL q_mC
  refine (q_ys16_0 k7 4999 _ _ _ _ _ _ _ _ _ _ _ _ v4 f0).trans ?_
  refine (q_ys16_1 k7 4998 _ _ _ _ _ _ _ _ _ _ _ _ v4 f1).trans ?_
  refine (q_ys16_2 k7 4997 _ _ _ _ _ _ _ _ _ _ _ _ v4 f2).trans ?_
  refine (q_ys16_3 k7 4996 _ _ _ _ _ _ _ _ _ _ _ _ v4 f3).trans ?_
  rw [show (4996 : Nat) = 4995 + 1 from rfl, dzs_N182_74_16]
  dsimp only
  rw [show decide ((4 : Int32) < 4) = false by decide, cond_false]
  refine (q_ys51_0 k7 4999 _ _ _ _ _ _ _ _ _ _ _ _ v4 f0).trans ?_
  refine (q_ys51_1 k7 4998 _ _ _ _ _ _ _ _ _ _ _ _ v4 f1).trans ?_
  refine (q_ys51_2 k7 4997 _ _ _ _ _ _ _ _ _ _ _ _ v4 f2).trans ?_
  refine (q_ys51_3 k7 4996 _ _ _ _ _ _ _ _ _ _ _ _ v4 f3).trans ?_
  rw [show (4996 : Nat) = 4995 + 1 from rfl, dzs_N182_74_51]
  dsimp only
  rw [show decide ((4 : Int32) < 4) = false by decide, cond_false, h5]
  rfl
/-- what the class sees -/
theorem q_csP0 (hF : s.1 11 0 = q_bm4 (K 0) (K 1) (K 2) (K 3) ∧ s.1 11 1 = q_bm4 (K 4) (K 5) (K 6) (K 7) ∧ s.1 11 2 = q_bm4 (K 8) (K 9) (K 10) (K 11) ∧ s.1 11 3 = q_bm4 (K 12) (K 13) (K 14) (K 15)) (b : Nat → Bool) (hb : ∀ i, 4 ≤ i → b i = false) : dz_N182_74 s (q_mL b) = some (q_mC (q_it (q_pp K) 4 b)) := by
  have e0 : (0 : Int32) = q_mC b := by
    unfold q_mC
    rw [hb 4 (by decide), hb 5 (by decide), hb 6 (by decide), hb 7 (by decide)]
    decide
  have e : dz_N182_74 s (q_mL b) = dz_N182_74_7 5000 s (q_mL b) (q_mC b) 0 := by
    unfold dz_N182_74
    rw [← e0]
  rw [e]
  refine (q_ys7 hF 4999 _ 0 1 (by decide) (by decide)).trans ?_
  refine (q_ys7 hF 4998 _ 1 2 (by decide) (by decide)).trans ?_
  refine (q_ys7 hF 4997 _ 2 3 (by decide) (by decide)).trans ?_
  refine (q_ys7 hF 4996 _ 3 4 (by decide) (by decide)).trans ?_
  rw [show (4996 : Nat) = 4995 + 1 from rfl, dzs_N182_74_7]
  dsimp only
  rw [show decide ((4 : Int32) < 4) = false by decide, cond_false]
  rfl
/-- the model's row of live keys -/
def q_bl (s : q_S) (b : Nat → Bool) : Prop := ∀ i, i < 8 → s.1 33 i = q_b (b i)
def q_ye3 (s t : q_S) : Prop := (∀ i, Nat.beq i 33 = false → t.1 i = s.1 i) ∧ t.2 = s.2
theorem q_ye3_r (s : q_S) : q_ye3 s s := ⟨fun _ _ => rfl, rfl⟩
theorem q_ye3_t {s t u : q_S} (h : q_ye3 s t) (g : q_ye3 t u) : q_ye3 s u := ⟨fun i hi => (g.1 i hi).trans (h.1 i hi), g.2.trans h.2⟩
theorem q_ye3_A (s : q_S) (f : Nat → Int32) : q_ye3 s (q_sA s 33 f) := ⟨fun i hi => by
  show cond (Nat.beq i 33) f (s.1 i) = s.1 i
  rw [hi]; rfl, rfl⟩
/-- two cells of the row are written -/
def q_yw2 (s : q_S) (i j : Nat) (v w : Int32) : q_S := q_sA (q_sA s 33 (upd (s.1 33) i v)) 33 (upd ((q_sA s 33 (upd (s.1 33) i v)).1 33) j w)
theorem q_yw2_e (s : q_S) (i j : Nat) (v w : Int32) : q_ye3 s (q_yw2 s i j v w) := q_ye3_t (q_ye3_A s _) (q_ye3_A _ _)
theorem q_yw2_v (s : q_S) (i j : Nat) (v w : Int32) (n : Nat) : (q_yw2 s i j v w).1 33 n = upd (upd (s.1 33) i v) j w n := rfl
theorem q_bz (b : Bool) : decide (q_b b = 0) = !b := by cases b <;> decide
theorem q_ynb1 : vp_nar .boolean 1 = 1 := by decide
theorem q_ynb0 : vp_nar .boolean 0 = 0 := by decide
theorem q_43s (k35 : q_S → Int32 → Option (q_S × Int32)) (f : Nat) {j : Nat} (v2 v3 : Int32) (hj : j < 16) (hv : v3.toInt = j) (hb : q_bl s b) (hK : s.1 7 j = q_b (K j)) : ∃ t, dz_M208_64_43 k35 (f + 1) s v2 v3 = dz_M208_64_43 k35 f t v2 (v3 + 1) ∧ q_bl t (q_k1 K j b) ∧ q_ye3 s t := by
  have z4 : (4 : Int32).toInt = 4 := rfl
  have z16 : (16 : Int32).toInt = 16 := rfl
  have n3 : v3.toNatClampNeg = j := by show v3.toInt.toNat = j; omega
  have d1 : (v3 / 4).toInt = j / 4 := by rw [q_toInt_div (by omega) (by decide), hv]; rfl
  have d2 : (v3 / 4).toNatClampNeg = j / 4 := by show (v3 / 4).toInt.toNat = j / 4; omega
  have m1 : (v3 - v3 / 4 * 4).toInt = j % 4 := by rw [q_rem_eq (by omega) (by decide), hv]; rfl
  have m2 : ((4 : Int32) + (v3 - v3 / 4 * 4)).toInt = 4 + j % 4 := by
    rw [q_add9 (a := 4) (c := v3 - v3 / 4 * 4) (by show _ ≤ (4 : Int) + _; omega) (by show (4 : Int) + _ ≤ _; omega), m1]; rfl
  have m3 : ((4 : Int32) + (v3 - v3 / 4 * 4)).toNatClampNeg = 4 + j % 4 := by show ((4 : Int32) + (v3 - v3 / 4 * 4)).toInt.toNat = _; omega
  have i1 : q_in v3 16 = true := q_in_rg (l := 0) (u := 15) ⟨by omega, by omega⟩ (by decide) (by decide)
  have i2 : q_in (v3 / 4) 8 = true := q_in_rg (l := 0) (u := 3) ⟨by omega, by omega⟩ (by decide) (by decide)
  have i3 : q_in ((4 : Int32) + (v3 - v3 / 4 * 4)) 8 = true := q_in_rg (l := 4) (u := 7) ⟨by omega, by omega⟩ (by decide) (by decide)
  have l1 : decide (v3 < 16) = true := decide_eq_true (Int32.lt_iff_toInt_lt.mpr (by omega))
  have b1 := hb (j / 4) (by omega)
  have b2 := hb (4 + j % 4) (by omega)
  have wr : ∀ v : Bool, v = (b (j / 4) || b (4 + j % 4)) → K j = true → q_bl (q_yw2 s (j / 4) (4 + j % 4) (q_b v) (q_b v)) (q_k1 K j b) := fun v e hK i hi => by
    rw [q_yw2_v]
    unfold q_k1
    rw [hK, Bool.true_and]
    by_cases p : i = 4 + j % 4
    · rw [q_nbT p, Bool.or_true, cond_true]
      simp only [upd, if_pos p]
      rw [e]
    · by_cases q : i = j / 4
      · rw [q_nbT q, Bool.true_or, cond_true]
        simp only [upd, if_neg p, if_pos q]
        rw [e]
      · rw [q_nbF p, q_nbF q]
        simp only [upd, if_neg p, if_neg q]
        exact hb i hi
  have e85 : dz_M208_64_85 k35 (dz_M208_64_43 k35 f) s v2 v3 = dz_M208_64_43 k35 f (q_yw2 s (j / 4) (4 + j % 4) 1 1) v2 (v3 + 1) := by
    unfold dz_M208_64_85 q_let
    rw [i2, i3, d2, m3, q_ynb1]
    rfl
  rw [dzs_M208_64_43]
  dsimp only
  rw [l1, cond_true, i1, cond_true, n3, hK, q_bz, i2, d2, b1, q_bz, i3, m3, b2, q_bz, e85]
  cases hk : K j with
  | false =>
    refine ⟨s, rfl, fun i hi => ?_, q_ye3_r s⟩
    unfold q_k1
    rw [hk, Bool.false_and]
    exact hb i hi
  | true =>
    cases h1 : b (j / 4) with
    | true =>
      exact ⟨q_yw2 s (j / 4) (4 + j % 4) 1 1, rfl, wr true (by rw [h1]; rfl) hk, q_yw2_e _ _ _ _ _⟩
    | false =>
      cases h2 : b (4 + j % 4) with
      | true => exact ⟨q_yw2 s (j / 4) (4 + j % 4) 1 1, rfl, wr true (by rw [h1, h2]; rfl) hk, q_yw2_e _ _ _ _ _⟩
      | false =>
        refine ⟨q_yw2 s (j / 4) (4 + j % 4) 0 0, ?_, wr false (by rw [h1, h2]; rfl) hk, q_yw2_e _ _ _ _ _⟩
        unfold q_let
        rw [q_ynb0]
        rfl
theorem q_43w (k35 : q_S → Int32 → Option (q_S × Int32)) (f : Nat) (v2 : Int32) : ∀ (n j : Nat) (s : q_S) (v3 : Int32), j + n = 16 → v3.toInt = j → q_bl s (q_kNn K j b) → (∀ i, i < 16 → s.1 7 i = q_b (K i)) → ∃ t, dz_M208_64_43 k35 (f + n + 1) s v2 v3 = k35 t (v2 + 1) ∧ q_bl t (q_kNn K 16 b) ∧ q_ye3 s t := by
  intro n
  induction n with
  | zero =>
    intro j s v3 hj hv hb hK
    refine ⟨s, ?_, ?_, q_ye3_r s⟩
    · rw [dzs_M208_64_43]
      dsimp only
      rw [show decide (v3 < 16) = false from decide_eq_false (fun q => by have := Int32.lt_iff_toInt_lt.mp q; have z16 : (16 : Int32).toInt = 16 := rfl; omega)]
      rfl
    · rw [show (16 : Nat) = j by omega]; exact hb
  | succ n ih =>
    intro j s v3 hj hv hb hK
    obtain ⟨t, e1, e2, e3⟩ := q_43s (K := K) k35 (f + n + 1) v2 v3 (by omega : j < 16) hv hb (hK j (by omega))
    have ev : (v3 + 1).toInt = (j + 1 : Nat) := by
      rw [q_add9 (a := v3) (c := 1) (by show _ ≤ v3.toInt + 1; omega) (by show v3.toInt + 1 ≤ _; omega), hv]; rfl
    obtain ⟨u, g1, g2, g3⟩ := ih (j + 1) t (v3 + 1) (by omega) ev e2 (fun i hi => by rw [e3.1 7 rfl]; exact hK i hi)
    exact ⟨u, e1.trans g1, g2, q_ye3_t e3 g3⟩
theorem q_35w (f : Nat) : ∀ (n t : Nat) (s : q_S) (v2 : Int32), t + n = 8 → v2.toInt = t → q_bl s (q_it (q_kNn K 16) t b) → (∀ i, i < 16 → s.1 7 i = q_b (K i)) → ∃ u, dz_M208_64_35 (f + n + 1) s v2 = dz_M208_64_130 5000 u 0 0 ∧ q_bl u (q_it (q_kNn K 16) 8 b) ∧ q_ye3 s u := by
  intro n
  induction n with
  | zero =>
    intro t s v2 ht hv hb hK
    refine ⟨s, ?_, ?_, q_ye3_r s⟩
    · rw [dzs_M208_64_35]
      dsimp only
      rw [show decide (v2 < 8) = false from decide_eq_false (fun q => by have := Int32.lt_iff_toInt_lt.mp q; have z8 : (8 : Int32).toInt = 8 := rfl; omega)]
      rfl
    · rw [show (8 : Nat) = t by omega]; exact hb
  | succ n ih =>
    intro t s v2 ht hv hb hK
    obtain ⟨u, e1, e2, e3⟩ := q_43w (K := K) (dz_M208_64_35 (f + n + 1)) 4983 v2 16 0 s 0 rfl rfl hb hK
    have ev : (v2 + 1).toInt = (t + 1 : Nat) := by
      rw [q_add9 (a := v2) (c := 1) (by show _ ≤ v2.toInt + 1; omega) (by show v2.toInt + 1 ≤ _; omega), hv]; rfl
    obtain ⟨u2, g1, g2, g3⟩ := ih (t + 1) u (v2 + 1) (by omega) ev e2 (fun i hi => by rw [e3.1 7 rfl]; exact hK i hi)
    refine ⟨u2, ?_, g2, q_ye3_t e3 g3⟩
    rw [dzs_M208_64_35]
    dsimp only
    rw [show decide (v2 < 8) = true from decide_eq_true (Int32.lt_iff_toInt_lt.mpr (by show v2.toInt < 8; omega)), cond_true]
    exact Eq.trans e1 g1
theorem q_130_0 (f : Nat) (hb : q_bl s b) (v2 : Int32) : dz_M208_64_130 (f + 1) s v2 0 = dz_M208_64_130 f s (v2 + cond (b 4) 1 0) 1 := by
  rw [dzs_M208_64_130]
  generalize dz_M208_64_130 f = kk
  dsimp only
  rw [show decide ((0 : Int32) < 4) = true by decide, cond_true, show (4 : Int32) + 0 = 4 by decide, show q_in (4 : Int32) 8 = true by decide, cond_true, show (4 : Int32).toNatClampNeg = 4 by decide, hb 4 (by decide), q_bz, show (0 : Int32) + 1 = 1 by decide, show (1 : Int32) <<< ((0 : Int32) &&& 31) = 1 by decide]
  cases b 4 with
  | true => rfl
  | false => rfl
theorem q_2_0 (f : Nat) (r : Int32) : dz_M208_64_2 (f + 1) s r 0 = dz_M208_64_2 f (q_yw2 s 0 4 (q_b (dz_M206 q_sz r 0)) 0) r 1 := by
  rw [dzs_M208_64_2]
  generalize dz_M208_64_2 f = kk
  unfold q_let
  dsimp only
  rw [show decide ((0 : Int32) < 4) = true by decide, cond_true, show (4 : Int32) + 0 = 4 by decide, show q_in (4 : Int32) 8 = true by decide, cond_true, show q_in (0 : Int32) 8 = true by decide, cond_true, show (4 : Int32).toNatClampNeg = 4 by decide, show (0 : Int32).toNatClampNeg = 0 by decide, show (0 : Int32) + 1 = 1 by decide, q_ynb1, q_ynb0, show dz_M206 s r 0 = dz_M206 q_sz r 0 from rfl]
  cases dz_M206 q_sz r 0 with
  | true => rfl
  | false => rfl
theorem q_130_1 (f : Nat) (hb : q_bl s b) (v2 : Int32) : dz_M208_64_130 (f + 1) s v2 1 = dz_M208_64_130 f s (v2 + cond (b 5) 2 0) 2 := by
  rw [dzs_M208_64_130]
  generalize dz_M208_64_130 f = kk
  dsimp only
  rw [show decide ((1 : Int32) < 4) = true by decide, cond_true, show (4 : Int32) + 1 = 5 by decide, show q_in (5 : Int32) 8 = true by decide, cond_true, show (5 : Int32).toNatClampNeg = 5 by decide, hb 5 (by decide), q_bz, show (1 : Int32) + 1 = 2 by decide, show (1 : Int32) <<< ((1 : Int32) &&& 31) = 2 by decide]
  cases b 5 with
  | true => rfl
  | false => rfl
theorem q_2_1 (f : Nat) (r : Int32) : dz_M208_64_2 (f + 1) s r 1 = dz_M208_64_2 f (q_yw2 s 1 5 (q_b (dz_M206 q_sz r 1)) 0) r 2 := by
  rw [dzs_M208_64_2]
  generalize dz_M208_64_2 f = kk
  unfold q_let
  dsimp only
  rw [show decide ((1 : Int32) < 4) = true by decide, cond_true, show (4 : Int32) + 1 = 5 by decide, show q_in (5 : Int32) 8 = true by decide, cond_true, show q_in (1 : Int32) 8 = true by decide, cond_true, show (5 : Int32).toNatClampNeg = 5 by decide, show (1 : Int32).toNatClampNeg = 1 by decide, show (1 : Int32) + 1 = 2 by decide, q_ynb1, q_ynb0, show dz_M206 s r 1 = dz_M206 q_sz r 1 from rfl]
  cases dz_M206 q_sz r 1 with
  | true => rfl
  | false => rfl
theorem q_130_2 (f : Nat) (hb : q_bl s b) (v2 : Int32) : dz_M208_64_130 (f + 1) s v2 2 = dz_M208_64_130 f s (v2 + cond (b 6) 4 0) 3 := by
  rw [dzs_M208_64_130]
  generalize dz_M208_64_130 f = kk
  dsimp only
  rw [show decide ((2 : Int32) < 4) = true by decide, cond_true, show (4 : Int32) + 2 = 6 by decide, show q_in (6 : Int32) 8 = true by decide, cond_true, show (6 : Int32).toNatClampNeg = 6 by decide, hb 6 (by decide), q_bz, show (2 : Int32) + 1 = 3 by decide, show (1 : Int32) <<< ((2 : Int32) &&& 31) = 4 by decide]
  cases b 6 with
  | true => rfl
  | false => rfl
theorem q_2_2 (f : Nat) (r : Int32) : dz_M208_64_2 (f + 1) s r 2 = dz_M208_64_2 f (q_yw2 s 2 6 (q_b (dz_M206 q_sz r 2)) 0) r 3 := by
  rw [dzs_M208_64_2]
  generalize dz_M208_64_2 f = kk
  unfold q_let
  dsimp only
  rw [show decide ((2 : Int32) < 4) = true by decide, cond_true, show (4 : Int32) + 2 = 6 by decide, show q_in (6 : Int32) 8 = true by decide, cond_true, show q_in (2 : Int32) 8 = true by decide, cond_true, show (6 : Int32).toNatClampNeg = 6 by decide, show (2 : Int32).toNatClampNeg = 2 by decide, show (2 : Int32) + 1 = 3 by decide, q_ynb1, q_ynb0, show dz_M206 s r 2 = dz_M206 q_sz r 2 from rfl]
  cases dz_M206 q_sz r 2 with
  | true => rfl
  | false => rfl
theorem q_130_3 (f : Nat) (hb : q_bl s b) (v2 : Int32) : dz_M208_64_130 (f + 1) s v2 3 = dz_M208_64_130 f s (v2 + cond (b 7) 8 0) 4 := by
  rw [dzs_M208_64_130]
  generalize dz_M208_64_130 f = kk
  dsimp only
  rw [show decide ((3 : Int32) < 4) = true by decide, cond_true, show (4 : Int32) + 3 = 7 by decide, show q_in (7 : Int32) 8 = true by decide, cond_true, show (7 : Int32).toNatClampNeg = 7 by decide, hb 7 (by decide), q_bz, show (3 : Int32) + 1 = 4 by decide, show (1 : Int32) <<< ((3 : Int32) &&& 31) = 8 by decide]
  cases b 7 with
  | true => rfl
  | false => rfl
theorem q_2_3 (f : Nat) (r : Int32) : dz_M208_64_2 (f + 1) s r 3 = dz_M208_64_2 f (q_yw2 s 3 7 (q_b (dz_M206 q_sz r 3)) 0) r 4 := by
  rw [dzs_M208_64_2]
  generalize dz_M208_64_2 f = kk
  unfold q_let
  dsimp only
  rw [show decide ((3 : Int32) < 4) = true by decide, cond_true, show (4 : Int32) + 3 = 7 by decide, show q_in (7 : Int32) 8 = true by decide, cond_true, show q_in (3 : Int32) 8 = true by decide, cond_true, show (7 : Int32).toNatClampNeg = 7 by decide, show (3 : Int32).toNatClampNeg = 3 by decide, show (3 : Int32) + 1 = 4 by decide, q_ynb1, q_ynb0, show dz_M206 s r 3 = dz_M206 q_sz r 3 from rfl]
  cases dz_M206 q_sz r 3 with
  | true => rfl
  | false => rfl
def q_b0 (r : Int32) : Nat → Bool := fun i => cond (Nat.beq i 0) (dz_M206 q_sz r 0) (cond (Nat.beq i 1) (dz_M206 q_sz r 1) (cond (Nat.beq i 2) (dz_M206 q_sz r 2) (cond (Nat.beq i 3) (dz_M206 q_sz r 3) false)))
theorem q_b0_4 (r : Int32) (i : Nat) (h : 4 ≤ i) : q_b0 r i = false := by
  unfold q_b0
  rw [q_nbF (show ¬ i = 0 by omega), q_nbF (show ¬ i = 1 by omega), q_nbF (show ¬ i = 2 by omega), q_nbF (show ¬ i = 3 by omega)]
  rfl
/-- what the model sees is what the class sees -/
theorem q_kzM (m : q_S) (K : Nat → Bool) (hK : ∀ i, i < 16 → m.1 7 i = q_b (K i)) (F : Nat → Int32) (hF : ∀ r, r < 4 → F r = m.1 7 (4 * r) + 2 * m.1 7 (4 * r + 1) + 4 * m.1 7 (4 * r + 2) + 8 * m.1 7 (4 * r + 3)) (r : Int32) (h0 : 0 ≤ r.toInt) (h1 : r.toInt ≤ 255) (W : Int32) (hW : dz_N182_74 (fun _ => F, fun _ _ => 0, fun _ _ => 0) (r &&& 15) = some W) : ∃ m2, dz_M208_64 m r = some (m2, W) ∧ (∀ i, Nat.beq i 33 = false → m2.1 i = m.1 i) ∧ m2.2 = m.2 := by
  have eo : Int32.ofNat r.toInt.toNat = r := by
    have a1 := Int32.toInt_lt r
    apply Int32.toInt_inj.mp
    rw [Int32.toInt_ofNat_of_lt (by omega)]
    omega
  have t := q_bm4r r.toInt.toNat (by omega)
  rw [eo] at t
  have f0 : F 0 = q_bm4 (K 0) (K 1) (K 2) (K 3) := by
    rw [← q_bm4k, ← hK 0 (by decide), ← hK 1 (by decide), ← hK 2 (by decide), ← hK 3 (by decide)]
    exact hF 0 (by decide)
  have f1 : F 1 = q_bm4 (K 4) (K 5) (K 6) (K 7) := by
    rw [← q_bm4k, ← hK 4 (by decide), ← hK 5 (by decide), ← hK 6 (by decide), ← hK 7 (by decide)]
    exact hF 1 (by decide)
  have f2 : F 2 = q_bm4 (K 8) (K 9) (K 10) (K 11) := by
    rw [← q_bm4k, ← hK 8 (by decide), ← hK 9 (by decide), ← hK 10 (by decide), ← hK 11 (by decide)]
    exact hF 2 (by decide)
  have f3 : F 3 = q_bm4 (K 12) (K 13) (K 14) (K 15) := by
    rw [← q_bm4k, ← hK 12 (by decide), ← hK 13 (by decide), ← hK 14 (by decide), ← hK 15 (by decide)]
    exact hF 3 (by decide)
  have cs := q_csP0 (K := K) (s := (fun _ => F, fun _ _ => 0, fun _ _ => 0)) ⟨f0, f1, f2, f3⟩ (q_b0 r) (q_b0_4 r)
  rw [show q_mL (q_b0 r) = r &&& 15 from t.symm, hW] at cs
  have eW : W = q_mC (q_it (q_pp K) 4 (q_b0 r)) := Option.some.inj cs
  -- the rows asked for
  obtain ⟨s4, g1, g2, g3⟩ : ∃ s4, dz_M208_64 m r = dz_M208_64_35 5000 s4 0 ∧ q_bl s4 (q_b0 r) ∧ q_ye3 m s4 := by
    refine ⟨q_yw2 (q_yw2 (q_yw2 (q_yw2 m 0 4 (q_b (dz_M206 q_sz r 0)) 0) 1 5 (q_b (dz_M206 q_sz r 1)) 0) 2 6 (q_b (dz_M206 q_sz r 2)) 0) 3 7 (q_b (dz_M206 q_sz r 3)) 0, ?_, fun i hi => ?_, q_ye3_t (q_ye3_t (q_ye3_t (q_yw2_e _ _ _ _ _) (q_yw2_e _ _ _ _ _)) (q_yw2_e _ _ _ _ _)) (q_yw2_e _ _ _ _ _)⟩
    · unfold dz_M208_64
      refine (q_2_0 4999 r).trans ((q_2_1 4998 r).trans ((q_2_2 4997 r).trans ((q_2_3 4996 r).trans ?_)))
      rw [show (4996 : Nat) = 4995 + 1 from rfl, dzs_M208_64_2]
      generalize dz_M208_64_2 4995 = kk
      dsimp only
      rw [show decide ((4 : Int32) < 4) = false by decide, cond_false]
    · rcases q_i8 hi with rfl | rfl | rfl | rfl | rfl | rfl | rfl | rfl <;> rfl
  have hK4 : ∀ i, i < 16 → s4.1 7 i = q_b (K i) := fun i hi => by rw [g3.1 7 rfl]; exact hK i hi
  obtain ⟨u, k1, k2, k3⟩ := q_35w (K := K) (b := q_b0 r) 4991 8 0 s4 0 rfl rfl g2 hK4
  refine ⟨u, ?_, (q_ye3_t g3 k3).1, (q_ye3_t g3 k3).2⟩
  rw [g1]
  refine Eq.trans k1 ?_
  refine (q_130_0 4999 k2 _).trans ((q_130_1 4998 k2 _).trans ((q_130_2 4997 k2 _).trans ((q_130_3 4996 k2 _).trans ?_)))
  rw [show (4996 : Nat) = 4995 + 1 from rfl, dzs_M208_64_130]
  dsimp only
  rw [show decide ((4 : Int32) < 4) = false by decide, cond_false, q_bm4f, eW]
  unfold q_mC
  rw [q_same K (q_b0 r) (q_b0_4 r) 4 (by decide), q_same K (q_b0 r) (q_b0_4 r) 5 (by decide), q_same K (q_b0 r) (q_b0_4 r) 6 (by decide), q_same K (q_b0 r) (q_b0_4 r) 7 (by decide)]
end
end
section
-- 53.a
section
/-! ===== the class' machine x (kind N) beside the model m ===== -/
def q_pl (k : Nat) : Bool := !(Nat.beq k 10 || (Nat.beq k 12 || (Nat.beq k 13 || (Nat.beq k 14 || (Nat.beq k 15 || (Nat.beq k 29 || Nat.beq k 30))))))
/-- RAM, ROM, cartridge -/
def q_R1 (x m : q_S) : Prop := (∀ k, k < 4096 → x.1 3 k = m.1 1 k) ∧ (∀ k, k < 512 → x.1 5 k = m.1 2 k) ∧ (∀ k, k < 2048 → x.1 6 k = m.1 3 k)
/-- registers -/
def q_R2 (x m : q_S) : Prop := ((∀ k, k < 45 → q_pl k = true → x.1 4 k = m.1 4 k) ∧ (∀ k, 45 ≤ k → k < 48 → x.1 4 k = 0)) ∧ x.1 4 10 = m.1 14 9 ∧ x.1 4 29 = m.1 14 10 ∧ x.1 4 30 = m.1 14 11
/-- latches and counts -/
def q_R3 (x m : q_S) : Prop := (q_rgz 0 255 (x.1 4 12) ∧ q_rgz 0 255 (x.1 4 13) ∧ q_rgz 0 255 (x.1 4 14) ∧ q_rgz 0 255 (x.1 4 15)) ∧ m.1 14 7 = x.1 4 12 + 256 * x.1 4 13 ∧ m.1 14 8 = x.1 4 14 + 256 * x.1 4 15 ∧ x.1 7 0 = m.1 14 5 ∧ x.1 7 1 = m.1 14 6
/-- the tape -/
def q_R4 (x m : q_S) : Prop := (∀ k, k < 40 → x.1 9 k = m.1 8 k) ∧ x.2.1 8 1 = m.1 14 13 ∧ x.2.1 8 2 = m.1 14 14 ∧ x.2.1 8 4 = m.1 14 16 ∧ (x.2.1 8 2).toInt ≤ (x.2.1 8 1).toInt ∧ (∀ k, k < (x.2.1 8 1).toNatClampNeg → q_rgz 1 999 (x.1 9 k)) ∧ ((x.2.1 8 2).toInt < (x.2.1 8 1).toInt → (m.1 14 15).toInt = (x.1 9 (x.2.1 8 2).toNatClampNeg).toInt - (x.2.1 8 3).toInt ∧ 0 ≤ (x.2.1 8 3).toInt ∧ (x.2.1 8 3).toInt < (x.1 9 (x.2.1 8 2).toNatClampNeg).toInt) ∧ (¬ (x.2.1 8 2).toInt < (x.2.1 8 1).toInt → x.2.1 8 3 = 0)
/-- what the class' own sum over pressed rows gives -/
def q_cs (f : Nat → Int32) (r : Int32) : Option Int32 := dz_N182_74 (fun _ => f, fun _ _ => 0, fun _ _ => 0) r
/-- the keys: what the class keeps as seen is what its own sum over the pressed ones gives -/
def q_R5 (x m : q_S) : Prop := x.2.1 10 2 = m.1 14 12 ∧ (∀ r, r < 4 → x.1 11 r = m.1 7 (4 * r) + 2 * m.1 7 (4 * r + 1) + 4 * m.1 7 (4 * r + 2) + 8 * m.1 7 (4 * r + 3)) ∧ (∀ r : Int32, q_rgz 0 15 r → q_cs (x.1 11) r = some (x.1 12 r.toNatClampNeg))
/-- the processor; TT: what is said of the traces -/
def q_R6 (TT : (Nat → Int32) → Int32 → (Nat → Int32) → Int32 → Int64 → Int64 → List Int32 → List (Nat → Int32) → (Nat → Int64) → Prop) (x m : q_S) : Prop := (x.2.1 23 0 = m.1 14 0 ∧ x.2.1 23 1 = m.1 14 1 ∧ x.2.1 23 2 = m.1 14 2 ∧ x.2.1 23 3 = m.1 14 3) ∧ (x.2.1 23 7 = 0 → x.2.1 23 4 = m.1 14 4) ∧ x.2.1 23 6 = m.1 15 6 ∧ x.2.1 23 7 = m.1 15 7 ∧ x.2.1 23 8 = m.1 14 18 ∧ x.2.1 23 9 = m.1 14 17 ∧ x.2.1 23 10 = m.1 14 19 ∧ True ∧ TT (x.1 24) (x.2.1 23 11) (m.1 9) (m.1 14 20) (x.2.2 0 4) (m.2.2 0 16) [m.2.1 0 17, m.2.1 0 34, m.2.1 0 35, m.2.1 0 39] [m.1 16, m.1 17, m.1 18, m.1 19, m.1 20, m.1 21, m.1 22, m.1 23, m.1 24, m.1 25, m.1 26, m.1 27, m.1 28, m.1 29, m.1 30, m.1 31, m.1 32] (m.2.2 31) ∧ x.2.1 23 5 = m.1 15 5 + 2 * m.1 15 4 + 4 * m.1 15 3 + 8 * m.1 15 2 + 64 * m.1 15 1 + 128 * m.1 15 0 ∧ ((x.2.1 23 7 = 0 ∨ x.2.1 23 9 = 0) ∧ q_rgz 0 9 (x.2.1 23 9))
/-- the voices -/
def q_R7 (x m : q_S) : Prop := (∀ k, k < 3 → x.1 26 k = m.1 10 k ∧ x.1 27 k = m.1 11 k ∧ x.1 28 k = m.1 12 k ∧ x.1 29 k = m.1 13 k) ∧ (∀ k, k < 40 → x.1 30 k = m.1 6 k)
/-- the picture and the time -/
def q_R8 (x m : q_S) : Prop := ((∀ k, k < 1024 → x.1 31 k = m.1 5 k) ∧ q_rgz 0 3 (x.1 4 1)) ∧ x.2.2 1 8 = m.2.2 0 15
def q_R (TT : (Nat → Int32) → Int32 → (Nat → Int32) → Int32 → Int64 → Int64 → List Int32 → List (Nat → Int32) → (Nat → Int64) → Prop) (x m : q_S) : Prop := q_R1 x m ∧ q_R2 x m ∧ q_R3 x m ∧ q_R4 x m ∧ q_R5 x m ∧ q_R6 TT x m ∧ q_R7 x m ∧ q_R8 x m
section
variable {TT : (Nat → Int32) → Int32 → (Nat → Int32) → Int32 → Int64 → Int64 → List Int32 → List (Nat → Int32) → (Nat → Int64) → Prop} {x m : q_S} {c d w : Int}
theorem q_R.r1 (h : q_R TT x m) : q_R1 x m := h.1
theorem q_R.r2 (h : q_R TT x m) : q_R2 x m := h.2.1
theorem q_R.r3 (h : q_R TT x m) : q_R3 x m := h.2.2.1
theorem q_R.r4 (h : q_R TT x m) : q_R4 x m := h.2.2.2.1
theorem q_R.r5 (h : q_R TT x m) : q_R5 x m := h.2.2.2.2.1
theorem q_R.r6 (h : q_R TT x m) : q_R6 TT x m := h.2.2.2.2.2.1
theorem q_R.r7 (h : q_R TT x m) : q_R7 x m := h.2.2.2.2.2.2.1
theorem q_R.r8 (h : q_R TT x m) : q_R8 x m := h.2.2.2.2.2.2.2
/-- a register -/
theorem q_R.g (h : q_R TT x m) (k : Nat) (hk : k < 45 := by decide) (hp : q_pl k = true := by decide) : x.1 4 k = m.1 4 k := h.r2.1.1 k hk hp
theorem q_nat_rg {a : Int32} {n : Int} (h : q_rgz 0 (n - 1) a) : ((a.toNatClampNeg : Nat) : Int) = a.toInt ∧ (a.toNatClampNeg : Int) < n := by
  have h1 := h.1
  have h2 := h.2
  have e : a.toNatClampNeg = a.toInt.toNat := rfl
  omega
theorem q_lt_T {a b : Int32} (h : a.toInt < b.toInt) : decide (a < b) = true := decide_eq_true (Int32.lt_iff_toInt_lt.mpr h)
theorem q_lt_F {a b : Int32} (h : b.toInt ≤ a.toInt) : decide (a < b) = false := decide_eq_false (fun z => by have := Int32.lt_iff_toInt_lt.mp z; omega)
theorem q_eq_T {a b : Int32} (h : a.toInt = b.toInt) : decide (a = b) = true := decide_eq_true (Int32.toInt_inj.mp h)
theorem q_eq_F {a b : Int32} (h : ¬ a.toInt = b.toInt) : decide (a = b) = false := decide_eq_false (fun z => h (by rw [z]))
theorem q_ltT {a b : Int32} (h : decide (a < b) = true) : a.toInt < b.toInt := Int32.lt_iff_toInt_lt.mp (of_decide_eq_true h)
theorem q_ltF {a b : Int32} (h : decide (a < b) = false) : b.toInt ≤ a.toInt := Int.not_lt.mp (fun z => of_decide_eq_false h (Int32.lt_iff_toInt_lt.mpr z))
theorem q_eqT {a b : Int32} (h : decide (a = b) = true) : a = b := of_decide_eq_true h
theorem q_eqF {a b : Int32} (h : decide (a = b) = false) : ¬ a.toInt = b.toInt := fun z => of_decide_eq_false h (Int32.toInt_inj.mp z)
theorem q_addI {a b : Int32} (h : q_rgz (-1000000) 1000000 a) (h2 : q_rgz (-1000000) 1000000 b) : (a + b).toInt = a.toInt + b.toInt := by
  unfold q_rgz at *
  exact q_add9 (by omega) (by omega)
theorem q_subI {a b : Int32} (h : q_rgz (-1000000) 1000000 a) (h2 : q_rgz (-1000000) 1000000 b) : (a - b).toInt = a.toInt - b.toInt := by
  unfold q_rgz at *
  rw [Int32.toInt_sub]
  exact Int.bmod_eq_of_le (by omega) (by omega)
theorem q_mulI {a b : Int32} {n : Int} (hb : b.toInt = n) (h0 : 0 ≤ n) (h1 : n ≤ 1000) (h : q_rgz (-100000) 100000 a) : (b * a).toInt = n * a.toInt := by
  unfold q_rgz at *
  have e1 : n * a.toInt ≤ 1000 * 100000 := by
    have := Int.mul_le_mul_of_nonneg_left h.2 h0
    omega
  have e2 : -(1000 * 100000) ≤ n * a.toInt := by
    have := Int.mul_le_mul_of_nonneg_left h.1 h0
    omega
  rw [Int32.toInt_mul, hb]
  exact Int.bmod_eq_of_le (by omega) (by omega)
/-- masks of the lowest bits -/
theorem q_andI {a : Int32} {l u : Int} (n : Nat) (hn : n < 31) (h : q_rgz l u a) (h0 : 0 ≤ l) {k : Int32} (hk : k.toInt = 2 ^ n - 1) : (a &&& k).toInt = a.toInt % 2 ^ n := by
  obtain ⟨p1, p2⟩ := q_nn h h0
  have hp : (2 : Int) ^ n = ((2 ^ n : Nat) : Int) := by push_cast; rfl
  have hpos : 0 < 2 ^ n := Nat.pos_of_ne_zero (by exact Nat.ne_of_gt (Nat.two_pow_pos n))
  have kk := q_nn (x := k) (l := 0) (u := 2 ^ n - 1) ⟨by rw [hk]; omega, by rw [hk]; omega⟩ (by decide)
  have kn : k.toBitVec.toNat = 2 ^ n - 1 := by have := kk.1; omega
  have e : (a &&& k).toBitVec = a.toBitVec &&& k.toBitVec := rfl
  have mm : (a.toBitVec &&& k.toBitVec).msb = false := by rw [BitVec.msb_and, p2]; rfl
  have e1 : (a &&& k).toInt = ((a.toBitVec.toNat % 2 ^ n : Nat) : Int) := by
    show ((a &&& k).toBitVec).toInt = _
    rw [e, BitVec.toInt_eq_toNat_of_msb mm, BitVec.toNat_and, kn, Nat.and_two_pow_sub_one_eq_mod]
  rw [e1, p1, hp]
  exact_mod_cast rfl
theorem q_shn {b : Int32} {n : Nat} (hb : b.toInt = (n : Int)) (hn : n < 32) : (b.toBitVec.smod 32).toNat = n := by
  obtain ⟨p1, p2⟩ := q_nn (x := b) (l := 0) (u := n) ⟨by omega, by omega⟩ (by decide)
  rw [BitVec.smod_eq, p2, show (32 : BitVec 32).msb = false from rfl]
  show (b.toBitVec.umod 32).toNat = n
  rw [BitVec.umod_eq, BitVec.toNat_umod]
  show b.toBitVec.toNat % 32 = n
  omega
theorem q_shrI {a b : Int32} (n : Nat) (hb : b.toInt = (n : Int)) (hn : n < 32) : (a >>> b).toInt = a.toInt / 2 ^ n := by
  show ((a >>> b).toBitVec).toInt = _
  have e : (a >>> b).toBitVec = a.toBitVec.sshiftRight' (b.toBitVec.smod 32) := rfl
  rw [e, BitVec.toInt_sshiftRight', q_shn hb hn, Int.shiftRight_eq_div_pow]
  show a.toInt / ((2 ^ n : Nat) : Int) = _
  rw [show ((2 ^ n : Nat) : Int) = 2 ^ n by push_cast; rfl]
theorem q_shlI {a b : Int32} {l u : Int} (n : Nat) (hb : b.toInt = (n : Int)) (hn : n < 32) (h : q_rgz l u a) (h0 : 0 ≤ l) (hu : u * 2 ^ n < 2147483648) : (a <<< b).toInt = a.toInt * 2 ^ n := by
  obtain ⟨p1, p2⟩ := q_nn h h0
  have e : (a <<< b).toBitVec = a.toBitVec <<< (b.toBitVec.smod 32) := rfl
  have pos : (0 : Int) < 2 ^ n := Int.pow_pos (by decide)
  have hm : a.toInt * 2 ^ n ≤ u * 2 ^ n := Int.mul_le_mul_of_nonneg_right h.2 (Int.le_of_lt pos)
  have h00 : 0 ≤ a.toInt * 2 ^ n := Int.mul_nonneg (Int.le_trans h0 h.1) (Int.le_of_lt pos)
  have cN : a.toInt * 2 ^ n = ((a.toBitVec.toNat * 2 ^ n : Nat) : Int) := by rw [p1]; push_cast; rfl
  have lt : a.toBitVec.toNat * 2 ^ n < 2147483648 := by omega
  have e2 : (a <<< b).toBitVec.toNat = a.toBitVec.toNat * 2 ^ n := by
    rw [e, BitVec.shiftLeft_eq', q_shn hb hn, BitVec.toNat_shiftLeft, Nat.shiftLeft_eq]
    exact Nat.mod_eq_of_lt (by omega)
  show ((a <<< b).toBitVec).toInt = _
  rw [BitVec.toInt_eq_toNat_of_lt (by rw [e2]; omega), e2, cN]
theorem q_sh31 {k : Int32} {n : Nat} (hk : k.toInt = (n : Int)) (hn : n < 32) : (k &&& 31).toInt = (n : Int) := by
  rw [q_andI 5 (by decide) (l := 0) (u := n) ⟨by omega, by omega⟩ (by decide) (show (31 : Int32).toInt = 2 ^ 5 - 1 from rfl), hk]
  omega
end
end
section
/-! ===== reading ===== -/
def q_eq33 (m m2 : q_S) : Prop := (∀ i, Nat.beq i 33 = false → m2.1 i = m.1 i) ∧ m2.2 = m.2
section
variable {TT : (Nat → Int32) → Int32 → (Nat → Int32) → Int32 → Int64 → Int64 → List Int32 → List (Nat → Int32) → (Nat → Int64) → Prop} {x m : q_S} {c d w : Int}
theorem q_R_33 {m2 : q_S} (h : q_R TT x m) (e : q_eq33 m m2) : q_R TT x m2 := by
  obtain ⟨e1, e2⟩ := e
  unfold q_R q_R1 q_R2 q_R3 q_R4 q_R5 q_R6 q_R7 q_R8 at *
  rw [e2]
  simp only [e1 1 rfl, e1 2 rfl, e1 3 rfl, e1 4 rfl, e1 5 rfl, e1 6 rfl, e1 7 rfl, e1 8 rfl, e1 9 rfl, e1 10 rfl, e1 11 rfl, e1 12 rfl, e1 13 rfl, e1 14 rfl, e1 15 rfl, e1 16 rfl, e1 17 rfl, e1 18 rfl, e1 19 rfl, e1 20 rfl, e1 21 rfl, e1 22 rfl, e1 23 rfl, e1 24 rfl, e1 25 rfl, e1 26 rfl, e1 27 rfl, e1 28 rfl, e1 29 rfl, e1 30 rfl, e1 31 rfl, e1 32 rfl]
  exact h
theorem q_eq33_refl (m : q_S) : q_eq33 m m := ⟨fun _ _ => rfl, rfl⟩
theorem q_202T {s : q_S} {v lo hi : Int32} (h1 : lo.toInt ≤ v.toInt) (h2 : v.toInt ≤ hi.toInt) : dz_M202 s v lo hi = true := by
  unfold dz_M202
  rw [q_lt_F h1, q_lt_F h2]; rfl
theorem q_202F {s : q_S} {v lo hi : Int32} (h : v.toInt < lo.toInt ∨ hi.toInt < v.toInt) : dz_M202 s v lo hi = false := by
  unfold dz_M202
  cases h1 : decide (v < lo) with
  | true => rfl
  | false =>
    have := q_ltF h1
    rw [q_lt_T (show hi.toInt < v.toInt by omega)]; rfl
theorem q_nat_and2p (a n : Nat) : a &&& 2 ^ n = a / 2 ^ n % 2 * 2 ^ n := by
  have hb := Nat.testBit_eq_decide_div_mod_eq (x := a) (i := n)
  apply Nat.eq_of_testBit_eq
  intro i
  rw [Nat.testBit_and, Nat.testBit_two_pow]
  rcases Nat.mod_two_eq_zero_or_one (a / 2 ^ n) with q | q
  · rw [q, Nat.zero_mul, Nat.zero_testBit]
    by_cases e : n = i
    · subst e; rw [hb, q]; simp
    · simp [e]
  · rw [q, Nat.one_mul, Nat.testBit_two_pow]
    by_cases e : n = i
    · subst e; rw [hb, q]; simp
    · simp [e]
theorem q_and2p {a : Int32} {l u : Int} (n : Nat) (hn : n < 31) (h : q_rgz l u a) (h0 : 0 ≤ l) {k : Int32} (hk : k.toInt = 2 ^ n) : (a &&& k).toInt = a.toInt / 2 ^ n % 2 * 2 ^ n := by
  obtain ⟨p1, p2⟩ := q_nn h h0
  have pos : (0 : Int) < 2 ^ n := Int.pow_pos (by decide)
  have kk := q_nn (x := k) (l := 0) (u := 2 ^ n) ⟨by rw [hk]; omega, by rw [hk]; omega⟩ (by decide)
  have hp : (2 : Int) ^ n = ((2 ^ n : Nat) : Int) := by push_cast; rfl
  have kn : k.toBitVec.toNat = 2 ^ n := by have := kk.1; omega
  have e : (a &&& k).toBitVec = a.toBitVec &&& k.toBitVec := rfl
  have mm : (a.toBitVec &&& k.toBitVec).msb = false := by rw [BitVec.msb_and, p2]; rfl
  have e1 : (a &&& k).toInt = ((a.toBitVec.toNat / 2 ^ n % 2 * 2 ^ n : Nat) : Int) := by
    show ((a &&& k).toBitVec).toInt = _
    rw [e, BitVec.toInt_eq_toNat_of_msb mm, BitVec.toNat_and, kn, q_nat_and2p]
  rw [e1, p1, hp]
  push_cast
  rfl
theorem q_has {s : q_S} {a k : Int32} {l u : Int} (n : Nat) (h : q_rgz l u a) (h0 : 0 ≤ l) (hk : k.toInt = (n : Int)) (hn : n < 32) : dz_M206 s a k = decide (a.toInt / 2 ^ n % 2 = 1) := by
  unfold dz_M206
  have pos : (0 : Int) < 2 ^ n := Int.pow_pos (by decide)
  have e := q_shrI (a := a) (b := k &&& 31) n (q_sh31 hk hn) hn
  have g : 0 ≤ a.toInt / 2 ^ n := Int.ediv_nonneg (Int.le_trans h0 h.1) (Int.le_of_lt pos)
  have e2 : ((a >>> (k &&& 31)) &&& 1).toInt = a.toInt / 2 ^ n % 2 := by
    rw [q_andI 1 (by decide) (l := 0) (u := a.toInt / 2 ^ n) ⟨by rw [e]; exact g, by rw [e]; exact Int.le_refl _⟩ (by decide) (show (1 : Int32).toInt = 2 ^ 1 - 1 from rfl), e]
    rfl
  by_cases q : a.toInt / 2 ^ n % 2 = 1
  · rw [q_eq_T (show ((a >>> (k &&& 31)) &&& 1).toInt = (1 : Int32).toInt by rw [e2, q]; rfl), decide_eq_true q]; rfl
  · rw [q_eq_F (show ¬ ((a >>> (k &&& 31)) &&& 1).toInt = (1 : Int32).toInt by rw [e2]; exact q), decide_eq_false q]; rfl
theorem q_lineX (h : q_R TT x m) (hI : q_Iv c d w m) : ((((x.2.2 1 8) - (x.2.2 1 8) / 960 * 960).toInt32) / 24) = dz_M207_64 m := by
  apply Int32.toInt_inj.mp
  rw [q_line hI, h.r8.2]
  have e := q_cyc hI 960 (n := 960) rfl (by decide) (by decide)
  have e1 := (hI.2.2 0 15 rfl).1
  rw [q_toInt_div (by rw [e]; omega) (by decide), e]
  show (m.2.2 0 15).toInt % 960 / 24 = _
  omega
theorem q_colX (h : q_R TT x m) : dz_N87_65 x = ((m.2.2 0 15) - (m.2.2 0 15) / 24 * 24).toInt32 := by
  unfold dz_N87_65
  rw [h.r8.2]
/-- what is seen of the keys -/
theorem q_seen (h : q_R TT x m) (hI : q_Iv c d w m) (r : Int32) (hr : q_rgz 0 255 r) : ∃ m2, dz_M208_64 m r = some (m2, x.1 12 (r &&& 15).toNatClampNeg) ∧ q_eq33 m m2 := by
  obtain ⟨-, c2, c3⟩ := h.r5
  have hk : ∀ i, i < 16 → m.1 7 i = q_b (decide (m.1 7 i = 1)) := fun i _ => by
    have g : q_rgz 0 1 (m.1 7 i) := hI.1 7 i
    have g0 := g.1
    have g1 := g.2
    rcases (by omega : (m.1 7 i).toInt = 0 ∨ (m.1 7 i).toInt = 1) with e | e
    · rw [show m.1 7 i = 0 from Int32.toInt_inj.mp e]; rfl
    · rw [show m.1 7 i = 1 from Int32.toInt_inj.mp e]; rfl
  have rr : q_rgz 0 15 (r &&& 15) := q_rg_and _ 15 (by decide) rfl
  exact q_kzM m (fun i => decide (m.1 7 i = 1)) hk (x.1 11) c2 r hr.1 hr.2 _ (c3 (r &&& 15) rr)
theorem q_rr (h : q_R TT x m) (hI : q_Iv c d w m) (r : Int32) (hr : q_rgz 0 47 r) : ∃ m2, dz_M210_64 m r = some (m2, dz_N91_65 x r (x.1 4 r.toNatClampNeg)) ∧ q_eq33 m m2 := by
  obtain ⟨p0, p1⟩ := hr
  have rn : r.toNatClampNeg = r.toInt.toNat := rfl
  by_cases k9 : r.toInt = 9
  · have e : r = 9 := Int32.toInt_inj.mp k9
    subst e
    refine ⟨m, ?_, q_eq33_refl m⟩
    show some (m, dz_M207_64 m) = some (m, (((x.2.2 1 8) - (x.2.2 1 8) / 960 * 960).toInt32) / 24)
    rw [q_lineX h hI]
  by_cases k10 : r.toInt = 10
  · have e : r = 10 := Int32.toInt_inj.mp k10
    subst e
    refine ⟨m, ?_, q_eq33_refl m⟩
    show some (m, m.1 14 9) = some (m, x.1 4 10)
    rw [h.r2.2.1]
  have rd (a : Int32) (ha : q_rgz 0 65535 a) : (a - a / 256 * 256) = a &&& 255 ∧ (a / 256 - a / 256 / 256 * 256) = a >>> ((8 &&& 31 : Int32)) := by
    have a0 := ha.1
    have a1 := ha.2
    have d1 : (a / 256).toInt = a.toInt / 256 := q_toInt_div a0 (by decide)
    constructor
    · apply Int32.toInt_inj.mp
      rw [q_rem_eq a0 (by decide), q_andI 8 (by decide) ha (by decide) (show (255 : Int32).toInt = 2 ^ 8 - 1 from rfl)]
      rfl
    · apply Int32.toInt_inj.mp
      rw [q_rem_eq (by rw [d1]; omega) (by decide), d1, q_shrI 8 (show ((8 &&& 31 : Int32)).toInt = ((8 : Nat) : Int) from rfl) (by decide)]
      show a.toInt / 256 % 256 = a.toInt / 256
      omega
  by_cases k12 : r.toInt = 12
  · have e : r = 12 := Int32.toInt_inj.mp k12
    subst e
    refine ⟨m, ?_, q_eq33_refl m⟩
    show some (m, (m.1 14 5) - (m.1 14 5) / 256 * 256) = some (m, (x.1 7 0) &&& 255)
    rw [h.r3.2.2.2.1, (rd _ (hI.1 14 5)).1]
  by_cases k13 : r.toInt = 13
  · have e : r = 13 := Int32.toInt_inj.mp k13
    subst e
    refine ⟨m, ?_, q_eq33_refl m⟩
    show some (m, (m.1 14 5) / 256 - (m.1 14 5) / 256 / 256 * 256) = some (m, (x.1 7 0) >>> ((8 &&& 31 : Int32)))
    rw [h.r3.2.2.2.1, (rd _ (hI.1 14 5)).2]
  by_cases k14 : r.toInt = 14
  · have e : r = 14 := Int32.toInt_inj.mp k14
    subst e
    refine ⟨m, ?_, q_eq33_refl m⟩
    show some (m, (m.1 14 6) - (m.1 14 6) / 256 * 256) = some (m, (x.1 7 1) &&& 255)
    rw [h.r3.2.2.2.2, (rd _ (hI.1 14 6)).1]
  by_cases k15 : r.toInt = 15
  · have e : r = 15 := Int32.toInt_inj.mp k15
    subst e
    refine ⟨m, ?_, q_eq33_refl m⟩
    show some (m, (m.1 14 6) / 256 - (m.1 14 6) / 256 / 256 * 256) = some (m, (x.1 7 1) >>> ((8 &&& 31 : Int32)))
    rw [h.r3.2.2.2.2, (rd _ (hI.1 14 6)).2]
  by_cases k29 : r.toInt = 29
  · have e : r = 29 := Int32.toInt_inj.mp k29
    subst e
    refine ⟨m, ?_, q_eq33_refl m⟩
    show some (m, m.1 14 10) = some (m, x.1 4 29)
    rw [h.r2.2.2.1]
  by_cases k30 : r.toInt = 30
  · have e : r = 30 := Int32.toInt_inj.mp k30
    subst e
    refine ⟨m, ?_, q_eq33_refl m⟩
    show some (m, m.1 14 11) = some (m, x.1 4 30)
    rw [h.r2.2.2.2]
  by_cases k31 : r.toInt = 31
  · have e : r = 31 := Int32.toInt_inj.mp k31
    subst e
    obtain ⟨m2, e2, q2⟩ := q_seen h hI (m.1 4 31) (hI.1 4 31)
    refine ⟨m2, ?_, q2⟩
    show ((dz_M208_64 m (m.1 4 31)).bind fun r422 => some (r422.1, (r422.2 + (16 * ((r422.1.1 14) 12))))) = some (m2, (x.1 12 ((x.1 4 31) &&& 15).toNatClampNeg) + (16 * (x.2.1 10 2)))
    rw [e2, h.g 31, h.r5.1, ← q2.1 14 rfl]
    rfl
  have nT : ∀ n : Int32, ¬ r.toInt = n.toInt → decide (r = n) = false := fun n hn => q_eq_F hn
  have e202 : dz_M202 m r 12 15 = false := q_202F (by
    have z : (12 : Int32).toInt = 12 := rfl
    have z2 : (15 : Int32).toInt = 15 := rfl
    omega)
  by_cases k44 : r.toInt = 44
  · have e : r = 44 := Int32.toInt_inj.mp k44
    subst e
    refine ⟨m, ?_, q_eq33_refl m⟩
    show q_let (dz_M209_64 m) (fun r423 => cond r423 (some (m, ((((m.1 4) 44) + (2 * ((m.1 14) 16))) + 4))) (some (m, ((((m.1 4) 44) + (2 * ((m.1 14) 16))) + 0)))) = some (m, cond (decide (x.2.1 8 2 < x.2.1 8 1)) ((((x.1 4 44) + (2 * (x.2.1 8 4))) + 4)) ((((x.1 4 44) + (2 * (x.2.1 8 4))) + 0)))
    rw [h.g 44, h.r4.2.1, h.r4.2.2.1, h.r4.2.2.2.1]
    unfold dz_M209_64 q_let
    cases decide (m.1 14 14 < m.1 14 13) <;> rfl
  refine ⟨m, ?_, q_eq33_refl m⟩
  unfold dz_M210_64 dz_N91_65
  rw [nT 9 k9, nT 10 k10, nT 12 k12, nT 13 k13, nT 14 k14, nT 15 k15, nT 31 k31, nT 44 k44, nT 29 k29, nT 30 k30, e202]
  have z44 : (44 : Int32).toInt = 44 := rfl
  by_cases g : 44 < r.toInt
  · rw [q_lt_T (show (44 : Int32).toInt < r.toInt by omega)]
    show some (m, (0 : Int32)) = some (m, x.1 4 r.toNatClampNeg)
    rw [h.r2.1.2 r.toNatClampNeg (by omega) (by omega)]
  · rw [q_lt_F (show r.toInt ≤ (44 : Int32).toInt by omega), q_in_rg (n := 48) (l := 0) (u := 47) ⟨p0, p1⟩ (by decide) (by decide)]
    show some (m, m.1 4 r.toNatClampNeg) = some (m, x.1 4 r.toNatClampNeg)
    have pl : q_pl r.toNatClampNeg = true := by
      have hb : ∀ n : Nat, ¬ r.toInt = (n : Int) → Nat.beq r.toNatClampNeg n = false := fun n hn => by
        cases e9 : Nat.beq r.toNatClampNeg n with
        | false => rfl
        | true => have := Nat.eq_of_beq_eq_true e9; omega
      unfold q_pl
      rw [hb 10 k10, hb 12 k12, hb 13 k13, hb 14 k14, hb 15 k15, hb 29 k29, hb 30 k30]
      rfl
    rw [h.r2.1.1 r.toNatClampNeg (by omega) pl]
/-- the class reads as the model does -/
theorem q_rdz (h : q_R TT x m) (hI : q_Iv c d w m) (a : Int32) (ha : q_rgz 0 4095 a) : ∃ v m2, dz_N90_65 x a = some v ∧ dz_M214_64 m a = some (m2, v) ∧ q_eq33 m m2 ∧ q_R TT x m2 ∧ q_Iv c d w m2 ∧ q_rgz 0 255 v := by
  obtain ⟨⟨m3, v3⟩, e3, i3, r3⟩ := dzj_M214_64 c d w m hI a ha
  suffices H : ∃ m2 v, dz_N90_65 x a = some v ∧ dz_M214_64 m a = some (m2, v) ∧ q_eq33 m m2 by
    obtain ⟨m2, v, g1, g2, g3⟩ := H
    rw [e3] at g2
    cases g2
    exact ⟨v3, m3, g1, e3, g3, q_R_33 h g3, i3, r3⟩
  have p0 := ha.1
  have p1 := ha.2
  have z0 : (0 : Int32).toInt = 0 := rfl
  have n1 : (1 : Int32).toInt = 1 := rfl
  have z48 : (48 : Int32).toInt = 48 := rfl
  have e1 : (a - 3840).toInt = a.toInt - 3840 := q_subI (q_rg_le ha (by decide) (by decide)) ⟨by decide, by decide⟩
  have z1 : (3840 : Int32).toInt = 3840 := rfl
  have z2 : (3887 : Int32).toInt = 3887 := rfl
  have z3 : (3072 : Int32).toInt = 3072 := rfl
  have z4 : (3583 : Int32).toInt = 3583 := rfl
  have z5 : (3584 : Int32).toInt = 3584 := rfl
  have z6 : (2048 : Int32).toInt = 2048 := rfl
  have z7 : (2559 : Int32).toInt = 2559 := rfl
  have z8 : (2560 : Int32).toInt = 2560 := rfl
  by_cases k : 3840 ≤ a.toInt ∧ a.toInt ≤ 3887
  · have r := q_rr h hI (a - 3840) ⟨by omega, by omega⟩
    obtain ⟨m2, e2, q2⟩ := r
    refine ⟨m2, dz_N91_65 x (a - 3840) (x.1 4 (a - 3840).toNatClampNeg), ?_, ?_, q2⟩
    · unfold dz_N90_65
      rw [q_lt_F (show (0 : Int32).toInt ≤ (a - 3840).toInt by omega), q_lt_T (show (a - 3840).toInt < (48 : Int32).toInt by omega)]
      rfl
    · unfold dz_M214_64
      rw [q_202T (by omega) (by omega)]
      show ((dz_M210_64 m (a - 3840)).bind fun r434 => some (r434.1, r434.2)) = _
      rw [e2]; rfl
  -- no register
  have nX : dz_N90_65 x a = dz_N90_65_31 x a := by
    unfold dz_N90_65
    by_cases g : (a - 3840).toInt < 0
    · rw [q_lt_T (show (a - 3840).toInt < (0 : Int32).toInt by omega)]; rfl
    · rw [q_lt_F (show (0 : Int32).toInt ≤ (a - 3840).toInt by omega), q_lt_F (show (48 : Int32).toInt ≤ (a - 3840).toInt by omega)]; rfl
  have nM : dz_M214_64 m a = cond (dz_M202 m a 3072 3583) (cond (dz_M206 m (m.1 4 0) 0) (cond (q_in (a - 3072) 512) (some (m, ((m.1 2) ((a - 3072).toNatClampNeg)))) none) (dz_M214_64_60 m a)) (dz_M214_64_60 m a) := by
    unfold dz_M214_64
    rw [q_202F (by omega)]; rfl
  rw [nX, nM]
  have g0 : x.1 4 0 = m.1 4 0 := h.g 0
  have b0 : q_rgz 0 15 (m.1 4 0) := hI.1 4 0
  have b00 := b0.1
  have b01 := b0.2
  have am : a &&& 4095 = a := by
    apply Int32.toInt_inj.mp
    rw [q_andI 12 (by decide) ha (by decide) (show (4095 : Int32).toInt = 2 ^ 12 - 1 from rfl)]
    show a.toInt % 4096 = _
    omega
  have an : a.toNatClampNeg = a.toInt.toNat := rfl
  have ramE : x.1 3 a.toNatClampNeg = m.1 1 a.toNatClampNeg := h.r1.1 _ (by omega)
  have inR : q_in a 4096 = true := q_in_rg ha (by decide) (by decide)
  -- behind the ROM
  have tail : ∃ m2 v, dz_N90_65_73 x a (x.1 4 0) = some v ∧ dz_M214_64_60 m a = some (m2, v) ∧ q_eq33 m m2 := by
    have e7 : ((x.1 4 0) &&& 2).toInt = (m.1 4 0).toInt / 2 % 2 * 2 := by rw [g0]; exact q_and2p 1 (by decide) b0 (by decide) rfl
    have hh : dz_M206 m (m.1 4 0) 1 = decide ((m.1 4 0).toInt / 2 % 2 = 1) := q_has 1 b0 (by decide) rfl (by decide)
    unfold dz_N90_65_73 dz_M214_64_60
    rw [am]
    by_cases kc : 2048 ≤ a.toInt ∧ a.toInt ≤ 2559
    · rw [q_202T (by omega) (by omega), q_lt_F (show (2048 : Int32).toInt ≤ a.toInt by omega), q_lt_T (show a.toInt < (2560 : Int32).toInt by omega)]
      by_cases kb : (m.1 4 0).toInt / 2 % 2 = 1
      · rw [q_eq_T (show ((x.1 4 0) &&& 2).toInt = (2 : Int32).toInt by rw [e7, kb]; rfl)]
        have s1 : ((x.1 4 0) >>> ((2 &&& 31 : Int32))).toInt = (m.1 4 0).toInt / 4 := by rw [g0]; exact q_shrI 2 rfl (by decide)
        have s2 : (((x.1 4 0) >>> ((2 &&& 31 : Int32))) &&& 3) = m.1 4 0 / 4 := by
          apply Int32.toInt_inj.mp
          rw [q_andI 2 (by decide) (l := 0) (u := 3) ⟨by rw [s1]; omega, by rw [s1]; omega⟩ (by decide) (show (3 : Int32).toInt = 2 ^ 2 - 1 from rfl), s1, q_toInt_div b00 (by decide)]
          show (m.1 4 0).toInt / 4 % 4 = (m.1 4 0).toInt / 4
          omega
        rw [s2]
        have d4 : q_rgz 0 3 (m.1 4 0 / 4) := q_rg_div (c := 4) (U := 3) b0 (by decide) rfl (by decide) (by decide)
        have i1 : (512 * (m.1 4 0 / 4)).toInt = 512 * (m.1 4 0 / 4).toInt := q_mulI (n := 512) rfl (by decide) (by decide) (q_rg_le d4 (by decide) (by decide))
        have d40 := d4.1
        have d41 := d4.2
        have i2 : ((512 * (m.1 4 0 / 4)) + a).toInt = 512 * (m.1 4 0 / 4).toInt + a.toInt := by
          rw [q_addI ⟨by rw [i1]; omega, by rw [i1]; omega⟩ (q_rg_le ha (by decide) (by decide)), i1]
        have i3 : (((512 * (m.1 4 0 / 4)) + a) - 2048).toInt = 512 * (m.1 4 0 / 4).toInt + a.toInt - 2048 := by
          rw [q_subI ⟨by rw [i2]; omega, by rw [i2]; omega⟩ ⟨by decide, by decide⟩, i2]; rfl
        have rI : q_rgz 0 2047 (((512 * (m.1 4 0 / 4)) + a) - 2048) := ⟨by rw [i3]; omega, by rw [i3]; omega⟩
        rw [q_in_rg rI (by decide) (by decide), hh, decide_eq_true kb]
        have ne : (((512 * (m.1 4 0 / 4)) + a) - 2048).toNatClampNeg = (((512 * (m.1 4 0 / 4)) + a) - 2048).toInt.toNat := rfl
        refine ⟨m, _, rfl, ?_, q_eq33_refl m⟩
        show some (m, m.1 3 _) = some (m, x.1 6 _)
        rw [h.r1.2.2 _ (by omega)]
      · rw [q_eq_F (show ¬ ((x.1 4 0) &&& 2).toInt = (2 : Int32).toInt by rw [e7]; intro z; have z9 : (2 : Int32).toInt = 2 := rfl; omega), hh, decide_eq_false kb, inR]
        refine ⟨m, _, rfl, ?_, q_eq33_refl m⟩
        show some (m, m.1 1 _) = some (m, x.1 3 _)
        rw [ramE]
    · rw [q_202F (by omega), inR]
      refine ⟨m, m.1 1 a.toNatClampNeg, ?_, rfl, q_eq33_refl m⟩
      rw [ramE]
      cases decide ((x.1 4 0) &&& 2 = 2) with
      | false => rfl
      | true =>
        by_cases g : a.toInt < 2048
        · rw [q_lt_T (show a.toInt < (2048 : Int32).toInt by omega)]; rfl
        · rw [q_lt_F (show (2048 : Int32).toInt ≤ a.toInt by omega), q_lt_F (show (2560 : Int32).toInt ≤ a.toInt by omega)]; rfl
  have e6 : ((x.1 4 0) &&& 1).toInt = (m.1 4 0).toInt / 1 % 2 * 1 := by rw [g0]; exact q_and2p 0 (by decide) b0 (by decide) rfl
  have hh : dz_M206 m (m.1 4 0) 0 = decide ((m.1 4 0).toInt / 1 % 2 = 1) := q_has 0 b0 (by decide) rfl (by decide)
  unfold dz_N90_65_31
  by_cases kr : 3072 ≤ a.toInt ∧ a.toInt ≤ 3583
  · rw [q_202T (by omega) (by omega), q_lt_F (show (3072 : Int32).toInt ≤ a.toInt by omega), q_lt_T (show a.toInt < (3584 : Int32).toInt by omega), hh]
    by_cases kb : (m.1 4 0).toInt / 1 % 2 = 1
    · have ea : (a - 3072).toInt = a.toInt - 3072 := q_subI (q_rg_le ha (by decide) (by decide)) ⟨by decide, by decide⟩
      have en : (a - 3072).toNatClampNeg = (a - 3072).toInt.toNat := rfl
      rw [q_eq_T (show ((x.1 4 0) &&& 1).toInt = (1 : Int32).toInt by rw [e6, kb]; rfl), decide_eq_true kb, q_in_rg (n := 512) (l := 0) (u := 511) ⟨by omega, by omega⟩ (by decide) (by decide)]
      refine ⟨m, _, rfl, ?_, q_eq33_refl m⟩
      show some (m, m.1 2 _) = some (m, x.1 5 _)
      rw [h.r1.2.1 _ (by omega)]
    · rw [q_eq_F (show ¬ ((x.1 4 0) &&& 1).toInt = (1 : Int32).toInt by rw [e6]; omega), decide_eq_false kb]
      exact tail
  · rw [q_202F (by omega)]
    have nT : (cond (decide ((x.1 4 0) &&& 1 = 1)) (cond (decide (a < 3072)) (dz_N90_65_73 x a (x.1 4 0)) (cond (decide (a < 3584)) (some ((x.1 5) ((a - 3072).toNatClampNeg))) (dz_N90_65_73 x a (x.1 4 0)))) (dz_N90_65_73 x a (x.1 4 0))) = dz_N90_65_73 x a (x.1 4 0) := by
      cases decide ((x.1 4 0) &&& 1 = 1) with
      | false => rfl
      | true =>
        by_cases g : a.toInt < 3072
        · rw [q_lt_T (show a.toInt < (3072 : Int32).toInt by omega)]; rfl
        · rw [q_lt_F (show (3072 : Int32).toInt ≤ a.toInt by omega), q_lt_F (show (3584 : Int32).toInt ≤ a.toInt by omega)]; rfl
    rw [nT]
    exact tail
end
end
section
/-! ===== writing ===== -/
/-- y is x but for the two frames that the class keeps -/
def q_NF (x y : q_S) : Prop := (∀ i, (Nat.beq i 15 || (Nat.beq i 16 || (Nat.beq i 17 || (Nat.beq i 20 || (Nat.beq i 21 || Nat.beq i 22))))) = false → y.1 i = x.1 i) ∧ (∀ i, (Nat.beq i 13 || Nat.beq i 18) = false → y.2.1 i = x.2.1 i) ∧ y.2.2 = x.2.2
section
variable {TT : (Nat → Int32) → Int32 → (Nat → Int32) → Int32 → Int64 → Int64 → List Int32 → List (Nat → Int32) → (Nat → Int64) → Prop} {x y z m : q_S} {c d w : Int}
theorem q_NF_refl (x : q_S) : q_NF x x := ⟨fun _ _ => rfl, fun _ _ => rfl, rfl⟩
theorem q_NF.trans (h : q_NF x y) (g : q_NF y z) : q_NF x z := ⟨fun i hi => (g.1 i hi).trans (h.1 i hi), fun i hi => (g.2.1 i hi).trans (h.2.1 i hi), g.2.2.trans h.2.2⟩
theorem q_R_NF (h : q_R TT x m) (e : q_NF x y) : q_R TT y m := by
  obtain ⟨e1, e2, e3⟩ := e
  unfold q_R q_R1 q_R2 q_R3 q_R4 q_R5 q_R6 q_R7 q_R8 at *
  rw [e3]
  simp only [e1 3 rfl, e1 4 rfl, e1 5 rfl, e1 6 rfl, e1 7 rfl, e1 9 rfl, e1 11 rfl, e1 12 rfl, e1 24 rfl, e1 26 rfl, e1 27 rfl, e1 28 rfl, e1 29 rfl, e1 30 rfl, e1 31 rfl, e2 8 rfl, e2 10 rfl, e2 23 rfl]
  exact h
theorem q_uA_ne {T : Type} (A : Nat → Nat → T) {i j : Nat} (f : Nat → T) (h : Nat.beq j i = false) : q_uA A i f j = A j := by
  show cond (Nat.beq j i) f (A j) = A j
  rw [h]; rfl
theorem q_uI_ne {T : Type} (A : Nat → Nat → T) {i j k : Nat} (v : T) (h : Nat.beq j i = false) : q_uI A i k v j = A j := by
  funext n
  show cond (Nat.beq j i) (cond (Nat.beq n k) v (A j n)) (A j n) = A j n
  rw [h]; rfl
theorem q_or6 {a b c d e f : Bool} (h : (a || (b || (c || (d || (e || f))))) = false) : a = false ∧ b = false ∧ c = false ∧ d = false ∧ e = false ∧ f = false := by
  cases a <;> cases b <;> cases c <;> cases d <;> cases e <;> cases f <;> first | exact ⟨rfl, rfl, rfl, rfl, rfl, rfl⟩ | cases h
theorem q_or2 {a b : Bool} (h : (a || b) = false) : a = false ∧ b = false := by
  cases a <;> cases b <;> first | exact ⟨rfl, rfl⟩ | cases h
theorem q_NF_A (i : Nat) (f : Nat → Int32) (hi : (Nat.beq i 15 || (Nat.beq i 16 || (Nat.beq i 17 || (Nat.beq i 20 || (Nat.beq i 21 || Nat.beq i 22))))) = true) : q_NF x (q_sA x i f) := by
  refine ⟨fun j hj => ?_, fun _ _ => rfl, rfl⟩
  show q_uA x.1 i f j = x.1 j
  refine q_uA_ne _ _ ?_
  cases e : Nat.beq j i with
  | false => rfl
  | true => rw [Nat.eq_of_beq_eq_true e, hi] at hj; cases hj
theorem q_NF_I (i k : Nat) (v : Int32) (hi : (Nat.beq i 13 || Nat.beq i 18) = true) : q_NF x (q_sI x i k v) := by
  refine ⟨fun _ _ => rfl, fun j hj => ?_, rfl⟩
  show q_uI x.2.1 i k v j = x.2.1 j
  refine q_uI_ne _ _ ?_
  cases e : Nat.beq j i with
  | false => rfl
  | true => rw [Nat.eq_of_beq_eq_true e, hi] at hj; cases hj
theorem q_kp77 (s : q_S) (a v : Int32) : q_NF s (dz_N128_77 s a v) := by
  unfold dz_N128_77
  cases decide (s.2.1 13 2 < 0) with
  | true => exact q_NF_refl s
  | false =>
    cases decide (s.2.1 13 2 < 3072) with
    | true => exact (q_NF_A 17 _ rfl).trans (q_NF_I 13 2 _ rfl)
    | false => exact q_NF_refl s
theorem q_kp82 (s : q_S) (a v : Int32) : q_NF s (dz_N128_82 s a v) := by
  unfold dz_N128_82
  cases decide (s.2.1 18 2 < 0) with
  | true => exact q_NF_refl s
  | false =>
    cases decide (s.2.1 18 2 < 3072) with
    | true => exact (q_NF_A 22 _ rfl).trans (q_NF_I 18 2 _ rfl)
    | false => exact q_NF_refl s
theorem q_kp (r : q_S) (b : Bool) (a v : Int32) : ∃ y, (cond b (q_let (dz_N128_77 r a v) fun r9 => some r9) (q_let (dz_N128_82 r a v) fun r10 => some r10)) = some y ∧ q_NF r y := by
  cases b with
  | true => exact ⟨_, rfl, q_kp77 r a v⟩
  | false => exact ⟨_, rfl, q_kp82 r a v⟩
theorem q_N95 (x : q_S) (v : Int32) : dz_N95_65 x v = some (cond (decide ((v >>> ((0 + 1 : Int32) &&& 31)) &&& 1 = 1))
    (q_sA (cond (decide ((v >>> ((0 : Int32) &&& 31)) &&& 1 = 1)) (q_sA x 7 (upd (x.1 7) 0 (x.1 4 12 + 256 * x.1 4 13))) x) 7 (upd ((cond (decide ((v >>> ((0 : Int32) &&& 31)) &&& 1 = 1)) (q_sA x 7 (upd (x.1 7) 0 (x.1 4 12 + 256 * x.1 4 13))) x).1 7) 1 (x.1 4 14 + 256 * x.1 4 15)))
    (cond (decide ((v >>> ((0 : Int32) &&& 31)) &&& 1 = 1)) (q_sA x 7 (upd (x.1 7) 0 (x.1 4 12 + 256 * x.1 4 13))) x)) := by
  have s0 : ∀ (m : Nat) (s : q_S), dz_N95_65_2 (m + 1) s v 0 = cond (decide ((v >>> ((0 : Int32) &&& 31)) &&& 1 = 1)) (dz_N95_65_2 m (q_sA s 7 (upd (s.1 7) 0 (s.1 4 12 + 256 * s.1 4 13))) v (0 + 1)) (dz_N95_65_2 m s v (0 + 1)) := fun m s => by
    rw [dzs_N95_65_2]; generalize dz_N95_65_2 m = k; rfl
  have s1 : ∀ (m : Nat) (s : q_S), dz_N95_65_2 (m + 1) s v (0 + 1) = cond (decide ((v >>> ((0 + 1 : Int32) &&& 31)) &&& 1 = 1)) (dz_N95_65_2 m (q_sA s 7 (upd (s.1 7) 1 (s.1 4 14 + 256 * s.1 4 15))) v (0 + 1 + 1)) (dz_N95_65_2 m s v (0 + 1 + 1)) := fun m s => by
    rw [dzs_N95_65_2]; generalize dz_N95_65_2 m = k; rfl
  have s2 : ∀ (m : Nat) (s : q_S), dz_N95_65_2 (m + 1) s v (0 + 1 + 1) = some s := fun m s => by
    rw [dzs_N95_65_2]; generalize dz_N95_65_2 m = k; rfl
  unfold dz_N95_65
  rw [show (5000 : Nat) = 4997 + 1 + 1 + 1 from rfl, s0]
  generalize (4997 : Nat) = n
  cases decide ((v >>> ((0 : Int32) &&& 31)) &&& 1 = 1) with
  | true =>
    rw [cond_true, s1]
    cases decide ((v >>> ((0 + 1 : Int32) &&& 31)) &&& 1 = 1) with
    | true => rw [cond_true, s2]; rfl
    | false => rw [cond_false, s2]; rfl
  | false =>
    rw [cond_false, s1]
    cases decide ((v >>> ((0 + 1 : Int32) &&& 31)) &&& 1 = 1) with
    | true => rw [cond_true, s2]; rfl
    | false => rw [cond_false, s2]; rfl
end
end
section
section
variable {TT : (Nat → Int32) → Int32 → (Nat → Int32) → Int32 → Int64 → Int64 → List Int32 → List (Nat → Int32) → (Nat → Int64) → Prop} {x y z m : q_S} {c d w : Int}
theorem q_upE (f : Nat → Int32) {i j : Nat} (v : Int32) (e : j = i) : upd f i v j = v := if_pos e
theorem q_upN (f : Nat → Int32) {i j : Nat} (v : Int32) (e : ¬ j = i) : upd f i v j = f j := if_neg e
theorem q_pl_ne {k : Nat} (h : q_pl k = true) : ¬ 10 = k ∧ ¬ 12 = k ∧ ¬ 13 = k ∧ ¬ 14 = k ∧ ¬ 15 = k ∧ ¬ 29 = k ∧ ¬ 30 = k := by
  refine ⟨?_, ?_, ?_, ?_, ?_, ?_, ?_⟩ <;> (intro e; subst e; cases h)
/-- a register that both keep alike -/
theorem q_R_reg (h : q_R TT x m) {k : Nat} (hk : k < 45) (hp : q_pl k = true) (v : Int32) (hv1 : k = 1 → q_rgz 0 3 v) : q_R TT (q_sA x 4 (upd (x.1 4) k v)) (q_sA m 4 (upd (m.1 4) k v)) := by
  obtain ⟨n1, n2, n3, n4, n5, n6, n7⟩ := q_pl_ne hp
  obtain ⟨h1, h2, h3, h4, h5, h6, h7, ⟨h8, h9⟩, h10⟩ := h
  obtain ⟨⟨a1, a2⟩, a3, a4, a5⟩ := h2
  obtain ⟨⟨b1, b2, b3, b4⟩, b5, b6, b7⟩ := h3
  refine ⟨h1, ⟨⟨fun j hj hq => ?_, fun j hj hj2 => ?_⟩, ?_, ?_, ?_⟩, ⟨⟨?_, ?_, ?_, ?_⟩, ?_, ?_, b7⟩, h4, h5, h6, h7, ⟨h8, ?_⟩, h10⟩
  · show upd (x.1 4) k v j = upd (m.1 4) k v j
    by_cases e : j = k
    · rw [q_upE _ _ e, q_upE _ _ e]
    · rw [q_upN _ _ e, q_upN _ _ e]; exact a1 j hj hq
  · show upd (x.1 4) k v j = 0
    rw [q_upN _ _ (by omega)]; exact a2 j hj hj2
  · show upd (x.1 4) k v 10 = _; rw [q_upN _ _ n1]; exact a3
  · show upd (x.1 4) k v 29 = _; rw [q_upN _ _ n6]; exact a4
  · show upd (x.1 4) k v 30 = _; rw [q_upN _ _ n7]; exact a5
  · show q_rgz 0 255 (upd (x.1 4) k v 12); rw [q_upN _ _ n2]; exact b1
  · show q_rgz 0 255 (upd (x.1 4) k v 13); rw [q_upN _ _ n3]; exact b2
  · show q_rgz 0 255 (upd (x.1 4) k v 14); rw [q_upN _ _ n4]; exact b3
  · show q_rgz 0 255 (upd (x.1 4) k v 15); rw [q_upN _ _ n5]; exact b4
  · show _ = upd (x.1 4) k v 12 + 256 * upd (x.1 4) k v 13; rw [q_upN _ _ n2, q_upN _ _ n3]; exact b5
  · show _ = upd (x.1 4) k v 14 + 256 * upd (x.1 4) k v 15; rw [q_upN _ _ n4, q_upN _ _ n5]; exact b6
  · show q_rgz 0 3 (upd (x.1 4) k v 1)
    by_cases e : 1 = k
    · rw [q_upE _ _ e]; exact hv1 e.symm
    · rw [q_upN _ _ e]; exact h9
/-- FLAGS, and the two rows of hits: the class' registers 10, 29, 30, the model's numbers 9, 10, 11 -/
theorem q_R_fl (h : q_R TT x m) (v : Int32) : q_R TT (q_sA x 4 (upd (x.1 4) 10 v)) (q_sA m 14 (upd (m.1 14) 9 v)) := by
  obtain ⟨h1, ⟨⟨a1, a2⟩, a3, a4, a5⟩, h3, h4⟩ := h
  refine ⟨h1, ⟨⟨fun j hj hq => ?_, fun j hj hj2 => ?_⟩, rfl, a4, a5⟩, h3, h4⟩
  · show upd (x.1 4) 10 v j = _
    rw [q_upN _ _ (fun e => by subst e; cases hq)]; exact a1 j hj hq
  · show upd (x.1 4) 10 v j = _
    rw [q_upN _ _ (by omega)]; exact a2 j hj hj2
theorem q_R_h1 (h : q_R TT x m) (v : Int32) : q_R TT (q_sA x 4 (upd (x.1 4) 29 v)) (q_sA m 14 (upd (m.1 14) 10 v)) := by
  obtain ⟨h1, ⟨⟨a1, a2⟩, a3, a4, a5⟩, h3, h4⟩ := h
  refine ⟨h1, ⟨⟨fun j hj hq => ?_, fun j hj hj2 => ?_⟩, a3, rfl, a5⟩, h3, h4⟩
  · show upd (x.1 4) 29 v j = _
    rw [q_upN _ _ (fun e => by subst e; cases hq)]; exact a1 j hj hq
  · show upd (x.1 4) 29 v j = _
    rw [q_upN _ _ (by omega)]; exact a2 j hj hj2
theorem q_R_h2 (h : q_R TT x m) (v : Int32) : q_R TT (q_sA x 4 (upd (x.1 4) 30 v)) (q_sA m 14 (upd (m.1 14) 11 v)) := by
  obtain ⟨h1, ⟨⟨a1, a2⟩, a3, a4, a5⟩, h3, h4⟩ := h
  refine ⟨h1, ⟨⟨fun j hj hq => ?_, fun j hj hj2 => ?_⟩, a3, a4, rfl⟩, h3, h4⟩
  · show upd (x.1 4) 30 v j = _
    rw [q_upN _ _ (fun e => by subst e; cases hq)]; exact a1 j hj hq
  · show upd (x.1 4) 30 v j = _
    rw [q_upN _ _ (by omega)]; exact a2 j hj hj2
/-- a latch: registers k and k + 1 of the class, number n of the model -/
theorem q_R_lt (h : q_R TT x m) {k n : Nat} (v u : Int32) (hk : (k = 12 ∧ u = v + 256 * x.1 4 13 ∧ n = 7) ∨ (k = 13 ∧ u = x.1 4 12 + 256 * v ∧ n = 7) ∨ (k = 14 ∧ u = v + 256 * x.1 4 15 ∧ n = 8) ∨ (k = 15 ∧ u = x.1 4 14 + 256 * v ∧ n = 8)) (hv : q_rgz 0 255 v) : q_R TT (q_sA x 4 (upd (x.1 4) k v)) (q_sA m 14 (upd (m.1 14) n u)) := by
  obtain ⟨h1, ⟨⟨a1, a2⟩, a3, a4, a5⟩, ⟨⟨b1, b2, b3, b4⟩, b5, b6, b7⟩, h4⟩ := h
  have g1 : ∀ k, (k = 12 ∨ k = 13 ∨ k = 14 ∨ k = 15) → ∀ j, j < 45 → q_pl j = true → upd (x.1 4) k v j = m.1 4 j := fun k hk j hj hq => by
    obtain ⟨n1, n2, n3, n4, n5, n6, n7⟩ := q_pl_ne hq
    rw [q_upN _ _ (by omega)]; exact a1 j hj hq
  have g2 : ∀ k, (k = 12 ∨ k = 13 ∨ k = 14 ∨ k = 15) → ∀ j, 45 ≤ j → j < 48 → upd (x.1 4) k v j = 0 := fun k hk j hj hj2 => by
    rw [q_upN _ _ (by omega)]; exact a2 j hj hj2
  rcases hk with ⟨e1, e2, e3⟩ | ⟨e1, e2, e3⟩ | ⟨e1, e2, e3⟩ | ⟨e1, e2, e3⟩
  · subst e1; subst e3
    exact ⟨h1, ⟨⟨g1 12 (by omega), g2 12 (by omega)⟩, a3, a4, a5⟩, ⟨⟨hv, b2, b3, b4⟩, e2, b6, b7⟩, h4⟩
  · subst e1; subst e3
    exact ⟨h1, ⟨⟨g1 13 (by omega), g2 13 (by omega)⟩, a3, a4, a5⟩, ⟨⟨b1, hv, b3, b4⟩, e2, b6, b7⟩, h4⟩
  · subst e1; subst e3
    exact ⟨h1, ⟨⟨g1 14 (by omega), g2 14 (by omega)⟩, a3, a4, a5⟩, ⟨⟨b1, b2, hv, b4⟩, b5, e2, b7⟩, h4⟩
  · subst e1; subst e3
    exact ⟨h1, ⟨⟨g1 15 (by omega), g2 15 (by omega)⟩, a3, a4, a5⟩, ⟨⟨b1, b2, b3, hv⟩, b5, e2, b7⟩, h4⟩
/-- a count -/
theorem q_R_ct (h : q_R TT x m) {k : Nat} (hk : k < 2) (v : Int32) : q_R TT (q_sA x 7 (upd (x.1 7) k v)) (q_sA m 14 (upd (m.1 14) (5 + k) v)) := by
  obtain ⟨h1, h2, ⟨b, b5, b6, b7, b8⟩, h4⟩ := h
  rcases (by omega : k = 0 ∨ k = 1) with e | e
  · subst e; exact ⟨h1, h2, ⟨b, b5, b6, rfl, b8⟩, h4⟩
  · subst e; exact ⟨h1, h2, ⟨b, b5, b6, b7, rfl⟩, h4⟩
theorem q_R_ram (h : q_R TT x m) (k : Nat) (v : Int32) : q_R TT (q_sA x 3 (upd (x.1 3) k v)) (q_sA m 1 (upd (m.1 1) k v)) := by
  obtain ⟨⟨a1, a2⟩, h2⟩ := h
  refine ⟨⟨fun j hj => ?_, a2⟩, h2⟩
  show upd (x.1 3) k v j = upd (m.1 1) k v j
  by_cases e : j = k
  · rw [q_upE _ _ e, q_upE _ _ e]
  · rw [q_upN _ _ e, q_upN _ _ e]; exact a1 j hj
/-- what a write leaves as it is -/
def q_XF (x y : q_S) : Prop := (∀ i, (Nat.beq i 13 || Nat.beq i 18) = false → y.2.1 i = x.2.1 i) ∧ y.2.2 = x.2.2
def q_MF (m m2 : q_S) : Prop := m2.1 15 = m.1 15 ∧ m2.2 = m.2 ∧ ∀ k, (Nat.ble 5 k && Nat.ble k 9) = false → m2.1 14 k = m.1 14 k
theorem q_XF_refl (x : q_S) : q_XF x x := ⟨fun _ _ => rfl, rfl⟩
theorem q_MF_refl (m : q_S) : q_MF m m := ⟨rfl, rfl, fun _ _ => rfl⟩
theorem q_XF.trans (h : q_XF x y) (g : q_XF y z) : q_XF x z := ⟨fun i hi => (g.1 i hi).trans (h.1 i hi), g.2.trans h.2⟩
theorem q_MF.trans (h : q_MF x y) (g : q_MF y z) : q_MF x z := ⟨g.1.trans h.1, g.2.1.trans h.2.1, fun k hk => (g.2.2 k hk).trans (h.2.2 k hk)⟩
theorem q_NF.xf (h : q_NF x y) : q_XF x y := h.2
theorem q_eq33.mf (h : q_eq33 x y) : q_MF x y := ⟨h.1 15 rfl, h.2, fun k _ => by rw [h.1 14 rfl]⟩
set_option maxRecDepth 16384 in
theorem q_mk : ∀ n, n < 45 → q_pl n = true → q_o1.getD n 0 = ((1 : Int32) <<< (dz_M211 (fun _ _ => 0, fun _ _ => 0, fun _ _ => 0) (Int32.ofNat n) &&& 31)) - 1 ∧ ¬ q_o1.getD n 0 = 0 := by decide
theorem q_211 (s : q_S) (a : Int32) : dz_M211 s a = dz_M211 (fun _ _ => 0, fun _ _ => 0, fun _ _ => 0) a := rfl
end
end
section
section
variable {TT : (Nat → Int32) → Int32 → (Nat → Int32) → Int32 → Int64 → Int64 → List Int32 → List (Nat → Int32) → (Nat → Int64) → Prop} {x y z m : q_S} {c d w : Int}
theorem q_112r {s : q_S} {a v : Int32} (ha : q_rgz 0 4095 a) (hn : ¬ (3840 ≤ a.toInt ∧ a.toInt ≤ 3887)) (hv : q_rgz 0 255 v) : dz_N112_66 s a v = q_sA s 3 (upd (s.1 3) a.toNatClampNeg v) := by
  have p0 := ha.1
  have p1 := ha.2
  have e1 : (a - 3840).toInt = a.toInt - 3840 := q_subI (q_rg_le ha (by decide) (by decide)) ⟨by decide, by decide⟩
  have am : a &&& 4095 = a := by
    apply Int32.toInt_inj.mp
    rw [q_andI 12 (by decide) ha (by decide) (show (4095 : Int32).toInt = 2 ^ 12 - 1 from rfl)]
    show a.toInt % 4096 = _
    omega
  have vm : v &&& 255 = v := by
    have v0 := hv.1
    have v1 := hv.2
    apply Int32.toInt_inj.mp
    rw [q_andI 8 (by decide) hv (by decide) (show (255 : Int32).toInt = 2 ^ 8 - 1 from rfl)]
    show v.toInt % 256 = _
    omega
  have z0 : (0 : Int32).toInt = 0 := rfl
  have z48 : (48 : Int32).toInt = 48 := rfl
  unfold dz_N112_66
  rw [am, vm]
  by_cases g : a.toInt < 3840
  · rw [q_lt_T (show (a - 3840).toInt < (0 : Int32).toInt by omega)]; rfl
  · rw [q_lt_F (show (0 : Int32).toInt ≤ (a - 3840).toInt by omega), q_lt_F (show (48 : Int32).toInt ≤ (a - 3840).toInt by omega)]; rfl
theorem q_112g {s : q_S} {a v : Int32} {k : Nat} (hk : k < 48) (ha : a.toInt = 3840 + (k : Int)) : dz_N112_66 s a v = cond (decide (q_o1.getD k 0 = 0)) s (q_sA s 4 (upd (s.1 4) k (v &&& q_o1.getD k 0))) ∧ (a - 3840).toInt = (k : Int) ∧ (a - 3840).toNatClampNeg = k := by
  have e1 : (a - 3840).toInt = a.toInt - 3840 := q_subI ⟨by omega, by omega⟩ ⟨by decide, by decide⟩
  have e2 : (a - 3840).toInt = (k : Int) := by omega
  have e3 : (a - 3840).toNatClampNeg = k := by show (a - 3840).toInt.toNat = k; omega
  have z0 : (0 : Int32).toInt = 0 := rfl
  have z48 : (48 : Int32).toInt = 48 := rfl
  refine ⟨?_, e2, e3⟩
  unfold dz_N112_66
  rw [q_lt_F (show (0 : Int32).toInt ≤ (a - 3840).toInt by omega), q_lt_T (show (a - 3840).toInt < (48 : Int32).toInt by omega), e3]
  rfl
theorem q_01 (a : Int32) : a &&& 1 = 0 ∨ a &&& 1 = 1 := by
  have h := q_rg_and a 1 (U := 1) (by decide) rfl
  have h1 := h.1
  have h2 := h.2
  rcases (by omega : (a &&& 1).toInt = 0 ∨ (a &&& 1).toInt = 1) with e | e
  · exact Or.inl (Int32.toInt_inj.mp e)
  · exact Or.inr (Int32.toInt_inj.mp e)
theorem q_bit1 (A B : Int32) : (A &&& (B ^^^ (-1))) &&& 1 = (A &&& 1) &&& ((B &&& 1) ^^^ 1) := by
  apply Int32.toBitVec_inj.mp
  show (A.toBitVec &&& (B.toBitVec ^^^ (-1 : BitVec 32))) &&& 1 = (A.toBitVec &&& 1) &&& ((B.toBitVec &&& 1) ^^^ 1)
  generalize A.toBitVec = A
  generalize B.toBitVec = B
  rw [show (-1 : BitVec 32) = BitVec.allOnes 32 from rfl]
  apply BitVec.eq_of_getLsbD_eq
  intro i hi
  simp only [BitVec.getLsbD_and, BitVec.getLsbD_xor, BitVec.getLsbD_allOnes, hi, decide_true]
  cases A.getLsbD i <;> cases B.getLsbD i <;> cases (1 : BitVec 32).getLsbD i <;> rfl
theorem q_start (s : q_S) (v g n : Int32) (hn : (-1 : Int32) >>> (n &&& 31) = -1) : decide (((v &&& (g ^^^ (-1))) >>> (n &&& 31)) &&& 1 = 1) = (dz_M206 s v n && !dz_M206 s g n) := by
  unfold dz_M206
  rw [Int32.shiftRight_and, Int32.shiftRight_xor, hn, q_bit1]
  rcases q_01 (v >>> (n &&& 31)) with e | e <;> rcases q_01 (g >>> (n &&& 31)) with e2 | e2 <;> rw [e, e2] <;> rfl
theorem q_126 (b v3 : Int32) : ∀ (n : Nat) (s : q_S), decide (b = 16) = false → dz_M212_64_126 (n + 1) s b v3 0 = cond (q_in b 48) (some (q_sA s 4 (upd (s.1 4) (b.toNatClampNeg) v3))) none := fun n s hb => by
  rw [dzs_M212_64_126]
  dsimp only
  rw [hb]; rfl
/-- both start timers alike -/
theorem q_126t (s : q_S) (v3 : Int32) : dz_M212_64_126 5000 s 16 v3 0 = some (
    let s1 := cond (dz_M206 s v3 0 && !dz_M206 s (s.1 4 16) 0) (q_sA s 14 (upd (s.1 14) 5 (s.1 14 7))) s
    let s2 := cond (dz_M206 s v3 (0 + 1) && !dz_M206 s (s.1 4 16) (0 + 1)) (q_sA s1 14 (upd (s1.1 14) 6 (s1.1 14 8))) s1
    q_sA s2 4 (upd (s2.1 4) 16 v3)) := by
  have s0 : ∀ (n : Nat) (s : q_S), dz_M212_64_126 (n + 1) s 16 v3 0 = cond (dz_M206 s v3 0) (cond (dz_M206 s (s.1 4 16) 0) (dz_M212_64_126 n s 16 v3 (0 + 1)) (dz_M212_64_126 n (q_sA s 14 (upd (s.1 14) 5 (s.1 14 7))) 16 v3 (0 + 1))) (dz_M212_64_126 n s 16 v3 (0 + 1)) := fun n s => by
    rw [dzs_M212_64_126]; generalize dz_M212_64_126 n = k; rfl
  have s1 : ∀ (n : Nat) (s : q_S), dz_M212_64_126 (n + 1) s 16 v3 (0 + 1) = cond (dz_M206 s v3 (0 + 1)) (cond (dz_M206 s (s.1 4 16) (0 + 1)) (dz_M212_64_126 n s 16 v3 (0 + 1 + 1)) (dz_M212_64_126 n (q_sA s 14 (upd (s.1 14) 6 (s.1 14 8))) 16 v3 (0 + 1 + 1))) (dz_M212_64_126 n s 16 v3 (0 + 1 + 1)) := fun n s => by
    rw [dzs_M212_64_126]; generalize dz_M212_64_126 n = k; rfl
  have s2 : ∀ (n : Nat) (s : q_S), dz_M212_64_126 (n + 1) s 16 v3 (0 + 1 + 1) = some (q_sA s 4 (upd (s.1 4) 16 v3)) := fun n s => by
    rw [dzs_M212_64_126]; generalize dz_M212_64_126 n = k; rfl
  have hs : ∀ (s t : q_S) (a k : Int32), dz_M206 s a k = dz_M206 t a k := fun _ _ _ _ => rfl
  rw [show (5000 : Nat) = 4997 + 1 + 1 + 1 from rfl, s0]
  generalize (4997 : Nat) = n
  cases h1 : dz_M206 s v3 0 <;> cases h2 : dz_M206 s (s.1 4 16) 0 <;> simp only [cond_true, cond_false, s1, Bool.not_true, Bool.not_false, Bool.and_true, Bool.and_false, Bool.true_and, Bool.false_and]
  all_goals
    cases h3 : dz_M206 s v3 (0 + 1) <;> cases h4 : dz_M206 s (s.1 4 16) (0 + 1) <;> simp only [hs _ s, cond_true, cond_false, s2, h3, h4, Bool.not_true, Bool.not_false, Bool.and_true, Bool.and_false, Bool.true_and, Bool.false_and]
  all_goals
    have e4 : dz_M206 s ((q_sA s 14 (upd (s.1 14) 5 (s.1 14 7))).1 4 16) (0 + 1) = dz_M206 s (s.1 4 16) (0 + 1) := rfl
    rw [e4, h4]; simp only [cond_true, cond_false, s2]
end
end
section
section
variable {TT : (Nat → Int32) → Int32 → (Nat → Int32) → Int32 → Int64 → Int64 → List Int32 → List (Nat → Int32) → (Nat → Int64) → Prop} {x y z m : q_S} {c d w : Int}
theorem q_94 (x : q_S) (a v : Int32) (h1 : decide (a = 3850) = false) (h2 : decide (a = 3856) = false) : ∃ y, dz_N94_65 x a v = some y ∧ q_NF (dz_N112_66 x a v) y := by
  unfold dz_N94_65
  rw [h1, h2]
  exact q_kp (dz_N112_66 x a v) _ a v
theorem q_94a (x : q_S) (v : Int32) : ∃ y, dz_N94_65 x 3850 v = some y ∧ q_NF (q_sA x 4 (upd (x.1 4) 10 ((x.1 4 10) &&& (v ^^^ (-1))))) y := by
  have e : dz_N112_66 (q_sA x 4 (upd (x.1 4) 10 ((x.1 4 10) &&& (v ^^^ (-1))))) 3850 v = q_sA x 4 (upd (x.1 4) 10 ((x.1 4 10) &&& (v ^^^ (-1)))) := by
    obtain ⟨g1, -, -⟩ := q_112g (s := q_sA x 4 (upd (x.1 4) 10 ((x.1 4 10) &&& (v ^^^ (-1))))) (a := 3850) (v := v) (k := 10) (by decide) (by decide)
    rw [g1]; rfl
  have t : dz_N94_65 x 3850 v = (q_let (dz_N112_66 (q_sA x 4 (upd (x.1 4) 10 (((x.1 4) 10) &&& (v ^^^ (-1))))) 3850 v) fun r8 => cond (decide (lg_cmp (((r8.2.2 1 8) / 960) - ((r8.2.2 1 8) / 960) / 2 * 2) 0 = 0)) (q_let (dz_N128_77 r8 3850 v) fun r9 => some r9) (q_let (dz_N128_82 r8 3850 v) fun r10 => some r10)) := rfl
  rw [t, e]
  exact q_kp _ _ 3850 v
theorem q_has7 (s : q_S) (v k9 : Int32) (h : ((7 : Int32) >>> (k9 &&& 31)) &&& 1 = 1) : dz_M206 s (v &&& 7) k9 = dz_M206 s v k9 := by
  unfold dz_M206
  rw [Int32.shiftRight_and, Int32.and_assoc, h]
theorem q_tM (m : q_S) (v : Int32) : dz_M212_64 m 16 v = dz_M212_64_126 5000 m 16 (v &&& (((1 : Int32) <<< (dz_M211 m 16 &&& 31)) - 1)) 0 := by
  unfold dz_M212_64
  simp only [show decide ((44 : Int32) < 16) = false from rfl, show decide ((16 : Int32) = 29) = false from rfl, show decide ((16 : Int32) = 30) = false from rfl, show decide ((16 : Int32) = 10) = false from rfl, show dz_M202 m 16 12 15 = false from rfl, cond_false, q_let]
theorem q_94b (x m : q_S) (v : Int32) (h : q_R TT x m) : ∃ y m2, dz_N94_65 x 3856 v = some y ∧ dz_M212_64 m 16 v = some m2 ∧ q_R TT y m2 ∧ q_XF x y ∧ q_MF m m2 := by
  have hn1 : (-1 : Int32) >>> ((0 : Int32) &&& 31) = -1 := by decide
  have hn2 : (-1 : Int32) >>> ((0 + 1 : Int32) &&& 31) = -1 := by decide
  have e7 : ((1 : Int32) <<< ((3 : Int32) &&& 31)) - 1 = 7 := by decide
  have g16 : x.1 4 16 = m.1 4 16 := h.g 16
  have tX : dz_N94_65 x 3856 v = (dz_N95_65 x (v &&& (((x.1 4) 16) ^^^ (-1)))).bind fun r11 => q_let (dz_N112_66 r11 3856 v) fun r12 => cond (decide (lg_cmp (((r12.2.2 1 8) / 960) - ((r12.2.2 1 8) / 960) / 2 * 2) 0 = 0)) (q_let (dz_N128_77 r12 3856 v) fun r13 => some r13) (q_let (dz_N128_82 r12 3856 v) fun r14 => some r14) := rfl
  rw [q_tM, show dz_M211 m 16 = 3 from rfl, e7, q_126t, tX, q_N95, q_start m v (x.1 4 16) 0 hn1, q_start m v (x.1 4 16) (0 + 1) hn2, g16, q_has7 m v 0 (by decide), q_has7 m v (0 + 1) (by decide)]
  generalize (dz_M206 m v 0 && !dz_M206 m (m.1 4 16) 0) = b0
  generalize (dz_M206 m v (0 + 1) && !dz_M206 m (m.1 4 16) (0 + 1)) = b1
  have s1 : ∃ x1 m1, x1 = cond b0 (q_sA x 7 (upd (x.1 7) 0 (x.1 4 12 + 256 * x.1 4 13))) x ∧ m1 = cond b0 (q_sA m 14 (upd (m.1 14) 5 (m.1 14 7))) m ∧ q_R TT x1 m1 ∧ q_XF x x1 ∧ q_MF m m1 ∧ x1.1 4 = x.1 4 := by
    cases b0 with
    | false => exact ⟨_, _, rfl, rfl, h, q_XF_refl x, q_MF_refl m, rfl⟩
    | true =>
      refine ⟨_, _, rfl, rfl, ?_, ⟨fun _ _ => rfl, rfl⟩, ⟨rfl, rfl, fun j hj => q_upN _ _ (fun e => by subst e; cases hj)⟩, rfl⟩
      rw [cond_true, cond_true, ← h.r3.2.1]
      exact q_R_ct h (k := 0) (by decide) _
  obtain ⟨x1, m1, ex, em, r1, f1, f2, f3⟩ := s1
  have s2 : ∃ x2 m2, x2 = cond b1 (q_sA x1 7 (upd (x1.1 7) 1 (x.1 4 14 + 256 * x.1 4 15))) x1 ∧ m2 = cond b1 (q_sA m1 14 (upd (m1.1 14) 6 (m1.1 14 8))) m1 ∧ q_R TT x2 m2 ∧ q_XF x x2 ∧ q_MF m m2 := by
    cases b1 with
    | false => exact ⟨_, _, rfl, rfl, r1, f1, f2⟩
    | true =>
      refine ⟨_, _, rfl, rfl, ?_, f1.trans ⟨fun _ _ => rfl, rfl⟩, f2.trans ⟨rfl, rfl, fun j hj => q_upN _ _ (fun e => by subst e; cases hj)⟩⟩
      rw [cond_true, cond_true, ← f3, ← r1.r3.2.2.1]
      exact q_R_ct r1 (k := 1) (by decide) _
  obtain ⟨x2, m2, ex2, em2, r2, f4, f5⟩ := s2
  rw [← ex, ← ex2]
  dsimp only
  rw [← em, ← em2]
  obtain ⟨g1, -, -⟩ := q_112g (s := x2) (a := 3856) (v := v) (k := 16) (by decide) (by decide)
  have g2 : dz_N112_66 x2 3856 v = q_sA x2 4 (upd (x2.1 4) 16 (v &&& 7)) := by rw [g1]; rfl
  obtain ⟨y, hy, ny⟩ := q_kp (q_sA x2 4 (upd (x2.1 4) 16 (v &&& 7))) (decide (lg_cmp (((x2.2.2 1 8) / 960) - ((x2.2.2 1 8) / 960) / 2 * 2) 0 = 0)) 3856 v
  refine ⟨y, q_sA m2 4 (upd (m2.1 4) 16 (v &&& 7)), ?_, rfl, q_R_NF (q_R_reg r2 (by decide) rfl _ (fun e => by cases e)) ny, f4.trans (q_XF.trans ⟨fun _ _ => rfl, rfl⟩ ny.xf), f5.trans ⟨rfl, rfl, fun _ _ => rfl⟩⟩
  rw [Option.bind_some, g2]
  exact hy
theorem q_latI {p q v : Int32} (hp : q_rgz 0 255 p) (hq : q_rgz 0 255 q) (hv : q_rgz 0 255 v) : ((p + 256 * q) / 256) * 256 + v = v + 256 * q ∧ ((p + 256 * q) - (p + 256 * q) / 256 * 256) + 256 * v = p + 256 * v := by
  have a1 := hp.1
  have a2 := hp.2
  have b1 := hq.1
  have b2 := hq.2
  have c1 := hv.1
  have c2 := hv.2
  have e1 : (256 * q).toInt = 256 * q.toInt := q_mulI (n := 256) rfl (by decide) (by decide) ⟨by omega, by omega⟩
  have e2 : (p + 256 * q).toInt = p.toInt + 256 * q.toInt := by rw [q_addI ⟨by omega, by omega⟩ ⟨by omega, by omega⟩, e1]
  have e3 : ((p + 256 * q) / 256).toInt = q.toInt := by
    rw [q_toInt_div (by omega) (by decide), e2]
    show (p.toInt + 256 * q.toInt) / 256 = q.toInt
    omega
  have e4 : ((p + 256 * q) / 256) = q := Int32.toInt_inj.mp e3
  have e5 : (p + 256 * q) - (p + 256 * q) / 256 * 256 = p := by
    apply Int32.toInt_inj.mp
    rw [q_rem_eq (by omega) (by decide), e2]
    show (p.toInt + 256 * q.toInt) % 256 = p.toInt
    omega
  constructor
  · rw [e4, Int32.mul_comm q 256, Int32.add_comm]
  · rw [e5]
/-- the class writes as the model does -/
theorem q_wr94 (h : q_R TT x m) (hI : q_Iv c d w m) (a v : Int32) (ha : q_rgz 0 4095 a) (hv : q_rgz 0 255 v) : ∃ y m2, dz_N94_65 x a v = some y ∧ dz_M215_64 m a v = some m2 ∧ q_R TT y m2 ∧ q_Iv c d w m2 ∧ q_XF x y ∧ q_MF m m2 := by
  obtain ⟨m3, e3, i3⟩ := dzj_M215_64 c d w m hI a v ha hv
  suffices H : ∃ y m2, dz_N94_65 x a v = some y ∧ dz_M215_64 m a v = some m2 ∧ q_R TT y m2 ∧ q_XF x y ∧ q_MF m m2 by
    obtain ⟨y, m2, g1, g2, g3, g4, g5⟩ := H
    rw [e3] at g2
    cases g2
    exact ⟨y, m3, g1, e3, g3, i3, g4, g5⟩
  have p0 := ha.1
  have p1 := ha.2
  have z1 : (3840 : Int32).toInt = 3840 := rfl
  have z2 : (3887 : Int32).toInt = 3887 := rfl
  have z3 : (3850 : Int32).toInt = 3850 := rfl
  have z4 : (3856 : Int32).toInt = 3856 := rfl
  by_cases k : 3840 ≤ a.toInt ∧ a.toInt ≤ 3887
  · obtain ⟨k, ka, hk⟩ : ∃ k : Nat, a.toInt = 3840 + (k : Int) ∧ k < 48 := ⟨(a.toInt - 3840).toNat, by omega, by omega⟩
    have eM : dz_M215_64 m a v = (dz_M212_64 m (a - 3840) v).bind fun r442 => some r442 := by
      unfold dz_M215_64
      rw [q_202T (by omega) (by omega)]; rfl
    rw [eM]
    obtain ⟨g1, g2, g3⟩ := q_112g (s := x) (v := v) hk ka
    by_cases k10 : k = 10
    · subst k10
      have ea : a = 3850 := Int32.toInt_inj.mp (by omega)
      subst ea
      obtain ⟨y, hy⟩ := q_94a x v
      refine ⟨y, q_sA m 14 (upd (m.1 14) 9 ((m.1 14 9) &&& (v ^^^ (-1)))), hy.1, rfl, ?_, ?_, ?_⟩
      · refine q_R_NF ?_ hy.2
        rw [h.r2.2.1]
        exact q_R_fl h _
      · exact q_XF.trans ⟨fun _ _ => rfl, rfl⟩ hy.2.xf
      · exact ⟨rfl, rfl, fun j hj => q_upN _ _ (fun e => by subst e; cases hj)⟩
    by_cases k16 : k = 16
    · subst k16
      have ea : a = 3856 := Int32.toInt_inj.mp (by omega)
      subst ea
      obtain ⟨y, m2, t1, t2, t3, t4, t5⟩ := q_94b x m v h
      refine ⟨y, m2, t1, ?_, t3, t4, t5⟩
      show (dz_M212_64 m 16 v).bind _ = _
      rw [t2]; rfl
    by_cases kl : k = 12 ∨ k = 13 ∨ k = 14 ∨ k = 15
    · obtain ⟨⟨b1, b2, b3, b4⟩, b5, b6, b7⟩ := h.r3
      obtain ⟨y, hy, ny⟩ := q_94 x a v (q_eq_F (by omega)) (q_eq_F (by omega))
      have vm : v &&& 255 = v := by
        have v0 := hv.1
        have v1 := hv.2
        apply Int32.toInt_inj.mp
        rw [q_andI 8 (by decide) hv (by decide) (show (255 : Int32).toInt = 2 ^ 8 - 1 from rfl)]
        show v.toInt % 256 = _
        omega
      rw [g1] at ny
      rcases kl with e | e | e | e
      · subst e
        have ea : a = 3852 := Int32.toInt_inj.mp (by rw [ka]; rfl)
        subst ea
        refine ⟨y, q_sA m 14 (upd (m.1 14) 7 (((m.1 14 7) / 256) * 256 + v)), hy, rfl, q_R_NF ?_ ny, q_XF.trans ⟨fun _ _ => rfl, rfl⟩ ny.xf, ⟨rfl, rfl, fun j hj => q_upN _ _ (fun e => by subst e; cases hj)⟩⟩
        show q_R TT (q_sA x 4 (upd (x.1 4) 12 (v &&& 255))) _
        rw [vm]
        exact q_R_lt h _ _ (Or.inl ⟨rfl, by rw [b5]; exact (q_latI b1 b2 hv).1, rfl⟩) hv
      · subst e
        have ea : a = 3853 := Int32.toInt_inj.mp (by rw [ka]; rfl)
        subst ea
        refine ⟨y, q_sA m 14 (upd (m.1 14) 7 ((m.1 14 7) - (m.1 14 7) / 256 * 256 + 256 * v)), hy, rfl, q_R_NF ?_ ny, q_XF.trans ⟨fun _ _ => rfl, rfl⟩ ny.xf, ⟨rfl, rfl, fun j hj => q_upN _ _ (fun e => by subst e; cases hj)⟩⟩
        show q_R TT (q_sA x 4 (upd (x.1 4) 13 (v &&& 255))) _
        rw [vm]
        exact q_R_lt h _ _ (Or.inr (Or.inl ⟨rfl, by rw [b5]; exact (q_latI b1 b2 hv).2, rfl⟩)) hv
      · subst e
        have ea : a = 3854 := Int32.toInt_inj.mp (by rw [ka]; rfl)
        subst ea
        refine ⟨y, q_sA m 14 (upd (m.1 14) 8 (((m.1 14 8) / 256) * 256 + v)), hy, rfl, q_R_NF ?_ ny, q_XF.trans ⟨fun _ _ => rfl, rfl⟩ ny.xf, ⟨rfl, rfl, fun j hj => q_upN _ _ (fun e => by subst e; cases hj)⟩⟩
        show q_R TT (q_sA x 4 (upd (x.1 4) 14 (v &&& 255))) _
        rw [vm]
        exact q_R_lt h _ _ (Or.inr (Or.inr (Or.inl ⟨rfl, by rw [b6]; exact (q_latI b3 b4 hv).1, rfl⟩))) hv
      · subst e
        have ea : a = 3855 := Int32.toInt_inj.mp (by rw [ka]; rfl)
        subst ea
        refine ⟨y, q_sA m 14 (upd (m.1 14) 8 ((m.1 14 8) - (m.1 14 8) / 256 * 256 + 256 * v)), hy, rfl, q_R_NF ?_ ny, q_XF.trans ⟨fun _ _ => rfl, rfl⟩ ny.xf, ⟨rfl, rfl, fun j hj => q_upN _ _ (fun e => by subst e; cases hj)⟩⟩
        show q_R TT (q_sA x 4 (upd (x.1 4) 15 (v &&& 255))) _
        rw [vm]
        exact q_R_lt h _ _ (Or.inr (Or.inr (Or.inr ⟨rfl, by rw [b6]; exact (q_latI b3 b4 hv).2, rfl⟩))) hv
    -- the others
    obtain ⟨y, hy, ny⟩ := q_94 x a v (q_eq_F (by omega)) (q_eq_F (by omega))
    rw [g1] at ny
    have z44 : (44 : Int32).toInt = 44 := rfl
    by_cases kn : 44 < k ∨ k = 29 ∨ k = 30
    · have mz : q_o1.getD k 0 = 0 := by
        have t : ∀ n, n < 48 → (44 < n ∨ n = 29 ∨ n = 30) → q_o1.getD n 0 = 0 := by decide
        exact t k hk kn
      rw [mz] at ny
      refine ⟨y, m, hy, ?_, q_R_NF h ny, ny.xf, q_MF_refl m⟩
      unfold dz_M212_64
      rcases kn with e | e | e
      · rw [q_lt_T (show (44 : Int32).toInt < (a - 3840).toInt by omega)]; rfl
      · rw [q_lt_F (show (a - 3840).toInt ≤ (44 : Int32).toInt by omega), q_eq_T (show (a - 3840).toInt = (29 : Int32).toInt by rw [g2, e]; rfl)]; rfl
      · rw [q_lt_F (show (a - 3840).toInt ≤ (44 : Int32).toInt by omega), q_eq_F (show ¬ (a - 3840).toInt = (29 : Int32).toInt by rw [g2, e]; decide), q_eq_T (show (a - 3840).toInt = (30 : Int32).toInt by rw [g2, e]; rfl)]; rfl
    · have k45 : k < 45 := by omega
      have kp : q_pl k = true := by
        have t : ∀ n, n < 45 → ¬ n = 10 → ¬ (n = 12 ∨ n = 13 ∨ n = 14 ∨ n = 15) → ¬ (44 < n ∨ n = 29 ∨ n = 30) → q_pl n = true := by decide
        exact t k k45 k10 kl kn
      obtain ⟨q1, q2⟩ := q_mk k k45 kp
      have ek : Int32.ofNat k = a - 3840 := by
        apply Int32.toInt_inj.mp
        rw [g2, Int32.toInt_ofNat_of_lt (by omega)]
      rw [decide_eq_false q2] at ny
      refine ⟨y, q_sA m 4 (upd (m.1 4) k (v &&& q_o1.getD k 0)), hy, ?_, q_R_NF (q_R_reg h k45 kp _ (fun e => by subst e; exact q_rg_and v 3 (U := 3) (by decide) rfl)) ny, q_XF.trans ⟨fun _ _ => rfl, rfl⟩ ny.xf, ⟨rfl, rfl, fun _ _ => rfl⟩⟩
      have f29 : ¬ (a - 3840).toInt = (29 : Int32).toInt := by rw [g2]; show ¬ (k : Int) = 29; omega
      have f30 : ¬ (a - 3840).toInt = (30 : Int32).toInt := by rw [g2]; show ¬ (k : Int) = 30; omega
      have f10 : ¬ (a - 3840).toInt = (10 : Int32).toInt := by rw [g2]; show ¬ (k : Int) = 10; omega
      have f16 : ¬ (a - 3840).toInt = (16 : Int32).toInt := by rw [g2]; show ¬ (k : Int) = 16; omega
      have e202 : dz_M202 m (a - 3840) 12 15 = false := q_202F (by
        have z : (12 : Int32).toInt = 12 := rfl
        have z2 : (15 : Int32).toInt = 15 := rfl
        omega)
      unfold dz_M212_64
      rw [q_lt_F (show (a - 3840).toInt ≤ (44 : Int32).toInt by omega), q_eq_F f29, q_eq_F f30]
      show (q_let (dz_M211 m (a - 3840)) fun r427 => cond (decide (a - 3840 = 10)) _ (q_let (dz_M202 m (a - 3840) 12 15) fun r428 => cond r428 _ (dz_M212_64_126 5000 m (a - 3840) (v &&& (((1 : Int32) <<< (r427 &&& 31)) - 1)) 0))).bind (fun r442 => some r442) = _
      rw [q_eq_F f10, e202, q_211]
      show (dz_M212_64_126 5000 m (a - 3840) (v &&& (((1 : Int32) <<< (dz_M211 (fun _ _ => 0, fun _ _ => 0, fun _ _ => 0) (a - 3840) &&& 31)) - 1)) 0).bind (fun r442 => some r442) = _
      rw [← ek, ← q1, ek, show (5000 : Nat) = 4999 + 1 from rfl, q_126 (a - 3840) _ 4999 m (q_eq_F f16), q_in_rg (n := 48) (l := 0) (u := 47) ⟨by omega, by omega⟩ (by decide) (by decide), g3]
      rfl
  · obtain ⟨y, hy, ny⟩ := q_94 x a v (q_eq_F (by omega)) (q_eq_F (by omega))
    rw [q_112r ha k hv] at ny
    refine ⟨y, q_sA m 1 (upd (m.1 1) a.toNatClampNeg v), hy, ?_, q_R_NF (q_R_ram h _ _) ny, q_XF.trans ⟨fun _ _ => rfl, rfl⟩ ny.xf, ⟨rfl, rfl, fun _ _ => rfl⟩⟩
    unfold dz_M215_64
    rw [q_202F (by omega), q_in_rg ha (by decide) (by decide)]; rfl
end
end
section
section
variable {TT : (Nat → Int32) → Int32 → (Nat → Int32) → Int32 → Int64 → Int64 → List Int32 → List (Nat → Int32) → (Nat → Int64) → Prop} {x y z m : q_S} {c d w : Int}
theorem q_cT {s : q_S} {g p k : Int32} {l u : Int} (n : Nat) (hn : n < 31) (hg : q_rgz l u g) (h0 : 0 ≤ l) (hp : p.toInt = 2 ^ n) (hk : k.toInt = (n : Int)) : decide (g &&& p = p) = dz_M206 s g k := by
  rw [q_has n hg h0 hk (by omega)]
  have e := q_and2p n hn hg h0 hp
  have pos : (0 : Int) < 2 ^ n := Int.pow_pos (by decide)
  have m2 := Int.emod_two_eq (g.toInt / 2 ^ n)
  by_cases q : g.toInt / 2 ^ n % 2 = 1
  · rw [decide_eq_true q]; exact q_eq_T (by rw [e, q, hp]; omega)
  · rw [decide_eq_false q]
    have q0 : g.toInt / 2 ^ n % 2 = 0 := by omega
    exact q_eq_F (by rw [e, q0, hp]; omega)
theorem q_c0 {s : q_S} {g p k : Int32} {l u : Int} (n : Nat) (hn : n < 31) (hg : q_rgz l u g) (h0 : 0 ≤ l) (hp : p.toInt = 2 ^ n) (hk : k.toInt = (n : Int)) : decide (g &&& p = 0) = !dz_M206 s g k := by
  rw [q_has n hg h0 hk (by omega)]
  have e := q_and2p n hn hg h0 hp
  have pos : (0 : Int) < 2 ^ n := Int.pow_pos (by decide)
  have m2 := Int.emod_two_eq (g.toInt / 2 ^ n)
  have z : (0 : Int32).toInt = 0 := rfl
  by_cases q : g.toInt / 2 ^ n % 2 = 1
  · rw [decide_eq_true q]; exact q_eq_F (by rw [e, q, z]; omega)
  · rw [decide_eq_false q]
    have q0 : g.toInt / 2 ^ n % 2 = 0 := by omega
    exact q_eq_T (by rw [e, q0, z]; omega)
/-- what a step of the cycle's own work leaves as it is: registers but FLAGS and hits, the processor, the time -/
def q_XCz (x y : q_S) : Prop := (∀ k, (Nat.beq k 10 || (Nat.beq k 29 || Nat.beq k 30)) = false → y.1 4 k = x.1 4 k) ∧ (∀ k, y.2.1 23 k = x.2.1 23 k) ∧ y.2.2 = x.2.2
def q_MC (m m2 : q_S) : Prop := m2.1 4 = m.1 4 ∧ m2.1 15 = m.1 15 ∧ m2.2.2 = m.2.2
theorem q_XC_refl (x : q_S) : q_XCz x x := ⟨fun _ _ => rfl, fun _ => rfl, rfl⟩
theorem q_MC_refl (m : q_S) : q_MC m m := ⟨rfl, rfl, rfl⟩
theorem q_XCz.trans (h : q_XCz x y) (g : q_XCz y z) : q_XCz x z := ⟨fun i hi => (g.1 i hi).trans (h.1 i hi), fun i => (g.2.1 i).trans (h.2.1 i), g.2.2.trans h.2.2⟩
theorem q_MC.trans (h : q_MC x y) (g : q_MC y z) : q_MC x z := ⟨g.1.trans h.1, g.2.1.trans h.2.1, g.2.2.trans h.2.2⟩
theorem q_R_mI (h : q_R TT x m) (v : Int32) : q_R TT x (q_sI m 0 38 v) := h
theorem q_XC_10 (v : Int32) : q_XCz x (q_sA x 4 (upd (x.1 4) 10 v)) := ⟨fun k hk => q_upN _ _ (fun e => by subst e; cases hk), fun _ => rfl, rfl⟩
/-- a timer counts down -/
theorem q_cd0 (h : q_R TT x m) (hI : q_Iv c d w m) : ∃ y m2 b, dz_N105_65 x 0 = some (y, b) ∧ dz_M229_64 m 0 = some (m2, b) ∧ q_R TT y m2 ∧ q_Iv c d w m2 ∧ q_XCz x y ∧ q_MC m m2 := by
  obtain ⟨⟨m3, b3⟩, e3, i3⟩ := dzj_M229_64 c d w m hI 0 ⟨by decide, by decide⟩
  suffices H : ∃ y m2 b, dz_N105_65 x 0 = some (y, b) ∧ dz_M229_64 m 0 = some (m2, b) ∧ q_R TT y m2 ∧ q_XCz x y ∧ q_MC m m2 by
    obtain ⟨y, m2, b, g1, g2, g3, g4, g5⟩ := H
    rw [e3] at g2
    cases g2
    exact ⟨y, m3, b3, g1, e3, g3, i3, g4, g5⟩
  have cnt : x.1 7 0 = m.1 14 5 := h.r3.2.2.2.1
  have tM : dz_M229_64 m 0 = cond (decide (0 < m.1 14 5)) (some (q_sA m 14 (upd (m.1 14) 5 (m.1 14 5 - 1)), false)) (some (q_sA (q_sA m 14 (upd (m.1 14) 5 (m.1 14 7))) 14 (upd (upd (m.1 14) 5 (m.1 14 7)) 9 ((m.1 14 9) ||| 2)), true)) := rfl
  have tX : dz_N105_65 x 0 = cond (decide (0 < x.1 7 0)) (some (q_sA x 7 (upd (x.1 7) 0 (x.1 7 0 - 1)), false)) ((dz_N95_65 x 1).bind fun r99 => some ((q_sA r99 4 (upd (r99.1 4) 10 (((r99.1 4) 10) ||| 2))), true)) := rfl
  rw [tM, tX, cnt]
  cases decide (0 < m.1 14 5) with
  | true =>
    refine ⟨_, _, false, rfl, rfl, ?_, ⟨fun _ _ => rfl, fun _ => rfl, rfl⟩, ⟨rfl, rfl, rfl⟩⟩
    exact q_R_ct h (k := 0) (by decide) _
  | false =>
    rw [q_N95]
    refine ⟨_, _, true, rfl, rfl, ?_, ?_, ⟨rfl, rfl, rfl⟩⟩
    · have r1 := q_R_ct h (k := 0) (by decide) (x.1 4 12 + 256 * x.1 4 13)
      rw [← h.r3.2.1] at r1
      have r2 := q_R_fl r1 ((m.1 14 9) ||| 2)
      show q_R TT (q_sA (q_sA x 7 (upd (x.1 7) 0 (x.1 4 12 + 256 * x.1 4 13))) 4 (upd (x.1 4) 10 ((x.1 4 10) ||| 2))) _
      rw [h.r2.2.1, ← h.r3.2.1]
      exact r2
    · show q_XCz x (q_sA (q_sA x 7 (upd (x.1 7) 0 (x.1 4 12 + 256 * x.1 4 13))) 4 (upd (x.1 4) 10 ((x.1 4 10) ||| 2)))
      exact ⟨fun k hk => q_upN _ _ (fun e => by subst e; cases hk), fun _ => rfl, rfl⟩
theorem q_cd1 (h : q_R TT x m) (hI : q_Iv c d w m) : ∃ y m2 b, dz_N105_65 x 1 = some (y, b) ∧ dz_M229_64 m 1 = some (m2, b) ∧ q_R TT y m2 ∧ q_Iv c d w m2 ∧ q_XCz x y ∧ q_MC m m2 := by
  obtain ⟨⟨m3, b3⟩, e3, i3⟩ := dzj_M229_64 c d w m hI 1 ⟨by decide, by decide⟩
  suffices H : ∃ y m2 b, dz_N105_65 x 1 = some (y, b) ∧ dz_M229_64 m 1 = some (m2, b) ∧ q_R TT y m2 ∧ q_XCz x y ∧ q_MC m m2 by
    obtain ⟨y, m2, b, g1, g2, g3, g4, g5⟩ := H
    rw [e3] at g2
    cases g2
    exact ⟨y, m3, b3, g1, e3, g3, i3, g4, g5⟩
  have cnt : x.1 7 1 = m.1 14 6 := h.r3.2.2.2.2
  have tM : dz_M229_64 m 1 = cond (decide (0 < m.1 14 6)) (some (q_sA m 14 (upd (m.1 14) 6 (m.1 14 6 - 1)), false)) (some (q_sA (q_sA m 14 (upd (m.1 14) 6 (m.1 14 8))) 14 (upd (upd (m.1 14) 6 (m.1 14 8)) 9 ((m.1 14 9) ||| 4)), true)) := rfl
  have tX : dz_N105_65 x 1 = cond (decide (0 < x.1 7 1)) (some (q_sA x 7 (upd (x.1 7) 1 (x.1 7 1 - 1)), false)) ((dz_N95_65 x 2).bind fun r99 => some ((q_sA r99 4 (upd (r99.1 4) 10 (((r99.1 4) 10) ||| 4))), true)) := rfl
  rw [tM, tX, cnt]
  cases decide (0 < m.1 14 6) with
  | true =>
    refine ⟨_, _, false, rfl, rfl, ?_, ⟨fun _ _ => rfl, fun _ => rfl, rfl⟩, ⟨rfl, rfl, rfl⟩⟩
    exact q_R_ct h (k := 1) (by decide) _
  | false =>
    rw [q_N95]
    refine ⟨_, _, true, rfl, rfl, ?_, ?_, ⟨rfl, rfl, rfl⟩⟩
    · have r1 := q_R_ct h (k := 1) (by decide) (x.1 4 14 + 256 * x.1 4 15)
      rw [← h.r3.2.2.1] at r1
      have r2 := q_R_fl r1 ((m.1 14 9) ||| 4)
      show q_R TT (q_sA (q_sA x 7 (upd (x.1 7) 1 (x.1 4 14 + 256 * x.1 4 15))) 4 (upd (x.1 4) 10 ((x.1 4 10) ||| 4))) _
      rw [h.r2.2.1, ← h.r3.2.2.1]
      exact r2
    · show q_XCz x (q_sA (q_sA x 7 (upd (x.1 7) 1 (x.1 4 14 + 256 * x.1 4 15))) 4 (upd (x.1 4) 10 ((x.1 4 10) ||| 4)))
      exact ⟨fun k hk => q_upN _ _ (fun e => by subst e; cases hk), fun _ => rfl, rfl⟩
theorem q_tm2 (h : q_R TT x m) (hI : q_Iv c d w m) (g : Int32) (hg : g = m.1 4 16) (b : Bool) : ∃ y m2, dz_N104_65_26 x g (q_b b) = some y ∧
    (cond b (q_let (dz_M206 m (m.1 4 16) 1) fun r550 => cond r550 ((dz_M229_64 m 1).bind fun r551 => cond r551.2 (some r551.1) (some r551.1)) (some m)) (q_let (dz_M206 m (m.1 4 16) 1) fun r552 => cond r552 (q_let (dz_M206 m (m.1 4 16) 2) fun r553 => cond r553 (some m) ((dz_M229_64 m 1).bind fun r554 => cond r554.2 (some r554.1) (some r554.1))) (some m))) = some m2 ∧ q_R TT y m2 ∧ q_Iv c d w m2 ∧ q_XCz x y ∧ q_MC m m2 := by
  obtain ⟨y, m2, b2, e1, e2, e3, e4, e5, e6⟩ := q_cd1 h hI
  have rg : q_rgz 0 255 (m.1 4 16) := hI.1 4 16
  unfold dz_N104_65_26
  rw [hg, q_cT (s := m) 1 (by decide) rg (by decide) (k := 1) rfl rfl, q_c0 (s := m) 2 (by decide) rg (by decide) (p := 4) (k := 2) rfl rfl, e1, e2]
  unfold q_let
  cases b with
  | true =>
    cases dz_M206 m (m.1 4 16) 1 with
    | false => exact ⟨x, m, rfl, rfl, h, hI, q_XC_refl x, q_MC_refl m⟩
    | true =>
      cases dz_M206 m (m.1 4 16) 2 <;> cases b2 <;> exact ⟨y, m2, rfl, rfl, e3, e4, e5, e6⟩
  | false =>
    cases dz_M206 m (m.1 4 16) 1 with
    | false => exact ⟨x, m, rfl, rfl, h, hI, q_XC_refl x, q_MC_refl m⟩
    | true =>
      cases dz_M206 m (m.1 4 16) 2 with
      | true => exact ⟨x, m, rfl, rfl, h, hI, q_XC_refl x, q_MC_refl m⟩
      | false => cases b2 <;> exact ⟨y, m2, rfl, rfl, e3, e4, e5, e6⟩
theorem q_tim (h : q_R TT x m) (hI : q_Iv c d w m) : ∃ y m2, dz_N104_65 x = some y ∧ dz_M230_64 m = some m2 ∧ q_R TT y m2 ∧ q_Iv c d w m2 ∧ q_XCz x y ∧ q_MC m m2 := by
  have rg : q_rgz 0 255 (m.1 4 16) := hI.1 4 16
  have g16 : x.1 4 16 = m.1 4 16 := h.g 16
  have iI : ∀ (s : q_S) (v : Int32), q_Iv c d w s → q_rgz 0 1 v → q_Iv c d w (q_sI s 0 38 v) := fun s v hs hv => q_Iv_I (i := 0) (m := 38) hs hv
  unfold dz_N104_65 dz_M230_64
  rw [g16, q_cT (s := m) 0 (by decide) rg (by decide) (k := 0) rfl rfl]
  cases dz_M206 m (m.1 4 16) 0 with
  | false =>
    obtain ⟨y, m2, e1, e2, e3, e4, e5, e6⟩ := q_tm2 (m := q_sI m 0 38 0) (h : q_R TT x (q_sI m 0 38 0)) (iI m 0 hI ⟨by decide, by decide⟩) (m.1 4 16) rfl false
    exact ⟨y, m2, e1, e2, e3, e4, e5, e6⟩
  | true =>
    obtain ⟨y1, m1, b1, c1, c2, c3, c4, c5, c6⟩ := q_cd0 h hI
    rw [c1]
    show ∃ y m2, (cond b1 _ _) = some y ∧ ((dz_M229_64 m 0).bind _) = some m2 ∧ _
    rw [c2]
    have g4 : m1.1 4 16 = m.1 4 16 := by rw [c6.1]
    cases b1 with
    | true =>
      obtain ⟨y, m2, e1, e2, e3, e4, e5, e6⟩ := q_tm2 (m := q_sI m1 0 38 1) (c3 : q_R TT y1 (q_sI m1 0 38 1)) (iI m1 1 c4 ⟨by decide, by decide⟩) (m.1 4 16) g4.symm true
      exact ⟨y, m2, e1, e2, e3, e4, c5.trans e5, c6.trans e6⟩
    | false =>
      obtain ⟨y, m2, e1, e2, e3, e4, e5, e6⟩ := q_tm2 (m := q_sI m1 0 38 0) (c3 : q_R TT y1 (q_sI m1 0 38 0)) (iI m1 0 c4 ⟨by decide, by decide⟩) (m.1 4 16) g4.symm false
      exact ⟨y, m2, e1, e2, e3, e4, c5.trans e5, c6.trans e6⟩
end
end
end
section
-- 53.b
section
section
variable {TT : (Nat → Int32) → Int32 → (Nat → Int32) → Int32 → Int64 → Int64 → List Int32 → List (Nat → Int32) → (Nat → Int64) → Prop} {x y z m : q_S} {c d w : Int}
/-- the model when a pulse is over -/
def q_wF (m : q_S) (t : Int32) : q_S :=
  let r4 := q_sA m 14 (upd (m.1 14) 15 (m.1 14 15 - 1))
  let r5 := q_sA r4 14 (upd (r4.1 14) 14 (m.1 14 14 + 1))
  let r6 := q_sA r5 14 (upd (r5.1 14) 16 ((1 : Int32) - m.1 14 16))
  let r7 := q_sA r6 14 (upd (r6.1 14) 9 ((m.1 14 9) ||| 8))
  q_sA r7 14 (upd (r7.1 14) 15 t)
theorem q_209 (m : q_S) : dz_M209_64 m = decide (m.1 14 14 < m.1 14 13) := by
  unfold dz_M209_64
  cases decide (m.1 14 14 < m.1 14 13) <;> rfl
theorem q_231 (m : q_S) : dz_M231_64 m = cond (decide (m.1 4 44 = 0)) (some m) (cond (decide (m.1 14 14 < m.1 14 13)) (cond (decide (0 < m.1 14 15 - 1)) (some (q_sA m 14 (upd (m.1 14) 15 (m.1 14 15 - 1)))) (cond (decide (m.1 14 14 + 1 < m.1 14 13)) (cond (q_in (m.1 14 14 + 1) 40) (some (q_wF m (m.1 8 (m.1 14 14 + 1).toNatClampNeg))) none) (some (q_wF m 0)))) (some m)) := by
  unfold dz_M231_64
  rw [q_209]
  cases decide (m.1 4 44 = 0) with
  | true => rfl
  | false =>
    cases decide (m.1 14 14 < m.1 14 13) with
    | false => rfl
    | true =>
      show cond (decide (0 < m.1 14 15 - 1)) (some (q_sA m 14 (upd (m.1 14) 15 (m.1 14 15 - 1)))) (cond (cond (decide (m.1 14 14 + 1 < m.1 14 13)) true false) (cond (q_in (m.1 14 14 + 1) 40) (some (q_wF m (m.1 8 (m.1 14 14 + 1).toNatClampNeg))) none) (some (q_wF m 0))) = _
      cases decide (m.1 14 14 + 1 < m.1 14 13) <;> rfl
theorem q_tape (h : q_R TT x m) (hI : q_Iv c d w m) : ∃ m2, dz_M231_64 m = some m2 ∧ q_R TT (dz_N106_65 x) m2 ∧ q_Iv c d w m2 ∧ q_XCz x (dz_N106_65 x) ∧ q_MC m m2 := by
  obtain ⟨m3, e3, i3⟩ := dzj_M231_64 c d w m hI
  suffices H : ∃ m2, dz_M231_64 m = some m2 ∧ q_R TT (dz_N106_65 x) m2 ∧ q_XCz x (dz_N106_65 x) ∧ q_MC m m2 by
    obtain ⟨m2, g2, g3, g4, g5⟩ := H
    rw [e3] at g2
    cases g2
    exact ⟨m3, e3, g3, i3, g4, g5⟩
  have g44 : x.1 4 44 = m.1 4 44 := h.g 44
  have b44 : q_rgz 0 1 (m.1 4 44) := hI.1 4 44
  have z0 : (0 : Int32).toInt = 0 := rfl
  have z1 : (1 : Int32).toInt = 1 := rfl
  have z40 : (40 : Int32).toInt = 40 := rfl
  obtain ⟨t1, t2, t3, t4, t5, t6, t7, t8⟩ := h.r4
  have bo : q_rgz 0 40 (m.1 14 14) := hI.1 14 14
  have bn : q_rgz 0 40 (m.1 14 13) := hI.1 14 13
  have bo0 := bo.1
  have bo1 := bo.2
  have bn0 := bn.1
  have bn1 := bn.2
  rw [q_231]
  unfold dz_N106_65
  rw [g44]
  by_cases k : (m.1 4 44).toInt = 0
  · rw [q_eq_T (show (m.1 4 44).toInt = (0 : Int32).toInt by rw [k]; rfl), q_eq_F (show ¬ (m.1 4 44).toInt = (1 : Int32).toInt by rw [k]; decide)]
    exact ⟨m, rfl, h, q_XC_refl x, q_MC_refl m⟩
  · have b1 := b44.1
    have b2 := b44.2
    rw [q_eq_F (show ¬ (m.1 4 44).toInt = (0 : Int32).toInt by omega), q_eq_T (show (m.1 4 44).toInt = (1 : Int32).toInt by omega)]
    by_cases ho : (m.1 14 14).toInt < (m.1 14 13).toInt
    · have hx : (x.2.1 8 2).toInt < (x.2.1 8 1).toInt := by rw [t2, t3]; exact ho
      obtain ⟨u1, u2, u3⟩ := t7 hx
      have ln : q_rgz 1 999 (x.1 9 (x.2.1 8 2).toNatClampNeg) := t6 _ (by
        have e1 : (x.2.1 8 2).toNatClampNeg = (x.2.1 8 2).toInt.toNat := rfl
        have e2 : (x.2.1 8 1).toNatClampNeg = (x.2.1 8 1).toInt.toNat := rfl
        rw [e1, e2, t2, t3] at *
        omega)
      have l1 := ln.1
      have l2 := ln.2
      have e1 : (x.2.1 8 3 + 1).toInt = (x.2.1 8 3).toInt + 1 := q_addI ⟨by omega, by omega⟩ ⟨by decide, by decide⟩
      have e2 : (m.1 14 15 - 1).toInt = (m.1 14 15).toInt - 1 := q_subI ⟨by omega, by omega⟩ ⟨by decide, by decide⟩
      rw [q_lt_T ho]
      have nX : dz_N177_72 x = cond (decide ((x.2.1 8 3) + 1 < (x.1 9) ((x.2.1 8 2).toNatClampNeg))) (((q_sI x 8 3 ((x.2.1 8 3) + 1)), false)) (((q_sI (q_sI (q_sI x 8 3 0) 8 2 ((x.2.1 8 2) + 1)) 8 4 ((1 : Int32) - (x.2.1 8 4))), true)) := by
        unfold dz_N177_72
        rw [q_lt_F (show (0 : Int32).toInt ≤ (x.2.1 8 2).toInt by rw [t3]; omega), q_lt_T hx, q_lt_T (show (x.2.1 8 2).toInt < (40 : Int32).toInt by rw [t3]; omega)]; rfl
      unfold q_let
      rw [nX]
      by_cases ht : 0 < (m.1 14 15 - 1).toInt
      · rw [q_lt_T (show (0 : Int32).toInt < (m.1 14 15 - 1).toInt by omega), q_lt_T (show (x.2.1 8 3 + 1).toInt < (x.1 9 (x.2.1 8 2).toNatClampNeg).toInt by omega)]
        refine ⟨_, rfl, ?_, ⟨fun _ _ => rfl, fun _ => rfl, rfl⟩, ⟨rfl, rfl, rfl⟩⟩
        refine ⟨h.r1, h.r2, h.r3, ⟨t1, t2, t3, t4, t5, t6, fun _ => ⟨?_, ?_, ?_⟩, fun q => absurd hx q⟩, h.r5, h.r6, h.r7, h.r8⟩
        · show (m.1 14 15 - 1).toInt = (x.1 9 (x.2.1 8 2).toNatClampNeg).toInt - (x.2.1 8 3 + 1).toInt
          omega
        · show 0 ≤ (x.2.1 8 3 + 1).toInt
          omega
        · show (x.2.1 8 3 + 1).toInt < (x.1 9 (x.2.1 8 2).toNatClampNeg).toInt
          omega
      · rw [q_lt_F (show (m.1 14 15 - 1).toInt ≤ (0 : Int32).toInt by omega), q_lt_F (show (x.1 9 (x.2.1 8 2).toNatClampNeg).toInt ≤ (x.2.1 8 3 + 1).toInt by omega)]
        have e4 : (m.1 14 14 + 1).toInt = (m.1 14 14).toInt + 1 := q_addI ⟨by omega, by omega⟩ ⟨by decide, by decide⟩
        have fin : ∀ T : Int32, ((m.1 14 14 + 1).toInt < (m.1 14 13).toInt → T = m.1 8 (m.1 14 14 + 1).toNatClampNeg) → q_R TT (q_sA (q_sI (q_sI (q_sI x 8 3 0) 8 2 (x.2.1 8 2 + 1)) 8 4 (1 - x.2.1 8 4)) 4 (upd (x.1 4) 10 (x.1 4 10 ||| 8))) (q_wF m T) := by
          intro T hT
          refine ⟨h.r1, ?_, h.r3, ⟨t1, t2, ?_, ?_, ?_, t6, fun q => ?_, fun _ => rfl⟩, h.r5, h.r6, h.r7, h.r8⟩
          · have q := (q_R_fl h ((m.1 14 9) ||| 8)).r2
            rw [h.r2.2.1]
            exact q
          · show x.2.1 8 2 + 1 = m.1 14 14 + 1
            rw [t3]
          · show 1 - x.2.1 8 4 = 1 - m.1 14 16
            rw [t4]
          · show (x.2.1 8 2 + 1).toInt ≤ (x.2.1 8 1).toInt
            rw [t3, t2, e4]; omega
          · have q2 : (x.2.1 8 2 + 1).toInt < (x.2.1 8 1).toInt := q
            rw [t3, t2] at q2
            show T.toInt = (x.1 9 (x.2.1 8 2 + 1).toNatClampNeg).toInt - (0 : Int32).toInt ∧ 0 ≤ (0 : Int32).toInt ∧ (0 : Int32).toInt < (x.1 9 (x.2.1 8 2 + 1).toNatClampNeg).toInt
            have n1 : (m.1 14 14 + 1).toNatClampNeg = (m.1 14 14 + 1).toInt.toNat := rfl
            have n2 : (x.2.1 8 1).toNatClampNeg = (x.2.1 8 1).toInt.toNat := rfl
            have l9 := t6 (x.2.1 8 2 + 1).toNatClampNeg (by rw [t3, n1, n2, t2]; omega)
            have l91 := l9.1
            rw [hT q2, t3, t1 _ (by rw [n1]; omega), z0]
            rw [t3, t1 _ (by rw [n1]; omega)] at l91
            exact ⟨by omega, by decide, by omega⟩
        by_cases hn : (m.1 14 14 + 1).toInt < (m.1 14 13).toInt
        · rw [q_lt_T hn, q_in_rg (n := 40) (l := 0) (u := 39) ⟨by omega, by omega⟩ (by decide) (by decide)]
          exact ⟨_, rfl, fin _ (fun _ => rfl), ⟨fun k hk => q_upN _ _ (fun e => by subst e; cases hk), fun _ => rfl, rfl⟩, ⟨rfl, rfl, rfl⟩⟩
        · rw [q_lt_F (show (m.1 14 13).toInt ≤ (m.1 14 14 + 1).toInt by omega)]
          exact ⟨_, rfl, fin _ (fun q => absurd q hn), ⟨fun k hk => q_upN _ _ (fun e => by subst e; cases hk), fun _ => rfl, rfl⟩, ⟨rfl, rfl, rfl⟩⟩
    · rw [q_lt_F (show (m.1 14 13).toInt ≤ (m.1 14 14).toInt by omega)]
      have nX : dz_N177_72 x = (x, false) := by
        unfold dz_N177_72
        rw [q_lt_F (show (0 : Int32).toInt ≤ (x.2.1 8 2).toInt by rw [t3]; omega), q_lt_F (show (x.2.1 8 1).toInt ≤ (x.2.1 8 2).toInt by rw [t2, t3]; omega)]; rfl
      unfold q_let
      rw [nX]
      exact ⟨m, rfl, h, q_XC_refl x, q_MC_refl m⟩
/-- the line's flag -/
theorem q_meet (h : q_R TT x m) (hI : q_Iv c d w m) : ∃ m2, (∀ K : q_S → Option (q_S × Bool), cond (decide (((m.2.2 0 15) - (m.2.2 0 15) / 24 * 24).toInt32 = 0)) (q_let (dz_M207_64 m) fun r586 => cond (decide (r586 = (m.1 4) 9)) (K (q_sA m 14 (upd (m.1 14) 9 (((m.1 14) 9) ||| 1)))) (K m)) (K m) = K m2) ∧ q_R TT (dz_N101_65 x) m2 ∧ q_Iv c d w m2 ∧ q_XCz x (dz_N101_65 x) ∧ q_MC m m2 := by
  have g9 : x.1 4 9 = m.1 4 9 := h.g 9
  have ln := q_lineX h hI
  unfold dz_N101_65 dz_N86_65 q_let
  dsimp only
  rw [q_colX h]
  cases decide (((m.2.2 0 15) - (m.2.2 0 15) / 24 * 24).toInt32 = 0) with
  | false => exact ⟨m, fun _ => rfl, h, hI, q_XC_refl x, q_MC_refl m⟩
  | true =>
    rw [ln, g9]
    cases decide (dz_M207_64 m = m.1 4 9) with
    | false => exact ⟨m, fun _ => rfl, h, hI, q_XC_refl x, q_MC_refl m⟩
    | true =>
      refine ⟨_, fun _ => rfl, ?_, ?_, q_XC_10 _, ⟨rfl, rfl, rfl⟩⟩
      · show q_R TT (q_sA x 4 (upd (x.1 4) 10 ((x.1 4 10) ||| 1))) _
        rw [h.r2.2.1]
        exact q_R_fl h _
      · exact q_Iv_A (i := 14) hI (q_hf_up (hI.1 14) (q_sn9 (q_rg_or (l := 0) (u := 15) (n := 4) (W := 15) (hI.1 14 9) (q_rg_lit (n := 1) (x := 1) rfl) (by decide) (by decide) (by decide) (by decide) (by decide))))
end
end
section
section
variable {TT : (Nat → Int32) → Int32 → (Nat → Int32) → Int32 → Int64 → Int64 → List Int32 → List (Nat → Int32) → (Nat → Int64) → Prop} {x y z m : q_S} {c d w : Int}
/-- what a voice leaves as it is: all but rows 26 to 30 of the class, 6 and 10 to 13 of the model -/
def q_VX (x y : q_S) : Prop := (∀ i, (Nat.ble 26 i && Nat.ble i 30) = false → y.1 i = x.1 i) ∧ y.2 = x.2
def q_VM (m m2 : q_S) : Prop := (∀ i, (Nat.beq i 6 || (Nat.ble 10 i && Nat.ble i 13)) = false → m2.1 i = m.1 i) ∧ m2.2 = m.2
theorem q_R_V {x2 m2 : q_S} (h : q_R TT x m) (e : q_VX x x2) (g : q_VM m m2) (hp : q_R7 x2 m2) : q_R TT x2 m2 := by
  obtain ⟨e1, e2⟩ := e
  obtain ⟨g1, g2⟩ := g
  have h1 := h.r1
  have h2 := h.r2
  have h3 := h.r3
  have h4 := h.r4
  have h5 := h.r5
  have h6 := h.r6
  have h8 := h.r8
  unfold q_R1 at h1
  unfold q_R2 at h2
  unfold q_R3 at h3
  unfold q_R4 at h4
  unfold q_R5 at h5
  unfold q_R6 at h6
  unfold q_R8 at h8
  refine ⟨?_, ?_, ?_, ?_, ?_, ?_, hp, ?_⟩
  · unfold q_R1; simp only [e1 3 rfl, e1 5 rfl, e1 6 rfl, g1 1 rfl, g1 2 rfl, g1 3 rfl]; exact h1
  · unfold q_R2; simp only [e1 4 rfl, g1 4 rfl, g1 14 rfl]; exact h2
  · unfold q_R3; simp only [e1 4 rfl, e1 7 rfl, g1 14 rfl]; exact h3
  · unfold q_R4; simp only [e1 9 rfl, e2, g1 8 rfl, g1 14 rfl]; exact h4
  · unfold q_R5; simp only [e1 11 rfl, e1 12 rfl, e2, g1 7 rfl, g1 14 rfl]; exact h5
  · unfold q_R6; simp only [e1 24 rfl, e2, g1 9 rfl, g1 14 rfl, g1 15 rfl, g2, g1 16 rfl, g1 17 rfl, g1 18 rfl, g1 19 rfl, g1 20 rfl, g1 21 rfl, g1 22 rfl, g1 23 rfl, g1 24 rfl, g1 25 rfl, g1 26 rfl, g1 27 rfl, g1 28 rfl, g1 29 rfl, g1 30 rfl, g1 31 rfl, g1 32 rfl]; exact h6
  · unfold q_R8; simp only [e1 31 rfl, e1 4 rfl, e2, g2, g1 5 rfl]; exact h8
theorem q_VX.trans (h : q_VX x y) (g : q_VX y z) : q_VX x z := ⟨fun i hi => (g.1 i hi).trans (h.1 i hi), g.2.trans h.2⟩
theorem q_VM.trans (h : q_VM x y) (g : q_VM y z) : q_VM x z := ⟨fun i hi => (g.1 i hi).trans (h.1 i hi), g.2.trans h.2⟩
theorem q_VX_refl (x : q_S) : q_VX x x := ⟨fun _ _ => rfl, rfl⟩
theorem q_VM_refl (x : q_S) : q_VM x x := ⟨fun _ _ => rfl, rfl⟩
theorem q_VX_A (i : Nat) (f : Nat → Int32) (hi : (Nat.ble 26 i && Nat.ble i 30) = true) : q_VX x (q_sA x i f) := by
  refine ⟨fun j hj => ?_, rfl⟩
  refine q_uA_ne _ _ ?_
  cases e : Nat.beq j i with
  | false => rfl
  | true => rw [Nat.eq_of_beq_eq_true e, hi] at hj; cases hj
theorem q_VM_A (i : Nat) (f : Nat → Int32) (hi : (Nat.beq i 6 || (Nat.ble 10 i && Nat.ble i 13)) = true) : q_VM m (q_sA m i f) := by
  refine ⟨fun j hj => ?_, rfl⟩
  refine q_uA_ne _ _ ?_
  cases e : Nat.beq j i with
  | false => rfl
  | true => rw [Nat.eq_of_beq_eq_true e, hi] at hj; cases hj
/-- two rows that are alike below n stay alike -/
theorem q_up2 {f g : Nat → Int32} {n k : Nat} {u v : Int32} (h : ∀ j, j < n → f j = g j) (e : u = v) : ∀ j, j < n → upd f k u j = upd g k v j := fun j hj => by
  by_cases q : j = k
  · rw [q_upE _ _ q, q_upE _ _ q, e]
  · rw [q_upN _ _ q, q_upN _ _ q]; exact h j hj
/-- .. where the one is not written because it would stay as it is -/
theorem q_up1 {f g : Nat → Int32} {n k : Nat} {v : Int32} (h : ∀ j, j < n → f j = g j) (e : k < n → f k = v) : ∀ j, j < n → f j = upd g k v j := fun j hj => by
  by_cases q : j = k
  · rw [q_upE _ _ q]; subst q; exact e hj
  · rw [q_upN _ _ q]; exact h j hj
def q_vv (x m : q_S) : Prop := (∀ k, k < 3 → x.1 26 k = m.1 10 k) ∧ (∀ k, k < 3 → x.1 27 k = m.1 11 k) ∧ (∀ k, k < 3 → x.1 28 k = m.1 12 k) ∧ (∀ k, k < 3 → x.1 29 k = m.1 13 k) ∧ (∀ k, k < 40 → x.1 30 k = m.1 6 k)
theorem q_vv_of (h : q_R7 x m) : q_vv x m := ⟨fun k hk => (h.1 k hk).1, fun k hk => (h.1 k hk).2.1, fun k hk => (h.1 k hk).2.2.1, fun k hk => (h.1 k hk).2.2.2, h.2⟩
theorem q_vv_to (h : q_vv x m) : q_R7 x m := ⟨fun k hk => ⟨h.1 k hk, h.2.1 k hk, h.2.2.1 k hk, h.2.2.2.1 k hk⟩, h.2.2.2.2⟩
theorem q_noise {n : Int32} (h : q_rgz 0 32767 n) : (decide (n &&& 3 = 1) || decide (n &&& 3 = 2)) = !decide (n - n / 2 * 2 = (n / 2) - (n / 2) / 2 * 2) := by
  have a := h.1
  have b := h.2
  have e1 : (n &&& 3).toInt = n.toInt % 4 := q_andI 2 (by decide) h (by decide) rfl
  have e2 : (n - n / 2 * 2).toInt = n.toInt % 2 := q_rem_eq a (by decide)
  have e3 : (n / 2).toInt = n.toInt / 2 := q_toInt_div a (by decide)
  have e4 : ((n / 2) - (n / 2) / 2 * 2).toInt = n.toInt / 2 % 2 := by rw [q_rem_eq (by omega) (by decide), e3]; rfl
  have z1 : (1 : Int32).toInt = 1 := rfl
  have z2 : (2 : Int32).toInt = 2 := rfl
  rcases (by omega : n.toInt % 4 = 0 ∨ n.toInt % 4 = 1 ∨ n.toInt % 4 = 2 ∨ n.toInt % 4 = 3) with q | q | q | q
  · rw [q_eq_F (by omega), q_eq_F (show ¬ (n &&& 3).toInt = (2 : Int32).toInt by omega), q_eq_T (by rw [e2, e4]; omega)]; rfl
  · rw [q_eq_T (show (n &&& 3).toInt = (1 : Int32).toInt by omega), q_eq_F (show ¬ (n - n / 2 * 2).toInt = ((n / 2) - (n / 2) / 2 * 2).toInt by rw [e2, e4]; omega)]; rfl
  · rw [q_eq_F (by omega), q_eq_T (show (n &&& 3).toInt = (2 : Int32).toInt by omega), q_eq_F (show ¬ (n - n / 2 * 2).toInt = ((n / 2) - (n / 2) / 2 * 2).toInt by rw [e2, e4]; omega)]; rfl
  · rw [q_eq_F (by omega), q_eq_F (show ¬ (n &&& 3).toInt = (2 : Int32).toInt by omega), q_eq_T (by rw [e2, e4]; omega)]; rfl
theorem q_vk {v : Int32} (hv : q_rgz 0 2 v) : q_in v 3 = true ∧ v.toNatClampNeg < 3 ∧ decide (v < 0) = false ∧ decide (v < 3) = true := by
  have a := hv.1
  have b := hv.2
  have e : v.toNatClampNeg = v.toInt.toNat := rfl
  have z0 : (0 : Int32).toInt = 0 := rfl
  have z3 : (3 : Int32).toInt = 3 := rfl
  exact ⟨q_in_rg hv (by decide) (by decide), by omega, q_lt_F (by omega), q_lt_T (by omega)⟩
/-- the phase and the noise -/
theorem q_turn (h : q_vv x m) (hI : q_Iv c d w m) {v : Int32} (hv : q_rgz 0 2 v) {p1 p2 : Int32} : ∃ y m1, dz_N169_89 x v (p1 + 256 * p2) = some y ∧ q_vv y m1 ∧ q_VX x y ∧ q_VM m m1 ∧ m1.1 11 = m.1 11 ∧
    (∀ f : q_S → Option q_S, (q_let ((((m.1 10) (v.toNatClampNeg)) + p1) + (256 * p2)) fun x570 => cond (decide (65535 < x570)) (cond (decide (((m.1 13) (v.toNatClampNeg)) - ((m.1 13) (v.toNatClampNeg)) / 2 * 2 = (((m.1 13) (v.toNatClampNeg)) / 2) - (((m.1 13) (v.toNatClampNeg)) / 2) / 2 * 2)) (f (q_sA (q_sA m 10 (upd (m.1 10) (v.toNatClampNeg) (x570 - x570 / 65536 * 65536))) 13 (upd (m.1 13) (v.toNatClampNeg) ((((m.1 13) (v.toNatClampNeg)) / 2) + 0)))) (f (q_sA (q_sA m 10 (upd (m.1 10) (v.toNatClampNeg) (x570 - x570 / 65536 * 65536))) 13 (upd (m.1 13) (v.toNatClampNeg) ((((m.1 13) (v.toNatClampNeg)) / 2) + 16384))))) (f (q_sA m 10 (upd (m.1 10) (v.toNatClampNeg) (x570 - x570 / 65536 * 65536))))) = f m1) := by
  obtain ⟨i3, k3, n1, n2⟩ := q_vk hv
  obtain ⟨h1, h2, h3, h4, h5⟩ := h
  have nn := q_noise (hI.1 13 v.toNatClampNeg : q_rgz 0 32767 _)
  unfold dz_N169_89 dz_N169_89_59
  rw [n1, n2, i3, h1 _ k3, h4 _ k3, ← Int32.add_assoc]
  unfold q_let
  dsimp only
  generalize ((m.1 10) (v.toNatClampNeg) + p1) + 256 * p2 = S
  generalize v.toNatClampNeg = k at *
  cases decide (65535 < S) with
  | false =>
    refine ⟨q_sA x 26 (upd (x.1 26) k (S - S / 65536 * 65536)), q_sA m 10 (upd (m.1 10) k (S - S / 65536 * 65536)), rfl, ⟨q_up2 h1 rfl, h2, h3, h4, h5⟩, q_VX_A _ _ rfl, q_VM_A _ _ rfl, rfl, fun f => rfl⟩
  | true =>
    cases q : decide (m.1 13 k - m.1 13 k / 2 * 2 = m.1 13 k / 2 - m.1 13 k / 2 / 2 * 2) with
    | true =>
      rw [q] at nn
      have q1 : decide (m.1 13 k &&& 3 = 1) = false := by
        cases e : decide (m.1 13 k &&& 3 = 1) with
        | false => rfl
        | true => rw [e] at nn; cases nn
      have q2 : decide (m.1 13 k &&& 3 = 2) = false := by
        cases e : decide (m.1 13 k &&& 3 = 2) with
        | false => rfl
        | true => rw [e, Bool.or_true] at nn; cases nn
      rw [q1, q2]
      refine ⟨q_sA (q_sA x 26 (upd (x.1 26) k (S - S / 65536 * 65536))) 29 (upd (x.1 29) k (m.1 13 k / 2 + 0)), q_sA (q_sA m 10 (upd (m.1 10) k (S - S / 65536 * 65536))) 13 (upd (m.1 13) k (m.1 13 k / 2 + 0)), rfl, ⟨q_up2 h1 rfl, h2, h3, q_up2 h4 rfl, h5⟩, (q_VX_A _ _ rfl).trans (q_VX_A _ _ rfl), (q_VM_A _ _ rfl).trans (q_VM_A _ _ rfl), rfl, fun f => rfl⟩
    | false =>
      rw [q] at nn
      refine ⟨q_sA (q_sA x 26 (upd (x.1 26) k (S - S / 65536 * 65536))) 29 (upd (x.1 29) k (m.1 13 k / 2 + 16384)), q_sA (q_sA m 10 (upd (m.1 10) k (S - S / 65536 * 65536))) 13 (upd (m.1 13) k (m.1 13 k / 2 + 16384)), ?_, ⟨q_up2 h1 rfl, h2, h3, q_up2 h4 rfl, h5⟩, (q_VX_A _ _ rfl).trans (q_VX_A _ _ rfl), (q_VM_A _ _ rfl).trans (q_VM_A _ _ rfl), rfl, fun f => rfl⟩
      cases e : decide (m.1 13 k &&& 3 = 1) with
      | true => rfl
      | false =>
        rw [e, Bool.false_or] at nn
        rw [nn]; rfl
theorem q_swell (h : q_vv x m) (hl : ∀ k, q_rgz 0 15 (m.1 11 k)) (hg : ∀ k, q_rgz 0 255 (m.1 4 k)) (e4 : ∀ k, 32 ≤ k → k < 44 → x.1 4 k = m.1 4 k) {v b : Int32} (hv : q_rgz 0 2 v) (hb : b.toInt = 32 + 4 * v.toInt) : ∃ y m2, dz_M232_64_93 m v b = some m2 ∧ q_vv y m2 ∧ q_VX x y ∧ q_VM m m2 ∧
    (∀ f : q_S → Option q_S, (cond (q_in (b + 2) 48) (cond (decide (((x.1 4) ((b + 2).toNatClampNeg)) &&& 1 = 1)) (cond (q_in (b + 3) 48) ((dz_N170_89_t x v ((x.1 4) ((b + 3).toNatClampNeg))).bind f) none) (cond (q_in (b + 3) 48) ((dz_N170_89_f x v ((x.1 4) ((b + 3).toNatClampNeg))).bind f) none)) none) = f y) := by
  obtain ⟨i3, k3, n1, n2⟩ := q_vk hv
  obtain ⟨h1, h2, h3, h4, h5⟩ := h
  have a := hv.1
  have a2 := hv.2
  have z2 : (2 : Int32).toInt = 2 := rfl
  have z3 : (3 : Int32).toInt = 3 := rfl
  have e2 : (b + 2).toInt = 34 + 4 * v.toInt := by rw [q_addI ⟨by omega, by omega⟩ ⟨by decide, by decide⟩, hb]; omega
  have e3 : (b + 3).toInt = 35 + 4 * v.toInt := by rw [q_addI ⟨by omega, by omega⟩ ⟨by decide, by decide⟩, hb]; omega
  have i2 : q_in (b + 2) 48 = true := q_in_rg (l := 0) (u := 47) ⟨by omega, by omega⟩ (by decide) (by decide)
  have i4 : q_in (b + 3) 48 = true := q_in_rg (l := 0) (u := 47) ⟨by omega, by omega⟩ (by decide) (by decide)
  have k2 : (b + 2).toNatClampNeg = (b + 2).toInt.toNat := rfl
  have k4 : (b + 3).toNatClampNeg = (b + 3).toInt.toNat := rfl
  have g2 : x.1 4 (b + 2).toNatClampNeg = m.1 4 (b + 2).toNatClampNeg := e4 _ (by omega) (by omega)
  have g3 : x.1 4 (b + 3).toNatClampNeg = m.1 4 (b + 3).toNatClampNeg := e4 _ (by omega) (by omega)
  unfold dz_M232_64_93 dz_N170_89_t dz_N170_89_t_80 dz_N170_89_f dz_N170_89_f_80
  rw [i2, i4, i3, g2, g3, n1, n2, q_cT (s := m) 0 (by decide) (hg _) (by decide) (k := 0) rfl rfl, h3 _ k3, h2 _ k3]
  have lv := hl v.toNatClampNeg
  have lv0 := lv.1
  have lv1 := lv.2
  have w1 : upd (x.1 28) v.toNatClampNeg (m.1 12 v.toNatClampNeg + 1) v.toNatClampNeg = m.1 12 v.toNatClampNeg + 1 := q_upE _ _ rfl
  have w2 : upd (m.1 12) v.toNatClampNeg (m.1 12 v.toNatClampNeg + 1) v.toNatClampNeg = m.1 12 v.toNatClampNeg + 1 := q_upE _ _ rfl
  rw [w1, w2]
  unfold q_let
  dsimp only
  generalize m.1 4 (b + 3).toNatClampNeg = r
  have z15 : (15 : Int32).toInt = 15 := rfl
  have z0 : (0 : Int32).toInt = 0 := rfl
  have p1 : (m.1 11 v.toNatClampNeg + 1).toInt = (m.1 11 v.toNatClampNeg).toInt + 1 := q_addI ⟨by omega, by omega⟩ ⟨by decide, by decide⟩
  have p2 : (m.1 11 v.toNatClampNeg - 1).toInt = (m.1 11 v.toNatClampNeg).toInt - 1 := q_subI ⟨by omega, by omega⟩ ⟨by decide, by decide⟩
  have up : (if m.1 11 v.toNatClampNeg + 1 < (15 : Int32) then m.1 11 v.toNatClampNeg + 1 else (15 : Int32)) = cond (decide (m.1 11 v.toNatClampNeg < 15)) (m.1 11 v.toNatClampNeg + 1) (m.1 11 v.toNatClampNeg) := by
    apply Int32.toInt_inj.mp
    by_cases q : (m.1 11 v.toNatClampNeg).toInt < 14
    · rw [if_pos (Int32.lt_iff_toInt_lt.mpr (by omega)), q_lt_T (show (m.1 11 v.toNatClampNeg).toInt < (15 : Int32).toInt by omega)]; rfl
    · rw [if_neg (fun z => by have := Int32.lt_iff_toInt_lt.mp z; omega)]
      by_cases q2 : (m.1 11 v.toNatClampNeg).toInt < 15
      · rw [q_lt_T (show (m.1 11 v.toNatClampNeg).toInt < (15 : Int32).toInt by omega), cond_true]; omega
      · rw [q_lt_F (show (15 : Int32).toInt ≤ (m.1 11 v.toNatClampNeg).toInt by omega), cond_false]; omega
  have dn : (if (0 : Int32) < m.1 11 v.toNatClampNeg - 1 then m.1 11 v.toNatClampNeg - 1 else (0 : Int32)) = cond (decide (0 < m.1 11 v.toNatClampNeg)) (m.1 11 v.toNatClampNeg - 1) (m.1 11 v.toNatClampNeg) := by
    apply Int32.toInt_inj.mp
    by_cases q : 1 < (m.1 11 v.toNatClampNeg).toInt
    · rw [if_pos (Int32.lt_iff_toInt_lt.mpr (by omega)), q_lt_T (show (0 : Int32).toInt < (m.1 11 v.toNatClampNeg).toInt by omega)]; rfl
    · rw [if_neg (fun z => by have := Int32.lt_iff_toInt_lt.mp z; omega)]
      by_cases q2 : 0 < (m.1 11 v.toNatClampNeg).toInt
      · rw [q_lt_T (show (0 : Int32).toInt < (m.1 11 v.toNatClampNeg).toInt by omega), cond_true]; omega
      · rw [q_lt_F (show (m.1 11 v.toNatClampNeg).toInt ≤ (0 : Int32).toInt by omega), cond_false]; omega
  have xl : x.1 27 v.toNatClampNeg = m.1 11 v.toNatClampNeg := h2 _ k3
  generalize v.toNatClampNeg = k at *
  have o2 := @q_up2
  cases dz_M206 m (m.1 4 (b + 2).toNatClampNeg) 0 with
  | true =>
    cases decide (r - r / 16 * 16 < m.1 12 k + 1) with
    | false => exact ⟨q_sA x 28 (upd (x.1 28) k (m.1 12 k + 1)), _, rfl, ⟨h1, h2, q_up2 h3 rfl, h4, h5⟩, q_VX_A _ _ rfl, q_VM_A _ _ rfl, fun f => rfl⟩
    | true =>
      show ∃ y m2, some (q_sA (q_sA (q_sA m 12 (upd (m.1 12) k (m.1 12 k + 1))) 12 (upd (upd (m.1 12) k (m.1 12 k + 1)) k 0)) 11 (upd (m.1 11) k (if m.1 11 k + 1 < (15 : Int32) then m.1 11 k + 1 else (15 : Int32)))) = some m2 ∧ _
      rw [up]
      cases decide (m.1 11 k < 15) with
      | true => exact ⟨q_sA (q_sA x 28 (upd (upd (x.1 28) k (m.1 12 k + 1)) k 0)) 27 (upd (x.1 27) k (m.1 11 k + 1)), _, rfl, ⟨h1, q_up2 h2 rfl, q_up2 (q_up2 h3 rfl) rfl, h4, h5⟩, (q_VX_A _ _ rfl).trans (q_VX_A _ _ rfl), ((q_VM_A _ _ rfl).trans (q_VM_A _ _ rfl)).trans (q_VM_A _ _ rfl), fun f => rfl⟩
      | false => exact ⟨q_sA x 28 (upd (upd (x.1 28) k (m.1 12 k + 1)) k 0), _, rfl, ⟨h1, q_up1 h2 (fun _ => xl), q_up2 (q_up2 h3 rfl) rfl, h4, h5⟩, q_VX_A _ _ rfl, ((q_VM_A _ _ rfl).trans (q_VM_A _ _ rfl)).trans (q_VM_A _ _ rfl), fun f => rfl⟩
  | false =>
    cases decide (r / 16 < m.1 12 k + 1) with
    | false => exact ⟨q_sA x 28 (upd (x.1 28) k (m.1 12 k + 1)), _, rfl, ⟨h1, h2, q_up2 h3 rfl, h4, h5⟩, q_VX_A _ _ rfl, q_VM_A _ _ rfl, fun f => rfl⟩
    | true =>
      show ∃ y m2, some (q_sA (q_sA (q_sA m 12 (upd (m.1 12) k (m.1 12 k + 1))) 12 (upd (upd (m.1 12) k (m.1 12 k + 1)) k 0)) 11 (upd (m.1 11) k (if (0 : Int32) < m.1 11 k - 1 then m.1 11 k - 1 else (0 : Int32)))) = some m2 ∧ _
      rw [dn]
      have tX : ∀ f : q_S → Option q_S, (cond (decide ((0 : Int32) = 0)) (cond true (cond (decide (0 < (q_sA x 28 (upd (upd (x.1 28) k (m.1 12 k + 1)) k 0)).1 27 k)) (some (q_sA (q_sA x 28 (upd (upd (x.1 28) k (m.1 12 k + 1)) k 0)) 27 (upd ((q_sA x 28 (upd (upd (x.1 28) k (m.1 12 k + 1)) k 0)).1 27) k ((q_sA x 28 (upd (upd (x.1 28) k (m.1 12 k + 1)) k 0)).1 27 k - 1)))) (some (q_sA x 28 (upd (upd (x.1 28) k (m.1 12 k + 1)) k 0)))) none) (some (q_sA x 28 (upd (upd (x.1 28) k (m.1 12 k + 1)) k 0)))).bind f = (cond (decide (0 < m.1 11 k)) (some (q_sA (q_sA x 28 (upd (upd (x.1 28) k (m.1 12 k + 1)) k 0)) 27 (upd (x.1 27) k (m.1 11 k - 1)))) (some (q_sA x 28 (upd (upd (x.1 28) k (m.1 12 k + 1)) k 0)))).bind f := fun f => by
        show (cond (decide (0 < x.1 27 k)) (some (q_sA (q_sA x 28 (upd (upd (x.1 28) k (m.1 12 k + 1)) k 0)) 27 (upd (x.1 27) k (x.1 27 k - 1)))) (some (q_sA x 28 (upd (upd (x.1 28) k (m.1 12 k + 1)) k 0)))).bind f = _
        rw [xl]
      cases q : decide (0 < m.1 11 k) with
      | true =>
        refine ⟨q_sA (q_sA x 28 (upd (upd (x.1 28) k (m.1 12 k + 1)) k 0)) 27 (upd (x.1 27) k (m.1 11 k - 1)), _, rfl, ⟨h1, q_up2 h2 rfl, q_up2 (q_up2 h3 rfl) rfl, h4, h5⟩, (q_VX_A _ _ rfl).trans (q_VX_A _ _ rfl), ((q_VM_A _ _ rfl).trans (q_VM_A _ _ rfl)).trans (q_VM_A _ _ rfl), fun f => (tX f).trans (by rw [q]; rfl)⟩
      | false =>
        refine ⟨q_sA x 28 (upd (upd (x.1 28) k (m.1 12 k + 1)) k 0), _, rfl, ⟨h1, q_up1 h2 (fun _ => xl), q_up2 (q_up2 h3 rfl) rfl, h4, h5⟩, q_VX_A _ _ rfl, ((q_VM_A _ _ rfl).trans (q_VM_A _ _ rfl)).trans (q_VM_A _ _ rfl), fun f => (tX f).trans (by rw [q]; rfl)⟩
end
end
section
section
variable {TT : (Nat → Int32) → Int32 → (Nat → Int32) → Int32 → Int64 → Int64 → List Int32 → List (Nat → Int32) → (Nat → Int64) → Prop} {x y z m : q_S} {c d w : Int}
theorem q_wave {g : Int32} (h : q_rgz 0 255 g) : (g >>> ((1 &&& 31 : Int32))) &&& 3 = (g / 2) - (g / 2) / 4 * 4 ∧ q_rgz 0 3 ((g / 2) - (g / 2) / 4 * 4) := by
  have a := h.1
  have b := h.2
  have e1 : (g >>> ((1 &&& 31 : Int32))).toInt = g.toInt / 2 := q_shrI 1 rfl (by decide)
  have e2 : (g / 2).toInt = g.toInt / 2 := q_toInt_div a (by decide)
  have e3 : ((g / 2) - (g / 2) / 4 * 4).toInt = g.toInt / 2 % 4 := by rw [q_rem_eq (by omega) (by decide), e2]; rfl
  refine ⟨?_, ⟨by omega, by omega⟩⟩
  apply Int32.toInt_inj.mp
  rw [e3, q_andI 2 (by decide) (l := 0) (u := 127) ⟨by omega, by omega⟩ (by decide) rfl, e1]
  rfl
theorem q_233 (m : q_S) {v W : Int32} (hv : q_rgz 0 2 v) (hW : ((m.1 4 ((34 : Int32) + 4 * v).toNatClampNeg) / 2) - ((m.1 4 ((34 : Int32) + 4 * v).toNatClampNeg) / 2) / 4 * 4 = W) (rW : q_rgz 0 3 W) (i1 : q_in ((34 : Int32) + 4 * v) 48 = true) (i2 : q_in ((v + 2) - (v + 2) / 3 * 3) 3 = true) : dz_M233_64 m v = some (cond (dz_M206 m (m.1 4 ((34 : Int32) + 4 * v).toNatClampNeg) 3) (cond (decide (m.1 10 (((v + 2) - (v + 2) / 3 * 3).toNatClampNeg) < 32768)) (dz_N172 m W (m.1 10 v.toNatClampNeg) (m.1 13 v.toNatClampNeg)) (15 - dz_N172 m W (m.1 10 v.toNatClampNeg) (m.1 13 v.toNatClampNeg))) (dz_N172 m W (m.1 10 v.toNatClampNeg) (m.1 13 v.toNatClampNeg))) := by
  obtain ⟨i3, k3, n1, n2⟩ := q_vk hv
  unfold dz_M233_64 q_let dz_N172
  rw [i1, i3, i2]
  dsimp only
  rw [hW]
  have a := rW.1
  have b := rW.2
  generalize dz_M206 m (m.1 4 ((34 : Int32) + 4 * v).toNatClampNeg) 3 = R
  generalize decide (m.1 10 (((v + 2) - (v + 2) / 3 * 3).toNatClampNeg) < 32768) = Q
  rcases (by omega : W.toInt = 0 ∨ W.toInt = 1 ∨ W.toInt = 2 ∨ W.toInt = 3) with e | e | e | e
  · rw [show W = 0 from Int32.toInt_inj.mp e]
    cases R <;> cases Q <;> rfl
  · rw [show W = 1 from Int32.toInt_inj.mp e]
    show (cond (decide (m.1 10 v.toNatClampNeg < 32768)) _ _) = some (cond R (cond Q (cond (decide (m.1 10 v.toNatClampNeg < 32768)) (0 : Int32) 15) (15 - (cond (decide (m.1 10 v.toNatClampNeg < 32768)) (0 : Int32) 15))) (cond (decide (m.1 10 v.toNatClampNeg < 32768)) (0 : Int32) 15))
    cases decide (m.1 10 v.toNatClampNeg < 32768) <;> cases R <;> cases Q <;> first | rfl | exact congrArg some (show (15 : Int32) = 15 - 0 by decide) | exact congrArg some (show (0 : Int32) = 15 - 15 by decide)
  · rw [show W = 2 from Int32.toInt_inj.mp e]
    cases R <;> cases Q <;> rfl
  · rw [show W = 3 from Int32.toInt_inj.mp e]
    cases R <;> cases Q <;> first | rfl | exact congrArg some (show (15 : Int32) = 15 - 0 by decide) | exact congrArg some (show (0 : Int32) = 15 - 15 by decide)
theorem q_give (h : q_vv x m) (hg : ∀ k, q_rgz 0 255 (m.1 4 k)) (e4 : ∀ k, 32 ≤ k → k < 44 → x.1 4 k = m.1 4 k) {v : Int32} (hv : q_rgz 0 2 v) : ∃ r, dz_N171_89 x v (x.1 4 ((((32 : Int32) + (4 * v)) + 2).toNatClampNeg)) = some r ∧ dz_M233_64 m v = some r ∧ q_in (((32 : Int32) + (4 * v)) + 2) 48 = true := by
  obtain ⟨i3, k3, n1, n2⟩ := q_vk hv
  obtain ⟨h1, h2, h3, h4, h5⟩ := h
  have a := hv.1
  have b := hv.2
  have e0 : (4 * v).toInt = 4 * v.toInt := q_mulI (n := 4) rfl (by decide) (by decide) ⟨by omega, by omega⟩
  have z32 : (32 : Int32).toInt = 32 := rfl
  have z34 : (34 : Int32).toInt = 34 := rfl
  have z2 : (2 : Int32).toInt = 2 := rfl
  have e1 : ((32 : Int32) + (4 * v)).toInt = 32 + 4 * v.toInt := by rw [q_addI ⟨by decide, by decide⟩ ⟨by omega, by omega⟩]; omega
  have e2 : (((32 : Int32) + (4 * v)) + 2).toInt = 34 + 4 * v.toInt := by rw [q_addI ⟨by omega, by omega⟩ ⟨by decide, by decide⟩]; omega
  have e3 : ((34 : Int32) + (4 * v)).toInt = 34 + 4 * v.toInt := by rw [q_addI ⟨by decide, by decide⟩ ⟨by omega, by omega⟩]; omega
  have ee : ((32 : Int32) + (4 * v)) + 2 = (34 : Int32) + 4 * v := Int32.toInt_inj.mp (by omega)
  have i1 : q_in ((34 : Int32) + 4 * v) 48 = true := q_in_rg (l := 0) (u := 47) ⟨by omega, by omega⟩ (by decide) (by decide)
  have kn : ((34 : Int32) + 4 * v).toNatClampNeg = ((34 : Int32) + 4 * v).toInt.toNat := rfl
  have g : x.1 4 ((34 : Int32) + 4 * v).toNatClampNeg = m.1 4 ((34 : Int32) + 4 * v).toNatClampNeg := e4 _ (by omega) (by omega)
  rw [ee, g]
  have hh := hg ((34 : Int32) + 4 * v).toNatClampNeg
  obtain ⟨w1, w2⟩ := q_wave hh
  have e5 : (v + 2).toInt = v.toInt + 2 := q_addI ⟨by omega, by omega⟩ ⟨by decide, by decide⟩
  have e6 : ((v + 2) - (v + 2) / 3 * 3).toInt = (v.toInt + 2) % 3 := by rw [q_rem_eq (by omega) (by decide), e5]; rfl
  have i2 : q_in ((v + 2) - (v + 2) / 3 * 3) 3 = true := q_in_rg (l := 0) (u := 2) ⟨by omega, by omega⟩ (by decide) (by decide)
  refine ⟨_, ?_, q_233 m hv rfl w2 i1 i2, i1⟩
  have c8 := q_cT (s := m) (p := 8) (k := 3) 3 (by decide) hh (by decide) rfl rfl
  unfold dz_N171_89 q_let
  rw [n1, n2, w1, c8, h1 _ k3, h4 _ k3]
  have h172 : ∀ (p q r : Int32), dz_N172 x p q r = dz_N172 m p q r := fun _ _ _ => rfl
  rw [h172]
  generalize dz_N172 m (m.1 4 ((34 : Int32) + 4 * v).toNatClampNeg / 2 - m.1 4 ((34 : Int32) + 4 * v).toNatClampNeg / 2 / 4 * 4) (m.1 10 v.toNatClampNeg) (m.1 13 v.toNatClampNeg) = o
  generalize dz_M206 m (m.1 4 ((34 : Int32) + 4 * v).toNatClampNeg) 3 = R
  dsimp only
  have kA : ((v + 2) - (v + 2) / 3 * 3).toNatClampNeg = ((v + 2) - (v + 2) / 3 * 3).toInt.toNat := rfl
  by_cases k0 : v.toInt = 0
  · rw [q_eq_T (show v.toInt = (0 : Int32).toInt by rw [k0]; rfl), h1 2 (by decide), show ((v + 2) - (v + 2) / 3 * 3).toNatClampNeg = 2 by omega]
    cases R <;> cases decide (m.1 10 2 < 32768) <;> rfl
  · have e7 : (v - 1).toInt = v.toInt - 1 := q_subI ⟨by omega, by omega⟩ ⟨by decide, by decide⟩
    have kB : (v - 1).toNatClampNeg = (v - 1).toInt.toNat := rfl
    have z0 : (0 : Int32).toInt = 0 := rfl
    rw [q_eq_F (show ¬ v.toInt = (0 : Int32).toInt by omega), q_in_rg (x := v - 1) (n := 3) (l := 0) (u := 2) ⟨by omega, by omega⟩ (by decide) (by decide), h1 (v - 1).toNatClampNeg (by omega), show ((v + 2) - (v + 2) / 3 * 3).toNatClampNeg = (v - 1).toNatClampNeg by omega]
    cases R <;> cases decide (m.1 10 (v - 1).toNatClampNeg < 32768) <;> rfl
/-- one voice's turn in both loops -/
theorem q_vstep (h : q_vv x m) (hI : q_Iv c d w m) (e4 : ∀ k, 32 ≤ k → k < 44 → x.1 4 k = m.1 4 k) {v : Int32} (hv : q_rgz 0 2 v) : ∃ y m2, (∀ n ln, dz_N168_89_68_20 (n + 1) x ln v = dz_N168_89_68_20 n y ln (v + 1)) ∧ (∀ n, dz_M234_64_2 (n + 1) m v = dz_M234_64_2 n m2 (v + 1)) ∧ q_vv y m2 ∧ q_VX x y ∧ q_VM m m2 ∧ q_Iv c d w m2 := by
  obtain ⟨i3, k3, n1, n2⟩ := q_vk hv
  have a := hv.1
  have b := hv.2
  have e0 : (4 * v).toInt = 4 * v.toInt := q_mulI (n := 4) rfl (by decide) (by decide) ⟨by omega, by omega⟩
  have z32 : (32 : Int32).toInt = 32 := rfl
  have z1 : (1 : Int32).toInt = 1 := rfl
  have z2 : (2 : Int32).toInt = 2 := rfl
  have z3 : (3 : Int32).toInt = 3 := rfl
  have e1 : ((32 : Int32) + (4 * v)).toInt = 32 + 4 * v.toInt := by rw [q_addI ⟨by decide, by decide⟩ ⟨by omega, by omega⟩]; omega
  have e2 : (((32 : Int32) + (4 * v)) + 1).toInt = 33 + 4 * v.toInt := by rw [q_addI ⟨by omega, by omega⟩ ⟨by decide, by decide⟩]; omega
  have i1 : q_in ((32 : Int32) + (4 * v)) 48 = true := q_in_rg (l := 0) (u := 47) ⟨by omega, by omega⟩ (by decide) (by decide)
  have i2 : q_in (((32 : Int32) + (4 * v)) + 1) 48 = true := q_in_rg (l := 0) (u := 47) ⟨by omega, by omega⟩ (by decide) (by decide)
  have kA : ((32 : Int32) + (4 * v)).toNatClampNeg = ((32 : Int32) + (4 * v)).toInt.toNat := rfl
  have kB : (((32 : Int32) + (4 * v)) + 1).toNatClampNeg = (((32 : Int32) + (4 * v)) + 1).toInt.toNat := rfl
  have g1 := e4 ((32 : Int32) + (4 * v)).toNatClampNeg (by omega) (by omega)
  have g2 := e4 (((32 : Int32) + (4 * v)) + 1).toNatClampNeg (by omega) (by omega)
  obtain ⟨y1, m1, t1, t2, t3, t4, t5, t6⟩ := q_turn h hI hv (p1 := m.1 4 ((32 : Int32) + (4 * v)).toNatClampNeg) (p2 := m.1 4 (((32 : Int32) + (4 * v)) + 1).toNatClampNeg)
  have x4 : y1.1 4 = x.1 4 := t3.1 4 rfl
  have m4 : m1.1 4 = m.1 4 := t4.1 4 rfl
  obtain ⟨y, m2, s1, s2, s3, s4, s5⟩ := q_swell t2 (fun k => by rw [t5]; exact hI.1 11 k) (fun k => by rw [m4]; exact q_rg_le (hI.1 4 k) (Int.le_refl _) (by show q_hg k ≤ 255; unfold q_hg; cases Nat.beq k 0 <;> cases Nat.beq k 44 <;> decide)) (fun k p q => by rw [x4, m4]; exact e4 k p q) hv e1
  have eM : dz_M232_64 m v = some m2 := by
    unfold dz_M232_64
    rw [i3, i1, i2]
    rw [cond_true, cond_true, cond_true, ← s1]
    exact t6 (fun s => dz_M232_64_93 s v ((32 : Int32) + (4 * v)))
  obtain ⟨m3, q1, q2⟩ := dzj_M232_64 c d w m hI v hv
  rw [eM] at q1
  cases q1
  refine ⟨y, m2, fun n ln => ?_, fun n => ?_, s2, t3.trans s3, t4.trans s4, q2⟩
  · rw [dzs_N168_89_68_20]
    dsimp only
    rw [n2, i1, i2, g1, g2, t1]
    exact s5 (fun r => dz_N168_89_68_20 n r ln (v + 1))
  · rw [dzs_M234_64_2]
    dsimp only
    rw [n2, eM]
    rfl
theorem q_gstep (h : q_vv x m) (hI : q_Iv c d w m) (e4 : ∀ k, 32 ≤ k → k < 44 → x.1 4 k = m.1 4 k) {v : Int32} (hv : q_rgz 0 2 v) (acc : Int32) : ∃ acc2, (∀ n ln, dz_N168_89_68_92 (n + 1) x ln acc v = dz_N168_89_68_92 n x ln acc2 (v + 1)) ∧ (∀ n, dz_M234_64_22 (n + 1) m acc v = dz_M234_64_22 n m acc2 (v + 1)) := by
  obtain ⟨i3, k3, n1, n2⟩ := q_vk hv
  obtain ⟨r, r1, r2, r3⟩ := q_give h (fun k => q_rg_le (hI.1 4 k) (Int.le_refl _) (by show q_hg k ≤ 255; unfold q_hg; cases Nat.beq k 0 <;> cases Nat.beq k 44 <;> decide)) e4 hv
  refine ⟨acc + r * m.1 11 v.toNatClampNeg, fun n ln => ?_, fun n => ?_⟩
  · rw [dzs_N168_89_68_92]
    dsimp only
    rw [n2, r3, r1, i3, h.2.1 _ k3]
    rfl
  · rw [dzs_M234_64_22]
    dsimp only
    rw [n2, r2, i3]
    rfl
theorem q_snd (h : q_R TT x m) (hI : q_Iv c d w m) : ∃ y m2, dz_N168_89_68 x (dz_M207_64 m) = some y ∧ dz_M234_64 m = some m2 ∧ q_R TT y m2 ∧ q_Iv c d w m2 ∧ q_XCz x y ∧ q_MC m m2 := by
  have e4 : ∀ k, 32 ≤ k → k < 44 → x.1 4 k = m.1 4 k := fun k p q => h.r2.1.1 k (by omega) (by
    have t : ∀ n, n < 44 → 32 ≤ n → q_pl n = true := by decide
    exact t k q p)
  have ln := dzj_M207_64 c d w m hI
  have ln0 : 0 ≤ (dz_M207_64 m).toInt := ln.1
  have ln1 : (dz_M207_64 m).toInt ≤ 39 := ln.2
  obtain ⟨y1, m1, a1, a2, a3, a4, a5, a6⟩ := q_vstep (q_vv_of h.r7) hI e4 (v := 0) ⟨by decide, by decide⟩
  have f1 : ∀ k, 32 ≤ k → k < 44 → y1.1 4 k = m1.1 4 k := fun k p q => by rw [a4.1 4 rfl, a5.1 4 rfl]; exact e4 k p q
  obtain ⟨y2, m2, b1, b2, b3, b4, b5, b6⟩ := q_vstep a3 a6 f1 (v := 0 + 1) ⟨by decide, by decide⟩
  have f2 : ∀ k, 32 ≤ k → k < 44 → y2.1 4 k = m2.1 4 k := fun k p q => by rw [b4.1 4 rfl, b5.1 4 rfl]; exact f1 k p q
  obtain ⟨y3, m3, c1, c2, c3, c4, c5, c6⟩ := q_vstep b3 b6 f2 (v := 0 + 1 + 1) ⟨by decide, by decide⟩
  have f3 : ∀ k, 32 ≤ k → k < 44 → y3.1 4 k = m3.1 4 k := fun k p q => by rw [c4.1 4 rfl, c5.1 4 rfl]; exact f2 k p q
  obtain ⟨s1, d1, d2⟩ := q_gstep c3 c6 f3 (v := 0) ⟨by decide, by decide⟩ 0
  obtain ⟨s2, g1, g2⟩ := q_gstep c3 c6 f3 (v := 0 + 1) ⟨by decide, by decide⟩ s1
  obtain ⟨s3, k1, k2⟩ := q_gstep c3 c6 f3 (v := 0 + 1 + 1) ⟨by decide, by decide⟩ s2
  have vx := (a4.trans b4).trans c4
  have vm := (a5.trans b5).trans c5
  have el : dz_M207_64 m3 = dz_M207_64 m := by unfold dz_M207_64; rw [vm.2]
  have i40 : q_in (dz_M207_64 m) 40 = true := q_in_rg ln (by decide) (by decide)
  have kl : (dz_M207_64 m).toNatClampNeg = (dz_M207_64 m).toInt.toNat := rfl
  have z0 : (0 : Int32).toInt = 0 := rfl
  have z40 : (40 : Int32).toInt = 40 := rfl
  have eM : dz_M234_64 m = some (q_sA m3 6 (upd (m3.1 6) (dz_M207_64 m).toNatClampNeg (s3 / 15))) := by
    have fin : ∀ n, dz_M234_64_22 (n + 1) m3 s3 (0 + 1 + 1 + 1) = some (q_sA m3 6 (upd (m3.1 6) (dz_M207_64 m).toNatClampNeg (s3 / 15))) := fun n => by
      rw [dzs_M234_64_22]
      generalize dz_M234_64_22 n = k
      show (q_let (dz_M207_64 m3) fun r583 => cond (q_in r583 40) (some (q_sA m3 6 (upd (m3.1 6) (r583.toNatClampNeg) (s3 / 15)))) none) = _
      rw [el]
      unfold q_let
      dsimp only
      rw [i40]; rfl
    have f2 : ∀ n, dz_M234_64_2 (n + 1) m3 (0 + 1 + 1 + 1) = dz_M234_64_22 5000 m3 0 0 := fun n => by
      rw [dzs_M234_64_2]
      generalize dz_M234_64_2 n = k
      generalize dz_M234_64_22 5000 = k2
      rfl
    unfold dz_M234_64
    rw [show (5000 : Nat) = 4996 + 1 + 1 + 1 + 1 from rfl, a2, b2, c2, f2, show (5000 : Nat) = 4996 + 1 + 1 + 1 + 1 from rfl, d2, g2, k2, fin]
  have eX : dz_N168_89_68 x (dz_M207_64 m) = some (q_sA y3 30 (upd (y3.1 30) (dz_M207_64 m).toNatClampNeg (s3 / 15))) := by
    have fin : ∀ n, dz_N168_89_68_92 (n + 1) y3 (dz_M207_64 m) s3 (0 + 1 + 1 + 1) = some (q_sA y3 30 (upd (y3.1 30) (dz_M207_64 m).toNatClampNeg (s3 / 15))) := fun n => by
      rw [dzs_N168_89_68_92]
      generalize dz_N168_89_68_92 n = k
      show (cond (q_in (dz_M207_64 m) 40) (some (q_sA y3 30 (upd (y3.1 30) ((dz_M207_64 m).toNatClampNeg) (s3 / 15)))) none) = _
      rw [i40]; rfl
    have f2 : ∀ n, dz_N168_89_68_20 (n + 1) y3 (dz_M207_64 m) (0 + 1 + 1 + 1) = dz_N168_89_68_92 5000 y3 (dz_M207_64 m) 0 0 := fun n => by
      rw [dzs_N168_89_68_20]
      generalize dz_N168_89_68_20 n = k
      generalize dz_N168_89_68_92 5000 = k2
      rfl
    unfold dz_N168_89_68
    rw [q_lt_F (show (0 : Int32).toInt ≤ (dz_M207_64 m).toInt by omega), q_lt_T (show (dz_M207_64 m).toInt < (40 : Int32).toInt by omega), cond_false, cond_true, show (5000 : Nat) = 4996 + 1 + 1 + 1 + 1 from rfl, a1, b1, c1, f2, show (5000 : Nat) = 4996 + 1 + 1 + 1 + 1 from rfl, d1, g1, k1, fin]
  obtain ⟨m9, q1, q2⟩ := dzj_M234_64 c d w m hI
  rw [eM] at q1
  cases q1
  have vx2 := vx.trans (q_VX_A 30 (upd (y3.1 30) (dz_M207_64 m).toNatClampNeg (s3 / 15)) rfl)
  have vm2 := vm.trans (q_VM_A 6 (upd (m3.1 6) (dz_M207_64 m).toNatClampNeg (s3 / 15)) rfl)
  obtain ⟨p1, p2, p3, p4, p5⟩ := c3
  refine ⟨_, _, eX, eM, q_R_V h vx2 vm2 (q_vv_to ⟨p1, p2, p3, p4, q_up2 p5 rfl⟩), q2, ⟨fun k _ => by rw [vx2.1 4 rfl], fun k => by rw [vx2.2], by rw [vx2.2]⟩, ⟨vm2.1 4 rfl, vm2.1 15 rfl, by rw [vm2.2]⟩⟩
end
end
section
section
variable {TT : (Nat → Int32) → Int32 → (Nat → Int32) → Int32 → Int64 → Int64 → List Int32 → List (Nat → Int32) → (Nat → Int64) → Prop} {x y z m : q_S} {c d w : Int}
theorem q_hasE (s : q_S) (a k : Int32) : dz_M206 s a k = decide ((a >>> (k &&& 31)) &&& 1 = 1) := by
  unfold dz_M206
  cases decide ((a >>> (k &&& 31)) &&& 1 = 1) <;> rfl
theorem q_118 (x : q_S) (n : Int32) : dz_N118_66 x 17 n = ((x.1 4 17) >>> (n &&& 31)) &&& 1 ∧ dz_N118_66 x 18 n = ((x.1 4 18) >>> (n &&& 31)) &&& 1 ∧ dz_N118_66 x 19 n = ((x.1 4 19) >>> (n &&& 31)) &&& 1 := ⟨rfl, rfl, rfl⟩
theorem q_reg255 (hI : q_Iv c d w m) (k : Nat) : q_rgz 0 255 (m.1 4 k) := q_rg_le (hI.1 4 k) (Int.le_refl _) (by show q_hg k ≤ 255; unfold q_hg; cases Nat.beq k 0 <;> cases Nat.beq k 44 <;> decide)
theorem q_up4 {g : Int32} (h : q_rgz 0 255 g) : g >>> ((2 &&& 31 : Int32)) = g / 4 ∧ g &&& 3 = g - g / 4 * 4 := by
  constructor
  · apply Int32.toInt_inj.mp
    rw [q_shrI 2 rfl (by decide), q_toInt_div h.1 (by decide)]; rfl
  · apply Int32.toInt_inj.mp
    rw [q_andI 2 (by decide) h (by decide) rfl, q_rem_eq h.1 (by decide)]; rfl
theorem q_row (h : q_R TT x m) (hI : q_Iv c d w m) : (dz_N86_65 x) / 24 - 4 = dz_M222_64 m := by
  show ((((x.2.2 1 8) - (x.2.2 1 8) / 960 * 960).toInt32) / 24) - 4 = dz_M207_64 m - 4
  rw [q_lineX h hI]
/-- a sprite among the rows -/
theorem q_among (h : q_R TT x m) (hI : q_Iv c d w m) (n r : Int32) (hn : q_rgz 0 3 n) : ∃ b, dz_N117_66 x n r = some b ∧ (cond (dz_M223_64 m n) ((dz_M224_64 m n r).bind fun r522 => cond r522 (some true) (some false)) (some false)) = some b := by
  have a := hn.1
  have b := hn.2
  have an : n &&& 3 = n := by
    apply Int32.toInt_inj.mp
    rw [q_andI 2 (by decide) hn (by decide) rfl]
    show n.toInt % 4 = n.toInt
    omega
  have i1 : q_in ((24 : Int32) + n) 48 = true := q_in_rg (q_rg_add (L := 24) (U := 27) (q_rg_lit (n := 24) (x := 24) rfl) hn (by decide) (by decide) (by decide) (by decide)) (by decide) (by decide)
  have e1 : ((24 : Int32) + n).toInt = 24 + n.toInt := q_addI ⟨by decide, by decide⟩ ⟨by omega, by omega⟩
  have kn : ((24 : Int32) + n).toNatClampNeg = ((24 : Int32) + n).toInt.toNat := rfl
  have g : x.1 4 ((24 : Int32) + n).toNatClampNeg = m.1 4 ((24 : Int32) + n).toNatClampNeg := h.r2.1.1 _ (by omega) (by
    have t : ∀ j, j < 28 → 24 ≤ j → q_pl j = true := by decide
    exact t _ (by omega) (by omega))
  have g17 : x.1 4 17 = m.1 4 17 := h.g 17
  have g18 : x.1 4 18 = m.1 4 18 := h.g 18
  obtain ⟨q17, q18, -⟩ := q_118 x n
  unfold dz_N117_66 dz_M223_64 dz_M224_64 q_let
  rw [an, i1]
  dsimp only
  rw [q17, q18, g, g17, g18, q_hasE m (m.1 4 17) n, q_hasE m (m.1 4 18) n]
  rcases q_01 ((m.1 4 18) >>> (n &&& 31)) with e | e
  · rw [e]
    have e8 : (8 : Int32) <<< ((0 : Int32) &&& 31) = 8 := by decide
    rw [e8]
    cases decide ((m.1 4 17) >>> (n &&& 31) &&& 1 = 1) with
    | false => exact ⟨false, rfl, rfl⟩
    | true =>
      cases decide (r < m.1 4 ((24 : Int32) + n).toNatClampNeg) with
      | true => exact ⟨false, rfl, rfl⟩
      | false => cases decide (r < m.1 4 ((24 : Int32) + n).toNatClampNeg + 8) <;> exact ⟨_, rfl, rfl⟩
  · rw [e]
    have e8 : (8 : Int32) <<< ((1 : Int32) &&& 31) = 16 := by decide
    rw [e8]
    cases decide ((m.1 4 17) >>> (n &&& 31) &&& 1 = 1) with
    | false => exact ⟨false, rfl, rfl⟩
    | true =>
      cases decide (r < m.1 4 ((24 : Int32) + n).toNatClampNeg) with
      | true => exact ⟨false, rfl, rfl⟩
      | false => cases decide (r < m.1 4 ((24 : Int32) + n).toNatClampNeg + 16) <;> exact ⟨_, rfl, rfl⟩
/-- whether the next cycle is of the picture -/
theorem q_pic (h : q_R TT x m) (hI : q_Iv c d w m) : ∃ b, dz_N102_65 x = some b ∧ dz_M225_64 m = some b := by
  have er := q_row h hI
  have ec := q_colX h
  have g1 : x.1 4 1 = m.1 4 1 := h.g 1
  have g2 : x.1 4 2 = m.1 4 2 := h.g 2
  have m1 : q_rgz 0 3 (m.1 4 1) := by rw [← g1]; exact h.r8.1.2
  have m10 := m1.1
  have m11 := m1.2
  have rr := dzj_M222_64 c d w m hI
  have rr0 : -4 ≤ (dz_M222_64 m).toInt := rr.1
  have rr1 : (dz_M222_64 m).toInt ≤ 35 := rr.2
  have cc := q_rg_cyc (n := 24) hI (by decide) (b := 24) rfl
  have cc0 := cc.1
  have cc1 := cc.2
  have z0 : (0 : Int32).toInt = 0 := rfl
  have z1 : (1 : Int32).toInt = 1 := rfl
  have z2 : (2 : Int32).toInt = 2 := rfl
  have z3 : (3 : Int32).toInt = 3 := rfl
  have z4 : (4 : Int32).toInt = 4 := rfl
  have z8 : (8 : Int32).toInt = 8 := rfl
  have z20 : (20 : Int32).toInt = 20 := rfl
  have z31 : (31 : Int32).toInt = 31 := rfl
  have z32 : (32 : Int32).toInt = 32 := rfl
  have u4 := (q_up4 (q_reg255 hI 2)).1
  unfold dz_N102_65 dz_M225_64 q_let
  dsimp only
  rw [er, ec]
  generalize dz_M222_64 m = r at *
  generalize ((m.2.2 0 15) - (m.2.2 0 15) / 24 * 24).toInt32 = cl at *
  suffices H : ∃ b, dz_N116_66 x r cl = some b ∧ (cond (dz_M202 m r 0 31) (cond (decide (m.1 4 1 = 0)) (cond (decide (cl < 8)) (cond (decide ((r + (((m.1 4) 2) / 4)) - (r + (((m.1 4) 2) / 4)) / 8 * 8 = 0)) (some true) (some false)) (dz_M225_64_64 m r cl)) (dz_M225_64_64 m r cl)) (some false)) = some b by
    obtain ⟨b, e1, e2⟩ := H
    refine ⟨b, ?_, e2⟩
    rw [e1]
    cases b <;> rfl
  unfold dz_N116_66
  by_cases k0 : r.toInt < 0
  · rw [q_lt_T (show r.toInt < (0 : Int32).toInt by omega), q_202F (Or.inl (by omega))]
    exact ⟨false, rfl, rfl⟩
  rw [q_lt_F (show (0 : Int32).toInt ≤ r.toInt by omega)]
  by_cases k32 : 32 ≤ r.toInt
  · rw [q_lt_F (show (32 : Int32).toInt ≤ r.toInt by omega), q_202F (Or.inr (by omega))]
    exact ⟨false, rfl, rfl⟩
  rw [q_lt_T (show r.toInt < (32 : Int32).toInt by omega), q_202T (by omega) (by omega)]
  by_cases k20 : 20 ≤ cl.toInt
  · -- the sprites' cycles
    have e20 : (cl - 20).toInt = cl.toInt - 20 := q_subI ⟨by omega, by omega⟩ ⟨by decide, by decide⟩
    obtain ⟨b, b1, b2⟩ := q_among h hI (cl - 20) r ⟨by omega, by omega⟩
    have eM : dz_M225_64_64 m r cl = some b := by
      unfold dz_M225_64_64 dz_M225_64_85 q_let
      rw [q_lt_F (show (4 : Int32).toInt ≤ cl.toInt by omega), q_lt_F (show (20 : Int32).toInt ≤ cl.toInt by omega)]
      dsimp only [cond_false]
      rw [b2]
      cases dz_M202 m (m.1 4 1) 1 2 <;> rfl
    have eN : dz_N116_66_24 x r cl = some b := by
      unfold dz_N116_66_24
      rw [q_lt_F (show (20 : Int32).toInt ≤ cl.toInt by omega)]
      dsimp only [cond_false]
      rw [b1]
      cases b <;> rfl
    rw [eM, eN, q_lt_F (show (8 : Int32).toInt ≤ cl.toInt by omega), q_lt_F (show (20 : Int32).toInt ≤ cl.toInt by omega)]
    refine ⟨b, rfl, ?_⟩
    cases decide (m.1 4 1 = 0) <;> rfl
  · have eM : dz_M225_64_64 m r cl = some (dz_M202 m (m.1 4 1) 1 2 && decide (cl < 4)) := by
      unfold dz_M225_64_64 dz_M225_64_85 q_let
      rw [q_lt_T (show cl.toInt < (20 : Int32).toInt by omega)]
      cases dz_M202 m (m.1 4 1) 1 2 <;> cases decide (cl < 4) <;> rfl
    rw [eM]
    by_cases k8 : 8 ≤ cl.toInt
    · rw [q_lt_F (show (8 : Int32).toInt ≤ cl.toInt by omega), q_lt_T (show cl.toInt < (20 : Int32).toInt by omega), q_lt_F (show (4 : Int32).toInt ≤ cl.toInt by omega), Bool.and_false]
      refine ⟨false, rfl, ?_⟩
      cases decide (m.1 4 1 = 0) <;> rfl
    · rw [q_lt_T (show cl.toInt < (8 : Int32).toInt by omega)]
      unfold dz_N116_66_24 dz_N115_66 q_let
      rw [q_lt_T (show cl.toInt < (20 : Int32).toInt by omega), g1, g2, u4]
      dsimp only
      by_cases w0 : (m.1 4 1).toInt = 0
      · rw [q_eq_T (show (m.1 4 1).toInt = (0 : Int32).toInt by omega)]
        cases decide ((r + (((m.1 4) 2) / 4)) - (r + (((m.1 4) 2) / 4)) / 8 * 8 = 0) <;> exact ⟨_, rfl, rfl⟩
      · rw [q_eq_F (show ¬ (m.1 4 1).toInt = (0 : Int32).toInt by omega)]
        by_cases w3 : (m.1 4 1).toInt = 3
        · rw [q_eq_T (show (m.1 4 1).toInt = (3 : Int32).toInt by omega), q_202F (Or.inr (by omega))]
          exact ⟨_, rfl, rfl⟩
        · rw [q_eq_F (show ¬ (m.1 4 1).toInt = (3 : Int32).toInt by omega), q_202T (by omega) (by omega)]
          cases decide (cl < 4) <;> exact ⟨_, rfl, rfl⟩
end
end
section
section
variable {TT : (Nat → Int32) → Int32 → (Nat → Int32) → Int32 → Int64 → Int64 → List Int32 → List (Nat → Int32) → (Nat → Int64) → Prop} {x y z m : q_S} {c d w : Int}
theorem q_andlit (a : Int32) : q_in (a &&& 4095) 4096 = true := q_in_rg (q_rg_and a 4095 (U := 4095) (by decide) rfl) (by decide) (by decide)
theorem q_ramA (h : q_R TT x m) (a : Int32) : x.1 3 (a &&& 4095).toNatClampNeg = m.1 1 (a &&& 4095).toNatClampNeg := by
  have e := q_rg_and a 4095 (U := 4095) (by decide) rfl
  have a0 := e.1
  have a1 := e.2
  have k : (a &&& 4095).toNatClampNeg = (a &&& 4095).toInt.toNat := rfl
  exact h.r1.1 _ (by omega)
/-- the value of a pixel -/
theorem q_val (h : q_R TT x m) (hI : q_Iv c d w m) (a r : Int32) : dz_M226_64 m a r = some (dz_N119_66 x a r) := by
  have g1 : x.1 4 1 = m.1 4 1 := h.g 1
  have g2 : x.1 4 2 = m.1 4 2 := h.g 2
  have g7 : x.1 4 7 = m.1 4 7 := h.g 7
  have g8 : x.1 4 8 = m.1 4 8 := h.g 8
  have m1 : q_rgz 0 3 (m.1 4 1) := by rw [← g1]; exact h.r8.1.2
  have m10 := m1.1
  have m11 := m1.2
  obtain ⟨u4, u3⟩ := q_up4 (q_reg255 hI 2)
  unfold dz_M226_64 dz_N119_66 dz_N114_66 dz_N115_66 dz_N120_66 dz_M213 q_let
  dsimp only
  rw [g1, g2, g7, g8, u4, u3]
  generalize (a + (m.1 4 2 - m.1 4 2 / 4 * 4)) - (a + (m.1 4 2 - m.1 4 2 / 4 * 4)) / 32 * 32 = U
  generalize (r + m.1 4 2 / 4) - (r + m.1 4 2 / 4) / 32 * 32 = V
  simp only [q_andlit, q_ramA h, cond_true]
  rcases (by omega : (m.1 4 1).toInt = 0 ∨ (m.1 4 1).toInt = 1 ∨ (m.1 4 1).toInt = 2 ∨ (m.1 4 1).toInt = 3) with e | e | e | e
  · rw [show m.1 4 1 = 0 from Int32.toInt_inj.mp e]; rfl
  · rw [show m.1 4 1 = 1 from Int32.toInt_inj.mp e]; rfl
  · rw [show m.1 4 1 = 2 from Int32.toInt_inj.mp e]; rfl
  · rw [show m.1 4 1 = 3 from Int32.toInt_inj.mp e]; rfl
theorem q_sh0 (a : Int32) : a >>> ((0 : Int32) &&& 31) = a := by
  rw [show ((0 : Int32) &&& 31) = 0 from by decide, Int32.shiftRight_zero]
/-- whether a sprite covers a pixel -/
theorem q_cov (h : q_R TT x m) (n a r : Int32) (hn : q_rgz 0 3 n) : ∃ b, dz_M227_64 m n a r = some b ∧ ∀ k v3, dz_N122_66_5 (k + 1) x a r v3 n = dz_N122_66_5 k x a r (cond b (v3 ||| ((1 : Int32) <<< (n &&& 31))) v3) (n + 1) := by
  have a0 := hn.1
  have a1 := hn.2
  have z4 : (4 : Int32).toInt = 4 := rfl
  have z0 : (0 : Int32).toInt = 0 := rfl
  have z7 : (7 : Int32).toInt = 7 := rfl
  have z8 : (8 : Int32).toInt = 8 := rfl
  have i1 : q_in ((20 : Int32) + n) 48 = true := q_in_rg (q_rg_add (L := 20) (U := 23) (q_rg_lit (n := 20) (x := 20) rfl) hn (by decide) (by decide) (by decide) (by decide)) (by decide) (by decide)
  have i2 : q_in ((24 : Int32) + n) 48 = true := q_in_rg (q_rg_add (L := 24) (U := 27) (q_rg_lit (n := 24) (x := 24) rfl) hn (by decide) (by decide) (by decide) (by decide)) (by decide) (by decide)
  have e1 : ((20 : Int32) + n).toInt = 20 + n.toInt := q_addI ⟨by decide, by decide⟩ ⟨by omega, by omega⟩
  have e2 : ((24 : Int32) + n).toInt = 24 + n.toInt := q_addI ⟨by decide, by decide⟩ ⟨by omega, by omega⟩
  have k1 : ((20 : Int32) + n).toNatClampNeg = ((20 : Int32) + n).toInt.toNat := rfl
  have k2 : ((24 : Int32) + n).toNatClampNeg = ((24 : Int32) + n).toInt.toNat := rfl
  have t : ∀ j, j < 28 → 20 ≤ j → q_pl j = true := by decide
  have gx : x.1 4 ((20 : Int32) + n).toNatClampNeg = m.1 4 ((20 : Int32) + n).toNatClampNeg := h.r2.1.1 _ (by omega) (t _ (by omega) (by omega))
  have gy : x.1 4 ((24 : Int32) + n).toNatClampNeg = m.1 4 ((24 : Int32) + n).toNatClampNeg := h.r2.1.1 _ (by omega) (t _ (by omega) (by omega))
  have g17 : x.1 4 17 = m.1 4 17 := h.g 17
  have g18 : x.1 4 18 = m.1 4 18 := h.g 18
  have g7 : x.1 4 7 = m.1 4 7 := h.g 7
  obtain ⟨q17, q18, -⟩ := q_118 x n
  -- where the sprite's corner is known
  have key : ∀ p q : Int32, ∃ b, dz_M227_64_62 m n p q = some b ∧ ∀ (k : q_S → Int32 → Int32 → Int32 → Int32 → Option Int32) (v3 : Int32), (cond (decide (p < 0)) (k x a r v3 (n + 1)) (cond (decide (p < 8)) (cond (decide (q < 0)) (k x a r v3 (n + 1)) (cond (decide (q < 8)) (q_let (dz_N120_66 x ((((256 * ((x.1 4) 7)) + 128) + (8 * n)) + q)) fun r83 => q_let (v3 ||| (((r83 >>> (((7 : Int32) - p) &&& 31)) &&& 1) <<< (n &&& 31))) fun x84 => k x a r x84 (n + 1)) (k x a r v3 (n + 1)))) (k x a r v3 (n + 1)))) = k x a r (cond b (v3 ||| ((1 : Int32) <<< (n &&& 31))) v3) (n + 1) := by
    intro p q
    unfold dz_M227_64_62 q_let
    dsimp only
    by_cases p0 : p.toInt < 0
    · rw [q_202F (Or.inl (by omega)), q_lt_T (show p.toInt < (0 : Int32).toInt by omega)]
      exact ⟨false, rfl, fun _ _ => rfl⟩
    by_cases p8 : 8 ≤ p.toInt
    · rw [q_202F (Or.inr (by omega)), q_lt_F (show (0 : Int32).toInt ≤ p.toInt by omega), q_lt_F (show (8 : Int32).toInt ≤ p.toInt by omega)]
      exact ⟨false, rfl, fun _ _ => rfl⟩
    rw [q_202T (v := p) (by omega) (by omega), q_lt_F (show (0 : Int32).toInt ≤ p.toInt by omega), q_lt_T (show p.toInt < (8 : Int32).toInt by omega)]
    by_cases q0 : q.toInt < 0
    · rw [q_202F (Or.inl (by omega)), q_lt_T (show q.toInt < (0 : Int32).toInt by omega)]
      exact ⟨false, rfl, fun _ _ => rfl⟩
    by_cases q8 : 8 ≤ q.toInt
    · rw [q_202F (Or.inr (by omega)), q_lt_F (show (0 : Int32).toInt ≤ q.toInt by omega), q_lt_F (show (8 : Int32).toInt ≤ q.toInt by omega)]
      exact ⟨false, rfl, fun _ _ => rfl⟩
    rw [q_202T (v := q) (by omega) (by omega), q_lt_F (show (0 : Int32).toInt ≤ q.toInt by omega), q_lt_T (show q.toInt < (8 : Int32).toInt by omega)]
    unfold dz_M213 dz_N120_66
    rw [q_andlit, g7, q_ramA h, q_hasE]
    generalize m.1 1 (((((256 * ((m.1 4) 7)) + 128) + (8 * n)) + q) &&& 4095).toNatClampNeg = bits
    rcases q_01 (bits >>> (((7 : Int32) - p) &&& 31)) with e | e
    · rw [e]
      refine ⟨false, rfl, fun k v3 => ?_⟩
      have s0 : (0 : Int32) <<< (n &&& 31) = 0 := Int32.zero_shiftLeft
      show k x a r (v3 ||| ((0 : Int32) <<< (n &&& 31))) (n + 1) = k x a r v3 (n + 1)
      rw [s0, Int32.or_zero]
    · rw [e]
      exact ⟨true, rfl, fun _ _ => rfl⟩
  have nS : ∀ (k : Nat) (v3 : Int32), dz_N122_66_5 (k + 1) x a r v3 n = (fun k5 : q_S → Int32 → Int32 → Int32 → Int32 → Option Int32 => (q_let ((a - (m.1 4 ((20 : Int32) + n).toNatClampNeg)) >>> ((((m.1 4 18) >>> (n &&& 31)) &&& 1) &&& 31)) fun x80 => (q_let ((r - (m.1 4 ((24 : Int32) + n).toNatClampNeg)) >>> ((((m.1 4 18) >>> (n &&& 31)) &&& 1) &&& 31)) fun x81 => cond (decide (((m.1 4 17) >>> (n &&& 31)) &&& 1 = 1)) (cond (decide (x80 < 0)) (k5 x a r v3 (n + 1)) (cond (decide (x80 < 8)) (cond (decide (x81 < 0)) (k5 x a r v3 (n + 1)) (cond (decide (x81 < 8)) (q_let (dz_N120_66 x ((((256 * ((x.1 4) 7)) + 128) + (8 * n)) + x81)) fun r83 => q_let (v3 ||| (((r83 >>> (((7 : Int32) - x80) &&& 31)) &&& 1) <<< (n &&& 31))) fun x84 => k5 x a r x84 (n + 1)) (k5 x a r v3 (n + 1)))) (k5 x a r v3 (n + 1)))) (k5 x a r v3 (n + 1))))) (dz_N122_66_5 k) := by
    intro k v3
    rw [dzs_N122_66_5]
    generalize dz_N122_66_5 k = K
    dsimp only
    rw [q_lt_T (show n.toInt < (4 : Int32).toInt by omega), i1, i2, q18, q17, gx, gy, g17, g18]
    simp only [cond_true, q_let]
  unfold dz_M227_64 dz_M223_64 q_let
  rw [q_hasE, q_hasE]
  dsimp only
  rw [i1, i2]
  cases hon : decide (((m.1 4 17) >>> (n &&& 31)) &&& 1 = 1) with
  | false =>
    refine ⟨false, rfl, fun k v3 => ?_⟩
    rw [nS]
    unfold q_let
    dsimp only
    rw [hon]
    rfl
  | true =>
    rcases q_01 ((m.1 4 18) >>> (n &&& 31)) with e | e
    · obtain ⟨b, b1, b2⟩ := key (a - (m.1 4 ((20 : Int32) + n).toNatClampNeg)) (r - (m.1 4 ((24 : Int32) + n).toNatClampNeg))
      rw [e]
      refine ⟨b, b1, fun k v3 => ?_⟩
      rw [nS, hon, e]
      unfold q_let
      dsimp only
      rw [q_sh0, q_sh0]
      exact b2 _ _
    · obtain ⟨b, b1, b2⟩ := key ((a - (m.1 4 ((20 : Int32) + n).toNatClampNeg)) >>> ((1 : Int32) &&& 31)) ((r - (m.1 4 ((24 : Int32) + n).toNatClampNeg)) >>> ((1 : Int32) &&& 31))
      rw [e]
      refine ⟨b, b1, fun k v3 => ?_⟩
      rw [nS, hon, e]
      exact b2 _ _
end
end
section
section
variable {TT : (Nat → Int32) → Int32 → (Nat → Int32) → Int32 → Int64 → Int64 → List Int32 → List (Nat → Int32) → (Nat → Int64) → Prop} {x y z m : q_S} {c d w : Int}
def q_bs (c : Bool) (n v : Int32) : Int32 := cond c (v ||| ((1 : Int32) <<< (n &&& 31))) v
/-- the bits of the sprites, from the first on, from the last on; the first one -/
def q_B (c0 c1 c2 c3 : Bool) : Int32 := q_bs c3 3 (q_bs c2 2 (q_bs c1 1 (q_bs c0 0 0)))
def q_Bm (c0 c1 c2 c3 : Bool) : Int32 := q_bs c0 0 (q_bs c1 1 (q_bs c2 2 (q_bs c3 3 0)))
def q_Fi (c0 c1 c2 c3 : Bool) : Int32 := cond c0 0 (cond c1 1 (cond c2 2 (cond c3 3 (-1))))
def q_s0 : q_S := (fun _ _ => 0, fun _ _ => 0, fun _ _ => 0)
theorem q_Btab : ∀ c0 c1 c2 c3, q_Bm c0 c1 c2 c3 = q_B c0 c1 c2 c3 ∧ decide ((q_B c0 c1 c2 c3 >>> ((0 : Int32) &&& 31)) &&& 1 = 1) = c0 ∧ decide ((q_B c0 c1 c2 c3 >>> ((1 : Int32) &&& 31)) &&& 1 = 1) = c1 ∧ decide ((q_B c0 c1 c2 c3 >>> ((2 : Int32) &&& 31)) &&& 1 = 1) = c2 ∧ decide ((q_B c0 c1 c2 c3 >>> ((3 : Int32) &&& 31)) &&& 1 = 1) = c3 ∧ decide (1 < dz_N323 q_s0 (q_B c0 c1 c2 c3)) = !decide ((q_B c0 c1 c2 c3) &&& (q_B c0 c1 c2 c3 - 1) = 0) := by decide
theorem q_R_px (h : q_R TT x m) (k : Nat) (v : Int32) : q_R TT (q_sA x 31 (upd (x.1 31) k v)) (q_sA m 5 (upd (m.1 5) k v)) := by
  obtain ⟨h1, h2, h3, h4, h5, h6, h7, ⟨h8, h9⟩, h10⟩ := h
  exact ⟨h1, h2, h3, h4, h5, h6, h7, ⟨q_up2 h8 rfl, h9⟩, h10⟩
theorem q_solid (m : q_S) (v : Int32) : dz_N121_66 x v = cond (decide (x.1 4 1 = 2)) (decide (1 < v)) (decide (v = 1)) := by
  unfold dz_N121_66
  have z1 : (1 : Int32).toInt = 1 := rfl
  have z2 : (2 : Int32).toInt = 2 := rfl
  cases decide (x.1 4 1 = 2) with
  | false => cases decide (v = 1) <;> rfl
  | true =>
    by_cases k : v.toInt < 2
    · rw [q_lt_T (show v.toInt < (2 : Int32).toInt by omega), q_lt_F (show v.toInt ≤ (1 : Int32).toInt by omega)]; rfl
    · rw [q_lt_F (show (2 : Int32).toInt ≤ v.toInt by omega), q_lt_T (show (1 : Int32).toInt < v.toInt by omega)]; rfl
/-- the colour of a sprite's pixel, or what lies before it -/
def q_P (z : q_S) (v n : Int32) : Int32 := cond (decide (((z.1 4 19) >>> (n &&& 31)) &&& 1 = 1) && dz_N121_66 z v) (z.1 4 ((3 : Int32) + v).toNatClampNeg) ((((z.1 4) 28) + n) - (((z.1 4) 28) + n) / 16 * 16)
theorem q_v3 {v : Int32} (hv : q_rgz 0 3 v) : v &&& 3 = v ∧ q_in ((3 : Int32) + v) 48 = true := by
  have a := hv.1
  have b := hv.2
  constructor
  · apply Int32.toInt_inj.mp
    rw [q_andI 2 (by decide) hv (by decide) rfl]
    show v.toInt % 4 = v.toInt
    omega
  · exact q_in_rg (q_rg_add (L := 3) (U := 6) (q_rg_lit (n := 3) (x := 3) rfl) hv (by decide) (by decide) (by decide) (by decide)) (by decide) (by decide)
theorem q_123s (z : q_S) {v : Int32} (hv : q_rgz 0 3 v) (spr n : Int32) (hn : q_rgz 0 3 n) (k : Nat) : dz_N123_66_2 (k + 1) z v spr n = cond (decide ((spr >>> (n &&& 31)) &&& 1 = 1)) (some (q_P z v n)) (dz_N123_66_2 k z v spr (n + 1)) := by
  obtain ⟨v1, v2⟩ := q_v3 hv
  have z4 : (4 : Int32).toInt = 4 := rfl
  have n1 := hn.2
  rw [dzs_N123_66_2]
  dsimp only
  rw [q_lt_T (show n.toInt < (4 : Int32).toInt by omega), v1, v2, (q_118 z n).2.2]
  unfold q_let dz_N123_66_39 q_P
  dsimp only
  cases decide ((spr >>> (n &&& 31)) &&& 1 = 1) with
  | false => rfl
  | true => cases decide (((z.1 4 19) >>> (n &&& 31)) &&& 1 = 1) <;> cases dz_N121_66 z v <;> rfl
theorem q_123e (z : q_S) {v : Int32} (hv : q_rgz 0 3 v) (spr : Int32) (k : Nat) : dz_N123_66_2 (k + 1) z v spr 4 = some (z.1 4 ((3 : Int32) + v).toNatClampNeg) := by
  obtain ⟨v1, v2⟩ := q_v3 hv
  rw [dzs_N123_66_2]
  dsimp only
  rw [show decide ((4 : Int32) < 4) = false from rfl, v1, v2]
  rfl
theorem q_123 (z : q_S) {v : Int32} (hv : q_rgz 0 3 v) (c0 c1 c2 c3 : Bool) : dz_N123_66 z v (q_B c0 c1 c2 c3) = some (cond c0 (q_P z v 0) (cond c1 (q_P z v 1) (cond c2 (q_P z v 2) (cond c3 (q_P z v 3) (z.1 4 ((3 : Int32) + v).toNatClampNeg))))) := by
  obtain ⟨-, t0, t1, t2, t3, -⟩ := q_Btab c0 c1 c2 c3
  unfold dz_N123_66
  rw [show (5000 : Nat) = 4995 + 1 + 1 + 1 + 1 + 1 from rfl, q_123s z hv _ 0 ⟨by decide, by decide⟩, show (0 : Int32) + 1 = 1 from rfl, q_123s z hv _ 1 ⟨by decide, by decide⟩, show (1 : Int32) + 1 = 2 from rfl, q_123s z hv _ 2 ⟨by decide, by decide⟩, show (2 : Int32) + 1 = 3 from rfl, q_123s z hv _ 3 ⟨by decide, by decide⟩, show (3 : Int32) + 1 = 4 from rfl, q_123e z hv, t0, t1, t2, t3]
  cases c0 <;> cases c1 <;> cases c2 <;> cases c3 <;> rfl
theorem q_122 (h : q_R TT x m) (a r : Int32) : ∃ c0 c1 c2 c3, dz_N122_66 x a r = some (q_B c0 c1 c2 c3) ∧ dz_M227_64 m 0 a r = some c0 ∧ dz_M227_64 m 1 a r = some c1 ∧ dz_M227_64 m 2 a r = some c2 ∧ dz_M227_64 m 3 a r = some c3 := by
  obtain ⟨c0, e0, f0⟩ := q_cov h 0 a r ⟨by decide, by decide⟩
  obtain ⟨c1, e1, f1⟩ := q_cov h 1 a r ⟨by decide, by decide⟩
  obtain ⟨c2, e2, f2⟩ := q_cov h 2 a r ⟨by decide, by decide⟩
  obtain ⟨c3, e3, f3⟩ := q_cov h 3 a r ⟨by decide, by decide⟩
  refine ⟨c0, c1, c2, c3, ?_, e0, e1, e2, e3⟩
  have fin : ∀ k v, dz_N122_66_5 (k + 1) x a r v 4 = some v := fun k v => by
    rw [dzs_N122_66_5]
    generalize dz_N122_66_5 k = K
    rfl
  unfold dz_N122_66
  rw [show (5000 : Nat) = 4995 + 1 + 1 + 1 + 1 + 1 from rfl, f0, show (0 : Int32) + 1 = 1 from rfl, f1, show (1 : Int32) + 1 = 2 from rfl, f2, show (2 : Int32) + 1 = 3 from rfl, f3, show (3 : Int32) + 1 = 4 from rfl, fin]
  rfl
/-- the model's end of a pixel -/
def q_Fm (m : q_S) (a r v s b f : Int32) : Option q_S := cond (decide (f < 0)) (dz_M228_64_118 m a r v s b f) (cond (decide (s = 0)) (dz_M228_64_114 m a r v s b f) (cond (dz_M206 m ((m.1 4) 19) f) (dz_M228_64_118 m a r v s b f) (dz_M228_64_114 m a r v s b f)))
theorem q_228s (m : q_S) (a r v s b f n : Int32) (c : Bool) (hn : decide (n < 0) = false) (hc : dz_M227_64 m n a r = some c) (k : Nat) : dz_M228_64_51 (k + 1) m a r v s b f n = dz_M228_64_51 k m a r v s (q_bs c n b) (cond c n f) (n + (-1)) := by
  rw [dzs_M228_64_51]
  dsimp only
  rw [hn, hc]
  cases c <;> rfl
theorem q_228 (m : q_S) (a r v s : Int32) (c0 c1 c2 c3 : Bool) (e0 : dz_M227_64 m 0 a r = some c0) (e1 : dz_M227_64 m 1 a r = some c1) (e2 : dz_M227_64 m 2 a r = some c2) (e3 : dz_M227_64 m 3 a r = some c3) : dz_M228_64_51 5000 m a r v s 0 (-1) 3 = q_Fm m a r v s (q_B c0 c1 c2 c3) (q_Fi c0 c1 c2 c3) := by
  have fin : ∀ k b f, dz_M228_64_51 (k + 1) m a r v s b f (-1) = q_Fm m a r v s b f := fun k b f => by
    rw [dzs_M228_64_51]
    generalize dz_M228_64_51 k = K
    rfl
  rw [show (5000 : Nat) = 4995 + 1 + 1 + 1 + 1 + 1 from rfl, q_228s m a r v s _ _ 3 c3 rfl e3, show (3 : Int32) + (-1) = 2 from rfl, q_228s m a r v s _ _ 2 c2 rfl e2, show (2 : Int32) + (-1) = 1 from rfl, q_228s m a r v s _ _ 1 c1 rfl e1, show (1 : Int32) + (-1) = 0 from rfl, q_228s m a r v s _ _ 0 c0 rfl e0, show (0 : Int32) + (-1) = -1 from rfl, fin, ← (q_Btab c0 c1 c2 c3).1]
  cases c0 <;> cases c1 <;> cases c2 <;> cases c3 <;> rfl
end
end
section
section
variable {TT : (Nat → Int32) → Int32 → (Nat → Int32) → Int32 → Int64 → Int64 → List Int32 → List (Nat → Int32) → (Nat → Int64) → Prop} {x y z m : q_S} {c d w : Int}
def q_mk5 (m : q_S) (K : Nat) (px b : Int32) (hit sb : Bool) : q_S :=
  cond hit (cond sb (q_sA (q_sA (q_sA m 5 (upd (m.1 5) K px)) 14 (upd (m.1 14) 10 (((m.1 14) 10) ||| b))) 14 (upd (upd (m.1 14) 10 (((m.1 14) 10) ||| b)) 11 (((m.1 14) 11) ||| b))) (q_sA (q_sA m 5 (upd (m.1 5) K px)) 14 (upd (m.1 14) 10 (((m.1 14) 10) ||| b)))) (cond sb (q_sA (q_sA m 5 (upd (m.1 5) K px)) 14 (upd (m.1 14) 11 (((m.1 14) 11) ||| b))) (q_sA m 5 (upd (m.1 5) K px)))
theorem q_118c (m : q_S) (a r v b f : Int32) (sb : Bool) (i1 : q_in ((3 : Int32) + v) 48 = true) (i2 : q_in ((32 * r) + a) 1024 = true) : dz_M228_64_118 m a r v (q_b sb) b f = some (q_mk5 m ((32 * r) + a).toNatClampNeg ((m.1 4) (((3 : Int32) + v).toNatClampNeg)) b (!decide (b &&& (b - 1) = 0)) sb) := by
  unfold dz_M228_64_118
  rw [i1, i2]
  cases decide (b &&& (b - 1) = 0) <;> cases sb <;> rfl
theorem q_114c (m : q_S) (a r v b f : Int32) (sb : Bool) (i2 : q_in ((32 * r) + a) 1024 = true) : dz_M228_64_114 m a r v (q_b sb) b f = some (q_mk5 m ((32 * r) + a).toNatClampNeg ((((m.1 4) 28) + f) - (((m.1 4) 28) + f) / 16 * 16) b (!decide (b &&& (b - 1) = 0)) sb) := by
  unfold dz_M228_64_114
  rw [i2]
  cases decide (b &&& (b - 1) = 0) <;> cases sb <;> rfl
theorem q_R_mk (h : q_R TT x m) (K : Nat) (px b : Int32) (hit sb : Bool) : q_R TT (q_sA (cond sb (q_sA (cond hit (q_sA x 4 (upd (x.1 4) 29 (((x.1 4) 29) ||| b))) x) 4 (upd ((cond hit (q_sA x 4 (upd (x.1 4) 29 (((x.1 4) 29) ||| b))) x).1 4) 30 ((((cond hit (q_sA x 4 (upd (x.1 4) 29 (((x.1 4) 29) ||| b))) x).1 4) 30) ||| b))) (cond hit (q_sA x 4 (upd (x.1 4) 29 (((x.1 4) 29) ||| b))) x)) 31 (upd (x.1 31) K px)) (q_mk5 m K px b hit sb) := by
  have g29 : x.1 4 29 = m.1 14 10 := h.r2.2.2.1
  have g30 : x.1 4 30 = m.1 14 11 := h.r2.2.2.2
  have p := q_R_px h K px
  unfold q_mk5
  cases hit with
  | false =>
    cases sb with
    | false => exact p
    | true =>
      have q := q_R_h2 p (((m.1 14) 11) ||| b)
      show q_R TT (q_sA (q_sA x 4 (upd (x.1 4) 30 ((x.1 4 30) ||| b))) 31 (upd (x.1 31) K px)) _
      rw [g30]
      exact q
  | true =>
    have q1 := q_R_h1 p (((m.1 14) 10) ||| b)
    cases sb with
    | false =>
      show q_R TT (q_sA (q_sA x 4 (upd (x.1 4) 29 ((x.1 4 29) ||| b))) 31 (upd (x.1 31) K px)) _
      rw [g29]
      exact q1
    | true =>
      have q2 := q_R_h2 q1 (((m.1 14) 11) ||| b)
      show q_R TT (q_sA (q_sA (q_sA x 4 (upd (x.1 4) 29 ((x.1 4 29) ||| b))) 4 (upd (upd (x.1 4) 29 ((x.1 4 29) ||| b)) 30 ((x.1 4 30) ||| b))) 31 (upd (x.1 31) K px)) _
      rw [g29, g30]
      exact q2
theorem q_124 (x : q_S) (v b : Int32) (hit : Bool) (hh : decide (1 < dz_N323 q_s0 b) = hit) : dz_N124_66 x v b = cond (dz_N121_66 x v) (q_sA (cond hit (q_sA x 4 (upd (x.1 4) 29 (((x.1 4) 29) ||| b))) x) 4 (upd ((cond hit (q_sA x 4 (upd (x.1 4) 29 (((x.1 4) 29) ||| b))) x).1 4) 30 ((((cond hit (q_sA x 4 (upd (x.1 4) 29 (((x.1 4) 29) ||| b))) x).1 4) 30) ||| b))) (cond hit (q_sA x 4 (upd (x.1 4) 29 (((x.1 4) 29) ||| b))) x) := by
  unfold dz_N124_66 dz_N124_66_19 q_let
  dsimp only
  rw [show dz_N323 x b = dz_N323 q_s0 b from rfl, hh]
  cases hit with
  | true =>
    show cond (dz_N121_66 x v) _ _ = _
    cases dz_N121_66 x v <;> rfl
  | false => cases dz_N121_66 x v <;> rfl
end
end
end
section
-- 53.c
section
section
theorem q_L7 (A B : Option q_S) (D : Int32 → Option q_S) (a b c : Bool) (h1 : D 1 = A) (h0 : D 0 = B) : cond a (cond b A B) (cond c A B) = D (q_b (cond a b c)) := by
  subst h1
  subst h0
  cases a <;> cases b <;> cases c <;> rfl
theorem q_eM (L : Nat → q_S → Int32 → Int32 → Int32 → Int32 → Int32 → Int32 → Int32 → Option q_S) (hL : L = dz_M228_64_51) (m : q_S) (X r val : Int32) (sb : Bool) (ev : dz_M226_64 m X r = some val) (hs2 : cond (decide (m.1 4 1 = 2)) (decide (1 < val)) (decide (val = 1)) = sb) : dz_M228_64 m X r = L 5000 m X r val (q_b sb) 0 (-1) 3 := by
  unfold dz_M228_64
  rw [ev, Option.bind_some, ← hs2, ← hL]
  exact q_L7 _ _ (fun s => L 5000 m X r val s 0 (-1) 3) _ _ _ rfl rfl
theorem q_nst (x : q_S) (X r val B px : Int32) (k : Nat) (v4 : Int32) (h4 : decide (v4 + 1 < X) = false) (ev2 : dz_N119_66 x X r = val) (n1 : dz_N122_66 x X r = some B) (n123 : dz_N123_66 (dz_N124_66 x val B) val B = some px) (pm : ((32 * r) + X) &&& 1023 = (32 * r) + X) : dz_N103_65_95_47 (k + 1) x r v4 X = dz_N103_65_95_47 k (q_sA (dz_N124_66 x val B) 31 (upd ((dz_N124_66 x val B).1 31) (((32 * r) + X).toNatClampNeg) px)) r v4 (X + 1) := by
  rw [dzs_N103_65_95_47]
  generalize dz_N103_65_95_47 k = K
  dsimp only
  rw [h4, cond_false]
  unfold q_let
  dsimp only
  rw [ev2, n1, Option.bind_some, n123, Option.bind_some, pm]
end
section
variable {TT : (Nat → Int32) → Int32 → (Nat → Int32) → Int32 → Int64 → Int64 → List Int32 → List (Nat → Int32) → (Nat → Int64) → Prop} {x y z m : q_S} {c d w : Int}
/-- a pixel -/
theorem q_dr1 (h : q_R TT x m) (hI : q_Iv c d w m) {X r : Int32} (hX : q_rgz 0 31 X) (hr : q_rgz 0 31 r) : ∃ y m2, (∀ k v4, decide (v4 + 1 < X) = false → dz_N103_65_95_47 (k + 1) x r v4 X = dz_N103_65_95_47 k y r v4 (X + 1)) ∧ dz_M228_64 m X r = some m2 ∧ q_R TT y m2 ∧ q_Iv c d w m2 ∧ q_XCz x y ∧ q_MC m m2 := by
  obtain ⟨m3, e3, i3⟩ := dzj_M228_64 c d w m hI X r hX hr
  suffices H : ∃ y m2, (∀ k v4, decide (v4 + 1 < X) = false → dz_N103_65_95_47 (k + 1) x r v4 X = dz_N103_65_95_47 k y r v4 (X + 1)) ∧ dz_M228_64 m X r = some m2 ∧ q_R TT y m2 ∧ q_XCz x y ∧ q_MC m m2 by
    obtain ⟨y, m2, g0, g2, g3, g4, g5⟩ := H
    rw [e3] at g2
    cases g2
    exact ⟨y, m3, g0, e3, g3, i3, g4, g5⟩
  have g1 : x.1 4 1 = m.1 4 1 := h.g 1
  have g19 : x.1 4 19 = m.1 4 19 := h.g 19
  have g28 : x.1 4 28 = m.1 4 28 := h.g 28
  obtain ⟨val, ev, rv⟩ := dzj_M226_64 c d w m hI X r hX hr
  have ev2 : dz_N119_66 x X r = val := by
    have t := q_val h hI X r
    rw [ev] at t
    exact (Option.some.inj t).symm
  obtain ⟨c0, c1, c2, c3, n1, m0, m1, m2, m3'⟩ := q_122 h X r
  obtain ⟨v1, v2⟩ := q_v3 rv
  have rv0 := rv.1
  have rv1 := rv.2
  have kv : ((3 : Int32) + val).toNatClampNeg = ((3 : Int32) + val).toInt.toNat := rfl
  have z3 : (3 : Int32).toInt = 3 := rfl
  have ek : ((3 : Int32) + val).toInt = 3 + val.toInt := by rw [q_addI ⟨by decide, by decide⟩ ⟨by omega, by omega⟩]; omega
  have gb : x.1 4 ((3 : Int32) + val).toNatClampNeg = m.1 4 ((3 : Int32) + val).toNatClampNeg := h.r2.1.1 _ (by omega) (by
    have t : ∀ j, j < 7 → q_pl j = true := by decide
    exact t _ (by omega))
  -- the place of the pixel
  have hX0 := hX.1
  have hX1 := hX.2
  have hr0 := hr.1
  have hr1 := hr.2
  have f1 : (32 * r).toInt = 32 * r.toInt := q_mulI (n := 32) rfl (by decide) (by decide) ⟨by omega, by omega⟩
  have f2 : ((32 * r) + X).toInt = 32 * r.toInt + X.toInt := by rw [q_addI ⟨by omega, by omega⟩ ⟨by omega, by omega⟩, f1]
  have i2 : q_in ((32 * r) + X) 1024 = true := q_in_rg (l := 0) (u := 1023) ⟨by omega, by omega⟩ (by decide) (by decide)
  have pm : ((32 * r) + X) &&& 1023 = (32 * r) + X := by
    apply Int32.toInt_inj.mp
    rw [q_andI 10 (by decide) (l := 0) (u := 1023) ⟨by omega, by omega⟩ (by decide) rfl]
    show ((32 * r) + X).toInt % 1024 = _
    omega
  generalize hsb : dz_N121_66 x val = sb
  have hs2 : cond (decide (m.1 4 1 = 2)) (decide (1 < val)) (decide (val = 1)) = sb := by rw [← hsb, q_solid m val, g1]
  have eM : dz_M228_64 m X r = dz_M228_64_51 5000 m X r val (q_b sb) 0 (-1) 3 := q_eM _ rfl m X r val sb ev hs2
  obtain ⟨-, -, -, -, -, tb⟩ := q_Btab c0 c1 c2 c3
  -- the colour
  generalize hB : q_B c0 c1 c2 c3 = B at *
  have hP : ∀ n : Int32, q_P x val n = cond (dz_M206 m (m.1 4 19) n && sb) (m.1 4 ((3 : Int32) + val).toNatClampNeg) ((((m.1 4) 28) + n) - (((m.1 4) 28) + n) / 16 * 16) := fun n => by
    unfold q_P
    rw [g19, g28, gb, hsb, q_hasE]
  have col : dz_M228_64 m X r = some (q_mk5 m ((32 * r) + X).toNatClampNeg (cond c0 (q_P x val 0) (cond c1 (q_P x val 1) (cond c2 (q_P x val 2) (cond c3 (q_P x val 3) (x.1 4 ((3 : Int32) + val).toNatClampNeg))))) B (!decide (B &&& (B - 1) = 0)) sb) := by
    rw [eM, q_228 m X r val (q_b sb) c0 c1 c2 c3 m0 m1 m2 m3', hB, gb]
    have one : ∀ n : Int32, decide (n < 0) = false → q_Fm m X r val (q_b sb) B n = some (q_mk5 m ((32 * r) + X).toNatClampNeg (q_P x val n) B (!decide (B &&& (B - 1) = 0)) sb) := fun n hn => by
      unfold q_Fm
      rw [hn, q_118c m X r val B n sb v2 i2, q_114c m X r val B n sb i2, hP]
      cases sb with
      | false => rw [Bool.and_false]; rfl
      | true => rw [Bool.and_true]; cases dz_M206 m (m.1 4 19) n <;> rfl
    have none_ : q_Fm m X r val (q_b sb) B (-1) = some (q_mk5 m ((32 * r) + X).toNatClampNeg (m.1 4 ((3 : Int32) + val).toNatClampNeg) B (!decide (B &&& (B - 1) = 0)) sb) := by
      unfold q_Fm
      rw [show decide ((-1 : Int32) < 0) = true from rfl, q_118c m X r val B (-1) sb v2 i2]
      rfl
    cases c0 with
    | true => exact one 0 rfl
    | false =>
      cases c1 with
      | true => exact one 1 rfl
      | false =>
        cases c2 with
        | true => exact one 2 rfl
        | false =>
          cases c3 with
          | true => exact one 3 rfl
          | false => exact none_
  -- the class' colour, read behind the hits
  have n123 := q_123 (dz_N124_66 x val B) rv c0 c1 c2 c3
  rw [hB] at n123
  have q4 := q_124 x val B _ tb
  rw [hsb] at q4
  have same : ∀ k, (Nat.beq k 29 || Nat.beq k 30) = false → (dz_N124_66 x val B).1 4 k = x.1 4 k := fun k hk => by
    have h29 : ¬ k = 29 := fun e => by subst e; cases hk
    have h30 : ¬ k = 30 := fun e => by subst e; cases hk
    rw [q4]
    cases sb <;> cases (!decide (B &&& (B - 1) = 0))
    · rfl
    · exact q_upN _ _ h29
    · exact q_upN _ _ h30
    · exact (q_upN _ _ h30).trans (q_upN _ _ h29)
  have s121 : dz_N121_66 (dz_N124_66 x val B) val = sb := by
    rw [q_solid m val, same 1 rfl, ← q_solid m val, hsb]
  have sP : ∀ n : Int32, q_P (dz_N124_66 x val B) val n = q_P x val n := fun n => by
    unfold q_P
    rw [same 19 rfl, same 28 rfl, s121, hsb, same _ (by
      have t : ∀ j, j < 7 → (Nat.beq j 29 || Nat.beq j 30) = false := by decide
      exact t _ (by omega))]
  rw [sP, sP, sP, sP, same _ (by
      have t : ∀ j, j < 7 → (Nat.beq j 29 || Nat.beq j 30) = false := by decide
      exact t _ (by omega))] at n123
  generalize (cond c0 (q_P x val 0) (cond c1 (q_P x val 1) (cond c2 (q_P x val 2) (cond c3 (q_P x val 3) (x.1 4 ((3 : Int32) + val).toNatClampNeg))))) = px at *
  have R9 := q_R_mk h ((32 * r) + X).toNatClampNeg px B (!decide (B &&& (B - 1) = 0)) sb
  rw [← q4] at R9
  have r31 : (dz_N124_66 x val B).1 31 = x.1 31 := by
    rw [q4]
    cases sb <;> cases (!decide (B &&& (B - 1) = 0)) <;> rfl
  have rest : (dz_N124_66 x val B).2 = x.2 := by
    rw [q4]
    cases sb <;> cases (!decide (B &&& (B - 1) = 0)) <;> rfl
  refine ⟨q_sA (dz_N124_66 x val B) 31 (upd (x.1 31) ((32 * r) + X).toNatClampNeg px), _, fun k v4 h4 => ?_, col, R9, ⟨fun k hk => ?_, fun k => ?_, ?_⟩, ?_⟩
  · rw [q_nst x X r val B px k v4 h4 ev2 n1 n123 pm, r31]
  · show (dz_N124_66 x val B).1 4 k = x.1 4 k
    exact same k (q_or2 hk).2
  · show (dz_N124_66 x val B).2.1 23 k = _
    rw [rest]
  · show (dz_N124_66 x val B).2.2 = _
    rw [rest]
  · unfold q_mk5
    cases sb <;> cases (!decide (B &&& (B - 1) = 0)) <;> exact ⟨rfl, rfl, rfl⟩
end
end
section
section
variable {TT : (Nat → Int32) → Int32 → (Nat → Int32) → Int32 → Int64 → Int64 → List Int32 → List (Nat → Int32) → (Nat → Int64) → Prop} {x y z m : q_S} {c d w : Int}
theorem q_NF.xc (h : q_NF x y) : q_XCz x y := ⟨fun k _ => by rw [h.1 4 rfl], fun k => by rw [h.2.1 23 rfl], h.2.2⟩
theorem q_tick (s : q_S) (b : Bool) : ∃ y, (cond b (some (q_sI s 13 3 ((s.2.1 13 3) + 1))) (some (q_sI s 18 3 ((s.2.1 18 3) + 1)))) = some y ∧ q_NF s y := by
  cases b with
  | true => exact ⟨_, rfl, q_NF_I 13 3 _ rfl⟩
  | false => exact ⟨_, rfl, q_NF_I 18 3 _ rfl⟩
/-- two pixels of a cycle -/
theorem q_drw {T : Type} (h : q_R TT x m) (hI : q_Iv c d w m) (K : q_S → Option T) : ∃ y m2, dz_N103_65_95 x = some y ∧ (q_let (dz_M222_64 m) fun r588 => q_let (dz_M202 m r588 0 31) fun r589 => cond r589 (q_let (dz_M202 m (((m.2.2 0 15) - (m.2.2 0 15) / 24 * 24).toInt32) 4 19) fun r590 => cond r590 ((dz_M228_64 m ((2 * (((m.2.2 0 15) - (m.2.2 0 15) / 24 * 24).toInt32)) - 8) r588).bind fun r591 => (dz_M228_64 r591 ((2 * (((m.2.2 0 15) - (m.2.2 0 15) / 24 * 24).toInt32)) - 7) r588).bind fun r592 => K r592) (K m)) (K m)) = K m2 ∧ q_R TT y m2 ∧ q_Iv c d w m2 ∧ q_XCz x y ∧ q_MC m m2 := by
  have er := q_row h hI
  have ec := q_colX h
  have rr := dzj_M222_64 c d w m hI
  have rr0 : -4 ≤ (dz_M222_64 m).toInt := rr.1
  have rr1 : (dz_M222_64 m).toInt ≤ 35 := rr.2
  have cc := q_rg_cyc (n := 24) hI (by decide) (b := 24) rfl
  have cc0 := cc.1
  have cc1 := cc.2
  have z0 : (0 : Int32).toInt = 0 := rfl
  have z1 : (1 : Int32).toInt = 1 := rfl
  have z2 : (2 : Int32).toInt = 2 := rfl
  have z4 : (4 : Int32).toInt = 4 := rfl
  have z7 : (7 : Int32).toInt = 7 := rfl
  have z8 : (8 : Int32).toInt = 8 := rfl
  have z19 : (19 : Int32).toInt = 19 := rfl
  have z31 : (31 : Int32).toInt = 31 := rfl
  have z32 : (32 : Int32).toInt = 32 := rfl
  obtain ⟨y0, t1, t2⟩ := q_tick x (decide (lg_cmp (((x.2.2 1 8) / 960) - ((x.2.2 1 8) / 960) / 2 * 2) 0 = 0))
  unfold dz_N103_65_95 q_let
  dsimp only
  rw [er, ec, t1]
  generalize dz_M222_64 m = r at *
  generalize ((m.2.2 0 15) - (m.2.2 0 15) / 24 * 24).toInt32 = cl at *
  by_cases k0 : r.toInt < 0
  · rw [q_lt_T (show r.toInt < (0 : Int32).toInt by omega), q_202F (Or.inl (by omega))]
    exact ⟨y0, m, rfl, rfl, q_R_NF h t2, hI, t2.xc, q_MC_refl m⟩
  rw [q_lt_F (show (0 : Int32).toInt ≤ r.toInt by omega)]
  by_cases k32 : 32 ≤ r.toInt
  · rw [q_lt_F (show (32 : Int32).toInt ≤ r.toInt by omega), q_202F (Or.inr (by omega))]
    exact ⟨y0, m, rfl, rfl, q_R_NF h t2, hI, t2.xc, q_MC_refl m⟩
  rw [q_lt_T (show r.toInt < (32 : Int32).toInt by omega), q_202T (v := r) (by omega) (by omega)]
  by_cases k4 : cl.toInt < 4
  · rw [q_lt_T (show cl.toInt < (4 : Int32).toInt by omega), q_202F (Or.inl (by omega))]
    exact ⟨y0, m, rfl, rfl, q_R_NF h t2, hI, t2.xc, q_MC_refl m⟩
  rw [q_lt_F (show (4 : Int32).toInt ≤ cl.toInt by omega)]
  by_cases k19 : 19 < cl.toInt
  · rw [q_lt_T (show (19 : Int32).toInt < cl.toInt by omega), q_202F (Or.inr (by omega))]
    exact ⟨y0, m, rfl, rfl, q_R_NF h t2, hI, t2.xc, q_MC_refl m⟩
  rw [q_lt_F (show cl.toInt ≤ (19 : Int32).toInt by omega), q_202T (v := cl) (by omega) (by omega)]
  have e1 : (cl - 4).toInt = cl.toInt - 4 := q_subI ⟨by omega, by omega⟩ ⟨by decide, by decide⟩
  have e2 : (2 * (cl - 4)).toInt = 2 * (cl.toInt - 4) := by rw [q_mulI (n := 2) rfl (by decide) (by decide) ⟨by omega, by omega⟩, e1]
  have e3 : (2 * cl).toInt = 2 * cl.toInt := q_mulI (n := 2) rfl (by decide) (by decide) ⟨by omega, by omega⟩
  have e4 : (2 * cl) - 8 = 2 * (cl - 4) := Int32.toInt_inj.mp (by rw [q_subI ⟨by omega, by omega⟩ ⟨by decide, by decide⟩]; omega)
  have e5' : (2 * (cl - 4) + 1).toInt = (2 * (cl - 4)).toInt + 1 := by rw [q_addI ⟨by omega, by omega⟩ ⟨by decide, by decide⟩]; rfl
  have e5 : (2 * cl) - 7 = 2 * (cl - 4) + 1 := Int32.toInt_inj.mp (by rw [q_subI ⟨by omega, by omega⟩ ⟨by decide, by decide⟩]; omega)
  have e6 : (2 * (cl - 4) + 1 + 1).toInt = (2 * (cl - 4)).toInt + 2 := by rw [q_addI ⟨by omega, by omega⟩ ⟨by decide, by decide⟩]; omega
  rw [e4, e5]
  generalize 2 * (cl - 4) = f at *
  obtain ⟨y1, m1, a1, a2, a3, a4, a5, a6⟩ := q_dr1 h hI (X := f) (r := r) ⟨by omega, by omega⟩ ⟨by omega, by omega⟩
  obtain ⟨y2, m2, b1, b2, b3, b4, b5, b6⟩ := q_dr1 a3 a4 (X := f + 1) (r := r) ⟨by omega, by omega⟩ ⟨by omega, by omega⟩
  obtain ⟨y3, u1, u2⟩ := q_tick y2 (decide (lg_cmp (((y2.2.2 1 8) / 960) - ((y2.2.2 1 8) / 960) / 2 * 2) 0 = 0))
  have fin : ∀ n, dz_N103_65_95_47 (n + 1) y2 r f (f + 1 + 1) = some y3 := fun n => by
    rw [dzs_N103_65_95_47]
    generalize dz_N103_65_95_47 n = K9
    dsimp only
    rw [q_lt_T (show (f + 1).toInt < (f + 1 + 1).toInt by omega), cond_true]
    exact u1
  refine ⟨y3, m2, ?_, ?_, q_R_NF b3 u2, b4, (a5.trans b5).trans u2.xc, a6.trans b6⟩
  · rw [cond_false, cond_true, cond_false, cond_false, show (5000 : Nat) = 4997 + 1 + 1 + 1 from rfl, a1 _ f (q_lt_F (by omega)), b1 _ f (q_lt_F (by omega)), fin]
  · rw [cond_true, cond_true, a2, Option.bind_some, b2, Option.bind_some]
/-- a cycle but for the processor -/
theorem q_pass (h : q_R TT x m) (hI : q_Iv c d w m) : ∃ y m2 b, dz_N83_64 x = some (y, b) ∧ dz_M235_64 m = dz_M235_64_109 m2 (q_b b) ∧ q_R TT y m2 ∧ q_Iv c d w m2 ∧ q_XCz x y ∧ q_MC m m2 := by
  obtain ⟨m1, a1, a2, a3, a4, a5⟩ := q_meet h hI
  obtain ⟨b, b1, b2⟩ := q_pic a2 a3
  have tM : dz_M235_64 m = dz_M235_64_39 m1 (((m.2.2 0 15) - (m.2.2 0 15) / 24 * 24).toInt32) := a1 (fun s => dz_M235_64_39 s (((m.2.2 0 15) - (m.2.2 0 15) / 24 * 24).toInt32))
  have tl : m.2.2 = m1.2.2 := a5.2.2.symm
  rw [tM, tl]
  obtain ⟨y2, m2, c1, c2, c3, c4, c5, c6⟩ := q_drw a2 a3 (fun s => dz_M235_64_91 s (((m1.2.2 0 15) - (m1.2.2 0 15) / 24 * 24).toInt32) (q_b b))
  obtain ⟨y3, m3, d1, d2, d3, d4, d5, d6⟩ := q_tim c3 c4
  obtain ⟨m4, e1, e2, e3, e4, e5⟩ := q_tape d3 d4
  obtain ⟨y5, m5, f1, f2, f3, f4, f5, f6⟩ := q_snd e2 e3
  have mc : q_MC m1 m4 := (c6.trans d6).trans e5
  have xc : q_XCz (dz_N101_65 x) (dz_N106_65 y3) := (c5.trans d5).trans e4
  have ecol : dz_N87_65 (dz_N106_65 y3) = ((m1.2.2 0 15) - (m1.2.2 0 15) / 24 * 24).toInt32 := by rw [q_colX e2, mc.2.2]
  have elin : dz_N86_65 (dz_N106_65 y3) / 24 = dz_M207_64 m4 := q_lineX e2 e3
  have eM : dz_M235_64_39 m1 (((m1.2.2 0 15) - (m1.2.2 0 15) / 24 * 24).toInt32) = dz_M235_64_91 m2 (((m1.2.2 0 15) - (m1.2.2 0 15) / 24 * 24).toInt32) (q_b b) := by
    unfold dz_M235_64_39
    rw [b2]
    cases b with
    | true => exact c2
    | false => exact c2
  have eM2 : dz_M235_64_91 m2 (((m1.2.2 0 15) - (m1.2.2 0 15) / 24 * 24).toInt32) (q_b b) = cond (decide (((m1.2.2 0 15) - (m1.2.2 0 15) / 24 * 24).toInt32 = 23)) (dz_M235_64_109 m5 (q_b b)) (dz_M235_64_109 m4 (q_b b)) := by
    unfold dz_M235_64_91
    rw [d2, Option.bind_some, e1, Option.bind_some, f2, Option.bind_some]
  rw [eM, eM2]
  have eX : dz_N83_64 x = cond (decide (((m1.2.2 0 15) - (m1.2.2 0 15) / 24 * 24).toInt32 = 23)) (some (y5, b)) (some (dz_N106_65 y3, b)) := by
    unfold dz_N83_64 q_let
    dsimp only
    rw [b1, Option.bind_some, c1]
    cases b with
    | true =>
      rw [cond_true, Option.bind_some, d1, Option.bind_some, ecol, elin, f1, Option.bind_some]
    | false =>
      rw [cond_false, Option.bind_some, d1, Option.bind_some, ecol, elin, f1, Option.bind_some]
  rw [eX]
  cases decide (((m1.2.2 0 15) - (m1.2.2 0 15) / 24 * 24).toInt32 = 23) with
  | true => exact ⟨y5, m5, b, rfl, rfl, f3, f4, (a4.trans xc).trans f5, (a5.trans mc).trans f6⟩
  | false => exact ⟨_, m4, b, rfl, rfl, e2, e3, a4.trans xc, a5.trans mc⟩
end
end
section
section
variable {TT : (Nat → Int32) → Int32 → (Nat → Int32) → Int32 → Int64 → Int64 → List Int32 → List (Nat → Int32) → (Nat → Int64) → Prop} {x y z m : q_S} {c d w : Int}
theorem q_eq33.trans (h : q_eq33 x y) (g : q_eq33 y z) : q_eq33 x z := ⟨fun i hi => (g.1 i hi).trans (h.1 i hi), g.2.trans h.2⟩
theorem q_a12 {a : Int32} (h : q_rgz 0 4095 a) : a &&& 4095 = a := by
  have a0 := h.1
  have a1 := h.2
  apply Int32.toInt_inj.mp
  rw [q_andI 12 (by decide) h (by decide) (show (4095 : Int32).toInt = 2 ^ 12 - 1 from rfl)]
  show a.toInt % 4096 = _
  omega
theorem q_m8z {a : Int32} {u : Int} (h : q_rgz 0 u a) : a - a / 256 * 256 = a &&& 255 := by
  apply Int32.toInt_inj.mp
  rw [q_rem_eq h.1 (by decide), q_andI 8 (by decide) h (by decide) (show (255 : Int32).toInt = 2 ^ 8 - 1 from rfl)]
  rfl
theorem q_byte (h : q_R TT x m) (hI : q_Iv c d w m) (a : Int32) : ∃ v m2, dz_N90_65 x (a &&& 4095) = some v ∧ dz_M247_64 m a = some (m2, v) ∧ q_eq33 m m2 ∧ q_R TT x m2 ∧ q_Iv c d w m2 ∧ q_rgz 0 255 v := by
  obtain ⟨v, m2, e1, e2, e3, e4, e5, e6⟩ := q_rdz h hI (a &&& 4095) (q_rg_and a 4095 (by decide) rfl)
  refine ⟨v, m2, e1, ?_, e3, e4, e5, e6⟩
  unfold dz_M247_64 dz_M213 q_let
  dsimp only
  rw [e2]; rfl
theorem q_word (h : q_R TT x m) (hI : q_Iv c d w m) (a : Int32) : ∃ lo hi m2, dz_N90_65 x (a &&& 4095) = some lo ∧ dz_N90_65 x ((a + 1) &&& 4095) = some hi ∧ dz_M248_64 m a = some (m2, (lo + (256 * hi)) &&& 4095) ∧ q_eq33 m m2 ∧ q_R TT x m2 ∧ q_Iv c d w m2 ∧ q_rgz 0 255 lo ∧ q_rgz 0 255 hi := by
  obtain ⟨v, m1, a1, a2, a3, a4, a5, a6⟩ := q_byte h hI a
  obtain ⟨u, m2, b1, b2, b3, b4, b5, b6⟩ := q_byte a4 a5 (a + 1)
  refine ⟨v, u, m2, a1, b1, ?_, a3.trans b3, b4, b5, a6, b6⟩
  unfold dz_M248_64
  rw [a2, Option.bind_some, b2, Option.bind_some]
  rfl
theorem q_p11 (a : Int32) : a + 1 + 1 = a + 2 := by rw [Int32.add_assoc]; rfl
/-- the word at a page's byte and the next in the page -/
theorem q_pgw (h : q_R TT x m) (hI : q_Iv c d w m) (p : Int32) (hp : q_rgz 0 255 p) : ∃ lo hi m2, dz_N90_65 x p = some lo ∧ dz_N90_65 x ((p + 1) &&& 255) = some hi ∧ ((dz_M247_64 m p).bind fun r621 => (dz_M247_64 r621.1 ((p + 1) - (p + 1) / 256 * 256)).bind fun r622 => q_let (dz_M213 r622.1 (r621.2 + (256 * r622.2))) fun r623 => some (r622.1, r623)) = some (m2, (lo + (256 * hi)) &&& 4095) ∧ q_eq33 m m2 ∧ q_R TT x m2 ∧ q_Iv c d w m2 := by
  have p0 := hp.1
  have p1 := hp.2
  have e1 : (p + 1).toInt = p.toInt + 1 := q_addI ⟨by omega, by omega⟩ ⟨by decide, by decide⟩
  have em : (p + 1) - (p + 1) / 256 * 256 = (p + 1) &&& 255 := q_m8z (u := 256) ⟨by omega, by omega⟩
  have e2 := q_rg_and (p + 1) 255 (U := 255) (by decide) rfl
  obtain ⟨v, m1, a1, a2, a3, a4, a5, a6⟩ := q_byte h hI p
  obtain ⟨u, m2, b1, b2, b3, b4, b5, b6⟩ := q_byte a4 a5 ((p + 1) &&& 255)
  rw [q_a12 (q_rg_le hp (by decide) (by decide))] at a1
  rw [q_a12 (q_rg_le e2 (by decide) (by decide))] at b1
  refine ⟨v, u, m2, a1, b1, ?_, a3.trans b3, b4, b5⟩
  rw [a2, Option.bind_some, em, b2, Option.bind_some]
  rfl
theorem q_R.cpu (h : q_R TT x m) : x.2.1 23 0 = m.1 14 0 ∧ x.2.1 23 1 = m.1 14 1 ∧ x.2.1 23 2 = m.1 14 2 ∧ x.2.1 23 3 = m.1 14 3 := h.r6.1
/-- addresses: the class' base, and what is behind it -/
theorem q_addr (h : q_R TT x m) (hI : q_Iv c d w m) (hP : x.2.1 23 4 = m.1 14 4) (mode : Int32) (hm : q_rgz 1 7 mode) : ∃ B m2 m3, dz_N145_87_65 x mode = some B ∧ q_rgz 0 4095 B ∧ (4 ≤ mode.toInt ∧ mode.toInt ≤ 6 → dz_M249_64 m mode (m.1 14 4) = some (m2, B)) ∧ q_eq33 m m2 ∧ q_R TT x m2 ∧ q_Iv c d w m2 ∧ dz_M250_64 m mode (m.1 14 4) = some (m3, (B + dz_N143_87 x mode) &&& 4095) ∧ q_eq33 m m3 ∧ q_R TT x m3 ∧ q_Iv c d w m3 := by
  obtain ⟨g0, g1, g2, g3⟩ := h.cpu
  have bX : q_rgz 0 255 (m.1 14 1) := hI.1 14 1
  have bX0 := bX.1
  have bX1 := bX.2
  obtain ⟨v, m1, a1, a2, a3, a4, a5, a6⟩ := q_byte h hI (m.1 14 4 + 1)
  have a60 := a6.1
  have a61 := a6.2
  obtain ⟨lo, hi, mw, w1, w2, w3, w4, w5, w6, w7, w8⟩ := q_word h hI (m.1 14 4 + 1)
  rw [a1] at w1
  cases w1
  rw [q_p11] at w2
  obtain ⟨p1, p2, mp, c1, c2, c3, c4, c5, c6⟩ := q_pgw a4 a5 v a6
  have eX : (v + m.1 14 1).toInt = v.toInt + (m.1 14 1).toInt := q_addI ⟨by omega, by omega⟩ ⟨by omega, by omega⟩
  have eX2 : (v + m.1 14 1) - (v + m.1 14 1) / 256 * 256 = (v + m.1 14 1) &&& 255 := q_m8z (u := 510) ⟨by omega, by omega⟩
  have rX := q_rg_and (v + m.1 14 1) 255 (U := 255) (by decide) rfl
  obtain ⟨s1, s2, ms, d1, d2, d3, d4, d5, d6⟩ := q_pgw a4 a5 ((v + m.1 14 1) &&& 255) rX
  have n1 : m1.1 14 = m.1 14 := a3.1 14 rfl
  have nw : mw.1 14 = m.1 14 := w4.1 14 rfl
  have np : mp.1 14 = m.1 14 := (a3.trans c4).1 14 rfl
  have rW := q_rg_and (v + (256 * hi)) 4095 (U := 4095) (by decide) rfl
  have z0 : ∀ B : Int32, q_rgz 0 4095 B → (B + 0) &&& 4095 = B := fun B hB => by rw [Int32.add_zero]; exact q_a12 hB
  have hm0 := hm.1
  have hm1 := hm.2
  unfold dz_N145_87_65 dz_N140_87 q_let
  dsimp only
  rw [hP, a1, w2, Option.bind_some, Option.bind_some, g1]
  rcases (by omega : mode.toInt = 1 ∨ mode.toInt = 2 ∨ mode.toInt = 3 ∨ mode.toInt = 4 ∨ mode.toInt = 5 ∨ mode.toInt = 6 ∨ mode.toInt = 7) with e | e | e | e | e | e | e
  · rw [show mode = 1 from Int32.toInt_inj.mp e]
    refine ⟨v, m, m1, rfl, q_rg_le a6 (by decide) (by decide), fun q => absurd q.1 (by decide), q_eq33_refl m, h, hI, ?_, a3, a4, a5⟩
    show ((dz_M247_64 m (m.1 14 4 + 1)).bind fun r629 => some (r629.1, r629.2)) = some (m1, (v + 0) &&& 4095)
    rw [a2, z0 v (q_rg_le a6 (by decide) (by decide))]; rfl
  · rw [show mode = 2 from Int32.toInt_inj.mp e]
    refine ⟨(v + m.1 14 1) &&& 255, m, m1, rfl, q_rg_le rX (by decide) (by decide), fun q => absurd q.1 (by decide), q_eq33_refl m, h, hI, ?_, a3, a4, a5⟩
    show ((dz_M247_64 m (m.1 14 4 + 1)).bind fun r630 => some (r630.1, ((r630.2 + ((r630.1.1 14) 1)) - (r630.2 + ((r630.1.1 14) 1)) / 256 * 256))) = some (m1, (((v + m.1 14 1) &&& 255) + 0) &&& 4095)
    rw [a2, z0 _ (q_rg_le rX (by decide) (by decide)), Option.bind_some, n1, eX2]
  · rw [show mode = 3 from Int32.toInt_inj.mp e]
    refine ⟨(v + 256 * hi) &&& 4095, m, mw, rfl, rW, fun q => absurd q.1 (by decide), q_eq33_refl m, h, hI, ?_, w4, w5, w6⟩
    show ((dz_M248_64 m (m.1 14 4 + 1)).bind fun r631 => some (r631.1, r631.2)) = some (mw, (((v + 256 * hi) &&& 4095) + 0) &&& 4095)
    rw [w3, z0 _ rW]; rfl
  · rw [show mode = 4 from Int32.toInt_inj.mp e]
    refine ⟨(v + 256 * hi) &&& 4095, mw, mw, rfl, rW, fun _ => ?_, w4, w5, w6, ?_, w4, w5, w6⟩
    · show ((dz_M248_64 m (m.1 14 4 + 1)).bind fun r619 => some (r619.1, r619.2)) = _
      rw [w3]; rfl
    · show (((dz_M248_64 m (m.1 14 4 + 1)).bind fun r619 => some (r619.1, r619.2)).bind fun r632 => some (r632.1, (r632.2 + ((r632.1.1 14) 1)) &&& 4095)) = some (mw, (((v + 256 * hi) &&& 4095) + x.2.1 23 1) &&& 4095)
      rw [w3, Option.bind_some, Option.bind_some, nw, g1]
  · rw [show mode = 5 from Int32.toInt_inj.mp e]
    refine ⟨(v + 256 * hi) &&& 4095, mw, mw, rfl, rW, fun _ => ?_, w4, w5, w6, ?_, w4, w5, w6⟩
    · show ((dz_M248_64 m (m.1 14 4 + 1)).bind fun r619 => some (r619.1, r619.2)) = _
      rw [w3]; rfl
    · show (((dz_M248_64 m (m.1 14 4 + 1)).bind fun r619 => some (r619.1, r619.2)).bind fun r632 => some (r632.1, (r632.2 + ((r632.1.1 14) 2)) &&& 4095)) = some (mw, (((v + 256 * hi) &&& 4095) + x.2.1 23 2) &&& 4095)
      rw [w3, Option.bind_some, Option.bind_some, nw, g2]
  · rw [show mode = 6 from Int32.toInt_inj.mp e]
    have t249 : dz_M249_64 m 6 (m.1 14 4) = some (mp, (p1 + 256 * p2) &&& 4095) := by
      show ((dz_M247_64 m (m.1 14 4 + 1)).bind fun r620 => (dz_M247_64 r620.1 r620.2).bind fun r621 => (dz_M247_64 r621.1 ((r620.2 + 1) - (r620.2 + 1) / 256 * 256)).bind fun r622 => q_let (dz_M213 r622.1 (r621.2 + (256 * r622.2))) fun r623 => some (r622.1, r623)) = _
      rw [a2, Option.bind_some]
      exact c3
    refine ⟨(p1 + 256 * p2) &&& 4095, mp, mp, ?_, q_rg_and _ 4095 (by decide) rfl, fun _ => t249, a3.trans c4, c5, c6, ?_, a3.trans c4, c5, c6⟩
    · show ((dz_N90_65 x v).bind fun r151 => (dz_N90_65 x ((v + 1) &&& 255)).bind fun r152 => some ((r151 + (256 * r152)) &&& 4095)) = _
      rw [c1, Option.bind_some, c2, Option.bind_some]
    · show ((dz_M249_64 m 6 (m.1 14 4)).bind fun r634 => some (r634.1, (r634.2 + ((r634.1.1 14) 2)) &&& 4095)) = some (mp, (((p1 + 256 * p2) &&& 4095) + x.2.1 23 2) &&& 4095)
      rw [t249, Option.bind_some, np, g2]
  · rw [show mode = 7 from Int32.toInt_inj.mp e]
    have rS := q_rg_and (s1 + 256 * s2) 4095 (U := 4095) (by decide) rfl
    refine ⟨(s1 + 256 * s2) &&& 4095, m, ms, ?_, rS, fun q => absurd q.2 (by decide), q_eq33_refl m, h, hI, ?_, a3.trans d4, d5, d6⟩
    · show ((dz_N90_65 x ((v + m.1 14 1) &&& 255)).bind fun r149 => (dz_N90_65 x ((((v + m.1 14 1) &&& 255) + 1) &&& 255)).bind fun r150 => some ((r149 + (256 * r150)) &&& 4095)) = _
      rw [d1, Option.bind_some, d2, Option.bind_some]
    · show ((dz_M247_64 m (m.1 14 4 + 1)).bind fun r636 => q_let ((r636.2 + ((r636.1.1 14) 1)) - (r636.2 + ((r636.1.1 14) 1)) / 256 * 256) fun x637 => (dz_M247_64 r636.1 x637).bind fun r638 => (dz_M247_64 r638.1 ((x637 + 1) - (x637 + 1) / 256 * 256)).bind fun r639 => q_let (dz_M213 r639.1 (r638.2 + (256 * r639.2))) fun r640 => some (r639.1, r640)) = some (ms, (((s1 + 256 * s2) &&& 4095) + 0) &&& 4095)
      rw [a2, Option.bind_some, z0 _ rS]
      unfold q_let
      dsimp only
      rw [n1, eX2]
      exact d3
end
end
section
section
variable {TT : (Nat → Int32) → Int32 → (Nat → Int32) → Int32 → Int64 → Int64 → List Int32 → List (Nat → Int32) → (Nat → Int64) → Prop} {x y z m : q_S} {c d w : Int}
/-- what a code without a mode takes, as the model says it -/
def q_oc (a : Int32) : Int32 := cond (decide (a = 138)) 3 (cond (decide (a = 140)) 3 (cond (decide (a = 157)) 3 (cond (decide (a = 139)) 4 (cond (decide (a = 141)) 4 (cond (decide (a = 159)) 5 (cond (decide (a = 155)) 6 (cond (decide (a = 156)) 6 (cond (decide (a = 158)) 6 (cond (decide (a = 154)) 7 2)))))))))
set_option maxRecDepth 16384 in
theorem q_T1 : ∀ n, n < 256 → dz_N186 q_s0 (Int32.ofNat n) = dz_M244 q_s0 (Int32.ofNat n) ∧ dz_N190 q_s0 (Int32.ofNat n) = dz_M246 q_s0 (Int32.ofNat n) ∧ dz_N187 q_s0 (Int32.ofNat n) = dz_M202 q_s0 (Int32.ofNat n) 160 167 ∧ (dz_N187 q_s0 (Int32.ofNat n) = true → decide (dz_M244 q_s0 (Int32.ofNat n) < 0) = true) ∧ (decide (dz_M244 q_s0 (Int32.ofNat n) < 0) = true → dz_N187 q_s0 (Int32.ofNat n) = false → dz_N192 q_s0 (Int32.ofNat n) = q_oc (Int32.ofNat n)) ∧ (decide (dz_M244 q_s0 (Int32.ofNat n) < 0) = false → q_rgz 0 20 (dz_M244 q_s0 (Int32.ofNat n))) := by
  unfold q_rgz
  decide
set_option maxRecDepth 16384 in
theorem q_T2 : ∀ n, n < 21 → dz_N188 q_s0 (Int32.ofNat n) = dz_M245 q_s0 (Int32.ofNat n) ∧ dz_N189 q_s0 (Int32.ofNat n) = (dz_M202 q_s0 (Int32.ofNat n) 14 15 || dz_M202 q_s0 (Int32.ofNat n) 18 19) := by decide
theorem q_ofn {a : Int32} {u : Int} (h : q_rgz 0 u a) : Int32.ofNat a.toInt.toNat = a := by
  have a0 := h.1
  have a1 := Int32.toInt_lt a
  apply Int32.toInt_inj.mp
  rw [Int32.toInt_ofNat_of_lt (by omega)]
  omega
/-- the codes: both say alike -/
theorem q_code (s t : q_S) {a : Int32} (h : q_rgz 0 255 a) : dz_N186 s a = dz_M244 t a ∧ dz_N190 s a = dz_M246 t a ∧ dz_N187 s a = dz_M202 t a 160 167 ∧ (dz_N187 s a = true → decide (dz_M244 t a < 0) = true) ∧ (decide (dz_M244 t a < 0) = true → dz_N187 s a = false → dz_N192 s a = q_oc a) ∧ (decide (dz_M244 t a < 0) = false → q_rgz 0 20 (dz_M244 t a)) := by
  have a1 := h.2
  have a0 := h.1
  have t1 := q_T1 a.toInt.toNat (by omega)
  rw [q_ofn h] at t1
  exact t1
theorem q_opw (s t : q_S) {a : Int32} (h : q_rgz 0 20 a) : dz_N188 s a = dz_M245 t a ∧ dz_N189 s a = (dz_M202 t a 14 15 || dz_M202 t a 18 19) := by
  have a1 := h.2
  have a0 := h.1
  have t1 := q_T2 a.toInt.toNat (by omega)
  rw [q_ofn h] at t1
  exact t1
/-- the byte of flags -/
theorem q_flag (h : q_R TT x m) (hI : q_Iv c d w m) : q_rgz 0 207 (x.2.1 23 5) ∧ (x.2.1 23 5).toInt = (m.1 15 5).toInt + 2 * (m.1 15 4).toInt + 4 * (m.1 15 3).toInt + 8 * (m.1 15 2).toInt + 64 * (m.1 15 1).toInt + 128 * (m.1 15 0).toInt := by
  have f := h.r6.2.2.2.2.2.2.2.2.2.1
  have b : ∀ k, 0 ≤ (m.1 15 k).toInt ∧ (m.1 15 k).toInt ≤ 1 := fun k => hI.1 15 k
  have b0 := b 0
  have b1 := b 1
  have b2 := b 2
  have b3 := b 3
  have b4 := b 4
  have b5 := b 5
  have e1 : (2 * m.1 15 4).toInt = 2 * (m.1 15 4).toInt := q_mulI (n := 2) rfl (by decide) (by decide) ⟨by omega, by omega⟩
  have e2 : (4 * m.1 15 3).toInt = 4 * (m.1 15 3).toInt := q_mulI (n := 4) rfl (by decide) (by decide) ⟨by omega, by omega⟩
  have e3 : (8 * m.1 15 2).toInt = 8 * (m.1 15 2).toInt := q_mulI (n := 8) rfl (by decide) (by decide) ⟨by omega, by omega⟩
  have e4 : (64 * m.1 15 1).toInt = 64 * (m.1 15 1).toInt := q_mulI (n := 64) rfl (by decide) (by decide) ⟨by omega, by omega⟩
  have e5 : (128 * m.1 15 0).toInt = 128 * (m.1 15 0).toInt := q_mulI (n := 128) rfl (by decide) (by decide) ⟨by omega, by omega⟩
  have s1 : (m.1 15 5 + 2 * m.1 15 4).toInt = (m.1 15 5).toInt + 2 * (m.1 15 4).toInt := by rw [q_addI ⟨by omega, by omega⟩ ⟨by omega, by omega⟩, e1]
  have s2 : (m.1 15 5 + 2 * m.1 15 4 + 4 * m.1 15 3).toInt = (m.1 15 5).toInt + 2 * (m.1 15 4).toInt + 4 * (m.1 15 3).toInt := by rw [q_addI ⟨by omega, by omega⟩ ⟨by omega, by omega⟩, s1, e2]
  have s3 : (m.1 15 5 + 2 * m.1 15 4 + 4 * m.1 15 3 + 8 * m.1 15 2).toInt = (m.1 15 5).toInt + 2 * (m.1 15 4).toInt + 4 * (m.1 15 3).toInt + 8 * (m.1 15 2).toInt := by rw [q_addI ⟨by omega, by omega⟩ ⟨by omega, by omega⟩, s2, e3]
  have s4 : (m.1 15 5 + 2 * m.1 15 4 + 4 * m.1 15 3 + 8 * m.1 15 2 + 64 * m.1 15 1).toInt = (m.1 15 5).toInt + 2 * (m.1 15 4).toInt + 4 * (m.1 15 3).toInt + 8 * (m.1 15 2).toInt + 64 * (m.1 15 1).toInt := by rw [q_addI ⟨by omega, by omega⟩ ⟨by omega, by omega⟩, s3, e4]
  have s5 : (x.2.1 23 5).toInt = (m.1 15 5).toInt + 2 * (m.1 15 4).toInt + 4 * (m.1 15 3).toInt + 8 * (m.1 15 2).toInt + 64 * (m.1 15 1).toInt + 128 * (m.1 15 0).toInt := by rw [f, q_addI ⟨by omega, by omega⟩ ⟨by omega, by omega⟩, s4, e5]
  exact ⟨⟨by omega, by omega⟩, s5⟩
/-- a bit of it: clear where the model's flag is -/
theorem q_fbit (h : q_R TT x m) (hI : q_Iv c d w m) (n k : Nat) (hk : (n = 0 ∧ k = 5) ∨ (n = 1 ∧ k = 4) ∨ (n = 2 ∧ k = 3) ∨ (n = 3 ∧ k = 2) ∨ (n = 6 ∧ k = 1) ∨ (n = 7 ∧ k = 0)) {p : Int32} (hp : p.toInt = 2 ^ n) : decide ((x.2.1 23 5) &&& p = 0) = decide (m.1 15 k = 0) := by
  obtain ⟨r, s⟩ := q_flag h hI
  have b : ∀ k, 0 ≤ (m.1 15 k).toInt ∧ (m.1 15 k).toInt ≤ 1 := fun k => hI.1 15 k
  have b0 := b 0
  have b1 := b 1
  have b2 := b 2
  have b3 := b 3
  have b4 := b 4
  have b5 := b 5
  have z0 : (0 : Int32).toInt = 0 := rfl
  have e := q_and2p n (by omega) r (by decide) hp
  have key : ((x.2.1 23 5) &&& p).toInt = 0 ↔ (m.1 15 k).toInt = 0 := by
    rw [e, s]
    rcases hk with ⟨h1, h2⟩ | ⟨h1, h2⟩ | ⟨h1, h2⟩ | ⟨h1, h2⟩ | ⟨h1, h2⟩ | ⟨h1, h2⟩ <;> subst h1 <;> subst h2 <;> simp only [Int.reducePow] <;> omega
  by_cases q : (m.1 15 k).toInt = 0
  · rw [q_eq_T (show ((x.2.1 23 5) &&& p).toInt = (0 : Int32).toInt by rw [z0]; exact key.mpr q), q_eq_T (show (m.1 15 k).toInt = (0 : Int32).toInt by rw [z0]; exact q)]
  · rw [q_eq_F (show ¬ ((x.2.1 23 5) &&& p).toInt = (0 : Int32).toInt by rw [z0]; exact fun t => q (key.mp t)), q_eq_F (show ¬ (m.1 15 k).toInt = (0 : Int32).toInt by rw [z0]; exact q)]
theorem q_b01' {a : Int32} (h : q_rgz 0 1 a) : decide (a = 1) = !decide (a = 0) := by
  have a0 := h.1
  have a1 := h.2
  rcases (by omega : a.toInt = 0 ∨ a.toInt = 1) with e | e
  · rw [show a = 0 from Int32.toInt_inj.mp e]; rfl
  · rw [show a = 1 from Int32.toInt_inj.mp e]; rfl
/-- whether a branch is taken -/
theorem q_taken (h : q_R TT x m) (hI : q_Iv c d w m) {a : Int32} (ha : q_rgz 160 167 a) : dz_N161_87 x a = dz_M252_64 m a := by
  have a0 := ha.1
  have a1 := ha.2
  have f0 := q_fbit h hI 0 5 (by omega) (p := 1) rfl
  have f1 := q_fbit h hI 1 4 (by omega) (p := 2) rfl
  have f6 := q_fbit h hI 6 1 (by omega) (p := 64) rfl
  have f7 := q_fbit h hI 7 0 (by omega) (p := 128) rfl
  have g (k : Nat) : decide (m.1 15 k = 1) = !decide (m.1 15 k = 0) := q_b01' (hI.1 15 k)
  unfold dz_N161_87 dz_M252_64
  rw [f0, f1, f6, f7, g 4, g 5, g 0, g 1]
  rcases (by omega : a.toInt = 160 ∨ a.toInt = 161 ∨ a.toInt = 162 ∨ a.toInt = 163 ∨ a.toInt = 164 ∨ a.toInt = 165 ∨ a.toInt = 166 ∨ a.toInt = 167) with e | e | e | e | e | e | e | e
  · rw [show a = 160 from Int32.toInt_inj.mp e]; cases decide (m.1 15 4 = 0) <;> rfl
  · rw [show a = 161 from Int32.toInt_inj.mp e]; cases decide (m.1 15 4 = 0) <;> rfl
  · rw [show a = 162 from Int32.toInt_inj.mp e]; cases decide (m.1 15 5 = 0) <;> rfl
  · rw [show a = 163 from Int32.toInt_inj.mp e]; cases decide (m.1 15 5 = 0) <;> rfl
  · rw [show a = 164 from Int32.toInt_inj.mp e]; cases decide (m.1 15 0 = 0) <;> rfl
  · rw [show a = 165 from Int32.toInt_inj.mp e]; cases decide (m.1 15 0 = 0) <;> rfl
  · rw [show a = 166 from Int32.toInt_inj.mp e]; cases decide (m.1 15 1 = 0) <;> rfl
  · rw [show a = 167 from Int32.toInt_inj.mp e]; cases decide (m.1 15 1 = 0) <;> rfl
end
end
section
section
variable {TT : (Nat → Int32) → Int32 → (Nat → Int32) → Int32 → Int64 → Int64 → List Int32 → List (Nat → Int32) → (Nat → Int64) → Prop} {x y z m : q_S} {c d w : Int}
theorem q_m7z {a : Int32} {u : Int} (h : q_rgz 0 u a) : a - a / 8 * 8 = a &&& 7 := by
  apply Int32.toInt_inj.mp
  rw [q_rem_eq h.1 (by decide), q_andI 3 (by decide) h (by decide) (show (7 : Int32).toInt = 2 ^ 3 - 1 from rfl)]
  rfl
/-- what an instruction with a mode takes -/
theorem q_mcy (h : q_R TT x m) (hI : q_Iv c d w m) (hP : x.2.1 23 4 = m.1 14 4) (op mode : Int32) (ho : q_rgz 0 20 op) (hm : q_rgz 0 7 mode) : ∃ n m2, (cond (decide (mode = 0)) (some 2) (cond (decide (mode < 4)) (dz_N137_87_65_127 x op mode 0) (cond (decide (6 < mode)) (dz_N137_87_65_127 x op mode 0) ((dz_N145_87_65 x mode).bind fun r153 => q_let (dz_N143_87 x mode) fun r154 => q_let (dz_N188 x op) fun r157 => cond r157 (dz_N137_87_65_120 x op mode) (cond (decide (((r153 + r154) &&& 4095) / 256 = r153 / 256)) (dz_N137_87_65_127 x op mode 0) (dz_N137_87_65_120 x op mode)))))) = some n ∧ dz_M251_64 m op mode (m.1 14 4) = some (m2, n) ∧ q_eq33 m m2 := by
  obtain ⟨w1, w2⟩ := q_opw x m ho
  have a0 := hm.1
  have a1 := hm.2
  by_cases k0 : mode.toInt = 0
  · rw [show mode = 0 from Int32.toInt_inj.mp k0]
    exact ⟨2, m, rfl, rfl, q_eq33_refl m⟩
  obtain ⟨B, m2, m3, b1, b2, b3, b4, b5, b6, b7, b8, b9, b10⟩ := q_addr h hI hP mode ⟨by omega, by omega⟩
  have i202 : ∀ (s : q_S) (a b c : Int32), dz_M202 s a b c = dz_M202 m a b c := fun _ _ _ _ => rfl
  have i245 : ∀ (s : q_S) (a : Int32), dz_M245 s a = dz_M245 m a := fun _ _ => rfl
  rcases (by omega : mode.toInt = 1 ∨ mode.toInt = 2 ∨ mode.toInt = 3 ∨ mode.toInt = 7 ∨ (4 ≤ mode.toInt ∧ mode.toInt ≤ 6)) with e | e | e | e | e
  · rw [show mode = 1 from Int32.toInt_inj.mp e]
    refine ⟨cond (dz_M202 m op 14 15 || dz_M202 m op 18 19) 5 3, m, ?_, ?_, q_eq33_refl m⟩
    · show (q_let (dz_N189 x op) fun r141 => cond r141 (some (((3 : Int32) + 0) + 2)) (some (((3 : Int32) + 0) + 0))) = _
      rw [w2]
      cases dz_M202 m op 14 15 <;> cases dz_M202 m op 18 19 <;> rfl
    · unfold dz_M251_64 dz_M251_64_28 q_let
      cases dz_M202 m op 14 15 <;> cases dz_M202 m op 18 19 <;> rfl
  · rw [show mode = 2 from Int32.toInt_inj.mp e]
    refine ⟨cond (dz_M202 m op 14 15 || dz_M202 m op 18 19) 6 4, m, ?_, ?_, q_eq33_refl m⟩
    · show (q_let (dz_N189 x op) fun r141 => cond r141 (some (((4 : Int32) + 0) + 2)) (some (((4 : Int32) + 0) + 0))) = _
      rw [w2]
      cases dz_M202 m op 14 15 <;> cases dz_M202 m op 18 19 <;> rfl
    · unfold dz_M251_64 dz_M251_64_28 q_let
      cases dz_M202 m op 14 15 <;> cases dz_M202 m op 18 19 <;> rfl
  · rw [show mode = 3 from Int32.toInt_inj.mp e]
    refine ⟨cond (dz_M202 m op 14 15 || dz_M202 m op 18 19) 6 4, m, ?_, ?_, q_eq33_refl m⟩
    · show (q_let (dz_N189 x op) fun r141 => cond r141 (some (((4 : Int32) + 0) + 2)) (some (((4 : Int32) + 0) + 0))) = _
      rw [w2]
      cases dz_M202 m op 14 15 <;> cases dz_M202 m op 18 19 <;> rfl
    · unfold dz_M251_64 dz_M251_64_28 q_let
      cases dz_M202 m op 14 15 <;> cases dz_M202 m op 18 19 <;> rfl
  · rw [show mode = 7 from Int32.toInt_inj.mp e]
    refine ⟨cond (dz_M202 m op 14 15 || dz_M202 m op 18 19) 8 6, m, ?_, ?_, q_eq33_refl m⟩
    · show (q_let (dz_N189 x op) fun r141 => cond r141 (some (((6 : Int32) + 0) + 2)) (some (((6 : Int32) + 0) + 0))) = _
      rw [w2]
      cases dz_M202 m op 14 15 <;> cases dz_M202 m op 18 19 <;> rfl
    · unfold dz_M251_64 dz_M251_64_28 q_let
      cases dz_M202 m op 14 15 <;> cases dz_M202 m op 18 19 <;> rfl
  · -- with X or Y behind
    have e249 := b3 e
    -- the model's second look
    obtain ⟨B', m4, m5, c1, c2, c3, c4, c5, c6, c7, c8, c9, c10⟩ := q_addr b5 b6 (by rw [b4.1 14 rfl]; exact hP) mode ⟨by omega, by omega⟩
    rw [b1] at c1
    cases c1
    rw [b4.1 14 rfl] at c7
    generalize hA : ((B + dz_N143_87 x mode) &&& 4095) = A at *
    have z4 : (4 : Int32).toInt = 4 := rfl
    have z6 : (6 : Int32).toInt = 6 := rfl
    have i46 : dz_M202 m mode 4 6 = true := q_202T (by omega) (by omega)
    rw [q_eq_F (show ¬ mode.toInt = (0 : Int32).toInt from k0), q_lt_F (show (4 : Int32).toInt ≤ mode.toInt by omega), q_lt_F (show mode.toInt ≤ (6 : Int32).toInt by omega), b1]
    rw [cond_false, cond_false, cond_false, Option.bind_some]
    have sym : decide (A / 256 = B / 256) = decide (B / 256 = A / 256) := by
      by_cases q : A / 256 = B / 256
      · rw [decide_eq_true q, decide_eq_true q.symm]
      · rw [decide_eq_false q, decide_eq_false (fun t => q t.symm)]
    unfold dz_M251_64 dz_M251_64_28 dz_N137_87_65_120 dz_N137_87_65_127 q_let
    dsimp only
    rw [q_eq_F (show ¬ mode.toInt = (0 : Int32).toInt from k0), i46, e249, hA, w1, w2, sym]
    simp only [Option.bind_some, c7, i245 m5, cond_true, cond_false]
    have z1 : (1 : Int32).toInt = 1 := rfl
    have m4' : (m.1 14 4) = m.1 14 4 := rfl
    rcases (by omega : mode.toInt = 4 ∨ mode.toInt = 5 ∨ mode.toInt = 6) with f | f | f
    · rw [show mode = 4 from Int32.toInt_inj.mp f]
      refine ⟨cond (dz_M202 m op 14 15 || dz_M202 m op 18 19) (cond (dz_M245 m op || !decide (B / 256 = A / 256)) 7 6) (cond (dz_M245 m op || !decide (B / 256 = A / 256)) 5 4), m5, ?_, ?_, b4.trans c8⟩
      · cases dz_M245 m op <;> cases decide (B / 256 = A / 256) <;> cases dz_M202 m op 14 15 <;> cases dz_M202 m op 18 19 <;> rfl
      · cases dz_M245 m op <;> cases decide (B / 256 = A / 256) <;> cases dz_M202 m op 14 15 <;> cases dz_M202 m op 18 19 <;> rfl
    · rw [show mode = 5 from Int32.toInt_inj.mp f]
      refine ⟨cond (dz_M202 m op 14 15 || dz_M202 m op 18 19) (cond (dz_M245 m op || !decide (B / 256 = A / 256)) 7 6) (cond (dz_M245 m op || !decide (B / 256 = A / 256)) 5 4), m5, ?_, ?_, b4.trans c8⟩
      · cases dz_M245 m op <;> cases decide (B / 256 = A / 256) <;> cases dz_M202 m op 14 15 <;> cases dz_M202 m op 18 19 <;> rfl
      · cases dz_M245 m op <;> cases decide (B / 256 = A / 256) <;> cases dz_M202 m op 14 15 <;> cases dz_M202 m op 18 19 <;> rfl
    · rw [show mode = 6 from Int32.toInt_inj.mp f]
      refine ⟨cond (dz_M202 m op 14 15 || dz_M202 m op 18 19) (cond (dz_M245 m op || !decide (B / 256 = A / 256)) 8 7) (cond (dz_M245 m op || !decide (B / 256 = A / 256)) 6 5), m5, ?_, ?_, b4.trans c8⟩
      · cases dz_M245 m op <;> cases decide (B / 256 = A / 256) <;> cases dz_M202 m op 14 15 <;> cases dz_M202 m op 18 19 <;> rfl
      · cases dz_M245 m op <;> cases decide (B / 256 = A / 256) <;> cases dz_M202 m op 14 15 <;> cases dz_M202 m op 18 19 <;> rfl
/-- where a branch goes -/
theorem q_targ (h : q_R TT x m) (hI : q_Iv c d w m) (hP : x.2.1 23 4 = m.1 14 4) : ∃ v m2, dz_N90_65 x (dz_N140_87 x 1) = some v ∧ dz_M253_64 m (m.1 14 4) = some (m2, dz_N139_87 x v) ∧ q_eq33 m m2 ∧ q_R TT x m2 ∧ q_Iv c d w m2 := by
  obtain ⟨v, m2, a1, a2, a3, a4, a5, a6⟩ := q_byte h hI (m.1 14 4 + 1)
  refine ⟨v, m2, ?_, ?_, a3, a4, a5⟩
  · unfold dz_N140_87
    rw [hP]
    exact a1
  · unfold dz_M253_64 dz_N139_87 dz_N193 q_let
    rw [a2, Option.bind_some, hP]
    dsimp only
    cases decide (127 < v) <;> rfl
theorem q_cyc1 (h : q_R TT x m) (hI : q_Iv c d w m) (hP : x.2.1 23 4 = m.1 14 4) : ∃ n m2, dz_N137_87_65 x = some n ∧ dz_M254_64 m (m.1 14 4) = some (m2, n) ∧ q_eq33 m m2 := by
  obtain ⟨v, m1, a1, a2, a3, a4, a5, a6⟩ := q_byte h hI (m.1 14 4)
  rw [q_a12 (hI.1 14 4)] at a1
  have P1 : x.2.1 23 4 = m1.1 14 4 := by rw [a3.1 14 rfl]; exact hP
  obtain ⟨t1, t2, t3, t4, t5, t6⟩ := q_code x m1 a6
  have i252 : q_rgz 160 167 v → dz_N161_87 x v = dz_M252_64 m1 v := fun q => q_taken a4 a5 q
  unfold dz_N137_87_65 dz_M254_64 q_let
  rw [hP, a1, a2, Option.bind_some, Option.bind_some]
  dsimp only
  rw [t1, t3]
  cases hb : dz_M202 m1 v 160 167 with
  | true =>
    have rb := q_p202 hb (q_rg_lit (n := 160) rfl) (q_rg_lit (n := 167) rfl)
    rw [t4 (by rw [t3]; exact hb)]
    obtain ⟨u, m2, c1, c2, c3, c4, c5⟩ := q_targ a4 a5 P1
    rw [a3.1 14 rfl] at c2
    rw [cond_true, cond_true, cond_true, c1, Option.bind_some]
    unfold dz_N138_87 q_let
    dsimp only
    rw [i252 rb]
    cases dz_M252_64 m1 v with
    | false => exact ⟨2, m1, rfl, rfl, a3⟩
    | true =>
      rw [cond_true, cond_true, c2, Option.bind_some]
      have s2 : dz_N140_87 x 2 = dz_M213 m1 (m.1 14 4 + 2) := by unfold dz_N140_87 dz_M213; rw [hP]
      have sym : decide (dz_N139_87 x u / 256 = dz_N140_87 x 2 / 256) = decide (dz_M213 m1 (m.1 14 4 + 2) / 256 = dz_N139_87 x u / 256) := by
        rw [s2]
        by_cases q : dz_N139_87 x u / 256 = dz_M213 m1 (m.1 14 4 + 2) / 256
        · rw [decide_eq_true q, decide_eq_true q.symm]
        · rw [decide_eq_false q, decide_eq_false (fun t => q t.symm)]
      rw [sym]
      cases decide (dz_M213 m1 (m.1 14 4 + 2) / 256 = dz_N139_87 x u / 256) with
      | true => exact ⟨3, m2, rfl, rfl, a3.trans c3⟩
      | false => exact ⟨4, m2, rfl, rfl, a3.trans c3⟩
  | false =>
    rw [cond_false]
    cases ho : decide (dz_M244 m1 v < 0) with
    | true =>
      rw [cond_true, cond_true, cond_false, t5 ho (by rw [t3]; exact hb)]
      refine ⟨q_oc v, m1, rfl, ?_, a3⟩
      unfold q_oc
      cases decide (v = 138) <;> cases decide (v = 140) <;> cases decide (v = 157) <;> cases decide (v = 139) <;> cases decide (v = 141) <;> cases decide (v = 159) <;> cases decide (v = 155) <;> cases decide (v = 156) <;> cases decide (v = 158) <;> cases decide (v = 154) <;> rfl
    | false =>
      rw [cond_false, cond_false]
      have ro := t6 ho
      have e7 := q_m7z a6
      have r7 := q_rg_and v 7 (U := 7) (by decide) rfl
      obtain ⟨n, m2, d1, d2, d3⟩ := q_mcy a4 a5 P1 (dz_M244 m1 v) (v &&& 7) ro r7
      rw [a3.1 14 rfl] at d2
      rw [e7, d2]
      exact ⟨n, m2, d1, rfl, a3.trans d3⟩
theorem q_o2r : ∀ n, n < 8 → q_rgz 2 6 (q_o2.getD n 0) := by
  unfold q_rgz
  decide
theorem q_o3r : ∀ n, n < 32 → q_rgz 2 7 (q_o3.getD n 0) := by
  unfold q_rgz
  decide
theorem q_r29 {v : Int32} (n : Nat) (e : v.toInt = (n : Int)) (h1 : 2 ≤ n) (h2 : n ≤ 9) : q_rgz 2 9 v := ⟨by omega, by omega⟩
theorem q_127 (s : q_S) (v3 v4 v5 : Int32) : ∃ n, dz_N137_87_65_127 s v3 v4 v5 = some n ∧ q_rgz 2 9 n := by
  have r := q_rg_and v4 7 (U := 7) (by decide) rfl
  have r0 := r.1
  have r1 := r.2
  have t := q_o2r (v4 &&& 7).toNatClampNeg (by have : (v4 &&& 7).toNatClampNeg = (v4 &&& 7).toInt.toNat := rfl; omega)
  have e : dz_N191 s v4 = q_o2.getD (v4 &&& 7).toNatClampNeg 0 := rfl
  rw [← e] at t
  have t0 := t.1
  have t1 := t.2
  have z0 : (0 : Int32).toInt = 0 := rfl
  have z1 : (1 : Int32).toInt = 1 := rfl
  have z2 : (2 : Int32).toInt = 2 := rfl
  have add : ∀ a b : Int32, q_rgz 0 1 a → q_rgz 0 2 b → q_rgz 2 9 ((dz_N191 s v4 + a) + b) := fun a b ha hb => by
    have a0 := ha.1
    have a1 := ha.2
    have b0 := hb.1
    have b1 := hb.2
    have e1 : (dz_N191 s v4 + a).toInt = (dz_N191 s v4).toInt + a.toInt := q_addI ⟨by omega, by omega⟩ ⟨by omega, by omega⟩
    have e2 : ((dz_N191 s v4 + a) + b).toInt = (dz_N191 s v4).toInt + a.toInt + b.toInt := by rw [q_addI ⟨by omega, by omega⟩ ⟨by omega, by omega⟩, e1]
    exact ⟨by omega, by omega⟩
  unfold dz_N137_87_65_127 q_let
  dsimp only
  cases decide (v5 = 0) with
  | true =>
    rw [cond_true]
    cases dz_N189 s v3 with
    | true => exact ⟨_, rfl, add 0 2 ⟨by decide, by decide⟩ ⟨by decide, by decide⟩⟩
    | false => exact ⟨_, rfl, add 0 0 ⟨by decide, by decide⟩ ⟨by decide, by decide⟩⟩
  | false =>
    rw [cond_false]
    cases dz_N189 s v3 with
    | true => exact ⟨_, rfl, add 1 2 ⟨by decide, by decide⟩ ⟨by decide, by decide⟩⟩
    | false => exact ⟨_, rfl, add 1 0 ⟨by decide, by decide⟩ ⟨by decide, by decide⟩⟩
theorem q_192 (s : q_S) (v : Int32) : q_rgz 2 9 (dz_N192 s v) := by
  have z0 : (0 : Int32).toInt = 0 := rfl
  have z32 : (32 : Int32).toInt = 32 := rfl
  unfold dz_N192
  by_cases k : (v - 128).toInt < 0
  · rw [q_lt_T (show (v - 128).toInt < (0 : Int32).toInt by omega), cond_true]
    exact ⟨by decide, by decide⟩
  · rw [q_lt_F (show (0 : Int32).toInt ≤ (v - 128).toInt by omega), cond_false]
    by_cases k2 : (v - 128).toInt < 32
    · rw [q_lt_T (show (v - 128).toInt < (32 : Int32).toInt by omega), cond_true]
      exact q_rg_le (q_o3r (v - 128).toNatClampNeg (by have : (v - 128).toNatClampNeg = (v - 128).toInt.toNat := rfl; omega)) (by decide) (by decide)
    · rw [q_lt_F (show (32 : Int32).toInt ≤ (v - 128).toInt by omega), cond_false]
      exact ⟨by decide, by decide⟩
theorem q_138 (s : q_S) (v u : Int32) : q_rgz 2 9 (dz_N138_87 s v u) := by
  unfold dz_N138_87 q_let
  dsimp only
  cases dz_N161_87 s v with
  | false => rw [cond_false]; exact ⟨by decide, by decide⟩
  | true =>
    rw [cond_true]
    cases decide (dz_N139_87 s u / 256 = dz_N140_87 s 2 / 256) with
    | true => exact ⟨by decide, by decide⟩
    | false => exact ⟨by decide, by decide⟩
/-- an instruction takes two cycles or more -/
theorem q_cpos {n : Int32} (e : dz_N137_87_65 x = some n) : q_rgz 2 9 n := by
  have i127 : ∀ v3 v4 v5 : Int32, dz_N137_87_65_127 x v3 v4 v5 = some n → q_rgz 2 9 n := fun v3 v4 v5 q => by
    obtain ⟨k, a1, a2⟩ := q_127 x v3 v4 v5
    rw [a1] at q
    cases q
    exact a2
  unfold dz_N137_87_65 at e
  cases h1 : dz_N90_65 x (x.2.1 23 4) with
  | none => rw [h1] at e; cases e
  | some v =>
    rw [h1, Option.bind_some] at e
    unfold q_let at e
    dsimp only at e
    cases h2 : dz_N187 x v with
    | true =>
      rw [h2, cond_true] at e
      cases h3 : dz_N90_65 x (dz_N140_87 x 1) with
      | none => rw [h3] at e; cases e
      | some u =>
        rw [h3, Option.bind_some] at e
        cases e
        exact q_138 x v u
    | false =>
      rw [h2, cond_false] at e
      cases h3 : decide (dz_N186 x v < 0) with
      | true =>
        rw [h3, cond_true] at e
        cases e
        exact q_192 x v
      | false =>
        rw [h3, cond_false] at e
        cases h4 : decide (v &&& 7 = 0) with
        | true =>
          rw [h4, cond_true] at e
          cases e
          exact ⟨by decide, by decide⟩
        | false =>
          rw [h4, cond_false] at e
          cases h5 : decide (v &&& 7 < 4) with
          | true => rw [h5, cond_true] at e; exact i127 _ _ _ e
          | false =>
            rw [h5, cond_false] at e
            cases h6 : decide (6 < v &&& 7) with
            | true => rw [h6, cond_true] at e; exact i127 _ _ _ e
            | false =>
              rw [h6, cond_false] at e
              cases h7 : dz_N145_87_65 x (v &&& 7) with
              | none => rw [h7] at e; cases e
              | some B =>
                rw [h7, Option.bind_some] at e
                cases h8 : dz_N188 x (dz_N186 x v) with
                | true => rw [h8, cond_true] at e; exact i127 _ _ _ e
                | false =>
                  rw [h8, cond_false] at e
                  cases h9 : decide (((B + dz_N143_87 x (v &&& 7)) &&& 4095) / 256 = B / 256) with
                  | true => rw [h9, cond_true] at e; exact i127 _ _ _ e
                  | false => rw [h9, cond_false] at e; exact i127 _ _ _ e
end
end
section
section
variable {TT : (Nat → Int32) → Int32 → (Nat → Int32) → Int32 → Int64 → Int64 → List Int32 → List (Nat → Int32) → (Nat → Int64) → Prop} {x y z m : q_S} {c d w : Int}
theorem q_R_vec (h : q_R TT x m) (v : Int32) : q_R TT (q_sI x 23 8 v) (q_sA m 14 (upd (m.1 14) 18 v)) := by
  obtain ⟨h1, h2, h3, h4, h5, ⟨p1, p2, p3, p4, p5, p6⟩, h7, h8⟩ := h
  exact ⟨h1, h2, h3, h4, h5, ⟨p1, p2, p3, p4, rfl, p6⟩, h7, h8⟩
theorem q_R_left (h : q_R TT x m) (hJ : x.2.1 23 7 = 0) (v : Int32) (hv : q_rgz 0 9 v) : q_R TT (q_sI x 23 9 v) (q_sA m 14 (upd (m.1 14) 17 v)) := by
  obtain ⟨h1, h2, h3, h4, h5, ⟨p1, p2, p3, p4, p5, p6, p7, p8, p9, p10, p11⟩, h7, h8⟩ := h
  exact ⟨h1, h2, h3, h4, h5, ⟨p1, p2, p3, p4, p5, rfl, p7, p8, p9, p10, ⟨Or.inl hJ, hv⟩⟩, h7, h8⟩
theorem q_R_fz (h : q_R TT x m) (b : Bool) : q_R TT (q_sI x 23 6 (q_b b)) (q_sA m 15 (upd (m.1 15) 6 (vp_nar .boolean (q_b b)))) := by
  have e : vp_nar .boolean (q_b b) = q_b b := by cases b <;> decide
  rw [e]
  obtain ⟨h1, h2, h3, h4, h5, ⟨p1, p2, p3, p4, p5, p6, p7, p8, p9, p10, p11⟩, h7, h8⟩ := h
  exact ⟨h1, h2, h3, h4, h5, ⟨p1, p2, rfl, p4, p5, p6, p7, p8, p9, p10, p11⟩, h7, h8⟩
theorem q_Iv_n (hI : q_Iv c d w m) (k : Nat) (v : Int32) (hv : q_rgz (q_la 14 k) (q_ha d 14 k) v) : q_Iv c d w (q_sA m 14 (upd (m.1 14) k v)) := q_Iv_A (i := 14) hI (q_hf_up (hI.1 14) hv)
/-- an instruction or an interrupt begins -/
theorem q_beg (h : q_R TT x m) (hI : q_Iv c d w m) (hJ : x.2.1 23 7 = 0) : ∃ y m2, dz_N136_87_65 x = some y ∧ dz_M277_64 m = some m2 ∧ q_R TT y m2 ∧ q_Iv c d w m2 ∧ y.2.1 23 7 = 0 ∧ q_rgz 2 9 (y.2.1 23 9) := by
  obtain ⟨m9, e9, i9⟩ := dzj_M277_64 c d w m hI
  suffices H : ∃ y m2, dz_N136_87_65 x = some y ∧ dz_M277_64 m = some m2 ∧ q_R TT y m2 ∧ y.2.1 23 7 = 0 ∧ q_rgz 2 9 (y.2.1 23 9) by
    obtain ⟨y, m2, a1, a2, a3, a4⟩ := H
    rw [e9] at a2
    cases a2
    exact ⟨y, m9, a1, e9, a3, i9, a4⟩
  have g11 : x.1 4 11 = m.1 4 11 := h.g 11
  have g10 : x.1 4 10 = m.1 14 9 := h.r2.2.1
  have fI := q_fbit h hI 2 3 (by omega) (p := 4) rfl
  have fz : x.2.1 23 6 = m.1 15 6 := h.r6.2.2.1
  have frz : ∃ y m2, some (q_sI (q_sI (q_sI x 23 6 0) 23 8 3834) 23 9 7) = some y ∧ dz_M277_64_75 (q_sA (q_sA m 14 (upd (m.1 14) 18 3834)) 15 (upd (m.1 15) 6 (vp_nar .boolean 0))) = some m2 ∧ q_R TT y m2 ∧ y.2.1 23 7 = 0 ∧ q_rgz 2 9 (y.2.1 23 9) := by
    refine ⟨_, _, rfl, rfl, ?_, hJ, ⟨by show 2 ≤ (7 : Int32).toInt; decide, by show (7 : Int32).toInt ≤ 9; decide⟩⟩
    have t := q_R_left (q_R_vec (q_R_fz h false) 3834) hJ 7 ⟨by decide, by decide⟩
    exact t
  have irq : ∃ y m2, some (q_sI (q_sI x 23 8 3838) 23 9 7) = some y ∧ dz_M277_64_75 (q_sA m 14 (upd (m.1 14) 18 3838)) = some m2 ∧ q_R TT y m2 ∧ y.2.1 23 7 = 0 ∧ q_rgz 2 9 (y.2.1 23 9) :=
    ⟨_, _, rfl, rfl, q_R_left (q_R_vec h 3838) hJ 7 ⟨by decide, by decide⟩, hJ, ⟨by show 2 ≤ (7 : Int32).toInt; decide, by show (7 : Int32).toInt ≤ 9; decide⟩⟩
  have ins : ∃ y m2, ((dz_N137_87_65 (q_sI x 23 8 0)).bind fun r159 => some (q_sI (q_sI x 23 8 0) 23 9 r159)) = some y ∧ dz_M277_64_75 (q_sA m 14 (upd (m.1 14) 18 0)) = some m2 ∧ q_R TT y m2 ∧ y.2.1 23 7 = 0 ∧ q_rgz 2 9 (y.2.1 23 9) := by
    have R1 := q_R_vec h 0
    have I1 : q_Iv c d w (q_sA m 14 (upd (m.1 14) 18 0)) := q_Iv_n hI 18 0 ⟨by show (0 : Int) ≤ 0; decide, by show (0 : Int) ≤ 4095; decide⟩
    obtain ⟨n, m2, a1, a2, a3⟩ := q_cyc1 R1 I1 (h.r6.2.1 hJ)
    refine ⟨q_sI (q_sI x 23 8 0) 23 9 n, q_sA m2 14 (upd (m2.1 14) 17 n), ?_, ?_, ?_, hJ, q_cpos a1⟩
    · rw [a1]; rfl
    · unfold dz_M277_64_75
      show ((dz_M254_64 (q_sA m 14 (upd (m.1 14) 18 0)) (m.1 14 4)).bind fun r669 => some (q_sA r669.1 14 (upd (r669.1.1 14) 17 r669.2))) = _
      have a2' : dz_M254_64 (q_sA m 14 (upd (m.1 14) 18 0)) (m.1 14 4) = some (m2, n) := a2
      rw [a2']; rfl
    · exact q_R_left (q_R_33 R1 a3) hJ n (q_rg_le (q_cpos a1) (by decide) (by decide))
  unfold dz_N136_87_65 dz_M277_64
  rw [g10, g11, hJ, fz, fI]
  cases decide ((m.1 14 9) &&& (m.1 4 11) = 0) with
  | true =>
    cases decide (m.1 15 6 = 0) with
    | true => exact ins
    | false => exact frz
  | false =>
    cases decide (m.1 15 6 = 0) with
    | false => exact frz
    | true =>
      cases decide (m.1 15 3 = 0) with
      | true => exact irq
      | false => exact ins
end
end
section
section
variable {TT : (Nat → Int32) → Int32 → (Nat → Int32) → Int32 → Int64 → Int64 → List Int32 → List (Nat → Int32) → (Nat → Int64) → Prop} {x y z m : q_S} {c d w : Int}
/-! the flags: a byte of the class, six truths of the model -/
def q_F (C Z I D V N : Bool) : Int32 := q_b C + 2 * q_b Z + 4 * q_b I + 8 * q_b D + 64 * q_b V + 128 * q_b N
set_option maxRecDepth 16384 in
theorem q_Ft : ∀ C Z I D V N, q_F C Z I D V N ||| 1 = q_F true Z I D V N ∧ q_F C Z I D V N &&& ((1 : Int32) ^^^ (-1)) = q_F false Z I D V N ∧ q_F C Z I D V N ||| 8 = q_F C Z I true V N ∧ q_F C Z I D V N &&& ((8 : Int32) ^^^ (-1)) = q_F C Z I false V N ∧ q_F C Z I D V N ||| 4 = q_F C Z true D V N ∧ q_F C Z I D V N &&& ((4 : Int32) ^^^ (-1)) = q_F C Z false D V N ∧ q_F C Z I D V N ||| 64 = q_F C Z I D true N ∧ q_F C Z I D V N &&& ((64 : Int32) ^^^ (-1)) = q_F C Z I D false N ∧ q_F C Z I D V N ||| 2 = q_F C true I D V N ∧ q_F C Z I D V N &&& ((2 : Int32) ^^^ (-1)) = q_F C false I D V N ∧ q_F C Z I D V N ||| 128 = q_F C Z I D V true ∧ q_F C Z I D V N &&& ((128 : Int32) ^^^ (-1)) = q_F C Z I D V false := by decide
set_option maxRecDepth 16384 in
theorem q_Fj : ∀ C Z I D V N, ((q_F C Z I D V N &&& (-131)) ||| 2) ||| 128 = q_F C true I D V true ∧ ((q_F C Z I D V N &&& (-131)) ||| 2) ||| 0 = q_F C true I D V false ∧ ((q_F C Z I D V N &&& (-131)) ||| 0) ||| 128 = q_F C false I D V true ∧ ((q_F C Z I D V N &&& (-131)) ||| 0) ||| 0 = q_F C false I D V false := by decide
set_option maxRecDepth 16384 in
theorem q_Fb : ∀ C Z I D V N, q_F C Z I D V N &&& 1 = q_b C ∧ decide (q_F C Z I D V N &&& 8 = 0) = !D ∧ q_F C Z I D V N ||| 32 = (((((q_b C + 2 * q_b Z) + 4 * q_b I) + 8 * q_b D) + 0) + 32) + 64 * q_b V + 128 * q_b N ∧ (q_F C Z I D V N ||| 32) ||| 16 = (((((q_b C + 2 * q_b Z) + 4 * q_b I) + 8 * q_b D) + 16) + 32) + 64 * q_b V + 128 * q_b N := by decide
theorem q_nb (b : Bool) : vp_nar .boolean (q_b b) = q_b b := by cases b <;> decide
theorem q_bOf {a : Int32} (h : q_rgz 0 1 a) : a = q_b (decide (a = 1)) := by
  have a0 := h.1
  have a1 := h.2
  rcases (by omega : a.toInt = 0 ∨ a.toInt = 1) with e | e
  · rw [show a = 0 from Int32.toInt_inj.mp e]; rfl
  · rw [show a = 1 from Int32.toInt_inj.mp e]; rfl
/-- the processor's words alone are changed -/
def q_CX (x y : q_S) : Prop := y.1 = x.1 ∧ y.2.2 = x.2.2 ∧ (∀ i, Nat.beq i 23 = false → y.2.1 i = x.2.1 i) ∧ (∀ k, (Nat.ble k 3 || Nat.beq k 5) = false → y.2.1 23 k = x.2.1 23 k)
def q_CM (m m2 : q_S) : Prop := (∀ i, (Nat.beq i 14 || Nat.beq i 15) = false → m2.1 i = m.1 i) ∧ m2.2 = m.2 ∧ (∀ k, Nat.ble k 3 = false → m2.1 14 k = m.1 14 k) ∧ (∀ k, Nat.ble k 5 = false → m2.1 15 k = m.1 15 k)
/-- what the processor's words are -/
def q_cpu (A X Y S : Int32) (C Z I D V N : Bool) (x m : q_S) : Prop := (x.2.1 23 0 = A ∧ m.1 14 0 = A) ∧ (x.2.1 23 1 = X ∧ m.1 14 1 = X) ∧ (x.2.1 23 2 = Y ∧ m.1 14 2 = Y) ∧ (x.2.1 23 3 = S ∧ m.1 14 3 = S) ∧ x.2.1 23 5 = q_F C Z I D V N ∧ m.1 15 5 = q_b C ∧ m.1 15 4 = q_b Z ∧ m.1 15 3 = q_b I ∧ m.1 15 2 = q_b D ∧ m.1 15 1 = q_b V ∧ m.1 15 0 = q_b N
theorem q_cpu_of (h : q_R TT x m) (hI : q_Iv c d w m) : ∃ A X Y S C Z I D V N, q_cpu A X Y S C Z I D V N x m ∧ q_rgz 0 255 A ∧ q_rgz 0 255 X ∧ q_rgz 0 255 Y ∧ q_rgz 0 255 S := by
  obtain ⟨g0, g1, g2, g3⟩ := h.cpu
  have f := h.r6.2.2.2.2.2.2.2.2.2.1
  have b : ∀ k, k < 6 → m.1 15 k = q_b (decide (m.1 15 k = 1)) := fun k _ => q_bOf (hI.1 15 k)
  refine ⟨_, _, _, _, _, _, _, _, _, _, ⟨⟨g0, rfl⟩, ⟨g1, rfl⟩, ⟨g2, rfl⟩, ⟨g3, rfl⟩, ?_, b 5 (by decide), b 4 (by decide), b 3 (by decide), b 2 (by decide), b 1 (by decide), b 0 (by decide)⟩, hI.1 14 0, hI.1 14 1, hI.1 14 2, hI.1 14 3⟩
  rw [f]
  unfold q_F
  rw [← b 5 (by decide), ← b 4 (by decide), ← b 3 (by decide), ← b 2 (by decide), ← b 1 (by decide), ← b 0 (by decide)]
theorem q_R_C {A X Y S : Int32} {C Z I D V N : Bool} {m2 : q_S} (h : q_R TT x m) (e : q_CX x y) (g : q_CM m m2) (q : q_cpu A X Y S C Z I D V N y m2) : q_R TT y m2 := by
  obtain ⟨e1, e2, e3, e4⟩ := e
  obtain ⟨g1, g2, g3, g4⟩ := g
  obtain ⟨q1, q2, q3, q4, q5, q6, q7, q8, q9, q10, q11⟩ := q
  have h1 := h.r1
  have h2 := h.r2
  have h3 := h.r3
  have h4 := h.r4
  have h5 := h.r5
  have h7 := h.r7
  have h8 := h.r8
  obtain ⟨p1, p2, p3, p4, p5, p6, p7, p8, p9, p10, p11⟩ := h.r6
  unfold q_R1 at h1
  unfold q_R2 at h2
  unfold q_R3 at h3
  unfold q_R4 at h4
  unfold q_R5 at h5
  unfold q_R7 at h7
  unfold q_R8 at h8
  refine ⟨?_, ?_, ?_, ?_, ?_, ⟨⟨by rw [q1.1, q1.2], by rw [q2.1, q2.2], by rw [q3.1, q3.2], by rw [q4.1, q4.2]⟩, ?_, ?_, ?_, ?_, ?_, ?_, ?_, ?_, ?_, ?_⟩, ?_, ?_⟩
  · unfold q_R1; simp only [e1, g1 1 rfl, g1 2 rfl, g1 3 rfl]; exact h1
  · unfold q_R2; simp only [e1, g1 4 rfl, g3 9 rfl, g3 10 rfl, g3 11 rfl]; exact h2
  · unfold q_R3; simp only [e1, g3 7 rfl, g3 8 rfl, g3 5 rfl, g3 6 rfl]; exact h3
  · unfold q_R4; simp only [e1, e3 8 rfl, g1 8 rfl, g3 13 rfl, g3 14 rfl, g3 16 rfl, g3 15 rfl]; exact h4
  · unfold q_R5; simp only [e1, e3 10 rfl, g1 7 rfl, g3 12 rfl]; exact h5
  · rw [e4 7 rfl, e4 4 rfl, g3 4 rfl]; exact p2
  · rw [e4 6 rfl, g4 6 rfl]; exact p3
  · rw [e4 7 rfl, g4 7 rfl]; exact p4
  · rw [e4 8 rfl, g3 18 rfl]; exact p5
  · rw [e4 9 rfl, g3 17 rfl]; exact p6
  · rw [e4 10 rfl, g3 19 rfl]; exact p7
  · exact p8
  · rw [e1, e2, e4 11 rfl, g1 9 rfl, g3 20 rfl, g2, g1 16 rfl, g1 17 rfl, g1 18 rfl, g1 19 rfl, g1 20 rfl, g1 21 rfl, g1 22 rfl, g1 23 rfl, g1 24 rfl, g1 25 rfl, g1 26 rfl, g1 27 rfl, g1 28 rfl, g1 29 rfl, g1 30 rfl, g1 31 rfl, g1 32 rfl]; exact p9
  · rw [q5, q6, q7, q8, q9, q10, q11]; rfl
  · rw [e4 7 rfl, e4 9 rfl]; exact p11
  · unfold q_R7; simp only [e1, g1 10 rfl, g1 11 rfl, g1 12 rfl, g1 13 rfl, g1 6 rfl]; exact h7
  · unfold q_R8; simp only [e1, e2, g2, g1 5 rfl]; exact h8
theorem q_CX_refl (x : q_S) : q_CX x x := ⟨rfl, rfl, fun _ _ => rfl, fun _ _ => rfl⟩
theorem q_CM_refl (x : q_S) : q_CM x x := ⟨fun _ _ => rfl, rfl, fun _ _ => rfl, fun _ _ => rfl⟩
theorem q_CX.trans (h : q_CX x y) (g : q_CX y z) : q_CX x z := ⟨g.1.trans h.1, g.2.1.trans h.2.1, fun i hi => (g.2.2.1 i hi).trans (h.2.2.1 i hi), fun i hi => (g.2.2.2 i hi).trans (h.2.2.2 i hi)⟩
theorem q_CM.trans (h : q_CM x y) (g : q_CM y z) : q_CM x z := ⟨fun i hi => (g.1 i hi).trans (h.1 i hi), g.2.1.trans h.2.1, fun i hi => (g.2.2.1 i hi).trans (h.2.2.1 i hi), fun i hi => (g.2.2.2 i hi).trans (h.2.2.2 i hi)⟩
theorem q_CX_k (k : Nat) (v : Int32) (hk : (Nat.ble k 3 || Nat.beq k 5) = true) : q_CX x (q_sI x 23 k v) := by
  refine ⟨rfl, rfl, fun i hi => q_uI_ne _ _ hi, fun j hj => ?_⟩
  show cond (Nat.beq 23 23) (cond (Nat.beq j k) v (x.2.1 23 j)) (x.2.1 23 j) = _
  cases e : Nat.beq j k with
  | false => rfl
  | true => rw [Nat.eq_of_beq_eq_true e, hk] at hj; cases hj
theorem q_CM_n (k : Nat) (v : Int32) (hk : Nat.ble k 3 = true) : q_CM m (q_sA m 14 (upd (m.1 14) k v)) := by
  refine ⟨fun i hi => q_uA_ne _ _ (q_or2 hi).1, rfl, fun j hj => ?_, fun _ _ => rfl⟩
  show upd (m.1 14) k v j = _
  exact q_upN _ _ (fun e => by rw [e, hk] at hj; cases hj)
theorem q_CM_f (k : Nat) (v : Int32) (hk : Nat.ble k 5 = true) : q_CM m (q_sA m 15 (upd (m.1 15) k v)) := by
  refine ⟨fun i hi => q_uA_ne _ _ (q_or2 hi).2, rfl, fun _ _ => rfl, fun j hj => ?_⟩
  show upd (m.1 15) k v j = _
  exact q_upN _ _ (fun e => by rw [e, hk] at hj; cases hj)
/-- judging a result: z and n -/
theorem q_jud {A X Y S : Int32} {C Z I D V N : Bool} (q : q_cpu A X Y S C Z I D V N x m) (v : Int32) : (dz_N150_87 x v).2 = v ∧ (dz_M261_64 m v).2 = v ∧ q_cpu A X Y S C (decide (v = 0)) I D V (decide (127 < v)) (dz_N150_87 x v).1 (dz_M261_64 m v).1 ∧ q_CX x (dz_N150_87 x v).1 ∧ q_CM m (dz_M261_64 m v).1 := by
  obtain ⟨q1, q2, q3, q4, q5, q6, q7, q8, q9, q10, q11⟩ := q
  obtain ⟨j1, j2, j3, j4⟩ := q_Fj C Z I D V N
  have n1 : vp_nar .boolean 1 = q_b true := by decide
  have n0 : vp_nar .boolean 0 = q_b false := by decide
  unfold dz_N150_87 dz_M261_64 q_let
  rw [q5, j1, j2, j3, j4, n1, n0]
  cases decide (v = 0) <;> cases decide (127 < v) <;> exact ⟨rfl, rfl, ⟨q1, q2, q3, q4, rfl, q6, rfl, q8, q9, q10, rfl⟩, q_CX_k 5 _ rfl, (q_CM_f 4 _ rfl).trans (q_CM_f 0 _ rfl)⟩
end
end
end
