set_option maxHeartbeats 4000000 in
theorem dzj_N151_87  (s : q_S) (hI : q_iN s) (a1 : Int32) (a2 : Int32) : (q_iN) (dz_N151_87 s a1 a2) := by
  refine q_S_of (P := (q_iN)) ?_
  unfold dz_N151_87
  cases h2505 : decide (a1 < a2) with
  | true =>
    have g2506 := (q_rg_ltT1 (l := -2147483648) (U := 2147483646) h2505 (q_rg_full _) (q_rg_full _) (by decide))
    have g2507 := (q_rg_ltT2 (L := -2147483647) (u2 := 2147483647) h2505 (q_rg_full _) (q_rg_full _) (by decide))
    refine q_S_T ?_
    have j2508 := dzj_N149_87_f (s) hI (1)
    refine q_S_L ?_
    generalize dz_N149_87_f s 1 = r1 at j2508 ⊢
    have j2509 := dzj_N150_87 (r1) j2508 ((a1 - a2) &&& 255)
    refine q_S_L ?_
    generalize dz_N150_87 r1 ((a1 - a2) &&& 255) = r2 at j2509 ⊢
    exact q_E_x j2509
  | false =>
    refine q_S_F ?_
    have j2510 := dzj_N149_87_t (s) hI (1)
    refine q_S_L ?_
    generalize dz_N149_87_t s 1 = r3 at j2510 ⊢
    have j2511 := dzj_N150_87 (r3) j2510 ((a1 - a2) &&& 255)
    refine q_S_L ?_
    generalize dz_N150_87 r3 ((a1 - a2) &&& 255) = r4 at j2511 ⊢
    exact q_E_x j2511
set_option maxHeartbeats 4000000 in
theorem dzj_N152_87  (s : q_S) (hI : q_iN s) (a1 : Int32) (a2 : Int32) : (q_iN) (dz_N152_87 s a1 a2) := by
  refine q_S_of (P := (q_iN)) ?_
  unfold dz_N152_87
  cases h2624 : decide (a1 < 0) with
  | true =>
    have g2625 := (q_rg_ltT1 (l := -2147483648) (U := -1) h2624 (q_rg_full _) (q_rg_lit (n := 0) (x := 0) rfl) (by decide))
    refine q_S_T ?_
    exact q_E_x hI
  | false =>
    have g2626 := (q_rg_ltF1 (l2 := 0) (u := 2147483647) h2624 (q_rg_full _) (q_rg_lit (n := 0) (x := 0) rfl))
    refine q_S_F ?_
    cases h2627 : decide (20 < a1) with
    | true =>
      have g2628 := (q_rg_ltT2 (L := 21) (u2 := 2147483647) h2627 (q_rg_lit (n := 20) (x := 20) rfl) g2626 (by decide))
      refine q_S_T ?_
      exact q_E_x hI
    | false =>
      have g2629 := (q_rg_ltF2 (l2 := 0) (u := 20) h2627 (q_rg_lit (n := 20) (x := 20) rfl) g2626)
      refine q_S_F ?_
      cases h2630 : decide (a1 = 0) with
      | true =>
        have g2631 := q_rg_eqT h2630 (q_rg_lit (n := 0) (x := 0) rfl)
        refine q_S_T ?_
        have j2632 := dzj_N150_87 (s) hI (a2)
        refine q_S_L ?_
        generalize dz_N150_87 s a2 = r1 at j2632 ⊢
        exact q_E_x (q_iN_I (i := 23) (m := 0) j2632 (by decide))
      | false =>
        have g2633 := (q_rg_neL (l := 0) (u := 20) (n := 0) (L := 1) h2630 g2629 rfl (by decide) (by decide))
        refine q_S_F ?_
        cases h2634 : decide (a1 = 1) with
        | true =>
          have g2635 := q_rg_eqT h2634 (q_rg_lit (n := 1) (x := 1) rfl)
          refine q_S_T ?_
          have j2636 := dzj_N150_87 (s) hI (a2)
          refine q_S_L ?_
          generalize dz_N150_87 s a2 = r2 at j2636 ⊢
          exact q_E_x (q_iN_I (i := 23) (m := 1) j2636 (by decide))
        | false =>
          have g2637 := (q_rg_neL (l := 1) (u := 20) (n := 1) (L := 2) h2634 g2633 rfl (by decide) (by decide))
          refine q_S_F ?_
          cases h2638 : decide (a1 = 2) with
          | true =>
            have g2639 := q_rg_eqT h2638 (q_rg_lit (n := 2) (x := 2) rfl)
            refine q_S_T ?_
            have j2640 := dzj_N150_87 (s) hI (a2)
            refine q_S_L ?_
            generalize dz_N150_87 s a2 = r3 at j2640 ⊢
            exact q_E_x (q_iN_I (i := 23) (m := 2) j2640 (by decide))
          | false =>
            have g2641 := (q_rg_neL (l := 2) (u := 20) (n := 2) (L := 3) h2638 g2637 rfl (by decide) (by decide))
            refine q_S_F ?_
            cases h2642 : decide (a1 = 3) with
            | true =>
              have g2643 := q_rg_eqT h2642 (q_rg_lit (n := 3) (x := 3) rfl)
              refine q_S_T ?_
              exact q_E_x hI
            | false =>
              have g2644 := (q_rg_neL (l := 3) (u := 20) (n := 3) (L := 4) h2642 g2641 rfl (by decide) (by decide))
              refine q_S_F ?_
              cases h2645 : decide (a1 = 4) with
              | true =>
                have g2646 := q_rg_eqT h2645 (q_rg_lit (n := 4) (x := 4) rfl)
                refine q_S_T ?_
                exact q_E_x hI
              | false =>
                have g2647 := (q_rg_neL (l := 4) (u := 20) (n := 4) (L := 5) h2645 g2644 rfl (by decide) (by decide))
                refine q_S_F ?_
                cases h2648 : decide (a1 = 5) with
                | true =>
                  have g2649 := q_rg_eqT h2648 (q_rg_lit (n := 5) (x := 5) rfl)
                  refine q_S_T ?_
                  exact q_E_x hI
                | false =>
                  have g2650 := (q_rg_neL (l := 5) (u := 20) (n := 5) (L := 6) h2648 g2647 rfl (by decide) (by decide))
                  refine q_S_F ?_
                  cases h2651 : decide (a1 = 6) with
                  | true =>
                    have g2652 := q_rg_eqT h2651 (q_rg_lit (n := 6) (x := 6) rfl)
                    refine q_S_T ?_
                    have j2653 := dzj_N154_87 (s) hI (a2)
                    refine q_S_L ?_
                    generalize dz_N154_87 s a2 = r4 at j2653 ⊢
                    exact q_E_x j2653
                  | false =>
                    have g2654 := (q_rg_neL (l := 6) (u := 20) (n := 6) (L := 7) h2651 g2650 rfl (by decide) (by decide))
                    refine q_S_F ?_
                    cases h2655 : decide (a1 = 7) with
                    | true =>
                      have g2656 := q_rg_eqT h2655 (q_rg_lit (n := 7) (x := 7) rfl)
                      refine q_S_T ?_
                      have j2657 := dzj_N155_87 (s) hI (a2)
                      refine q_S_L ?_
                      generalize dz_N155_87 s a2 = r5 at j2657 ⊢
                      exact q_E_x j2657
                    | false =>
                      have g2658 := (q_rg_neL (l := 7) (u := 20) (n := 7) (L := 8) h2655 g2654 rfl (by decide) (by decide))
                      refine q_S_F ?_
                      cases h2659 : decide (a1 = 8) with
                      | true =>
                        have g2660 := q_rg_eqT h2659 (q_rg_lit (n := 8) (x := 8) rfl)
                        refine q_S_T ?_
                        have j2661 := dzj_N150_87 (s) hI ((s.2.1 23 0) &&& a2)
                        refine q_S_L ?_
                        generalize dz_N150_87 s ((s.2.1 23 0) &&& a2) = r6 at j2661 ⊢
                        exact q_E_x (q_iN_I (i := 23) (m := 0) j2661 (by decide))
                      | false =>
                        have g2662 := (q_rg_neL (l := 8) (u := 20) (n := 8) (L := 9) h2659 g2658 rfl (by decide) (by decide))
                        refine q_S_F ?_
                        cases h2663 : decide (a1 = 9) with
                        | true =>
                          have g2664 := q_rg_eqT h2663 (q_rg_lit (n := 9) (x := 9) rfl)
                          refine q_S_T ?_
                          have j2665 := dzj_N150_87 (s) hI ((s.2.1 23 0) ||| a2)
                          refine q_S_L ?_
                          generalize dz_N150_87 s ((s.2.1 23 0) ||| a2) = r7 at j2665 ⊢
                          exact q_E_x (q_iN_I (i := 23) (m := 0) j2665 (by decide))
                        | false =>
                          have g2666 := (q_rg_neL (l := 9) (u := 20) (n := 9) (L := 10) h2663 g2662 rfl (by decide) (by decide))
                          refine q_S_F ?_
                          cases h2667 : decide (a1 = 10) with
                          | true =>
                            have g2668 := q_rg_eqT h2667 (q_rg_lit (n := 10) (x := 10) rfl)
                            refine q_S_T ?_
                            have j2669 := dzj_N150_87 (s) hI ((s.2.1 23 0) ^^^ a2)
                            refine q_S_L ?_
                            generalize dz_N150_87 s ((s.2.1 23 0) ^^^ a2) = r8 at j2669 ⊢
                            exact q_E_x (q_iN_I (i := 23) (m := 0) j2669 (by decide))
                          | false =>
                            have g2670 := (q_rg_neL (l := 10) (u := 20) (n := 10) (L := 11) h2667 g2666 rfl (by decide) (by decide))
                            refine q_S_F ?_
                            cases h2671 : decide (a1 = 11) with
                            | true =>
                              have g2672 := q_rg_eqT h2671 (q_rg_lit (n := 11) (x := 11) rfl)
                              refine q_S_T ?_
                              have j2673 := dzj_N151_87 (s) hI (s.2.1 23 0) (a2)
                              refine q_S_L ?_
                              generalize dz_N151_87 s (s.2.1 23 0) a2 = r9 at j2673 ⊢
                              exact q_E_x j2673
                            | false =>
                              have g2674 := (q_rg_neL (l := 11) (u := 20) (n := 11) (L := 12) h2671 g2670 rfl (by decide) (by decide))
                              refine q_S_F ?_
                              cases h2675 : decide (a1 = 12) with
                              | true =>
                                have g2676 := q_rg_eqT h2675 (q_rg_lit (n := 12) (x := 12) rfl)
                                refine q_S_T ?_
                                have j2677 := dzj_N151_87 (s) hI (s.2.1 23 1) (a2)
                                refine q_S_L ?_
                                generalize dz_N151_87 s (s.2.1 23 1) a2 = r10 at j2677 ⊢
                                exact q_E_x j2677
                              | false =>
                                have g2678 := (q_rg_neL (l := 12) (u := 20) (n := 12) (L := 13) h2675 g2674 rfl (by decide) (by decide))
                                refine q_S_F ?_
                                cases h2679 : decide (a1 = 13) with
                                | true =>
                                  have g2680 := q_rg_eqT h2679 (q_rg_lit (n := 13) (x := 13) rfl)
                                  refine q_S_T ?_
                                  have j2681 := dzj_N151_87 (s) hI (s.2.1 23 2) (a2)
                                  refine q_S_L ?_
                                  generalize dz_N151_87 s (s.2.1 23 2) a2 = r11 at j2681 ⊢
                                  exact q_E_x j2681
                                | false =>
                                  have g2682 := (q_rg_neL (l := 13) (u := 20) (n := 13) (L := 14) h2679 g2678 rfl (by decide) (by decide))
                                  refine q_S_F ?_
                                  cases h2683 : decide (a1 = 14) with
                                  | true =>
                                    have g2684 := q_rg_eqT h2683 (q_rg_lit (n := 14) (x := 14) rfl)
                                    refine q_S_T ?_
                                    exact q_E_x hI
                                  | false =>
                                    have g2685 := (q_rg_neL (l := 14) (u := 20) (n := 14) (L := 15) h2683 g2682 rfl (by decide) (by decide))
                                    refine q_S_F ?_
                                    cases h2686 : decide (a1 = 15) with
                                    | true =>
                                      have g2687 := q_rg_eqT h2686 (q_rg_lit (n := 15) (x := 15) rfl)
                                      refine q_S_T ?_
                                      exact q_E_x hI
                                    | false =>
                                      have g2688 := (q_rg_neL (l := 15) (u := 20) (n := 15) (L := 16) h2686 g2685 rfl (by decide) (by decide))
                                      refine q_S_F ?_
                                      cases h2689 : decide (a1 = 16) with
                                      | true =>
                                        have g2690 := q_rg_eqT h2689 (q_rg_lit (n := 16) (x := 16) rfl)
                                        refine q_S_T ?_
                                        have j2691 := dzj_N150_87 (s) hI (a2)
                                        refine q_S_L ?_
                                        generalize dz_N150_87 s a2 = r12 at j2691 ⊢
                                        exact q_E_x (q_iN_I (i := 23) (m := 0) (q_iN_I (i := 23) (m := 1) j2691 (by decide)) (by decide))
                                      | false =>
                                        have g2692 := (q_rg_neL (l := 16) (u := 20) (n := 16) (L := 17) h2689 g2688 rfl (by decide) (by decide))
                                        refine q_S_F ?_
                                        cases h2693 : decide (a1 = 17) with
                                        | true =>
                                          have g2694 := q_rg_eqT h2693 (q_rg_lit (n := 17) (x := 17) rfl)
                                          refine q_S_T ?_
                                          exact q_E_x hI
                                        | false =>
                                          have g2695 := (q_rg_neL (l := 17) (u := 20) (n := 17) (L := 18) h2693 g2692 rfl (by decide) (by decide))
                                          refine q_S_F ?_
                                          cases h2696 : decide (a1 = 18) with
                                          | true =>
                                            have g2697 := q_rg_eqT h2696 (q_rg_lit (n := 18) (x := 18) rfl)
                                            refine q_S_T ?_
                                            exact q_E_x hI
                                          | false =>
                                            have g2698 := (q_rg_neL (l := 18) (u := 20) (n := 18) (L := 19) h2696 g2695 rfl (by decide) (by decide))
                                            refine q_S_F ?_
                                            cases h2699 : decide (a1 = 19) with
                                            | true =>
                                              have g2700 := q_rg_eqT h2699 (q_rg_lit (n := 19) (x := 19) rfl)
                                              refine q_S_T ?_
                                              exact q_E_x hI
                                            | false =>
                                              have g2701 := (q_rg_neL (l := 19) (u := 20) (n := 19) (L := 20) h2699 g2698 rfl (by decide) (by decide))
                                              refine q_S_F ?_
                                              cases h2702 : decide ((s.2.1 23 0) &&& a2 = 0) with
                                              | true =>
                                                have g2703 := q_rg_eqT h2702 (q_rg_lit (n := 0) (x := 0) rfl)
                                                refine q_S_T ?_
                                                have j2704 := dzj_N149_87_t (s) hI (2)
                                                refine q_S_L ?_
                                                generalize dz_N149_87_t s 2 = r13 at j2704 ⊢
                                                cases h2705 : decide (a2 &&& 128 = 0) with
                                                | true =>
                                                  have g2706 := q_rg_eqT h2705 (q_rg_lit (n := 0) (x := 0) rfl)
                                                  refine q_S_T ?_
                                                  have j2707 := dzj_N149_87_f (r13) j2704 (128)
                                                  refine q_S_L ?_
                                                  generalize dz_N149_87_f r13 128 = r14 at j2707 ⊢
                                                  cases h2708 : decide (a2 &&& 64 = 0) with
                                                  | true =>
                                                    have g2709 := q_rg_eqT h2708 (q_rg_lit (n := 0) (x := 0) rfl)
                                                    refine q_S_T ?_
                                                    have j2710 := dzj_N149_87_f (r14) j2707 (64)
                                                    refine q_S_L ?_
                                                    generalize dz_N149_87_f r14 64 = r15 at j2710 ⊢
                                                    exact q_E_x j2710
                                                  | false =>
                                                    have g2711 := (q_rg_neL (l := 0) (u := 64) (n := 0) (L := 1) h2708 (q_rg_and a2 64 (U := 64) (by decide) rfl) rfl (by decide) (by decide))
                                                    refine q_S_F ?_
                                                    have j2712 := dzj_N149_87_t (r14) j2707 (64)
                                                    refine q_S_L ?_
                                                    generalize dz_N149_87_t r14 64 = r16 at j2712 ⊢
                                                    exact q_E_x j2712
                                                | false =>
                                                  have g2713 := (q_rg_neL (l := 0) (u := 128) (n := 0) (L := 1) h2705 (q_rg_and a2 128 (U := 128) (by decide) rfl) rfl (by decide) (by decide))
                                                  refine q_S_F ?_
                                                  have j2714 := dzj_N149_87_t (r13) j2704 (128)
                                                  refine q_S_L ?_
                                                  generalize dz_N149_87_t r13 128 = r17 at j2714 ⊢
                                                  cases h2715 : decide (a2 &&& 64 = 0) with
                                                  | true =>
                                                    have g2716 := q_rg_eqT h2715 (q_rg_lit (n := 0) (x := 0) rfl)
                                                    refine q_S_T ?_
                                                    have j2717 := dzj_N149_87_f (r17) j2714 (64)
                                                    refine q_S_L ?_
                                                    generalize dz_N149_87_f r17 64 = r18 at j2717 ⊢
                                                    exact q_E_x j2717
                                                  | false =>
                                                    have g2718 := (q_rg_neL (l := 0) (u := 64) (n := 0) (L := 1) h2715 (q_rg_and a2 64 (U := 64) (by decide) rfl) rfl (by decide) (by decide))
                                                    refine q_S_F ?_
                                                    have j2719 := dzj_N149_87_t (r17) j2714 (64)
                                                    refine q_S_L ?_
                                                    generalize dz_N149_87_t r17 64 = r19 at j2719 ⊢
                                                    exact q_E_x j2719
                                              | false =>
                                                refine q_S_F ?_
                                                have j2720 := dzj_N149_87_f (s) hI (2)
                                                refine q_S_L ?_
                                                generalize dz_N149_87_f s 2 = r20 at j2720 ⊢
                                                cases h2721 : decide (a2 &&& 128 = 0) with
                                                | true =>
                                                  have g2722 := q_rg_eqT h2721 (q_rg_lit (n := 0) (x := 0) rfl)
                                                  refine q_S_T ?_
                                                  have j2723 := dzj_N149_87_f (r20) j2720 (128)
                                                  refine q_S_L ?_
                                                  generalize dz_N149_87_f r20 128 = r21 at j2723 ⊢
                                                  cases h2724 : decide (a2 &&& 64 = 0) with
                                                  | true =>
                                                    have g2725 := q_rg_eqT h2724 (q_rg_lit (n := 0) (x := 0) rfl)
                                                    refine q_S_T ?_
                                                    have j2726 := dzj_N149_87_f (r21) j2723 (64)
                                                    refine q_S_L ?_
                                                    generalize dz_N149_87_f r21 64 = r22 at j2726 ⊢
                                                    exact q_E_x j2726
                                                  | false =>
                                                    have g2727 := (q_rg_neL (l := 0) (u := 64) (n := 0) (L := 1) h2724 (q_rg_and a2 64 (U := 64) (by decide) rfl) rfl (by decide) (by decide))
                                                    refine q_S_F ?_
                                                    have j2728 := dzj_N149_87_t (r21) j2723 (64)
                                                    refine q_S_L ?_
                                                    generalize dz_N149_87_t r21 64 = r23 at j2728 ⊢
                                                    exact q_E_x j2728
                                                | false =>
                                                  have g2729 := (q_rg_neL (l := 0) (u := 128) (n := 0) (L := 1) h2721 (q_rg_and a2 128 (U := 128) (by decide) rfl) rfl (by decide) (by decide))
                                                  refine q_S_F ?_
                                                  have j2730 := dzj_N149_87_t (r20) j2720 (128)
                                                  refine q_S_L ?_
                                                  generalize dz_N149_87_t r20 128 = r24 at j2730 ⊢
                                                  cases h2731 : decide (a2 &&& 64 = 0) with
                                                  | true =>
                                                    have g2732 := q_rg_eqT h2731 (q_rg_lit (n := 0) (x := 0) rfl)
                                                    refine q_S_T ?_
                                                    have j2733 := dzj_N149_87_f (r24) j2730 (64)
                                                    refine q_S_L ?_
                                                    generalize dz_N149_87_f r24 64 = r25 at j2733 ⊢
                                                    exact q_E_x j2733
                                                  | false =>
                                                    have g2734 := (q_rg_neL (l := 0) (u := 64) (n := 0) (L := 1) h2731 (q_rg_and a2 64 (U := 64) (by decide) rfl) rfl (by decide) (by decide))
                                                    refine q_S_F ?_
                                                    have j2735 := dzj_N149_87_t (r24) j2730 (64)
                                                    refine q_S_L ?_
                                                    generalize dz_N149_87_t r24 64 = r26 at j2735 ⊢
                                                    exact q_E_x j2735
set_option maxHeartbeats 4000000 in
theorem dzj_N144_87_65  (s : q_S) (hI : q_iN s) (a2 : Int32) : q_Ex (dz_N144_87_65 s a2) (fun _ => True) := by
  unfold dz_N144_87_65
  obtain ⟨r2, e2740, j2739⟩ := dzj_N145_87_65 (s) hI (a2)
  rw [e2740]
  refine q_E_B ?_
  have j2741 := dzj_N143_87 (s) hI (a2)
  refine q_E_L ?_
  generalize dz_N143_87 s a2 = r3 at j2741 ⊢
  exact q_E_x trivial
set_option maxHeartbeats 4000000 in
theorem dzj_N93_65  (s : q_S) (hI : q_iN s) (a1 : Int32) : q_Ex (dz_N93_65 s a1) (fun (x : q_S × Int32) => q_iN x.1) := by
  unfold dz_N93_65
  obtain ⟨r2, e2749, j2748⟩ := dzj_N90_65 (s) hI (a1)
  rw [e2749]
  refine q_E_B ?_
  cases h2750 : decide (a1 = 3869) with
  | true =>
    have g2751 := q_rg_eqT h2750 (q_rg_lit (n := 3869) (x := 3869) rfl)
    refine q_E_T ?_
    exact q_E_x (q_iN_A hI)
  | false =>
    refine q_E_F ?_
    cases h2752 : decide (a1 = 3870) with
    | true =>
      have g2753 := q_rg_eqT h2752 (q_rg_lit (n := 3870) (x := 3870) rfl)
      refine q_E_T ?_
      exact q_E_x (q_iN_A hI)
    | false =>
      refine q_E_F ?_
      exact q_E_x hI
set_option maxHeartbeats 4000000 in
theorem dzj_N153_87_65_101  (s : q_S) (hI : q_iN s) (v2 : Int32) (v3 : Int32) (rv2 : q_rgz 14 19 v2) : q_Ex (dz_N153_87_65_101 s v2 v3) (q_iN) := by
  unfold dz_N153_87_65_101
  obtain ⟨r6, e2823, j2822⟩ := dzj_N93_65 (s) hI (v3)
  rw [e2823]
  refine q_E_B ?_
  obtain ⟨r7, e2825, j2824⟩ := dzj_N94_65 (r6.1) j2822 (v3) ((r6.2 + 1) &&& 255)
  rw [e2825]
  refine q_E_B ?_
  cases h2826 : decide (v2 = 18) with
  | true =>
    have g2827 := q_rg_eqT h2826 (q_rg_lit (n := 18) (x := 18) rfl)
    refine q_E_T ?_
    have j2828 := dzj_N151_87 (r7) j2824 (r7.2.1 23 0) ((r6.2 + 1) &&& 255)
    refine q_E_L ?_
    generalize dz_N151_87 r7 (r7.2.1 23 0) ((r6.2 + 1) &&& 255) = r8 at j2828 ⊢
    exact q_E_x j2828
  | false =>
    refine q_E_F ?_
    cases h2829 : decide (v2 = 19) with
    | true =>
      have g2830 := q_rg_eqT h2829 (q_rg_lit (n := 19) (x := 19) rfl)
      refine q_E_T ?_
      have j2831 := dzj_N155_87 (r7) j2824 ((r6.2 + 1) &&& 255)
      refine q_E_L ?_
      generalize dz_N155_87 r7 ((r6.2 + 1) &&& 255) = r9 at j2831 ⊢
      exact q_E_x j2831
    | false =>
      have g2832 := (q_rg_neU (l := 14) (u := 19) (n := 19) (U := 18) h2829 rv2 rfl (by decide) (by decide))
      refine q_E_F ?_
      have j2833 := dzj_N150_87 (r7) j2824 ((r6.2 + 1) &&& 255)
      refine q_E_L ?_
      generalize dz_N150_87 r7 ((r6.2 + 1) &&& 255) = r10 at j2833 ⊢
      exact q_E_x j2833
set_option maxHeartbeats 4000000 in
theorem dzj_N153_87_65  (s : q_S) (hI : q_iN s) (a2 : Int32) (a3 : Int32) : q_Ex (dz_N153_87_65 s a2 a3) (q_iN) := by
  unfold dz_N153_87_65
  cases h2834 : decide (a2 = 3) with
  | true =>
    have g2835 := q_rg_eqT h2834 (q_rg_lit (n := 3) (x := 3) rfl)
    refine q_E_T ?_
    obtain ⟨r2, e2837, j2836⟩ := dzj_N94_65 (s) hI (a3) (s.2.1 23 0)
    rw [e2837]
    refine q_E_B ?_
    exact q_E_x j2836
  | false =>
    refine q_E_F ?_
    cases h2838 : decide (a2 = 4) with
    | true =>
      have g2839 := q_rg_eqT h2838 (q_rg_lit (n := 4) (x := 4) rfl)
      refine q_E_T ?_
      obtain ⟨r3, e2841, j2840⟩ := dzj_N94_65 (s) hI (a3) (s.2.1 23 1)
      rw [e2841]
      refine q_E_B ?_
      exact q_E_x j2840
    | false =>
      refine q_E_F ?_
      cases h2842 : decide (a2 = 5) with
      | true =>
        have g2843 := q_rg_eqT h2842 (q_rg_lit (n := 5) (x := 5) rfl)
        refine q_E_T ?_
        obtain ⟨r4, e2845, j2844⟩ := dzj_N94_65 (s) hI (a3) (s.2.1 23 2)
        rw [e2845]
        refine q_E_B ?_
        exact q_E_x j2844
      | false =>
        refine q_E_F ?_
        cases h2846 : decide (a2 = 17) with
        | true =>
          have g2847 := q_rg_eqT h2846 (q_rg_lit (n := 17) (x := 17) rfl)
          refine q_E_T ?_
          obtain ⟨r5, e2849, j2848⟩ := dzj_N94_65 (s) hI (a3) ((s.2.1 23 0) &&& (s.2.1 23 1))
          rw [e2849]
          refine q_E_B ?_
          exact q_E_x j2848
        | false =>
          refine q_E_F ?_
          cases h2850 : decide (a2 = 14) with
          | true =>
            have g2851 := q_rg_eqT h2850 (q_rg_lit (n := 14) (x := 14) rfl)
            refine q_E_T ?_
            exact dzj_N153_87_65_101 (s) hI (a2) (a3) (q_rg_le (L := 14) (U := 19) g2851 (by decide) (by decide))
          | false =>
            refine q_E_F ?_
            cases h2852 : decide (a2 = 19) with
            | true =>
              have g2853 := q_rg_eqT h2852 (q_rg_lit (n := 19) (x := 19) rfl)
              refine q_E_T ?_
              exact dzj_N153_87_65_101 (s) hI (a2) (a3) (q_rg_le (L := 14) (U := 19) g2853 (by decide) (by decide))
            | false =>
              refine q_E_F ?_
              obtain ⟨r11, e2855, j2854⟩ := dzj_N93_65 (s) hI (a3)
              rw [e2855]
              refine q_E_B ?_
              obtain ⟨r12, e2857, j2856⟩ := dzj_N94_65 (r11.1) j2854 (a3) ((r11.2 + (-1)) &&& 255)
              rw [e2857]
              refine q_E_B ?_
              cases h2858 : decide (a2 = 18) with
              | true =>
                have g2859 := q_rg_eqT h2858 (q_rg_lit (n := 18) (x := 18) rfl)
                refine q_E_T ?_
                have j2860 := dzj_N151_87 (r12) j2856 (r12.2.1 23 0) ((r11.2 + (-1)) &&& 255)
                refine q_E_L ?_
                generalize dz_N151_87 r12 (r12.2.1 23 0) ((r11.2 + (-1)) &&& 255) = r13 at j2860 ⊢
                exact q_E_x j2860
              | false =>
                refine q_E_F ?_
                have j2861 := dzj_N150_87 (r12) j2856 ((r11.2 + (-1)) &&& 255)
                refine q_E_L ?_
                generalize dz_N150_87 r12 ((r11.2 + (-1)) &&& 255) = r14 at j2861 ⊢
                exact q_E_x j2861
set_option maxHeartbeats 4000000 in
theorem dzj_N142_87_65_142  (s : q_S) (hI : q_iN s) (v2 : Int32) (v3 : Int32) (v4 : Int32) (v5 : Int32) (rv4 : q_rgz 0 7 v4) : q_Ex (dz_N142_87_65_142 s v2 v3 v4 v5) (q_iN) := by
  unfold dz_N142_87_65_142
  cases h2927 : decide (v3 < 0) with
  | true =>
    have g2928 := (q_rg_ltT1 (l := -2147483648) (U := -1) h2927 (q_rg_full _) (q_rg_lit (n := 0) (x := 0) rfl) (by decide))
    refine q_E_T ?_
    obtain ⟨r8, e2930, j2929⟩ := dzj_N158_87_65 (s) hI (v2) (v5)
    rw [e2930]
    refine q_E_B ?_
    exact q_E_x (q_iN_I (i := 23) (m := 4) j2929 (by decide))
  | false =>
    have g2931 := (q_rg_ltF1 (l2 := 0) (u := 2147483647) h2927 (q_rg_full _) (q_rg_lit (n := 0) (x := 0) rfl))
    refine q_E_F ?_
    cases h2932 : decide (v4 = 0) with
    | true =>
      have g2933 := q_rg_eqT h2932 (q_rg_lit (n := 0) (x := 0) rfl)
      refine q_E_T ?_
      have j2934 := dzj_N140_87 (s) hI (1)
      refine q_E_L ?_
      generalize dz_N140_87 s 1 = r9 at j2934 ⊢
      obtain ⟨r10, e2936, j2935⟩ := dzj_N90_65 (s) hI (r9)
      rw [e2936]
      refine q_E_B ?_
      have j2937 := dzj_N152_87 (s) hI (v3) (r10)
      refine q_E_L ?_
      generalize dz_N152_87 s v3 r10 = r11 at j2937 ⊢
      exact q_E_x (q_iN_I (i := 23) (m := 4) j2937 (by decide))
    | false =>
      have g2938 := (q_rg_neL (l := 0) (u := 7) (n := 0) (L := 1) h2932 rv4 rfl (by decide) (by decide))
      refine q_E_F ?_
      have j2939 := dzj_N188 (s) hI (v3)
      refine q_E_L ?_
      generalize dz_N188 s v3 = r12 at j2939 ⊢
      cases h2940 : r12 with
      | true =>
        refine q_E_T ?_
        obtain ⟨r13, e2942, j2941⟩ := dzj_N144_87_65 (s) hI (v4)
        rw [e2942]
        refine q_E_B ?_
        obtain ⟨r14, e2944, j2943⟩ := dzj_N153_87_65 (s) hI (v3) (r13)
        rw [e2944]
        refine q_E_B ?_
        exact q_E_x (q_iN_I (i := 23) (m := 4) j2943 (by decide))
      | false =>
        refine q_E_F ?_
        obtain ⟨r15, e2946, j2945⟩ := dzj_N144_87_65 (s) hI (v4)
        rw [e2946]
        refine q_E_B ?_
        obtain ⟨r16, e2948, j2947⟩ := dzj_N93_65 (s) hI (r15)
        rw [e2948]
        refine q_E_B ?_
        have j2949 := dzj_N152_87 (r16.1) j2947 (v3) (r16.2)
        refine q_E_L ?_
        generalize dz_N152_87 r16.1 v3 r16.2 = r17 at j2949 ⊢
        exact q_E_x (q_iN_I (i := 23) (m := 4) j2949 (by decide))
set_option maxHeartbeats 4000000 in
theorem dzj_N142_87_65  (s : q_S) (hI : q_iN s) : q_Ex (dz_N142_87_65 s) (q_iN) := by
  unfold dz_N142_87_65
  cases h2950 : decide (s.2.1 23 8 = 0) with
  | true =>
    have g2951 := q_rg_eqT h2950 (q_rg_lit (n := 0) (x := 0) rfl)
    refine q_E_T ?_
    obtain ⟨r2, e2953, j2952⟩ := dzj_N90_65 (q_sI (q_sA (q_sI s 23 10 ((s.2.1 23 10) + 1)) 24 (upd (s.1 24) (((s.2.1 23 11) &&& 15).toNatClampNeg) (s.2.1 23 4))) 23 11 ((s.2.1 23 11) + 1)) (q_iN_I (i := 23) (m := 11) (q_iN_A (q_iN_I (i := 23) (m := 10) hI (by decide))) (by decide)) (s.2.1 23 4)
    rw [e2953]
    refine q_E_B ?_
    have j2954 := dzj_N186 (q_sI (q_sA (q_sI s 23 10 ((s.2.1 23 10) + 1)) 24 (upd (s.1 24) (((s.2.1 23 11) &&& 15).toNatClampNeg) (s.2.1 23 4))) 23 11 ((s.2.1 23 11) + 1)) (q_iN_I (i := 23) (m := 11) (q_iN_A (q_iN_I (i := 23) (m := 10) hI (by decide))) (by decide)) (r2)
    refine q_E_L ?_
    generalize dz_N186 (q_sI (q_sA (q_sI s 23 10 ((s.2.1 23 10) + 1)) 24 (upd (s.1 24) (((s.2.1 23 11) &&& 15).toNatClampNeg) (s.2.1 23 4))) 23 11 ((s.2.1 23 11) + 1)) r2 = r3 at j2954 ⊢
    have j2955 := dzj_N190 (q_sI (q_sA (q_sI s 23 10 ((s.2.1 23 10) + 1)) 24 (upd (s.1 24) (((s.2.1 23 11) &&& 15).toNatClampNeg) (s.2.1 23 4))) 23 11 ((s.2.1 23 11) + 1)) (q_iN_I (i := 23) (m := 11) (q_iN_A (q_iN_I (i := 23) (m := 10) hI (by decide))) (by decide)) (r2)
    refine q_E_L ?_
    generalize dz_N190 (q_sI (q_sA (q_sI s 23 10 ((s.2.1 23 10) + 1)) 24 (upd (s.1 24) (((s.2.1 23 11) &&& 15).toNatClampNeg) (s.2.1 23 4))) 23 11 ((s.2.1 23 11) + 1)) r2 = r4 at j2955 ⊢
    have j2956 := dzj_N140_87 (q_sI (q_sA (q_sI s 23 10 ((s.2.1 23 10) + 1)) 24 (upd (s.1 24) (((s.2.1 23 11) &&& 15).toNatClampNeg) (s.2.1 23 4))) 23 11 ((s.2.1 23 11) + 1)) (q_iN_I (i := 23) (m := 11) (q_iN_A (q_iN_I (i := 23) (m := 10) hI (by decide))) (by decide)) (r4)
    refine q_E_L ?_
    generalize dz_N140_87 (q_sI (q_sA (q_sI s 23 10 ((s.2.1 23 10) + 1)) 24 (upd (s.1 24) (((s.2.1 23 11) &&& 15).toNatClampNeg) (s.2.1 23 4))) 23 11 ((s.2.1 23 11) + 1)) r4 = r5 at j2956 ⊢
    cases h2957 : decide (r2 = 154) with
    | true =>
      have g2958 := q_rg_eqT h2957 (q_rg_lit (n := 154) (x := 154) rfl)
      refine q_E_T ?_
      obtain ⟨r6, e2960, j2959⟩ := dzj_N148_87_65 (q_sI (q_sA (q_sI s 23 10 ((s.2.1 23 10) + 1)) 24 (upd (s.1 24) (((s.2.1 23 11) &&& 15).toNatClampNeg) (s.2.1 23 4))) 23 11 ((s.2.1 23 11) + 1)) (q_iN_I (i := 23) (m := 11) (q_iN_A (q_iN_I (i := 23) (m := 10) hI (by decide))) (by decide)) (r5) (((s.2.1 23 5) ||| 32) ||| 16) (3838)
      rw [e2960]
      refine q_E_B ?_
      exact q_E_x j2959
    | false =>
      refine q_E_F ?_
      cases h2961 : decide (r3 < 0) with
      | true =>
        have g2962 := (q_rg_ltT1 (l := -2147483648) (U := -1) h2961 (q_rg_full _) (q_rg_lit (n := 0) (x := 0) rfl) (by decide))
        refine q_E_T ?_
        cases h2963 : decide (r2 < 154) with
        | true =>
          have g2964 := (q_rg_ltT1 (l := -2147483648) (U := 153) h2963 (q_rg_full _) (q_rg_lit (n := 154) (x := 154) rfl) (by decide))
          refine q_E_T ?_
          obtain ⟨r7, e2966, j2965⟩ := dzj_N157_87_65 (q_sI (q_sA (q_sI s 23 10 ((s.2.1 23 10) + 1)) 24 (upd (s.1 24) (((s.2.1 23 11) &&& 15).toNatClampNeg) (s.2.1 23 4))) 23 11 ((s.2.1 23 11) + 1)) (q_iN_I (i := 23) (m := 11) (q_iN_A (q_iN_I (i := 23) (m := 10) hI (by decide))) (by decide)) (r2)
          rw [e2966]
          refine q_E_B ?_
          exact q_E_x (q_iN_I (i := 23) (m := 4) j2965 (by decide))
        | false =>
          have g2967 := (q_rg_ltF1 (l2 := 154) (u := 2147483647) h2963 (q_rg_full _) (q_rg_lit (n := 154) (x := 154) rfl))
          refine q_E_F ?_
          exact dzj_N142_87_65_142 (q_sI (q_sA (q_sI s 23 10 ((s.2.1 23 10) + 1)) 24 (upd (s.1 24) (((s.2.1 23 11) &&& 15).toNatClampNeg) (s.2.1 23 4))) 23 11 ((s.2.1 23 11) + 1)) (q_iN_I (i := 23) (m := 11) (q_iN_A (q_iN_I (i := 23) (m := 10) hI (by decide))) (by decide)) (r2) (r3) (r2 &&& 7) (r5) (q_rg_le (L := 0) (U := 7) (q_rg_and r2 7 (U := 7) (by decide) rfl) (by decide) (by decide))
      | false =>
        have g2968 := (q_rg_ltF1 (l2 := 0) (u := 2147483647) h2961 (q_rg_full _) (q_rg_lit (n := 0) (x := 0) rfl))
        refine q_E_F ?_
        exact dzj_N142_87_65_142 (q_sI (q_sA (q_sI s 23 10 ((s.2.1 23 10) + 1)) 24 (upd (s.1 24) (((s.2.1 23 11) &&& 15).toNatClampNeg) (s.2.1 23 4))) 23 11 ((s.2.1 23 11) + 1)) (q_iN_I (i := 23) (m := 11) (q_iN_A (q_iN_I (i := 23) (m := 10) hI (by decide))) (by decide)) (r2) (r3) (r2 &&& 7) (r5) (q_rg_le (L := 0) (U := 7) (q_rg_and r2 7 (U := 7) (by decide) rfl) (by decide) (by decide))
  | false =>
    refine q_E_F ?_
    obtain ⟨r18, e2970, j2969⟩ := dzj_N148_87_65 (q_sI s 23 10 ((s.2.1 23 10) + 1)) (q_iN_I (i := 23) (m := 10) hI (by decide)) (s.2.1 23 4) ((s.2.1 23 5) ||| 32) (s.2.1 23 8)
    rw [e2970]
    refine q_E_B ?_
    exact q_E_x j2969
set_option maxHeartbeats 4000000 in
theorem dzj_N82_64_f_69  (k14 : q_S → Int32 → Int32 → Int32 → Int32 → Int32 → Option (q_S × Int32)) (M14 : Int) (tk14 : ∀ (s : q_S), q_iN s → ∀ (v1 : Int32) (v2 : Int32) (v3 : Int32) (v4 : Int32) (v5 : Int32), q_rgz 0 0 v2 → q_rgz 0 2147483647 v4 → ((2147483647 - v4.toInt).toNat : Int) ≤ M14 → q_Ex (k14 s v1 v2 v3 v4 v5) (fun (x : q_S × Int32) => q_iN x.1)) (s : q_S) (hI : q_iN s) (v1 : Int32) (v2 : Int32) (v3 : Int32) (v4 : Int32) (v5 : Int32) (rv2 : q_rgz 0 0 v2) (rv4 : q_rgz 0 2147483646 v4) (m14 : ((2147483647 - v4.toInt).toNat : Int) ≤ M14 + 1) : q_Ex (dz_N82_64_f_69 k14 s v1 v2 v3 v4 v5) (fun (x : q_S × Int32) => q_iN x.1) := by
  unfold dz_N82_64_f_69
  have j3012 := dzj_N141_87 (s) hI
  refine q_E_L ?_
  generalize dz_N141_87 s = r4 at j3012 ⊢
  cases h3013 : r4.2 with
  | true =>
    refine q_E_T ?_
    obtain ⟨r5, e3015, j3014⟩ := dzj_N142_87_65 (r4.1) j3012
    rw [e3015]
    refine q_E_B ?_
    have j3016 := dzj_N107_65 (r5) j3014
    refine q_E_L ?_
    generalize dz_N107_65 r5 = r6 at j3016 ⊢
    exact tk14 (r6) j3016 (v1) (v2) (v3) (v4 + 1) (v5) (q_rg_le (L := 0) (U := 0) rv2 (by decide) (by decide)) (q_rg_le (L := 0) (U := 2147483647) (q_rg_add (L := 1) (U := 2147483647) rv4 (q_rg_lit (n := 1) (x := 1) rfl) (by decide) (by decide) (by decide) (by decide)) (by decide) (by decide)) (q_meu rv4 m14 (by decide) (by decide))
  | false =>
    refine q_E_F ?_
    have j3017 := dzj_N107_65 (r4.1) j3012
    refine q_E_L ?_
    generalize dz_N107_65 r4.1 = r7 at j3017 ⊢
    exact tk14 (r7) j3017 (v1) (v2) (v3) (v4 + 1) (v5) (q_rg_le (L := 0) (U := 0) rv2 (by decide) (by decide)) (q_rg_le (L := 0) (U := 2147483647) (q_rg_add (L := 1) (U := 2147483647) rv4 (q_rg_lit (n := 1) (x := 1) rfl) (by decide) (by decide) (by decide) (by decide)) (by decide) (by decide)) (q_meu rv4 m14 (by decide) (by decide))
set_option maxHeartbeats 4000000 in
theorem dzj_N82_64_f_35  (k14 : q_S → Int32 → Int32 → Int32 → Int32 → Int32 → Option (q_S × Int32)) (M14 : Int) (tk14 : ∀ (s : q_S), q_iN s → ∀ (v1 : Int32) (v2 : Int32) (v3 : Int32) (v4 : Int32) (v5 : Int32), q_rgz 0 0 v2 → q_rgz 0 2147483647 v4 → ((2147483647 - v4.toInt).toNat : Int) ≤ M14 → q_Ex (k14 s v1 v2 v3 v4 v5) (fun (x : q_S × Int32) => q_iN x.1)) (s : q_S) (hI : q_iN s) (v1 : Int32) (v2 : Int32) (v3 : Int32) (v4 : Int32) (v5 : Int32) (rv2 : q_rgz 0 0 v2) (rv4 : q_rgz 0 2147483646 v4) (m14 : ((2147483647 - v4.toInt).toNat : Int) ≤ M14 + 1) : q_Ex (dz_N82_64_f_35 k14 s v1 v2 v3 v4 v5) (fun (x : q_S × Int32) => q_iN x.1) := by
  unfold dz_N82_64_f_35
  obtain ⟨r1, e3019, j3018⟩ := dzj_N83_64 (s) hI
  rw [e3019]
  refine q_E_B ?_
  cases h3020 : r1.2 with
  | true =>
    refine q_E_T ?_
    have j3021 := dzj_N107_65 (r1.1) j3018
    refine q_E_L ?_
    generalize dz_N107_65 r1.1 = r2 at j3021 ⊢
    exact tk14 (r2) j3021 (v1) (v2) (v3) (v4 + 1) (v5 + 1) (q_rg_le (L := 0) (U := 0) rv2 (by decide) (by decide)) (q_rg_le (L := 0) (U := 2147483647) (q_rg_add (L := 1) (U := 2147483647) rv4 (q_rg_lit (n := 1) (x := 1) rfl) (by decide) (by decide) (by decide) (by decide)) (by decide) (by decide)) (q_meu rv4 m14 (by decide) (by decide))
  | false =>
    refine q_E_F ?_
    cases h3022 : decide (r1.1.2.1 23 9 = 0) with
    | true =>
      have g3023 := q_rg_eqT h3022 (q_rg_lit (n := 0) (x := 0) rfl)
      refine q_E_T ?_
      obtain ⟨r3, e3025, j3024⟩ := dzj_N136_87_65 (r1.1) j3018
      rw [e3025]
      refine q_E_B ?_
      exact dzj_N82_64_f_69 k14 M14 tk14 (r3) j3024 (v1) (v2) (v3) (v4) (v5) (q_rg_le (L := 0) (U := 0) rv2 (by decide) (by decide)) (q_rg_le (L := 0) (U := 2147483646) rv4 (by decide) (by decide)) m14
    | false =>
      refine q_E_F ?_
      exact dzj_N82_64_f_69 k14 M14 tk14 (r1.1) j3018 (v1) (v2) (v3) (v4) (v5) (q_rg_le (L := 0) (U := 0) rv2 (by decide) (by decide)) (q_rg_le (L := 0) (U := 2147483646) rv4 (by decide) (by decide)) m14
set_option maxHeartbeats 4000000 in
theorem dzj_N82_64_f_103  (s : q_S) (hI : q_iN s) (v2 : Int32) (v4 : Int32) (v5 : Int32) (rv2 : q_rgz 0 0 v2) (rv4 : q_rgz 0 2147483647 v4) : q_Ex (dz_N82_64_f_103 s v2 v4 v5) (fun (x : q_S × Int32) => q_iN x.1) := by
  unfold dz_N82_64_f_103
  cases h3026 : decide (v2 = 0) with
  | true =>
    have g3027 := q_rg_eqT h3026 (q_rg_lit (n := 0) (x := 0) rfl)
    refine q_E_T ?_
    exact q_E_x (q_iN_J hI)
  | false =>
    exact (q_rg_no (q_rg_neL (l := 0) (u := 0) (n := 0) (L := 1) h3026 rv2 rfl (by decide) (by decide)) (by decide)).elim
set_option maxHeartbeats 4000000 in
theorem dzjb_N82_64_f_14  (k14 : q_S → Int32 → Int32 → Int32 → Int32 → Int32 → Option (q_S × Int32)) (M14 : Int) (tk14 : ∀ (s : q_S), q_iN s → ∀ (v1 : Int32) (v2 : Int32) (v3 : Int32) (v4 : Int32) (v5 : Int32), q_rgz 0 0 v2 → q_rgz 0 2147483647 v4 → ((2147483647 - v4.toInt).toNat : Int) ≤ M14 → q_Ex (k14 s v1 v2 v3 v4 v5) (fun (x : q_S × Int32) => q_iN x.1)) (s : q_S) (hI : q_iN s) (v1 : Int32) (v2 : Int32) (v3 : Int32) (v4 : Int32) (v5 : Int32) (rv2 : q_rgz 0 0 v2) (rv4 : q_rgz 0 2147483647 v4) (m14 : ((2147483647 - v4.toInt).toNat : Int) ≤ M14 + 1) : q_Ex (cond (decide (v4 < v1)) (cond (decide (v2 = 0)) (dz_N82_64_f_35 k14 s v1 v2 v3 v4 v5) (cond (decide (s.2.1 23 10 = v3)) (dz_N82_64_f_35 k14 s v1 v2 v3 v4 v5) (dz_N82_64_f_103 s v2 v4 v5))) (dz_N82_64_f_103 s v2 v4 v5)) (fun (x : q_S × Int32) => q_iN x.1) := by
  cases h3028 : decide (v4 < v1) with
  | true =>
    have g3029 := (q_rg_ltT1 (l := 0) (U := 2147483646) h3028 rv4 (q_rg_full _) (by decide))
    have g3030 := (q_rg_ltT2 (L := 1) (u2 := 2147483647) h3028 rv4 (q_rg_full _) (by decide))
    refine q_E_T ?_
    cases h3031 : decide (v2 = 0) with
    | true =>
      have g3032 := q_rg_eqT h3031 (q_rg_lit (n := 0) (x := 0) rfl)
      refine q_E_T ?_
      exact dzj_N82_64_f_35 k14 M14 tk14 (s) hI (v1) (v2) (v3) (v4) (v5) (q_rg_le (L := 0) (U := 0) g3032 (by decide) (by decide)) (q_rg_le (L := 0) (U := 2147483646) g3029 (by decide) (by decide)) m14
    | false =>
      exact (q_rg_no (q_rg_neL (l := 0) (u := 0) (n := 0) (L := 1) h3031 rv2 rfl (by decide) (by decide)) (by decide)).elim
  | false =>
    refine q_E_F ?_
    exact dzj_N82_64_f_103 (s) hI (v2) (v4) (v5) (q_rg_le (L := 0) (U := 0) rv2 (by decide) (by decide)) (q_rg_le (L := 0) (U := 2147483647) rv4 (by decide) (by decide))
theorem dzj_N82_64_f_14  : ∀ (m : Nat) (s : q_S) (hI : q_iN s) (v1 : Int32) (v2 : Int32) (v3 : Int32) (v4 : Int32) (v5 : Int32) (rv2 : q_rgz 0 0 v2) (rv4 : q_rgz 0 2147483647 v4), ((2147483647 - v4.toInt).toNat : Int) ≤ (m : Int) → q_Ex (dz_N82_64_f_14 (m + 1) s v1 v2 v3 v4 v5) (fun (x : q_S × Int32) => q_iN x.1) := by
  intro m
  induction m with
  | zero => intro s hI v1 v2 v3 v4 v5 rv2 rv4 hm; rw [dzs_N82_64_f_14]; exact dzjb_N82_64_f_14 (dz_N82_64_f_14 0) (-1) (fun s hI v1 v2 v3 v4 v5 rv2 rv4 hm => absurd hm (by omega)) s hI v1 v2 v3 v4 v5 rv2 rv4 (by omega)
  | succ m ih => intro s hI v1 v2 v3 v4 v5 rv2 rv4 hm; rw [dzs_N82_64_f_14]; exact dzjb_N82_64_f_14 (dz_N82_64_f_14 (m + 1)) (m : Int) (fun s hI v1 v2 v3 v4 v5 rv2 rv4 hm => ih s hI v1 v2 v3 v4 v5 rv2 rv4 hm) s hI v1 v2 v3 v4 v5 rv2 rv4 (by omega)
set_option maxHeartbeats 4000000 in
theorem dzj_N82_64_f  (s : q_S) (hI : q_iN s) (a1 : Int32) : q_Ex (dz_N82_64_f s a1) (fun (x : q_S × Int32) => q_iN x.1) := by
  unfold dz_N82_64_f
  exact dzj_N82_64_f_14 2147483649 (s) hI (a1) (0) (s.2.1 23 10) (0) (0) (q_rg_le (L := 0) (U := 0) (q_rg_lit (n := 0) (x := 0) rfl) (by decide) (by decide)) (q_rg_le (L := 0) (U := 2147483647) (q_rg_lit (n := 0) (x := 0) rfl) (by decide) (by decide)) (q_meu0 (q_rg_lit (n := 0) (x := 0) rfl) (by decide) (by decide))
set_option maxHeartbeats 4000000 in
theorem dzj_N82_64_t_69  (k14 : q_S → Int32 → Int32 → Int32 → Int32 → Int32 → Option (q_S × Int32)) (M14 : Int) (tk14 : ∀ (s : q_S), q_iN s → ∀ (v1 : Int32) (v2 : Int32) (v3 : Int32) (v4 : Int32) (v5 : Int32), q_rgz 1 1 v2 → q_rgz 0 2147483647 v4 → ((2147483647 - v4.toInt).toNat : Int) ≤ M14 → q_Ex (k14 s v1 v2 v3 v4 v5) (fun (x : q_S × Int32) => q_iN x.1)) (s : q_S) (hI : q_iN s) (v1 : Int32) (v2 : Int32) (v3 : Int32) (v4 : Int32) (v5 : Int32) (rv2 : q_rgz 1 1 v2) (rv4 : q_rgz 0 2147483646 v4) (m14 : ((2147483647 - v4.toInt).toNat : Int) ≤ M14 + 1) : q_Ex (dz_N82_64_t_69 k14 s v1 v2 v3 v4 v5) (fun (x : q_S × Int32) => q_iN x.1) := by
  unfold dz_N82_64_t_69
  have j3072 := dzj_N141_87 (s) hI
  refine q_E_L ?_
  generalize dz_N141_87 s = r4 at j3072 ⊢
  cases h3073 : r4.2 with
  | true =>
    refine q_E_T ?_
    obtain ⟨r5, e3075, j3074⟩ := dzj_N142_87_65 (r4.1) j3072
    rw [e3075]
    refine q_E_B ?_
    have j3076 := dzj_N107_65 (r5) j3074
    refine q_E_L ?_
    generalize dz_N107_65 r5 = r6 at j3076 ⊢
    exact tk14 (r6) j3076 (v1) (v2) (v3) (v4 + 1) (v5) (q_rg_le (L := 1) (U := 1) rv2 (by decide) (by decide)) (q_rg_le (L := 0) (U := 2147483647) (q_rg_add (L := 1) (U := 2147483647) rv4 (q_rg_lit (n := 1) (x := 1) rfl) (by decide) (by decide) (by decide) (by decide)) (by decide) (by decide)) (q_meu rv4 m14 (by decide) (by decide))
  | false =>
    refine q_E_F ?_
    have j3077 := dzj_N107_65 (r4.1) j3072
    refine q_E_L ?_
    generalize dz_N107_65 r4.1 = r7 at j3077 ⊢
    exact tk14 (r7) j3077 (v1) (v2) (v3) (v4 + 1) (v5) (q_rg_le (L := 1) (U := 1) rv2 (by decide) (by decide)) (q_rg_le (L := 0) (U := 2147483647) (q_rg_add (L := 1) (U := 2147483647) rv4 (q_rg_lit (n := 1) (x := 1) rfl) (by decide) (by decide) (by decide) (by decide)) (by decide) (by decide)) (q_meu rv4 m14 (by decide) (by decide))
set_option maxHeartbeats 4000000 in
theorem dzj_N82_64_t_35  (k14 : q_S → Int32 → Int32 → Int32 → Int32 → Int32 → Option (q_S × Int32)) (M14 : Int) (tk14 : ∀ (s : q_S), q_iN s → ∀ (v1 : Int32) (v2 : Int32) (v3 : Int32) (v4 : Int32) (v5 : Int32), q_rgz 1 1 v2 → q_rgz 0 2147483647 v4 → ((2147483647 - v4.toInt).toNat : Int) ≤ M14 → q_Ex (k14 s v1 v2 v3 v4 v5) (fun (x : q_S × Int32) => q_iN x.1)) (s : q_S) (hI : q_iN s) (v1 : Int32) (v2 : Int32) (v3 : Int32) (v4 : Int32) (v5 : Int32) (rv2 : q_rgz 1 1 v2) (rv4 : q_rgz 0 2147483646 v4) (m14 : ((2147483647 - v4.toInt).toNat : Int) ≤ M14 + 1) : q_Ex (dz_N82_64_t_35 k14 s v1 v2 v3 v4 v5) (fun (x : q_S × Int32) => q_iN x.1) := by
  unfold dz_N82_64_t_35
  obtain ⟨r1, e3079, j3078⟩ := dzj_N83_64 (s) hI
  rw [e3079]
  refine q_E_B ?_
  cases h3080 : r1.2 with
  | true =>
    refine q_E_T ?_
    have j3081 := dzj_N107_65 (r1.1) j3078
    refine q_E_L ?_
    generalize dz_N107_65 r1.1 = r2 at j3081 ⊢
    exact tk14 (r2) j3081 (v1) (v2) (v3) (v4 + 1) (v5 + 1) (q_rg_le (L := 1) (U := 1) rv2 (by decide) (by decide)) (q_rg_le (L := 0) (U := 2147483647) (q_rg_add (L := 1) (U := 2147483647) rv4 (q_rg_lit (n := 1) (x := 1) rfl) (by decide) (by decide) (by decide) (by decide)) (by decide) (by decide)) (q_meu rv4 m14 (by decide) (by decide))
  | false =>
    refine q_E_F ?_
    cases h3082 : decide (r1.1.2.1 23 9 = 0) with
    | true =>
      have g3083 := q_rg_eqT h3082 (q_rg_lit (n := 0) (x := 0) rfl)
      refine q_E_T ?_
      obtain ⟨r3, e3085, j3084⟩ := dzj_N136_87_65 (r1.1) j3078
      rw [e3085]
      refine q_E_B ?_
      exact dzj_N82_64_t_69 k14 M14 tk14 (r3) j3084 (v1) (v2) (v3) (v4) (v5) (q_rg_le (L := 1) (U := 1) rv2 (by decide) (by decide)) (q_rg_le (L := 0) (U := 2147483646) rv4 (by decide) (by decide)) m14
    | false =>
      refine q_E_F ?_
      exact dzj_N82_64_t_69 k14 M14 tk14 (r1.1) j3078 (v1) (v2) (v3) (v4) (v5) (q_rg_le (L := 1) (U := 1) rv2 (by decide) (by decide)) (q_rg_le (L := 0) (U := 2147483646) rv4 (by decide) (by decide)) m14
set_option maxHeartbeats 4000000 in
theorem dzj_N82_64_t_103  (s : q_S) (hI : q_iN s) (v2 : Int32) (v4 : Int32) (v5 : Int32) (rv2 : q_rgz 1 1 v2) (rv4 : q_rgz 0 2147483647 v4) : q_Ex (dz_N82_64_t_103 s v2 v4 v5) (fun (x : q_S × Int32) => q_iN x.1) := by
  unfold dz_N82_64_t_103
  cases h3086 : decide (v2 = 0) with
  | true =>
    exact (q_rg_no (q_rg_le (L := 1) (U := 0) ⟨rv2.1, (q_rg_eqT h3086 (q_rg_lit (n := 0) (x := 0) rfl)).2⟩ (by decide) (by decide)) (by decide)).elim
  | false =>
    refine q_E_F ?_
    exact q_E_x (q_iN_J hI)
set_option maxHeartbeats 4000000 in
theorem dzjb_N82_64_t_14  (k14 : q_S → Int32 → Int32 → Int32 → Int32 → Int32 → Option (q_S × Int32)) (M14 : Int) (tk14 : ∀ (s : q_S), q_iN s → ∀ (v1 : Int32) (v2 : Int32) (v3 : Int32) (v4 : Int32) (v5 : Int32), q_rgz 1 1 v2 → q_rgz 0 2147483647 v4 → ((2147483647 - v4.toInt).toNat : Int) ≤ M14 → q_Ex (k14 s v1 v2 v3 v4 v5) (fun (x : q_S × Int32) => q_iN x.1)) (s : q_S) (hI : q_iN s) (v1 : Int32) (v2 : Int32) (v3 : Int32) (v4 : Int32) (v5 : Int32) (rv2 : q_rgz 1 1 v2) (rv4 : q_rgz 0 2147483647 v4) (m14 : ((2147483647 - v4.toInt).toNat : Int) ≤ M14 + 1) : q_Ex (cond (decide (v4 < v1)) (cond (decide (v2 = 0)) (dz_N82_64_t_35 k14 s v1 v2 v3 v4 v5) (cond (decide (s.2.1 23 10 = v3)) (dz_N82_64_t_35 k14 s v1 v2 v3 v4 v5) (dz_N82_64_t_103 s v2 v4 v5))) (dz_N82_64_t_103 s v2 v4 v5)) (fun (x : q_S × Int32) => q_iN x.1) := by
  cases h3087 : decide (v4 < v1) with
  | true =>
    have g3088 := (q_rg_ltT1 (l := 0) (U := 2147483646) h3087 rv4 (q_rg_full _) (by decide))
    have g3089 := (q_rg_ltT2 (L := 1) (u2 := 2147483647) h3087 rv4 (q_rg_full _) (by decide))
    refine q_E_T ?_
    cases h3090 : decide (v2 = 0) with
    | true =>
      exact (q_rg_no (q_rg_le (L := 1) (U := 0) ⟨rv2.1, (q_rg_eqT h3090 (q_rg_lit (n := 0) (x := 0) rfl)).2⟩ (by decide) (by decide)) (by decide)).elim
    | false =>
      refine q_E_F ?_
      cases h3091 : decide (s.2.1 23 10 = v3) with
      | true =>
        refine q_E_T ?_
        exact dzj_N82_64_t_35 k14 M14 tk14 (s) hI (v1) (v2) (v3) (v4) (v5) (q_rg_le (L := 1) (U := 1) rv2 (by decide) (by decide)) (q_rg_le (L := 0) (U := 2147483646) g3088 (by decide) (by decide)) m14
      | false =>
        refine q_E_F ?_
        exact dzj_N82_64_t_103 (s) hI (v2) (v4) (v5) (q_rg_le (L := 1) (U := 1) rv2 (by decide) (by decide)) (q_rg_le (L := 0) (U := 2147483647) g3088 (by decide) (by decide))
  | false =>
    refine q_E_F ?_
    exact dzj_N82_64_t_103 (s) hI (v2) (v4) (v5) (q_rg_le (L := 1) (U := 1) rv2 (by decide) (by decide)) (q_rg_le (L := 0) (U := 2147483647) rv4 (by decide) (by decide))
theorem dzj_N82_64_t_14  : ∀ (m : Nat) (s : q_S) (hI : q_iN s) (v1 : Int32) (v2 : Int32) (v3 : Int32) (v4 : Int32) (v5 : Int32) (rv2 : q_rgz 1 1 v2) (rv4 : q_rgz 0 2147483647 v4), ((2147483647 - v4.toInt).toNat : Int) ≤ (m : Int) → q_Ex (dz_N82_64_t_14 (m + 1) s v1 v2 v3 v4 v5) (fun (x : q_S × Int32) => q_iN x.1) := by
  intro m
  induction m with
  | zero => intro s hI v1 v2 v3 v4 v5 rv2 rv4 hm; rw [dzs_N82_64_t_14]; exact dzjb_N82_64_t_14 (dz_N82_64_t_14 0) (-1) (fun s hI v1 v2 v3 v4 v5 rv2 rv4 hm => absurd hm (by omega)) s hI v1 v2 v3 v4 v5 rv2 rv4 (by omega)
  | succ m ih => intro s hI v1 v2 v3 v4 v5 rv2 rv4 hm; rw [dzs_N82_64_t_14]; exact dzjb_N82_64_t_14 (dz_N82_64_t_14 (m + 1)) (m : Int) (fun s hI v1 v2 v3 v4 v5 rv2 rv4 hm => ih s hI v1 v2 v3 v4 v5 rv2 rv4 hm) s hI v1 v2 v3 v4 v5 rv2 rv4 (by omega)
set_option maxHeartbeats 4000000 in
theorem dzj_N82_64_t  (s : q_S) (hI : q_iN s) (a1 : Int32) : q_Ex (dz_N82_64_t s a1) (fun (x : q_S × Int32) => q_iN x.1) := by
  unfold dz_N82_64_t
  exact dzj_N82_64_t_14 2147483649 (s) hI (a1) (1) (s.2.1 23 10) (0) (0) (q_rg_le (L := 1) (U := 1) (q_rg_lit (n := 1) (x := 1) rfl) (by decide) (by decide)) (q_rg_le (L := 0) (U := 2147483647) (q_rg_lit (n := 0) (x := 0) rfl) (by decide) (by decide)) (q_meu0 (q_rg_lit (n := 0) (x := 0) rfl) (by decide) (by decide))
set_option maxHeartbeats 4000000 in
theorem dzjb_N182_74_51  (k7 : q_S → Int32 → Int32 → Int32 → Option (Int32)) (M7 : Int) (tk7 : ∀ (s : q_S), q_iN s → ∀ (v2 : Int32) (v3 : Int32) (v4 : Int32), q_rgz 0 4 v4 → ((4 - v4.toInt).toNat : Int) ≤ M7 → q_Ex (k7 s v2 v3 v4) (fun _ => True)) (k51 : q_S → Int32 → Int32 → Int32 → Int32 → Option (Int32)) (M51 : Int) (tk51 : ∀ (s : q_S), q_iN s → ∀ (v2 : Int32) (v3 : Int32) (v4 : Int32) (v5 : Int32), q_rgz 0 3 v4 → q_rgz 0 4 v5 → ((4 - v4.toInt).toNat : Int) ≤ M7 + 1 → ((4 - v5.toInt).toNat : Int) ≤ M51 → q_Ex (k51 s v2 v3 v4 v5) (fun _ => True)) (s : q_S) (hI : q_iN s) (v2 : Int32) (v3 : Int32) (v4 : Int32) (v5 : Int32) (rv4 : q_rgz 0 3 v4) (rv5 : q_rgz 0 4 v5) (m7 : ((4 - v4.toInt).toNat : Int) ≤ M7 + 1) (m51 : ((4 - v5.toInt).toNat : Int) ≤ M51 + 1) : q_Ex (cond (decide (v5 < 4)) (cond (q_in v5 4) (cond (decide (((s.1 11) (v5.toNatClampNeg)) &&& v3 = 0)) (k51 s v2 v3 v4 (v5 + 1)) (k51 s (v2 ||| ((1 : Int32) <<< (v5 &&& 31))) v3 v4 (v5 + 1))) none) (k7 s v2 v3 (v4 + 1))) (fun _ => True) := by
  cases h3170 : decide (v5 < 4) with
  | true =>
    have g3171 := (q_rg_ltT1 (l := 0) (U := 3) h3170 rv5 (q_rg_lit (n := 4) (x := 4) rfl) (by decide))
    refine q_E_T ?_
    refine q_E_A (q_in_rg g3171 (by decide) (by decide)) ?_
    cases h3172 : decide (((s.1 11) (v5.toNatClampNeg)) &&& v3 = 0) with
    | true =>
      have g3173 := q_rg_eqT h3172 (q_rg_lit (n := 0) (x := 0) rfl)
      refine q_E_T ?_
      exact tk51 (s) hI (v2) (v3) (v4) (v5 + 1) (q_rg_le (L := 0) (U := 3) rv4 (by decide) (by decide)) (q_rg_le (L := 0) (U := 4) (q_rg_add (L := 1) (U := 4) g3171 (q_rg_lit (n := 1) (x := 1) rfl) (by decide) (by decide) (by decide) (by decide)) (by decide) (by decide)) m7 (q_meu g3171 m51 (by decide) (by decide))
    | false =>
      refine q_E_F ?_
      exact tk51 (s) hI (v2 ||| ((1 : Int32) <<< (v5 &&& 31))) (v3) (v4) (v5 + 1) (q_rg_le (L := 0) (U := 3) rv4 (by decide) (by decide)) (q_rg_le (L := 0) (U := 4) (q_rg_add (L := 1) (U := 4) g3171 (q_rg_lit (n := 1) (x := 1) rfl) (by decide) (by decide) (by decide) (by decide)) (by decide) (by decide)) m7 (q_meu g3171 m51 (by decide) (by decide))
  | false =>
    have g3174 := (q_rg_ltF1 (l2 := 4) (u := 4) h3170 rv5 (q_rg_lit (n := 4) (x := 4) rfl))
    refine q_E_F ?_
    exact tk7 (s) hI (v2) (v3) (v4 + 1) (q_rg_le (L := 0) (U := 4) (q_rg_add (L := 1) (U := 4) rv4 (q_rg_lit (n := 1) (x := 1) rfl) (by decide) (by decide) (by decide) (by decide)) (by decide) (by decide)) (q_meu rv4 m7 (by decide) (by decide))
theorem dzj_N182_74_51  (k7 : q_S → Int32 → Int32 → Int32 → Option (Int32)) (M7 : Int) (tk7 : ∀ (s : q_S), q_iN s → ∀ (v2 : Int32) (v3 : Int32) (v4 : Int32), q_rgz 0 4 v4 → ((4 - v4.toInt).toNat : Int) ≤ M7 → q_Ex (k7 s v2 v3 v4) (fun _ => True)) : ∀ (m : Nat) (s : q_S) (hI : q_iN s) (v2 : Int32) (v3 : Int32) (v4 : Int32) (v5 : Int32) (rv4 : q_rgz 0 3 v4) (rv5 : q_rgz 0 4 v5) (m7 : ((4 - v4.toInt).toNat : Int) ≤ M7 + 1), ((4 - v5.toInt).toNat : Int) ≤ (m : Int) → q_Ex (dz_N182_74_51 k7 (m + 1) s v2 v3 v4 v5) (fun _ => True) := by
  intro m
  induction m with
  | zero => intro s hI v2 v3 v4 v5 rv4 rv5 m7 hm; rw [dzs_N182_74_51]; exact dzjb_N182_74_51 k7 M7 tk7 (dz_N182_74_51 k7 0) (-1) (fun s hI v2 v3 v4 v5 rv4 rv5 m7 hm => absurd hm (by omega)) s hI v2 v3 v4 v5 rv4 rv5 m7 (by omega)
  | succ m ih => intro s hI v2 v3 v4 v5 rv4 rv5 m7 hm; rw [dzs_N182_74_51]; exact dzjb_N182_74_51 k7 M7 tk7 (dz_N182_74_51 k7 (m + 1)) (m : Int) (fun s hI v2 v3 v4 v5 rv4 rv5 m7 hm => ih s hI v2 v3 v4 v5 rv4 rv5 m7 hm) s hI v2 v3 v4 v5 rv4 rv5 m7 (by omega)
set_option maxHeartbeats 4000000 in
theorem dzjb_N182_74_16  (k7 : q_S → Int32 → Int32 → Int32 → Option (Int32)) (M7 : Int) (tk7 : ∀ (s : q_S), q_iN s → ∀ (v2 : Int32) (v3 : Int32) (v4 : Int32), q_rgz 0 4 v4 → ((4 - v4.toInt).toNat : Int) ≤ M7 → q_Ex (k7 s v2 v3 v4) (fun _ => True)) (k16 : q_S → Int32 → Int32 → Int32 → Int32 → Option (Int32)) (M16 : Int) (tk16 : ∀ (s : q_S), q_iN s → ∀ (v2 : Int32) (v3 : Int32) (v4 : Int32) (v5 : Int32), q_rgz 0 3 v4 → q_rgz 0 4 v5 → ((4 - v4.toInt).toNat : Int) ≤ M7 + 1 → ((4 - v5.toInt).toNat : Int) ≤ M16 → q_Ex (k16 s v2 v3 v4 v5) (fun _ => True)) (s : q_S) (hI : q_iN s) (v2 : Int32) (v3 : Int32) (v4 : Int32) (v5 : Int32) (rv4 : q_rgz 0 3 v4) (rv5 : q_rgz 0 4 v5) (m7 : ((4 - v4.toInt).toNat : Int) ≤ M7 + 1) (m16 : ((4 - v5.toInt).toNat : Int) ≤ M16 + 1) : q_Ex (cond (decide (v5 < 4)) (cond (decide ((v2 >>> (v5 &&& 31)) &&& 1 = 1)) (cond (q_in v5 4) (k16 s v2 (v3 ||| ((s.1 11) (v5.toNatClampNeg))) v4 (v5 + 1)) none) (k16 s v2 v3 v4 (v5 + 1))) (dz_N182_74_51 k7 5000 s v2 v3 v4 0)) (fun _ => True) := by
  cases h3175 : decide (v5 < 4) with
  | true =>
    have g3176 := (q_rg_ltT1 (l := 0) (U := 3) h3175 rv5 (q_rg_lit (n := 4) (x := 4) rfl) (by decide))
    refine q_E_T ?_
    cases h3177 : decide ((v2 >>> (v5 &&& 31)) &&& 1 = 1) with
    | true =>
      have g3178 := q_rg_eqT h3177 (q_rg_lit (n := 1) (x := 1) rfl)
      refine q_E_T ?_
      refine q_E_A (q_in_rg g3176 (by decide) (by decide)) ?_
      exact tk16 (s) hI (v2) (v3 ||| ((s.1 11) (v5.toNatClampNeg))) (v4) (v5 + 1) (q_rg_le (L := 0) (U := 3) rv4 (by decide) (by decide)) (q_rg_le (L := 0) (U := 4) (q_rg_add (L := 1) (U := 4) g3176 (q_rg_lit (n := 1) (x := 1) rfl) (by decide) (by decide) (by decide) (by decide)) (by decide) (by decide)) m7 (q_meu g3176 m16 (by decide) (by decide))
    | false =>
      have g3179 := (q_rg_neU (l := 0) (u := 1) (n := 1) (U := 0) h3177 (q_rg_and (v2 >>> (v5 &&& 31)) 1 (U := 1) (by decide) rfl) rfl (by decide) (by decide))
      refine q_E_F ?_
      exact tk16 (s) hI (v2) (v3) (v4) (v5 + 1) (q_rg_le (L := 0) (U := 3) rv4 (by decide) (by decide)) (q_rg_le (L := 0) (U := 4) (q_rg_add (L := 1) (U := 4) g3176 (q_rg_lit (n := 1) (x := 1) rfl) (by decide) (by decide) (by decide) (by decide)) (by decide) (by decide)) m7 (q_meu g3176 m16 (by decide) (by decide))
  | false =>
    have g3180 := (q_rg_ltF1 (l2 := 4) (u := 4) h3175 rv5 (q_rg_lit (n := 4) (x := 4) rfl))
    refine q_E_F ?_
    exact dzj_N182_74_51 k7 M7 tk7 4999 (s) hI (v2) (v3) (v4) (0) (q_rg_le (L := 0) (U := 3) rv4 (by decide) (by decide)) (q_rg_le (L := 0) (U := 4) (q_rg_lit (n := 0) (x := 0) rfl) (by decide) (by decide)) m7 (q_meu0 (q_rg_lit (n := 0) (x := 0) rfl) (by decide) (by decide))
theorem dzj_N182_74_16  (k7 : q_S → Int32 → Int32 → Int32 → Option (Int32)) (M7 : Int) (tk7 : ∀ (s : q_S), q_iN s → ∀ (v2 : Int32) (v3 : Int32) (v4 : Int32), q_rgz 0 4 v4 → ((4 - v4.toInt).toNat : Int) ≤ M7 → q_Ex (k7 s v2 v3 v4) (fun _ => True)) : ∀ (m : Nat) (s : q_S) (hI : q_iN s) (v2 : Int32) (v3 : Int32) (v4 : Int32) (v5 : Int32) (rv4 : q_rgz 0 3 v4) (rv5 : q_rgz 0 4 v5) (m7 : ((4 - v4.toInt).toNat : Int) ≤ M7 + 1), ((4 - v5.toInt).toNat : Int) ≤ (m : Int) → q_Ex (dz_N182_74_16 k7 (m + 1) s v2 v3 v4 v5) (fun _ => True) := by
  intro m
  induction m with
  | zero => intro s hI v2 v3 v4 v5 rv4 rv5 m7 hm; rw [dzs_N182_74_16]; exact dzjb_N182_74_16 k7 M7 tk7 (dz_N182_74_16 k7 0) (-1) (fun s hI v2 v3 v4 v5 rv4 rv5 m7 hm => absurd hm (by omega)) s hI v2 v3 v4 v5 rv4 rv5 m7 (by omega)
  | succ m ih => intro s hI v2 v3 v4 v5 rv4 rv5 m7 hm; rw [dzs_N182_74_16]; exact dzjb_N182_74_16 k7 M7 tk7 (dz_N182_74_16 k7 (m + 1)) (m : Int) (fun s hI v2 v3 v4 v5 rv4 rv5 m7 hm => ih s hI v2 v3 v4 v5 rv4 rv5 m7 hm) s hI v2 v3 v4 v5 rv4 rv5 m7 (by omega)
set_option maxHeartbeats 4000000 in
theorem dzjb_N182_74_7  (k7 : q_S → Int32 → Int32 → Int32 → Option (Int32)) (M7 : Int) (tk7 : ∀ (s : q_S), q_iN s → ∀ (v2 : Int32) (v3 : Int32) (v4 : Int32), q_rgz 0 4 v4 → ((4 - v4.toInt).toNat : Int) ≤ M7 → q_Ex (k7 s v2 v3 v4) (fun _ => True)) (s : q_S) (hI : q_iN s) (v2 : Int32) (v3 : Int32) (v4 : Int32) (rv4 : q_rgz 0 4 v4) (m7 : ((4 - v4.toInt).toNat : Int) ≤ M7 + 1) : q_Ex (cond (decide (v4 < 4)) (dz_N182_74_16 k7 5000 s v2 v3 v4 0) (some v3)) (fun _ => True) := by
  cases h3181 : decide (v4 < 4) with
  | true =>
    have g3182 := (q_rg_ltT1 (l := 0) (U := 3) h3181 rv4 (q_rg_lit (n := 4) (x := 4) rfl) (by decide))
    refine q_E_T ?_
    exact dzj_N182_74_16 k7 M7 tk7 4999 (s) hI (v2) (v3) (v4) (0) (q_rg_le (L := 0) (U := 3) g3182 (by decide) (by decide)) (q_rg_le (L := 0) (U := 4) (q_rg_lit (n := 0) (x := 0) rfl) (by decide) (by decide)) m7 (q_meu0 (q_rg_lit (n := 0) (x := 0) rfl) (by decide) (by decide))
  | false =>
    have g3183 := (q_rg_ltF1 (l2 := 4) (u := 4) h3181 rv4 (q_rg_lit (n := 4) (x := 4) rfl))
    refine q_E_F ?_
    exact q_E_x trivial
theorem dzj_N182_74_7  : ∀ (m : Nat) (s : q_S) (hI : q_iN s) (v2 : Int32) (v3 : Int32) (v4 : Int32) (rv4 : q_rgz 0 4 v4), ((4 - v4.toInt).toNat : Int) ≤ (m : Int) → q_Ex (dz_N182_74_7 (m + 1) s v2 v3 v4) (fun _ => True) := by
  intro m
  induction m with
  | zero => intro s hI v2 v3 v4 rv4 hm; rw [dzs_N182_74_7]; exact dzjb_N182_74_7 (dz_N182_74_7 0) (-1) (fun s hI v2 v3 v4 rv4 hm => absurd hm (by omega)) s hI v2 v3 v4 rv4 (by omega)
  | succ m ih => intro s hI v2 v3 v4 rv4 hm; rw [dzs_N182_74_7]; exact dzjb_N182_74_7 (dz_N182_74_7 (m + 1)) (m : Int) (fun s hI v2 v3 v4 rv4 hm => ih s hI v2 v3 v4 rv4 hm) s hI v2 v3 v4 rv4 (by omega)
set_option maxHeartbeats 4000000 in
theorem dzj_N182_74  (s : q_S) (hI : q_iN s) (a1 : Int32) : q_Ex (dz_N182_74 s a1) (fun _ => True) := by
  unfold dz_N182_74
  exact dzj_N182_74_7 4999 (s) hI (a1) (0) (0) (q_rg_le (L := 0) (U := 4) (q_rg_lit (n := 0) (x := 0) rfl) (by decide) (by decide)) (q_meu0 (q_rg_lit (n := 0) (x := 0) rfl) (by decide) (by decide))
set_option maxHeartbeats 4000000 in
theorem dzjb_N181_74_45  (k45 : q_S → Int32 → Int32 → Option (q_S × Int32)) (M45 : Int) (tk45 : ∀ (s : q_S), q_iN s → ∀ (v5 : Int32) (v6 : Int32), q_rgz 0 1 v5 → q_rgz 0 16 v6 → ((16 - v6.toInt).toNat : Int) ≤ M45 → q_Ex (k45 s v5 v6) (fun (x : q_S × Int32) => q_iN x.1)) (s : q_S) (hI : q_iN s) (v5 : Int32) (v6 : Int32) (rv5 : q_rgz 0 1 v5) (rv6 : q_rgz 0 16 v6) (m45 : ((16 - v6.toInt).toNat : Int) ≤ M45 + 1) : q_Ex (cond (decide (15 < v6)) (some (s, v5)) ((dz_N182_74 s v6).bind fun r2 => cond (q_in v6 16) (k45 (q_sA s 12 (upd (s.1 12) (v6.toNatClampNeg) r2)) v5 (v6 + 1)) none)) (fun (x : q_S × Int32) => q_iN x.1) := by
  cases h3221 : decide (15 < v6) with
  | true =>
    have g3222 := (q_rg_ltT2 (L := 16) (u2 := 16) h3221 (q_rg_lit (n := 15) (x := 15) rfl) rv6 (by decide))
    refine q_E_T ?_
    exact q_E_x hI
  | false =>
    have g3223 := (q_rg_ltF2 (l2 := 0) (u := 15) h3221 (q_rg_lit (n := 15) (x := 15) rfl) rv6)
    refine q_E_F ?_
    obtain ⟨r2, e3225, j3224⟩ := dzj_N182_74 (s) hI (v6)
    rw [e3225]
    refine q_E_B ?_
    refine q_E_A (q_in_rg g3223 (by decide) (by decide)) ?_
    exact tk45 (q_sA s 12 (upd (s.1 12) (v6.toNatClampNeg) r2)) (q_iN_A hI) (v5) (v6 + 1) (q_rg_le (L := 0) (U := 1) rv5 (by decide) (by decide)) (q_rg_le (L := 0) (U := 16) (q_rg_add (L := 1) (U := 16) g3223 (q_rg_lit (n := 1) (x := 1) rfl) (by decide) (by decide) (by decide) (by decide)) (by decide) (by decide)) (q_meu g3223 m45 (by decide) (by decide))
theorem dzj_N181_74_45  : ∀ (m : Nat) (s : q_S) (hI : q_iN s) (v5 : Int32) (v6 : Int32) (rv5 : q_rgz 0 1 v5) (rv6 : q_rgz 0 16 v6), ((16 - v6.toInt).toNat : Int) ≤ (m : Int) → q_Ex (dz_N181_74_45 (m + 1) s v5 v6) (fun (x : q_S × Int32) => q_iN x.1) := by
  intro m
  induction m with
  | zero => intro s hI v5 v6 rv5 rv6 hm; rw [dzs_N181_74_45]; exact dzjb_N181_74_45 (dz_N181_74_45 0) (-1) (fun s hI v5 v6 rv5 rv6 hm => absurd hm (by omega)) s hI v5 v6 rv5 rv6 (by omega)
  | succ m ih => intro s hI v5 v6 rv5 rv6 hm; rw [dzs_N181_74_45]; exact dzjb_N181_74_45 (dz_N181_74_45 (m + 1)) (m : Int) (fun s hI v5 v6 rv5 rv6 hm => ih s hI v5 v6 rv5 rv6 hm) s hI v5 v6 rv5 rv6 (by omega)
set_option maxHeartbeats 4000000 in
theorem dzj_N181_74  (s : q_S) (hI : q_iN s) (a1 : Int32) (a2 : Int32) (a3 : Int32) : q_Ex (dz_N181_74 s a1 a2 a3) (fun (x : q_S × Int32) => q_iN x.1) := by
  unfold dz_N181_74
  have j3226 : q_rgz 0 1 ((((s.1 11) ((a1 &&& 3).toNatClampNeg)) >>> (a2 &&& 31)) &&& 1) := (q_rg_and (((s.1 11) ((a1 &&& 3).toNatClampNeg)) >>> (a2 &&& 31)) 1 (U := 1) (by decide) rfl)
  refine q_E_L ?_
  generalize ((((s.1 11) ((a1 &&& 3).toNatClampNeg)) >>> (a2 &&& 31)) &&& 1) = x1 at j3226 ⊢
  exact dzj_N181_74_45 4999 (q_sA s 11 (upd (s.1 11) ((a1 &&& 3).toNatClampNeg) ((((s.1 11) ((a1 &&& 3).toNatClampNeg)) &&& (((1 : Int32) <<< (a2 &&& 31)) ^^^ (-1))) ||| (a3 <<< (a2 &&& 31))))) (q_iN_A hI) (x1) (0) (q_rg_le (L := 0) (U := 1) j3226 (by decide) (by decide)) (q_rg_le (L := 0) (U := 16) (q_rg_lit (n := 0) (x := 0) rfl) (by decide) (by decide)) (q_meu0 (q_rg_lit (n := 0) (x := 0) rfl) (by decide) (by decide))
set_option maxHeartbeats 4000000 in
theorem dzj_N180_74  (s : q_S) (hI : q_iN s) (a1 : Int32) : (fun (x : q_S × Int32) => q_iN x.1) (dz_N180_74 s a1) := by
  refine q_S_of (P := (fun (x : q_S × Int32) => q_iN x.1)) ?_
  unfold dz_N180_74
  exact q_E_x (q_iN_I (i := 10) (m := 2) hI (by decide))
set_option maxHeartbeats 4000000 in
theorem dzj_N175_72  (s : q_S) (hI : q_iN s) (a1 : Int32) : (fun (x : q_S × Int32) => q_iN x.1) (dz_N175_72 s a1) := by
  refine q_S_of (P := (fun (x : q_S × Int32) => q_iN x.1)) ?_
  unfold dz_N175_72
  cases h3233 : decide (s.2.1 8 1 < 0) with
  | true =>
    have g3234 := (q_rg_ltT1 (l := -2147483648) (U := -1) h3233 (q_rg_full _) (q_rg_lit (n := 0) (x := 0) rfl) (by decide))
    refine q_S_T ?_
    exact q_E_x hI
  | false =>
    have g3235 := (q_rg_ltF1 (l2 := 0) (u := 2147483647) h3233 (q_rg_full _) (q_rg_lit (n := 0) (x := 0) rfl))
    refine q_S_F ?_
    cases h3236 : decide (s.2.1 8 1 < 40) with
    | true =>
      have g3237 := (q_rg_ltT1 (l := 0) (U := 39) h3236 g3235 (q_rg_lit (n := 40) (x := 40) rfl) (by decide))
      refine q_S_T ?_
      exact q_E_x (q_iN_I (i := 8) (m := 1) (q_iN_A hI) (by decide))
    | false =>
      have g3238 := (q_rg_ltF1 (l2 := 40) (u := 2147483647) h3236 g3235 (q_rg_lit (n := 40) (x := 40) rfl))
      refine q_S_F ?_
      exact q_E_x hI
set_option maxHeartbeats 4000000 in
theorem dzj_N176_72  (s : q_S) (hI : q_iN s) : (fun (x : q_S × Int32) => q_iN x.1) (dz_N176_72 s) := by
  refine q_S_of (P := (fun (x : q_S × Int32) => q_iN x.1)) ?_
  unfold dz_N176_72
  exact q_E_x (q_iN_I (i := 8) (m := 3) (q_iN_I (i := 8) (m := 2) hI (by decide)) (by decide))
set_option maxHeartbeats 4000000 in
theorem dzj_N79_64  (s : q_S) (hI : q_iN s) (a1 : Int32) (a2 : Int32) (a3 : Int32) (a4 : Int32) : q_Ex (dz_N79_64 s a1 a2 a3 a4) (fun (x : q_S × Int32) => q_iN x.1) := by
  unfold dz_N79_64
  cases h3301 : decide (a1 < 0) with
  | true =>
    have g3302 := (q_rg_ltT1 (l := -2147483648) (U := -1) h3301 (q_rg_full _) (q_rg_lit (n := 0) (x := 0) rfl) (by decide))
    refine q_E_T ?_
    exact q_E_x hI
  | false =>
    have g3303 := (q_rg_ltF1 (l2 := 0) (u := 2147483647) h3301 (q_rg_full _) (q_rg_lit (n := 0) (x := 0) rfl))
    refine q_E_F ?_
    cases h3304 : decide (12 < a1) with
    | true =>
      have g3305 := (q_rg_ltT2 (L := 13) (u2 := 2147483647) h3304 (q_rg_lit (n := 12) (x := 12) rfl) g3303 (by decide))
      refine q_E_T ?_
      exact q_E_x hI
    | false =>
      have g3306 := (q_rg_ltF2 (l2 := 0) (u := 12) h3304 (q_rg_lit (n := 12) (x := 12) rfl) g3303)
      refine q_E_F ?_
      cases h3307 : decide (a1 = 0) with
      | true =>
        have g3308 := q_rg_eqT h3307 (q_rg_lit (n := 0) (x := 0) rfl)
        refine q_E_T ?_
        obtain ⟨r2, e3310, j3309⟩ := dzj_N97_65 (s) hI (a2) (a3)
        rw [e3310]
        refine q_E_B ?_
        exact q_E_x j3309
      | false =>
        have g3311 := (q_rg_neL (l := 0) (u := 12) (n := 0) (L := 1) h3307 g3306 rfl (by decide) (by decide))
        refine q_E_F ?_
        cases h3312 : decide (a1 = 1) with
        | true =>
          have g3313 := q_rg_eqT h3312 (q_rg_lit (n := 1) (x := 1) rfl)
          refine q_E_T ?_
          have j3314 := dzj_N98_65 (s) hI (a2) (a3)
          refine q_E_L ?_
          generalize dz_N98_65 s a2 a3 = r3 at j3314 ⊢
          exact q_E_x j3314
        | false =>
          have g3315 := (q_rg_neL (l := 1) (u := 12) (n := 1) (L := 2) h3312 g3311 rfl (by decide) (by decide))
          refine q_E_F ?_
          cases h3316 : decide (a1 = 2) with
          | true =>
            have g3317 := q_rg_eqT h3316 (q_rg_lit (n := 2) (x := 2) rfl)
            refine q_E_T ?_
            have j3318 := dzj_N99_65 (s) hI ((512 * a2) + a3) (a4)
            refine q_E_L ?_
            generalize dz_N99_65 s ((512 * a2) + a3) a4 = r4 at j3318 ⊢
            exact q_E_x j3318
          | false =>
            have g3319 := (q_rg_neL (l := 2) (u := 12) (n := 2) (L := 3) h3316 g3315 rfl (by decide) (by decide))
            refine q_E_F ?_
            cases h3320 : decide (a1 = 3) with
            | true =>
              have g3321 := q_rg_eqT h3320 (q_rg_lit (n := 3) (x := 3) rfl)
              refine q_E_T ?_
              obtain ⟨r5, e3323, j3322⟩ := dzj_N100_65 (s) hI (a2) (a3) (a4)
              rw [e3323]
              refine q_E_B ?_
              exact q_E_x j3322
            | false =>
              have g3324 := (q_rg_neL (l := 3) (u := 12) (n := 3) (L := 4) h3320 g3319 rfl (by decide) (by decide))
              refine q_E_F ?_
              cases h3325 : decide (a1 = 4) with
              | true =>
                have g3326 := q_rg_eqT h3325 (q_rg_lit (n := 4) (x := 4) rfl)
                refine q_E_T ?_
                have j3327 := dzj_N134_87 (s) hI (a2) (a3)
                refine q_E_L ?_
                generalize dz_N134_87 s a2 a3 = r6 at j3327 ⊢
                exact q_E_x j3327
              | false =>
                have g3328 := (q_rg_neL (l := 4) (u := 12) (n := 4) (L := 5) h3325 g3324 rfl (by decide) (by decide))
                refine q_E_F ?_
                cases h3329 : decide (a1 = 5) with
                | true =>
                  have g3330 := q_rg_eqT h3329 (q_rg_lit (n := 5) (x := 5) rfl)
                  refine q_E_T ?_
                  obtain ⟨r7, e3332, j3331⟩ := dzj_N80_64 (s) hI
                  rw [e3332]
                  refine q_E_B ?_
                  exact q_E_x j3331
                | false =>
                  have g3333 := (q_rg_neL (l := 5) (u := 12) (n := 5) (L := 6) h3329 g3328 rfl (by decide) (by decide))
                  refine q_E_F ?_
                  cases h3334 : decide (a1 = 6) with
                  | true =>
                    have g3335 := q_rg_eqT h3334 (q_rg_lit (n := 6) (x := 6) rfl)
                    refine q_E_T ?_
                    obtain ⟨r8, e3337, j3336⟩ := dzj_N81_64 (s) hI
                    rw [e3337]
                    refine q_E_B ?_
                    exact q_E_x j3336
                  | false =>
                    have g3338 := (q_rg_neL (l := 6) (u := 12) (n := 6) (L := 7) h3334 g3333 rfl (by decide) (by decide))
                    refine q_E_F ?_
                    cases h3339 : decide (a1 = 7) with
                    | true =>
                      have g3340 := q_rg_eqT h3339 (q_rg_lit (n := 7) (x := 7) rfl)
                      refine q_E_T ?_
                      obtain ⟨r9, e3342, j3341⟩ := dzj_N82_64_f (s) hI (a2)
                      rw [e3342]
                      refine q_E_B ?_
                      exact q_E_x j3341
                    | false =>
                      have g3343 := (q_rg_neL (l := 7) (u := 12) (n := 7) (L := 8) h3339 g3338 rfl (by decide) (by decide))
                      refine q_E_F ?_
                      cases h3344 : decide (a1 = 8) with
                      | true =>
                        have g3345 := q_rg_eqT h3344 (q_rg_lit (n := 8) (x := 8) rfl)
                        refine q_E_T ?_
                        obtain ⟨r10, e3347, j3346⟩ := dzj_N82_64_t (s) hI (200)
                        rw [e3347]
                        refine q_E_B ?_
                        exact q_E_x j3346
                      | false =>
                        have g3348 := (q_rg_neL (l := 8) (u := 12) (n := 8) (L := 9) h3344 g3343 rfl (by decide) (by decide))
                        refine q_E_F ?_
                        cases h3349 : decide (a1 = 9) with
                        | true =>
                          have g3350 := q_rg_eqT h3349 (q_rg_lit (n := 9) (x := 9) rfl)
                          refine q_E_T ?_
                          obtain ⟨r11, e3352, j3351⟩ := dzj_N181_74 (s) hI (a2) (a3) (a4)
                          rw [e3352]
                          refine q_E_B ?_
                          exact q_E_x j3351
                        | false =>
                          have g3353 := (q_rg_neL (l := 9) (u := 12) (n := 9) (L := 10) h3349 g3348 rfl (by decide) (by decide))
                          refine q_E_F ?_
                          cases h3354 : decide (a1 = 10) with
                          | true =>
                            have g3355 := q_rg_eqT h3354 (q_rg_lit (n := 10) (x := 10) rfl)
                            refine q_E_T ?_
                            have j3356 := dzj_N180_74 (s) hI (a2)
                            refine q_E_L ?_
                            generalize dz_N180_74 s a2 = r12 at j3356 ⊢
                            exact q_E_x j3356
                          | false =>
                            have g3357 := (q_rg_neL (l := 10) (u := 12) (n := 10) (L := 11) h3354 g3353 rfl (by decide) (by decide))
                            refine q_E_F ?_
                            cases h3358 : decide (a1 = 11) with
                            | true =>
                              have g3359 := q_rg_eqT h3358 (q_rg_lit (n := 11) (x := 11) rfl)
                              refine q_E_T ?_
                              have j3360 := dzj_N175_72 (s) hI (a2)
                              refine q_E_L ?_
                              generalize dz_N175_72 s a2 = r13 at j3360 ⊢
                              exact q_E_x j3360
                            | false =>
                              have g3361 := (q_rg_neL (l := 11) (u := 12) (n := 11) (L := 12) h3358 g3357 rfl (by decide) (by decide))
                              refine q_E_F ?_
                              have j3362 := dzj_N176_72 (s) hI
                              refine q_E_L ?_
                              generalize dz_N176_72 s = r14 at j3362 ⊢
                              exact q_E_x j3362
set_option maxHeartbeats 4000000 in
theorem dzj_N110_96_78  (s : q_S) (hI : q_iN s) : (q_iN) (dz_N110_96_78 s) := by
  refine q_S_of (P := (q_iN)) ?_
  unfold dz_N110_96_78
  exact q_E_x (q_iN_A (q_iN_A hI))
set_option maxHeartbeats 4000000 in
theorem dzjb_N317_98_5  (k5 : q_S → Int32 → Int32 → Int32 → Option (q_S)) (M5 : Int) (tk5 : ∀ (s : q_S), q_iN s → ∀ (v1 : Int32) (v2 : Int32) (v3 : Int32), q_rgz 0 48 v2 → q_rgz 48 48 v3 → ((48 - v2.toInt).toNat : Int) ≤ M5 → q_Ex (k5 s v1 v2 v3) (q_iN)) (s : q_S) (hI : q_iN s) (v1 : Int32) (v2 : Int32) (v3 : Int32) (rv2 : q_rgz 0 48 v2) (rv3 : q_rgz 48 48 v3) (m5 : ((48 - v2.toInt).toNat : Int) ≤ M5 + 1) : q_Ex (cond (decide (v2 < v3)) (cond (q_in v2 48) (k5 (q_sA s 34 (upd (s.1 34) (v2.toNatClampNeg) v1)) v1 (v2 + 1) v3) none) (some s)) (q_iN) := by
  cases h3375 : decide (v2 < v3) with
  | true =>
    have g3376 := (q_rg_ltT1 (l := 0) (U := 47) h3375 rv2 rv3 (by decide))
    refine q_E_T ?_
    refine q_E_A (q_in_rg g3376 (by decide) (by decide)) ?_
    exact tk5 (q_sA s 34 (upd (s.1 34) (v2.toNatClampNeg) v1)) (q_iN_A hI) (v1) (v2 + 1) (v3) (q_rg_le (L := 0) (U := 48) (q_rg_add (L := 1) (U := 48) g3376 (q_rg_lit (n := 1) (x := 1) rfl) (by decide) (by decide) (by decide) (by decide)) (by decide) (by decide)) (q_rg_le (L := 48) (U := 48) rv3 (by decide) (by decide)) (q_meu g3376 m5 (by decide) (by decide))
  | false =>
    have g3377 := (q_rg_ltF1 (l2 := 48) (u := 48) h3375 rv2 rv3)
    refine q_E_F ?_
    exact q_E_x hI
theorem dzj_N317_98_5  : ∀ (m : Nat) (s : q_S) (hI : q_iN s) (v1 : Int32) (v2 : Int32) (v3 : Int32) (rv2 : q_rgz 0 48 v2) (rv3 : q_rgz 48 48 v3), ((48 - v2.toInt).toNat : Int) ≤ (m : Int) → q_Ex (dz_N317_98_5 (m + 1) s v1 v2 v3) (q_iN) := by
  intro m
  induction m with
  | zero => intro s hI v1 v2 v3 rv2 rv3 hm; rw [dzs_N317_98_5]; exact dzjb_N317_98_5 (dz_N317_98_5 0) (-1) (fun s hI v1 v2 v3 rv2 rv3 hm => absurd hm (by omega)) s hI v1 v2 v3 rv2 rv3 (by omega)
  | succ m ih => intro s hI v1 v2 v3 rv2 rv3 hm; rw [dzs_N317_98_5]; exact dzjb_N317_98_5 (dz_N317_98_5 (m + 1)) (m : Int) (fun s hI v1 v2 v3 rv2 rv3 hm => ih s hI v1 v2 v3 rv2 rv3 hm) s hI v1 v2 v3 rv2 rv3 (by omega)
set_option maxHeartbeats 4000000 in
theorem dzj_N317_98  (s : q_S) (hI : q_iN s) (a1 : Int32) : q_Ex (dz_N317_98 s a1) (q_iN) := by
  unfold dz_N317_98
  exact dzj_N317_98_5 4999 (s) hI (a1) (0) (48) (q_rg_le (L := 0) (U := 48) (q_rg_lit (n := 0) (x := 0) rfl) (by decide) (by decide)) (q_rg_le (L := 48) (U := 48) (q_rg_lit (n := 48) (x := 48) rfl) (by decide) (by decide)) (q_meu0 (q_rg_lit (n := 0) (x := 0) rfl) (by decide) (by decide))
set_option maxHeartbeats 4000000 in
theorem dzj_N113_96  (s : q_S) (hI : q_iN s) : q_Ex (dz_N113_96 s) (q_iN) := by
  unfold dz_N113_96
  obtain ⟨r2, e3381, j3380⟩ := dzj_N317_98 (s) hI (0)
  rw [e3381]
  refine q_E_B ?_
  exact q_E_x j3380
set_option maxHeartbeats 4000000 in
theorem dzj_N112_96  (s : q_S) (hI : q_iN s) (a1 : Int32) (a2 : Int32) : (q_iN) (dz_N112_96 s a1 a2) := by
  refine q_S_of (P := (q_iN)) ?_
  unfold dz_N112_96
  cases h3390 : decide (a1 - 3840 < 0) with
  | true =>
    have g3391 := (q_rg_ltT1 (l := -2147483648) (U := -1) h3390 (q_rg_full _) (q_rg_lit (n := 0) (x := 0) rfl) (by decide))
    refine q_S_T ?_
    exact q_E_x (q_iN_A hI)
  | false =>
    have g3392 := (q_rg_ltF1 (l2 := 0) (u := 2147483647) h3390 (q_rg_full _) (q_rg_lit (n := 0) (x := 0) rfl))
    refine q_S_F ?_
    cases h3393 : decide (a1 - 3840 < 48) with
    | true =>
      have g3394 := (q_rg_ltT1 (l := 0) (U := 47) h3393 g3392 (q_rg_lit (n := 48) (x := 48) rfl) (by decide))
      refine q_S_T ?_
      cases h3395 : decide ((fun j => q_o1.getD j 0) ((a1 - 3840).toNatClampNeg) = 0) with
      | true =>
        have g3396 := q_rg_eqT h3395 (q_rg_lit (n := 0) (x := 0) rfl)
        refine q_S_T ?_
        exact q_E_x hI
      | false =>
        refine q_S_F ?_
        exact q_E_x (q_iN_A hI)
    | false =>
      have g3397 := (q_rg_ltF1 (l2 := 48) (u := 2147483647) h3393 g3392 (q_rg_lit (n := 48) (x := 48) rfl))
      refine q_S_F ?_
      exact q_E_x (q_iN_A hI)
set_option maxHeartbeats 4000000 in
theorem dzjb_N129_77_96_10  (k10 : q_S → Int32 → Int32 → Option (q_S)) (M10 : Int) (tk10 : ∀ (s : q_S), q_iN s → ∀ (v1 : Int32) (v3 : Int32), q_rgz 0 3072 v3 → ((3072 - v3.toInt).toNat : Int) ≤ M10 → q_Ex (k10 s v1 v3) (q_iN)) (s : q_S) (hI : q_iN s) (v1 : Int32) (v3 : Int32) (rv3 : q_rgz 0 3072 v3) (m10 : ((3072 - v3.toInt).toNat : Int) ≤ M10 + 1) : q_Ex (cond (decide (v3 < s.2.1 13 2)) (cond (decide (v3 < 3072)) (cond (q_in v3 3072) (cond (decide (v1 < ((s.1 17) (v3.toNatClampNeg)) >>> ((21 &&& 31) : Int32))) (some s) (cond (decide ((((s.1 17) (v3.toNatClampNeg)) >>> ((8 &&& 31) : Int32)) &&& 8191 = 4096)) ((dz_N113_96 s).bind fun r2 => k10 r2 v1 (v3 + 1)) (q_let (dz_N112_96 s ((((s.1 17) (v3.toNatClampNeg)) >>> ((8 &&& 31) : Int32)) &&& 8191) (((s.1 17) (v3.toNatClampNeg)) &&& 255)) fun r3 => k10 r3 v1 (v3 + 1)))) none) (some s)) (some s)) (q_iN) := by
  cases h3507 : decide (v3 < s.2.1 13 2) with
  | true =>
    have g3508 := (q_rg_ltT2 (L := 1) (u2 := 2147483647) h3507 rv3 (q_rg_full _) (by decide))
    refine q_E_T ?_
    cases h3509 : decide (v3 < 3072) with
    | true =>
      have g3510 := (q_rg_ltT1 (l := 0) (U := 3071) h3509 rv3 (q_rg_lit (n := 3072) (x := 3072) rfl) (by decide))
      refine q_E_T ?_
      refine q_E_A (q_in_rg g3510 (by decide) (by decide)) ?_
      cases h3511 : decide (v1 < ((s.1 17) (v3.toNatClampNeg)) >>> ((21 &&& 31) : Int32)) with
      | true =>
        have g3512 := (q_rg_ltT1 (l := -2147483648) (U := 2147483646) h3511 (q_rg_full _) (q_rg_full _) (by decide))
        have g3513 := (q_rg_ltT2 (L := -2147483647) (u2 := 2147483647) h3511 (q_rg_full _) (q_rg_full _) (by decide))
        refine q_E_T ?_
        exact q_E_x hI
      | false =>
        refine q_E_F ?_
        cases h3514 : decide ((((s.1 17) (v3.toNatClampNeg)) >>> ((8 &&& 31) : Int32)) &&& 8191 = 4096) with
        | true =>
          have g3515 := q_rg_eqT h3514 (q_rg_lit (n := 4096) (x := 4096) rfl)
          refine q_E_T ?_
          obtain ⟨r2, e3517, j3516⟩ := dzj_N113_96 (s) hI
          rw [e3517]
          refine q_E_B ?_
          exact tk10 (r2) j3516 (v1) (v3 + 1) (q_rg_le (L := 0) (U := 3072) (q_rg_add (L := 1) (U := 3072) g3510 (q_rg_lit (n := 1) (x := 1) rfl) (by decide) (by decide) (by decide) (by decide)) (by decide) (by decide)) (q_meu g3510 m10 (by decide) (by decide))
        | false =>
          refine q_E_F ?_
          have j3518 := dzj_N112_96 (s) hI ((((s.1 17) (v3.toNatClampNeg)) >>> ((8 &&& 31) : Int32)) &&& 8191) (((s.1 17) (v3.toNatClampNeg)) &&& 255)
          refine q_E_L ?_
          generalize dz_N112_96 s ((((s.1 17) (v3.toNatClampNeg)) >>> ((8 &&& 31) : Int32)) &&& 8191) (((s.1 17) (v3.toNatClampNeg)) &&& 255) = r3 at j3518 ⊢
          exact tk10 (r3) j3518 (v1) (v3 + 1) (q_rg_le (L := 0) (U := 3072) (q_rg_add (L := 1) (U := 3072) g3510 (q_rg_lit (n := 1) (x := 1) rfl) (by decide) (by decide) (by decide) (by decide)) (by decide) (by decide)) (q_meu g3510 m10 (by decide) (by decide))
    | false =>
      have g3519 := (q_rg_ltF1 (l2 := 3072) (u := 3072) h3509 rv3 (q_rg_lit (n := 3072) (x := 3072) rfl))
      refine q_E_F ?_
      exact q_E_x hI
  | false =>
    have g3520 := (q_rg_ltF2 (l2 := -2147483648) (u := 3072) h3507 rv3 (q_rg_full _))
    refine q_E_F ?_
    exact q_E_x hI
theorem dzj_N129_77_96_10  : ∀ (m : Nat) (s : q_S) (hI : q_iN s) (v1 : Int32) (v3 : Int32) (rv3 : q_rgz 0 3072 v3), ((3072 - v3.toInt).toNat : Int) ≤ (m : Int) → q_Ex (dz_N129_77_96_10 (m + 1) s v1 v3) (q_iN) := by
  intro m
  induction m with
  | zero => intro s hI v1 v3 rv3 hm; rw [dzs_N129_77_96_10]; exact dzjb_N129_77_96_10 (dz_N129_77_96_10 0) (-1) (fun s hI v1 v3 rv3 hm => absurd hm (by omega)) s hI v1 v3 rv3 (by omega)
  | succ m ih => intro s hI v1 v3 rv3 hm; rw [dzs_N129_77_96_10]; exact dzjb_N129_77_96_10 (dz_N129_77_96_10 (m + 1)) (m : Int) (fun s hI v1 v3 rv3 hm => ih s hI v1 v3 rv3 hm) s hI v1 v3 rv3 (by omega)
set_option maxHeartbeats 4000000 in
theorem dzj_N129_77_96  (s : q_S) (hI : q_iN s) (a1 : Int32) : q_Ex (dz_N129_77_96 s a1) (q_iN) := by
  unfold dz_N129_77_96
  have j3521 := dzj_N110_96_78 (s) hI
  refine q_E_L ?_
  generalize dz_N110_96_78 s = r1 at j3521 ⊢
  exact dzj_N129_77_96_10 4999 (r1) j3521 (a1) (0) (q_rg_le (L := 0) (U := 3072) (q_rg_lit (n := 0) (x := 0) rfl) (by decide) (by decide)) (q_meu0 (q_rg_lit (n := 0) (x := 0) rfl) (by decide) (by decide))
theorem dzj_N114_96  (s : q_S) (hI : q_iN s) : (fun _ => True) (dz_N114_96 s) := trivial
theorem dzj_N115_96  (s : q_S) (hI : q_iN s) : (fun _ => True) (dz_N115_96 s) := trivial
theorem dzj_N120_96  (s : q_S) (hI : q_iN s) (a1 : Int32) : (fun _ => True) (dz_N120_96 s a1) := trivial
theorem dzj_N119_96  (s : q_S) (hI : q_iN s) (a1 : Int32) (a2 : Int32) : (fun _ => True) (dz_N119_96 s a1 a2) := trivial
theorem dzj_N118_96  (s : q_S) (hI : q_iN s) (a1 : Int32) (a2 : Int32) : (fun _ => True) (dz_N118_96 s a1 a2) := trivial
set_option maxHeartbeats 4000000 in
theorem dzjb_N122_96_5  (k5 : q_S → Int32 → Int32 → Int32 → Int32 → Option (Int32)) (M5 : Int) (tk5 : ∀ (s : q_S), q_iN s → ∀ (v1 : Int32) (v2 : Int32) (v3 : Int32) (v4 : Int32), q_rgz 0 4 v4 → ((4 - v4.toInt).toNat : Int) ≤ M5 → q_Ex (k5 s v1 v2 v3 v4) (fun _ => True)) (s : q_S) (hI : q_iN s) (v1 : Int32) (v2 : Int32) (v3 : Int32) (v4 : Int32) (rv4 : q_rgz 0 4 v4) (m5 : ((4 - v4.toInt).toNat : Int) ≤ M5 + 1) : q_Ex (cond (decide (v4 < 4)) (q_let (dz_N118_96 s 18 v4) fun r1 => cond (q_in ((20 : Int32) + v4) 48) (q_let ((v1 - ((s.1 34) (((20 : Int32) + v4).toNatClampNeg))) >>> (r1 &&& 31)) fun x2 => cond (q_in ((24 : Int32) + v4) 48) (q_let ((v2 - ((s.1 34) (((24 : Int32) + v4).toNatClampNeg))) >>> (r1 &&& 31)) fun x3 => q_let (dz_N118_96 s 17 v4) fun r4 => cond (decide (r4 = 1)) (cond (decide (x2 < 0)) (k5 s v1 v2 v3 (v4 + 1)) (cond (decide (x2 < 8)) (cond (decide (x3 < 0)) (k5 s v1 v2 v3 (v4 + 1)) (cond (decide (x3 < 8)) (q_let (dz_N120_96 s ((((256 * ((s.1 34) 7)) + 128) + (8 * v4)) + x3)) fun r5 => q_let (v3 ||| (((r5 >>> (((7 : Int32) - x2) &&& 31)) &&& 1) <<< (v4 &&& 31))) fun x6 => k5 s v1 v2 x6 (v4 + 1)) (k5 s v1 v2 v3 (v4 + 1)))) (k5 s v1 v2 v3 (v4 + 1)))) (k5 s v1 v2 v3 (v4 + 1))) none) none) (some v3)) (fun _ => True) := by
  cases h3675 : decide (v4 < 4) with
  | true =>
    have g3676 := (q_rg_ltT1 (l := 0) (U := 3) h3675 rv4 (q_rg_lit (n := 4) (x := 4) rfl) (by decide))
    refine q_E_T ?_
    have j3677 := dzj_N118_96 (s) hI (18) (v4)
    refine q_E_L ?_
    generalize dz_N118_96 s 18 v4 = r1 at j3677 ⊢
    refine q_E_A (q_in_rg (q_rg_add (L := 20) (U := 23) (q_rg_lit (n := 20) (x := 20) rfl) g3676 (by decide) (by decide) (by decide) (by decide)) (by decide) (by decide)) ?_
    have j3678 : q_rgz (-2147483648) 2147483647 ((v1 - ((s.1 34) (((20 : Int32) + v4).toNatClampNeg))) >>> (r1 &&& 31)) := (q_rg_full _)
    refine q_E_L ?_
    generalize ((v1 - ((s.1 34) (((20 : Int32) + v4).toNatClampNeg))) >>> (r1 &&& 31)) = x2 at j3678 ⊢
    refine q_E_A (q_in_rg (q_rg_add (L := 24) (U := 27) (q_rg_lit (n := 24) (x := 24) rfl) g3676 (by decide) (by decide) (by decide) (by decide)) (by decide) (by decide)) ?_
    have j3679 : q_rgz (-2147483648) 2147483647 ((v2 - ((s.1 34) (((24 : Int32) + v4).toNatClampNeg))) >>> (r1 &&& 31)) := (q_rg_full _)
    refine q_E_L ?_
    generalize ((v2 - ((s.1 34) (((24 : Int32) + v4).toNatClampNeg))) >>> (r1 &&& 31)) = x3 at j3679 ⊢
    have j3680 := dzj_N118_96 (s) hI (17) (v4)
    refine q_E_L ?_
    generalize dz_N118_96 s 17 v4 = r4 at j3680 ⊢
    cases h3681 : decide (r4 = 1) with
    | true =>
      have g3682 := q_rg_eqT h3681 (q_rg_lit (n := 1) (x := 1) rfl)
      refine q_E_T ?_
      cases h3683 : decide (x2 < 0) with
      | true =>
        have g3684 := (q_rg_ltT1 (l := -2147483648) (U := -1) h3683 j3678 (q_rg_lit (n := 0) (x := 0) rfl) (by decide))
        refine q_E_T ?_
        exact tk5 (s) hI (v1) (v2) (v3) (v4 + 1) (q_rg_le (L := 0) (U := 4) (q_rg_add (L := 1) (U := 4) g3676 (q_rg_lit (n := 1) (x := 1) rfl) (by decide) (by decide) (by decide) (by decide)) (by decide) (by decide)) (q_meu g3676 m5 (by decide) (by decide))
      | false =>
        have g3685 := (q_rg_ltF1 (l2 := 0) (u := 2147483647) h3683 j3678 (q_rg_lit (n := 0) (x := 0) rfl))
        refine q_E_F ?_
        cases h3686 : decide (x2 < 8) with
        | true =>
          have g3687 := (q_rg_ltT1 (l := 0) (U := 7) h3686 g3685 (q_rg_lit (n := 8) (x := 8) rfl) (by decide))
          refine q_E_T ?_
          cases h3688 : decide (x3 < 0) with
          | true =>
            have g3689 := (q_rg_ltT1 (l := -2147483648) (U := -1) h3688 j3679 (q_rg_lit (n := 0) (x := 0) rfl) (by decide))
            refine q_E_T ?_
            exact tk5 (s) hI (v1) (v2) (v3) (v4 + 1) (q_rg_le (L := 0) (U := 4) (q_rg_add (L := 1) (U := 4) g3676 (q_rg_lit (n := 1) (x := 1) rfl) (by decide) (by decide) (by decide) (by decide)) (by decide) (by decide)) (q_meu g3676 m5 (by decide) (by decide))
          | false =>
            have g3690 := (q_rg_ltF1 (l2 := 0) (u := 2147483647) h3688 j3679 (q_rg_lit (n := 0) (x := 0) rfl))
            refine q_E_F ?_
            cases h3691 : decide (x3 < 8) with
            | true =>
              have g3692 := (q_rg_ltT1 (l := 0) (U := 7) h3691 g3690 (q_rg_lit (n := 8) (x := 8) rfl) (by decide))
              refine q_E_T ?_
              have j3693 := dzj_N120_96 (s) hI ((((256 * ((s.1 34) 7)) + 128) + (8 * v4)) + x3)
              refine q_E_L ?_
              generalize dz_N120_96 s ((((256 * ((s.1 34) 7)) + 128) + (8 * v4)) + x3) = r5 at j3693 ⊢
              have j3694 : q_rgz (-2147483648) 2147483647 (v3 ||| (((r5 >>> (((7 : Int32) - x2) &&& 31)) &&& 1) <<< (v4 &&& 31))) := (q_rg_full _)
              refine q_E_L ?_
              generalize (v3 ||| (((r5 >>> (((7 : Int32) - x2) &&& 31)) &&& 1) <<< (v4 &&& 31))) = x6 at j3694 ⊢
              exact tk5 (s) hI (v1) (v2) (x6) (v4 + 1) (q_rg_le (L := 0) (U := 4) (q_rg_add (L := 1) (U := 4) g3676 (q_rg_lit (n := 1) (x := 1) rfl) (by decide) (by decide) (by decide) (by decide)) (by decide) (by decide)) (q_meu g3676 m5 (by decide) (by decide))
            | false =>
              have g3695 := (q_rg_ltF1 (l2 := 8) (u := 2147483647) h3691 g3690 (q_rg_lit (n := 8) (x := 8) rfl))
              refine q_E_F ?_
              exact tk5 (s) hI (v1) (v2) (v3) (v4 + 1) (q_rg_le (L := 0) (U := 4) (q_rg_add (L := 1) (U := 4) g3676 (q_rg_lit (n := 1) (x := 1) rfl) (by decide) (by decide) (by decide) (by decide)) (by decide) (by decide)) (q_meu g3676 m5 (by decide) (by decide))
        | false =>
          have g3696 := (q_rg_ltF1 (l2 := 8) (u := 2147483647) h3686 g3685 (q_rg_lit (n := 8) (x := 8) rfl))
          refine q_E_F ?_
          exact tk5 (s) hI (v1) (v2) (v3) (v4 + 1) (q_rg_le (L := 0) (U := 4) (q_rg_add (L := 1) (U := 4) g3676 (q_rg_lit (n := 1) (x := 1) rfl) (by decide) (by decide) (by decide) (by decide)) (by decide) (by decide)) (q_meu g3676 m5 (by decide) (by decide))
    | false =>
      refine q_E_F ?_
      exact tk5 (s) hI (v1) (v2) (v3) (v4 + 1) (q_rg_le (L := 0) (U := 4) (q_rg_add (L := 1) (U := 4) g3676 (q_rg_lit (n := 1) (x := 1) rfl) (by decide) (by decide) (by decide) (by decide)) (by decide) (by decide)) (q_meu g3676 m5 (by decide) (by decide))
  | false =>
    have g3697 := (q_rg_ltF1 (l2 := 4) (u := 4) h3675 rv4 (q_rg_lit (n := 4) (x := 4) rfl))
    refine q_E_F ?_
    exact q_E_x trivial
theorem dzj_N122_96_5  : ∀ (m : Nat) (s : q_S) (hI : q_iN s) (v1 : Int32) (v2 : Int32) (v3 : Int32) (v4 : Int32) (rv4 : q_rgz 0 4 v4), ((4 - v4.toInt).toNat : Int) ≤ (m : Int) → q_Ex (dz_N122_96_5 (m + 1) s v1 v2 v3 v4) (fun _ => True) := by
  intro m
  induction m with
  | zero => intro s hI v1 v2 v3 v4 rv4 hm; rw [dzs_N122_96_5]; exact dzjb_N122_96_5 (dz_N122_96_5 0) (-1) (fun s hI v1 v2 v3 v4 rv4 hm => absurd hm (by omega)) s hI v1 v2 v3 v4 rv4 (by omega)
  | succ m ih => intro s hI v1 v2 v3 v4 rv4 hm; rw [dzs_N122_96_5]; exact dzjb_N122_96_5 (dz_N122_96_5 (m + 1)) (m : Int) (fun s hI v1 v2 v3 v4 rv4 hm => ih s hI v1 v2 v3 v4 rv4 hm) s hI v1 v2 v3 v4 rv4 (by omega)
set_option maxHeartbeats 4000000 in
theorem dzj_N122_96  (s : q_S) (hI : q_iN s) (a1 : Int32) (a2 : Int32) : q_Ex (dz_N122_96 s a1 a2) (fun _ => True) := by
  unfold dz_N122_96
  exact dzj_N122_96_5 4999 (s) hI (a1) (a2) (0) (0) (q_rg_le (L := 0) (U := 4) (q_rg_lit (n := 0) (x := 0) rfl) (by decide) (by decide)) (q_meu0 (q_rg_lit (n := 0) (x := 0) rfl) (by decide) (by decide))
theorem dzj_N121_96  (s : q_S) (hI : q_iN s) (a1 : Int32) : (fun _ => True) (dz_N121_96 s a1) := trivial
set_option maxHeartbeats 4000000 in
theorem dzj_N123_96_39  (s : q_S) (hI : q_iN s) (v1 : Int32) (v3 : Int32) (rv3 : q_rgz 0 3 v3) : q_Ex (dz_N123_96_39 s v1 v3) (fun _ => True) := by
  unfold dz_N123_96_39
  exact q_E_x trivial
set_option maxHeartbeats 4000000 in
theorem dzjb_N123_96_2  (k2 : q_S → Int32 → Int32 → Int32 → Option (Int32)) (M2 : Int) (tk2 : ∀ (s : q_S), q_iN s → ∀ (v1 : Int32) (v2 : Int32) (v3 : Int32), q_rgz 0 4 v3 → ((4 - v3.toInt).toNat : Int) ≤ M2 → q_Ex (k2 s v1 v2 v3) (fun _ => True)) (s : q_S) (hI : q_iN s) (v1 : Int32) (v2 : Int32) (v3 : Int32) (rv3 : q_rgz 0 4 v3) (m2 : ((4 - v3.toInt).toNat : Int) ≤ M2 + 1) : q_Ex (cond (decide (v3 < 4)) (cond (decide ((v2 >>> (v3 &&& 31)) &&& 1 = 1)) (q_let (dz_N118_96 s 19 v3) fun r1 => cond (decide (r1 = 1)) (q_let (dz_N121_96 s v1) fun r2 => cond r2 (cond (q_in ((3 : Int32) + (v1 &&& 3)) 48) (some ((s.1 34) (((3 : Int32) + (v1 &&& 3)).toNatClampNeg))) none) (dz_N123_96_39 s v1 v3)) (dz_N123_96_39 s v1 v3)) (k2 s v1 v2 (v3 + 1))) (cond (q_in ((3 : Int32) + (v1 &&& 3)) 48) (some ((s.1 34) (((3 : Int32) + (v1 &&& 3)).toNatClampNeg))) none)) (fun _ => True) := by
  cases h3759 : decide (v3 < 4) with
  | true =>
    have g3760 := (q_rg_ltT1 (l := 0) (U := 3) h3759 rv3 (q_rg_lit (n := 4) (x := 4) rfl) (by decide))
    refine q_E_T ?_
    cases h3761 : decide ((v2 >>> (v3 &&& 31)) &&& 1 = 1) with
    | true =>
      have g3762 := q_rg_eqT h3761 (q_rg_lit (n := 1) (x := 1) rfl)
      refine q_E_T ?_
      have j3763 := dzj_N118_96 (s) hI (19) (v3)
      refine q_E_L ?_
      generalize dz_N118_96 s 19 v3 = r1 at j3763 ⊢
      cases h3764 : decide (r1 = 1) with
      | true =>
        have g3765 := q_rg_eqT h3764 (q_rg_lit (n := 1) (x := 1) rfl)
        refine q_E_T ?_
        have j3766 := dzj_N121_96 (s) hI (v1)
        refine q_E_L ?_
        generalize dz_N121_96 s v1 = r2 at j3766 ⊢
        cases h3767 : r2 with
        | true =>
          refine q_E_T ?_
          refine q_E_A (q_in_rg (q_rg_add (L := 3) (U := 6) (q_rg_lit (n := 3) (x := 3) rfl) (q_rg_and v1 3 (U := 3) (by decide) rfl) (by decide) (by decide) (by decide) (by decide)) (by decide) (by decide)) ?_
          exact q_E_x trivial
        | false =>
          refine q_E_F ?_
          exact dzj_N123_96_39 (s) hI (v1) (v3) (q_rg_le (L := 0) (U := 3) g3760 (by decide) (by decide))
      | false =>
        refine q_E_F ?_
        exact dzj_N123_96_39 (s) hI (v1) (v3) (q_rg_le (L := 0) (U := 3) g3760 (by decide) (by decide))
    | false =>
      have g3768 := (q_rg_neU (l := 0) (u := 1) (n := 1) (U := 0) h3761 (q_rg_and (v2 >>> (v3 &&& 31)) 1 (U := 1) (by decide) rfl) rfl (by decide) (by decide))
      refine q_E_F ?_
      exact tk2 (s) hI (v1) (v2) (v3 + 1) (q_rg_le (L := 0) (U := 4) (q_rg_add (L := 1) (U := 4) g3760 (q_rg_lit (n := 1) (x := 1) rfl) (by decide) (by decide) (by decide) (by decide)) (by decide) (by decide)) (q_meu g3760 m2 (by decide) (by decide))
  | false =>
    have g3769 := (q_rg_ltF1 (l2 := 4) (u := 4) h3759 rv3 (q_rg_lit (n := 4) (x := 4) rfl))
    refine q_E_F ?_
    refine q_E_A (q_in_rg (q_rg_add (L := 3) (U := 6) (q_rg_lit (n := 3) (x := 3) rfl) (q_rg_and v1 3 (U := 3) (by decide) rfl) (by decide) (by decide) (by decide) (by decide)) (by decide) (by decide)) ?_
    exact q_E_x trivial
theorem dzj_N123_96_2  : ∀ (m : Nat) (s : q_S) (hI : q_iN s) (v1 : Int32) (v2 : Int32) (v3 : Int32) (rv3 : q_rgz 0 4 v3), ((4 - v3.toInt).toNat : Int) ≤ (m : Int) → q_Ex (dz_N123_96_2 (m + 1) s v1 v2 v3) (fun _ => True) := by
  intro m
  induction m with
  | zero => intro s hI v1 v2 v3 rv3 hm; rw [dzs_N123_96_2]; exact dzjb_N123_96_2 (dz_N123_96_2 0) (-1) (fun s hI v1 v2 v3 rv3 hm => absurd hm (by omega)) s hI v1 v2 v3 rv3 (by omega)
  | succ m ih => intro s hI v1 v2 v3 rv3 hm; rw [dzs_N123_96_2]; exact dzjb_N123_96_2 (dz_N123_96_2 (m + 1)) (m : Int) (fun s hI v1 v2 v3 rv3 hm => ih s hI v1 v2 v3 rv3 hm) s hI v1 v2 v3 rv3 (by omega)
set_option maxHeartbeats 4000000 in
theorem dzj_N123_96  (s : q_S) (hI : q_iN s) (a1 : Int32) (a2 : Int32) : q_Ex (dz_N123_96 s a1 a2) (fun _ => True) := by
  unfold dz_N123_96
  exact dzj_N123_96_2 4999 (s) hI (a1) (a2) (0) (q_rg_le (L := 0) (U := 4) (q_rg_lit (n := 0) (x := 0) rfl) (by decide) (by decide)) (q_meu0 (q_rg_lit (n := 0) (x := 0) rfl) (by decide) (by decide))
set_option maxHeartbeats 4000000 in
theorem dzj_N110_96_83  (s : q_S) (hI : q_iN s) : (q_iN) (dz_N110_96_83 s) := by
  refine q_S_of (P := (q_iN)) ?_
  unfold dz_N110_96_83
  exact q_E_x (q_iN_A (q_iN_A hI))
set_option maxHeartbeats 4000000 in
theorem dzjb_N129_82_96_10  (k10 : q_S → Int32 → Int32 → Option (q_S)) (M10 : Int) (tk10 : ∀ (s : q_S), q_iN s → ∀ (v1 : Int32) (v3 : Int32), q_rgz 0 3072 v3 → ((3072 - v3.toInt).toNat : Int) ≤ M10 → q_Ex (k10 s v1 v3) (q_iN)) (s : q_S) (hI : q_iN s) (v1 : Int32) (v3 : Int32) (rv3 : q_rgz 0 3072 v3) (m10 : ((3072 - v3.toInt).toNat : Int) ≤ M10 + 1) : q_Ex (cond (decide (v3 < s.2.1 18 2)) (cond (decide (v3 < 3072)) (cond (q_in v3 3072) (cond (decide (v1 < ((s.1 22) (v3.toNatClampNeg)) >>> ((21 &&& 31) : Int32))) (some s) (cond (decide ((((s.1 22) (v3.toNatClampNeg)) >>> ((8 &&& 31) : Int32)) &&& 8191 = 4096)) ((dz_N113_96 s).bind fun r2 => k10 r2 v1 (v3 + 1)) (q_let (dz_N112_96 s ((((s.1 22) (v3.toNatClampNeg)) >>> ((8 &&& 31) : Int32)) &&& 8191) (((s.1 22) (v3.toNatClampNeg)) &&& 255)) fun r3 => k10 r3 v1 (v3 + 1)))) none) (some s)) (some s)) (q_iN) := by
  cases h3879 : decide (v3 < s.2.1 18 2) with
  | true =>
    have g3880 := (q_rg_ltT2 (L := 1) (u2 := 2147483647) h3879 rv3 (q_rg_full _) (by decide))
    refine q_E_T ?_
    cases h3881 : decide (v3 < 3072) with
    | true =>
      have g3882 := (q_rg_ltT1 (l := 0) (U := 3071) h3881 rv3 (q_rg_lit (n := 3072) (x := 3072) rfl) (by decide))
      refine q_E_T ?_
      refine q_E_A (q_in_rg g3882 (by decide) (by decide)) ?_
      cases h3883 : decide (v1 < ((s.1 22) (v3.toNatClampNeg)) >>> ((21 &&& 31) : Int32)) with
      | true =>
        have g3884 := (q_rg_ltT1 (l := -2147483648) (U := 2147483646) h3883 (q_rg_full _) (q_rg_full _) (by decide))
        have g3885 := (q_rg_ltT2 (L := -2147483647) (u2 := 2147483647) h3883 (q_rg_full _) (q_rg_full _) (by decide))
        refine q_E_T ?_
        exact q_E_x hI
      | false =>
        refine q_E_F ?_
        cases h3886 : decide ((((s.1 22) (v3.toNatClampNeg)) >>> ((8 &&& 31) : Int32)) &&& 8191 = 4096) with
        | true =>
          have g3887 := q_rg_eqT h3886 (q_rg_lit (n := 4096) (x := 4096) rfl)
          refine q_E_T ?_
          obtain ⟨r2, e3889, j3888⟩ := dzj_N113_96 (s) hI
          rw [e3889]
          refine q_E_B ?_
          exact tk10 (r2) j3888 (v1) (v3 + 1) (q_rg_le (L := 0) (U := 3072) (q_rg_add (L := 1) (U := 3072) g3882 (q_rg_lit (n := 1) (x := 1) rfl) (by decide) (by decide) (by decide) (by decide)) (by decide) (by decide)) (q_meu g3882 m10 (by decide) (by decide))
        | false =>
          refine q_E_F ?_
          have j3890 := dzj_N112_96 (s) hI ((((s.1 22) (v3.toNatClampNeg)) >>> ((8 &&& 31) : Int32)) &&& 8191) (((s.1 22) (v3.toNatClampNeg)) &&& 255)
          refine q_E_L ?_
          generalize dz_N112_96 s ((((s.1 22) (v3.toNatClampNeg)) >>> ((8 &&& 31) : Int32)) &&& 8191) (((s.1 22) (v3.toNatClampNeg)) &&& 255) = r3 at j3890 ⊢
          exact tk10 (r3) j3890 (v1) (v3 + 1) (q_rg_le (L := 0) (U := 3072) (q_rg_add (L := 1) (U := 3072) g3882 (q_rg_lit (n := 1) (x := 1) rfl) (by decide) (by decide) (by decide) (by decide)) (by decide) (by decide)) (q_meu g3882 m10 (by decide) (by decide))
    | false =>
      have g3891 := (q_rg_ltF1 (l2 := 3072) (u := 3072) h3881 rv3 (q_rg_lit (n := 3072) (x := 3072) rfl))
      refine q_E_F ?_
      exact q_E_x hI
  | false =>
    have g3892 := (q_rg_ltF2 (l2 := -2147483648) (u := 3072) h3879 rv3 (q_rg_full _))
    refine q_E_F ?_
    exact q_E_x hI
theorem dzj_N129_82_96_10  : ∀ (m : Nat) (s : q_S) (hI : q_iN s) (v1 : Int32) (v3 : Int32) (rv3 : q_rgz 0 3072 v3), ((3072 - v3.toInt).toNat : Int) ≤ (m : Int) → q_Ex (dz_N129_82_96_10 (m + 1) s v1 v3) (q_iN) := by
  intro m
  induction m with
  | zero => intro s hI v1 v3 rv3 hm; rw [dzs_N129_82_96_10]; exact dzjb_N129_82_96_10 (dz_N129_82_96_10 0) (-1) (fun s hI v1 v3 rv3 hm => absurd hm (by omega)) s hI v1 v3 rv3 (by omega)
  | succ m ih => intro s hI v1 v3 rv3 hm; rw [dzs_N129_82_96_10]; exact dzjb_N129_82_96_10 (dz_N129_82_96_10 (m + 1)) (m : Int) (fun s hI v1 v3 rv3 hm => ih s hI v1 v3 rv3 hm) s hI v1 v3 rv3 (by omega)
set_option maxHeartbeats 4000000 in
theorem dzj_N129_82_96  (s : q_S) (hI : q_iN s) (a1 : Int32) : q_Ex (dz_N129_82_96 s a1) (q_iN) := by
  unfold dz_N129_82_96
  have j3893 := dzj_N110_96_83 (s) hI
  refine q_E_L ?_
  generalize dz_N110_96_83 s = r1 at j3893 ⊢
  exact dzj_N129_82_96_10 4999 (r1) j3893 (a1) (0) (q_rg_le (L := 0) (U := 3072) (q_rg_lit (n := 0) (x := 0) rfl) (by decide) (by decide)) (q_meu0 (q_rg_lit (n := 0) (x := 0) rfl) (by decide) (by decide))
set_option maxHeartbeats 4000000 in
theorem dzj_N108_65_96  (s : q_S) (hI : q_iN s) (a1 : Int32) (a2 : Int32) : q_Ex (dz_N108_65_96 s a1 a2) (fun (x : q_S × Int32) => q_iN x.1) := by
  unfold dz_N108_65_96
  cases h3936 : decide (lg_cmp (((s.2.2 1 8) / 960) - ((s.2.2 1 8) / 960) / 2 * 2) 0 = 0) with
  | true =>
    have g3937 := q_rg_eqT h3936 (q_rg_lit (n := 0) (x := 0) rfl)
    refine q_E_T ?_
    cases h3938 : decide ((24 * (a2 + 4)) + ((a1 / 2) + 4) < s.2.1 13 3) with
    | true =>
      have g3939 := (q_rg_ltT1 (l := -2147483648) (U := 2147483646) h3938 (q_rg_full _) (q_rg_full _) (by decide))
      have g3940 := (q_rg_ltT2 (L := -2147483647) (u2 := 2147483647) h3938 (q_rg_full _) (q_rg_full _) (by decide))
      refine q_E_T ?_
      obtain ⟨r2, e3942, j3941⟩ := dzj_N129_77_96 (s) hI ((24 * (a2 + 4)) + ((a1 / 2) + 4))
      rw [e3942]
      refine q_E_B ?_
      have j3943 := dzj_N119_96 (r2) j3941 (a1) (a2)
      refine q_E_L ?_
      generalize dz_N119_96 r2 a1 a2 = r3 at j3943 ⊢
      obtain ⟨r4, e3945, j3944⟩ := dzj_N122_96 (r2) j3941 (a1) (a2)
      rw [e3945]
      refine q_E_B ?_
      obtain ⟨r5, e3947, j3946⟩ := dzj_N123_96 (r2) j3941 (r3) (r4)
      rw [e3947]
      refine q_E_B ?_
      exact q_E_x j3941
    | false =>
      refine q_E_F ?_
      cases h3948 : decide ((24 * (a2 + 4)) + ((a1 / 2) + 4) < s.2.1 18 3) with
      | true =>
        have g3949 := (q_rg_ltT1 (l := -2147483648) (U := 2147483646) h3948 (q_rg_full _) (q_rg_full _) (by decide))
        have g3950 := (q_rg_ltT2 (L := -2147483647) (u2 := 2147483647) h3948 (q_rg_full _) (q_rg_full _) (by decide))
        refine q_E_T ?_
        obtain ⟨r6, e3952, j3951⟩ := dzj_N129_82_96 (s) hI ((24 * (a2 + 4)) + ((a1 / 2) + 4))
        rw [e3952]
        refine q_E_B ?_
        have j3953 := dzj_N119_96 (r6) j3951 (a1) (a2)
        refine q_E_L ?_
        generalize dz_N119_96 r6 a1 a2 = r7 at j3953 ⊢
        obtain ⟨r8, e3955, j3954⟩ := dzj_N122_96 (r6) j3951 (a1) (a2)
        rw [e3955]
        refine q_E_B ?_
        obtain ⟨r9, e3957, j3956⟩ := dzj_N123_96 (r6) j3951 (r7) (r8)
        rw [e3957]
        refine q_E_B ?_
        exact q_E_x j3951
      | false =>
        refine q_E_F ?_
        exact q_E_x hI
  | false =>
    refine q_E_F ?_
    cases h3958 : decide ((24 * (a2 + 4)) + ((a1 / 2) + 4) < s.2.1 18 3) with
    | true =>
      have g3959 := (q_rg_ltT1 (l := -2147483648) (U := 2147483646) h3958 (q_rg_full _) (q_rg_full _) (by decide))
      have g3960 := (q_rg_ltT2 (L := -2147483647) (u2 := 2147483647) h3958 (q_rg_full _) (q_rg_full _) (by decide))
      refine q_E_T ?_
      obtain ⟨r10, e3962, j3961⟩ := dzj_N129_82_96 (s) hI ((24 * (a2 + 4)) + ((a1 / 2) + 4))
      rw [e3962]
      refine q_E_B ?_
      have j3963 := dzj_N119_96 (r10) j3961 (a1) (a2)
      refine q_E_L ?_
      generalize dz_N119_96 r10 a1 a2 = r11 at j3963 ⊢
      obtain ⟨r12, e3965, j3964⟩ := dzj_N122_96 (r10) j3961 (a1) (a2)
      rw [e3965]
      refine q_E_B ?_
      obtain ⟨r13, e3967, j3966⟩ := dzj_N123_96 (r10) j3961 (r11) (r12)
      rw [e3967]
      refine q_E_B ?_
      exact q_E_x j3961
    | false =>
      refine q_E_F ?_
      cases h3968 : decide ((24 * (a2 + 4)) + ((a1 / 2) + 4) < s.2.1 13 3) with
      | true =>
        have g3969 := (q_rg_ltT1 (l := -2147483648) (U := 2147483646) h3968 (q_rg_full _) (q_rg_full _) (by decide))
        have g3970 := (q_rg_ltT2 (L := -2147483647) (u2 := 2147483647) h3968 (q_rg_full _) (q_rg_full _) (by decide))
        refine q_E_T ?_
        obtain ⟨r14, e3972, j3971⟩ := dzj_N129_77_96 (s) hI ((24 * (a2 + 4)) + ((a1 / 2) + 4))
        rw [e3972]
        refine q_E_B ?_
        have j3973 := dzj_N119_96 (r14) j3971 (a1) (a2)
        refine q_E_L ?_
        generalize dz_N119_96 r14 a1 a2 = r15 at j3973 ⊢
        obtain ⟨r16, e3975, j3974⟩ := dzj_N122_96 (r14) j3971 (a1) (a2)
        rw [e3975]
        refine q_E_B ?_
        obtain ⟨r17, e3977, j3976⟩ := dzj_N123_96 (r14) j3971 (r15) (r16)
        rw [e3977]
        refine q_E_B ?_
        exact q_E_x j3971
      | false =>
        refine q_E_F ?_
        exact q_E_x hI
theorem dzj_N196  (s : q_S) (hI : q_iN s) (a0 : Int32) : (fun _ => True) (dz_N196 s a0) := trivial
set_option maxHeartbeats 4000000 in
theorem dzjb_W111_66_98_4  (k4 : q_S → Int32 → Int32 → Option (Int32)) (M4 : Int) (tk4 : ∀ (s : q_S), q_iW s → ∀ (v2 : Int32) (v3 : Int32), q_rgz 0 4096 v3 → ((4096 - v3.toInt).toNat : Int) ≤ M4 → q_Ex (k4 s v2 v3) (fun _ => True)) (s : q_S) (hI : q_iW s) (v2 : Int32) (v3 : Int32) (rv3 : q_rgz 0 4096 v3) (m4 : ((4096 - v3.toInt).toNat : Int) ≤ M4 + 1) : q_Ex (cond (decide (v3 < 4096)) (cond (q_in v3 4096) (cond (decide ((s.1 3) (v3.toNatClampNeg) = (s.1 35) (v3.toNatClampNeg))) (k4 s v2 (v3 + 1)) (k4 s (v2 + 1) (v3 + 1))) none) (some v2)) (fun _ => True) := by
  cases h21 : decide (v3 < 4096) with
  | true =>
    have g22 := (q_rg_ltT1 (l := 0) (U := 4095) h21 rv3 (q_rg_lit (n := 4096) (x := 4096) rfl) (by decide))
    refine q_E_T ?_
    refine q_E_A (q_in_rg g22 (by decide) (by decide)) ?_
    cases h23 : decide ((s.1 3) (v3.toNatClampNeg) = (s.1 35) (v3.toNatClampNeg)) with
    | true =>
      refine q_E_T ?_
      exact tk4 (s) hI (v2) (v3 + 1) (q_rg_le (L := 0) (U := 4096) (q_rg_add (L := 1) (U := 4096) g22 (q_rg_lit (n := 1) (x := 1) rfl) (by decide) (by decide) (by decide) (by decide)) (by decide) (by decide)) (q_meu g22 m4 (by decide) (by decide))
    | false =>
      refine q_E_F ?_
      exact tk4 (s) hI (v2 + 1) (v3 + 1) (q_rg_le (L := 0) (U := 4096) (q_rg_add (L := 1) (U := 4096) g22 (q_rg_lit (n := 1) (x := 1) rfl) (by decide) (by decide) (by decide) (by decide)) (by decide) (by decide)) (q_meu g22 m4 (by decide) (by decide))
  | false =>
    have g24 := (q_rg_ltF1 (l2 := 4096) (u := 4096) h21 rv3 (q_rg_lit (n := 4096) (x := 4096) rfl))
    refine q_E_F ?_
    exact q_E_x trivial
theorem dzj_W111_66_98_4  : ∀ (m : Nat) (s : q_S) (hI : q_iW s) (v2 : Int32) (v3 : Int32) (rv3 : q_rgz 0 4096 v3), ((4096 - v3.toInt).toNat : Int) ≤ (m : Int) → q_Ex (dz_W111_66_98_4 (m + 1) s v2 v3) (fun _ => True) := by
  intro m
  induction m with
  | zero => intro s hI v2 v3 rv3 hm; rw [dzs_W111_66_98_4]; exact dzjb_W111_66_98_4 (dz_W111_66_98_4 0) (-1) (fun s hI v2 v3 rv3 hm => absurd hm (by omega)) s hI v2 v3 rv3 (by omega)
  | succ m ih => intro s hI v2 v3 rv3 hm; rw [dzs_W111_66_98_4]; exact dzjb_W111_66_98_4 (dz_W111_66_98_4 (m + 1)) (m : Int) (fun s hI v2 v3 rv3 hm => ih s hI v2 v3 rv3 hm) s hI v2 v3 rv3 (by omega)
set_option maxHeartbeats 4000000 in
theorem dzj_W111_66_98  (s : q_S) (hI : q_iW s) : q_Ex (dz_W111_66_98 s) (fun _ => True) := by
  unfold dz_W111_66_98
  exact dzj_W111_66_98_4 4999 (s) hI (0) (0) (q_rg_le (L := 0) (U := 4096) (q_rg_lit (n := 0) (x := 0) rfl) (by decide) (by decide)) (q_meu0 (q_rg_lit (n := 0) (x := 0) rfl) (by decide) (by decide))
set_option maxHeartbeats 4000000 in
theorem dzj_W110_66_98  (s : q_S) (hI : q_iW s) : (q_iW) (dz_W110_66_98 s) := by
  refine q_S_of (P := (q_iW)) ?_
  unfold dz_W110_66_98
  exact q_E_x (q_iW_A (q_iW_A hI))
set_option maxHeartbeats 4000000 in
theorem dzj_W174_72_104  (s : q_S) (hI : q_iW s) : (q_iW) (dz_W174_72_104 s) := by
  refine q_S_of (P := (q_iW)) ?_
  unfold dz_W174_72_104
  exact q_E_x (q_iW_I (i := 8) (m := 4) (q_iW_I (i := 8) (m := 3) (q_iW_I (i := 8) (m := 2) (q_iW_I (i := 8) (m := 1) (q_iW_A hI) (by decide)) (by decide)) (by decide)) (by decide))
set_option maxHeartbeats 4000000 in
theorem dzj_W179_74_106  (s : q_S) (hI : q_iW s) : (q_iW) (dz_W179_74_106 s) := by
  refine q_S_of (P := (q_iW)) ?_
  unfold dz_W179_74_106
  exact q_E_x (q_iW_I (i := 10) (m := 2) (q_iW_A (q_iW_A hI)) (by decide))
set_option maxHeartbeats 4000000 in
theorem dzj_W110_78_110  (s : q_S) (hI : q_iW s) : (q_iW) (dz_W110_78_110 s) := by
  refine q_S_of (P := (q_iW)) ?_
  unfold dz_W110_78_110
  exact q_E_x (q_iW_A (q_iW_A hI))
set_option maxHeartbeats 4000000 in
theorem dzj_W126_77_109  (s : q_S) (hI : q_iW s) : (q_iW) (dz_W126_77_109 s) := by
  refine q_S_of (P := (q_iW)) ?_
  unfold dz_W126_77_109
  have j26 := dzj_W110_78_110 (s) hI
  refine q_S_L ?_
  generalize dz_W110_78_110 s = r1 at j26 ⊢
  exact q_E_x (q_iW_I (i := 13) (m := 3) (q_iW_I (i := 13) (m := 2) (q_iW_A j26) (by decide)) (by decide))
set_option maxHeartbeats 4000000 in
theorem dzj_W110_83_115  (s : q_S) (hI : q_iW s) : (q_iW) (dz_W110_83_115 s) := by
  refine q_S_of (P := (q_iW)) ?_
  unfold dz_W110_83_115
  exact q_E_x (q_iW_A (q_iW_A hI))
set_option maxHeartbeats 4000000 in
theorem dzj_W126_82_114  (s : q_S) (hI : q_iW s) : (q_iW) (dz_W126_82_114 s) := by
  refine q_S_of (P := (q_iW)) ?_
  unfold dz_W126_82_114
  have j28 := dzj_W110_83_115 (s) hI
  refine q_S_L ?_
  generalize dz_W110_83_115 s = r1 at j28 ⊢
  exact q_E_x (q_iW_I (i := 18) (m := 3) (q_iW_I (i := 18) (m := 2) (q_iW_A j28) (by decide)) (by decide))
set_option maxHeartbeats 4000000 in
theorem dzj_W85_65_97  (s : q_S) (hI : q_iW s) : (q_iW) (dz_W85_65_97 s) := by
  refine q_S_of (P := (q_iW)) ?_
  unfold dz_W85_65_97
  have j34 := dzj_W110_66_98 (s) hI
  refine q_S_L ?_
  generalize dz_W110_66_98 s = r1 at j34 ⊢
  have j35 := dzj_W174_72_104 (q_sA (q_sA (q_sA r1 5 (va_cpy (r1.1 37) (r1.1 5) 0 0 512)) 6 (va_cpy (r1.1 38) (r1.1 6) 0 0 2048)) 7 (va_cpy (r1.1 39) (r1.1 7) 0 0 2)) (q_iW_A (q_iW_A (q_iW_A j34)))
  refine q_S_L ?_
  generalize dz_W174_72_104 (q_sA (q_sA (q_sA r1 5 (va_cpy (r1.1 37) (r1.1 5) 0 0 512)) 6 (va_cpy (r1.1 38) (r1.1 6) 0 0 2048)) 7 (va_cpy (r1.1 39) (r1.1 7) 0 0 2)) = r2 at j35 ⊢
  have j36 := dzj_W179_74_106 (r2) j35
  refine q_S_L ?_
  generalize dz_W179_74_106 r2 = r3 at j36 ⊢
  have j37 := dzj_W126_77_109 (r3) j36
  refine q_S_L ?_
  generalize dz_W126_77_109 r3 = r4 at j37 ⊢
  have j38 := dzj_W126_82_114 (r4) j37
  refine q_S_L ?_
  generalize dz_W126_82_114 r4 = r5 at j38 ⊢
  exact q_E_x (q_iW_J j38)
set_option maxHeartbeats 4000000 in
theorem dzj_W131_87_119  (s : q_S) (hI : q_iW s) : q_Ex (dz_W131_87_119 s) (q_iW) := by
  unfold dz_W131_87_119
  refine q_E_A (q_z1_rg (q_rg_le (q_iW16 hI) (by decide) (by decide))) ?_
  refine q_E_A (q_z1_rg (q_rg_le (q_iW17 hI) (by decide) (by decide))) ?_
  exact q_E_x (q_iW_A (q_iW_I (i := 23) (m := 11) (q_iW_I (i := 23) (m := 10) (q_iW_I (i := 23) (m := 9) (q_iW_I (i := 23) (m := 8) (q_iW_F7 (q_iW_F6 (q_iW_I (i := 23) (m := 5) (q_iW_I (i := 23) (m := 4) (q_iW_I (i := 23) (m := 3) (q_iW_I (i := 23) (m := 2) (q_iW_I (i := 23) (m := 1) (q_iW_I (i := 23) (m := 0) hI (by decide)) (by decide)) (by decide)) (by decide)) (by decide)) (by decide)) (q_rg_le (q_iW16 hI) (by decide) (by decide))) (q_rg_le (q_iW17 hI) (by decide) (by decide))) (by decide)) (by decide)) (by decide)) (by decide)))
set_option maxHeartbeats 4000000 in
theorem dzj_W166_89_121  (s : q_S) (hI : q_iW s) : (q_iW) (dz_W166_89_121 s) := by
  refine q_S_of (P := (q_iW)) ?_
  unfold dz_W166_89_121
  exact q_E_x (q_iW_A (q_iW_A (q_iW_A (q_iW_A (q_iW_A hI)))))
set_option maxHeartbeats 4000000 in
theorem dzj_W77_64_96  (s : q_S) (hI : q_iW s) : q_Ex (dz_W77_64_96 s) (q_iW) := by
  unfold dz_W77_64_96
  have j43 := dzj_W85_65_97 (s) hI
  refine q_E_L ?_
  generalize dz_W85_65_97 s = r3 at j43 ⊢
  obtain ⟨r4, e45, j44⟩ := dzj_W131_87_119 (r3) j43
  rw [e45]
  refine q_E_B ?_
  have j46 := dzj_W166_89_121 (r4) j44
  refine q_E_L ?_
  generalize dz_W166_89_121 r4 = r5 at j46 ⊢
  exact q_E_x (q_iW_J (q_iW_A j46))
theorem dzj_W91_65  (s : q_S) (hI : q_iW s) (a1 : Int32) (a2 : Int32) : (fun _ => True) (dz_W91_65 s a1 a2) := trivial
set_option maxHeartbeats 4000000 in
theorem dzj_W90_65_73  (s : q_S) (hI : q_iW s) (v1 : Int32) (v3 : Int32) : q_Ex (dz_W90_65_73 s v1 v3) (fun _ => True) := by
  unfold dz_W90_65_73
  cases h129 : decide (v3 &&& 2 = 2) with
  | true =>
    have g130 := q_rg_eqT h129 (q_rg_lit (n := 2) (x := 2) rfl)
    refine q_E_T ?_
    cases h131 : decide (v1 < 2048) with
    | true =>
      have g132 := (q_rg_ltT1 (l := -2147483648) (U := 2047) h131 (q_rg_full _) (q_rg_lit (n := 2048) (x := 2048) rfl) (by decide))
      refine q_E_T ?_
      exact q_E_x trivial
    | false =>
      have g133 := (q_rg_ltF1 (l2 := 2048) (u := 2147483647) h131 (q_rg_full _) (q_rg_lit (n := 2048) (x := 2048) rfl))
      refine q_E_F ?_
      cases h134 : decide (v1 < 2560) with
      | true =>
        have g135 := (q_rg_ltT1 (l := 2048) (U := 2559) h134 g133 (q_rg_lit (n := 2560) (x := 2560) rfl) (by decide))
        refine q_E_T ?_
        refine q_E_A (q_in_rg (q_rg_sub (L := 0) (U := 2047) (q_rg_add (L := 2048) (U := 4095) (q_rg_mul (L := 0) (U := 1536) (q_rg_lit (n := 512) (x := 512) rfl) (q_rg_and (v3 >>> ((2 &&& 31) : Int32)) 3 (U := 3) (by decide) rfl) (by decide) (by decide) (by decide) (by decide) (by decide) (by decide)) g135 (by decide) (by decide) (by decide) (by decide)) (q_rg_lit (n := 2048) (x := 2048) rfl) (by decide) (by decide) (by decide) (by decide)) (by decide) (by decide)) ?_
        exact q_E_x trivial
      | false =>
        have g136 := (q_rg_ltF1 (l2 := 2560) (u := 2147483647) h134 g133 (q_rg_lit (n := 2560) (x := 2560) rfl))
        refine q_E_F ?_
        exact q_E_x trivial
  | false =>
    have g137 := (q_rg_neU (l := 0) (u := 2) (n := 2) (U := 1) h129 (q_rg_and v3 2 (U := 2) (by decide) rfl) rfl (by decide) (by decide))
    refine q_E_F ?_
    exact q_E_x trivial
set_option maxHeartbeats 4000000 in
theorem dzj_W90_65_31  (s : q_S) (hI : q_iW s) (v1 : Int32) : q_Ex (dz_W90_65_31 s v1) (fun _ => True) := by
  unfold dz_W90_65_31
  cases h138 : decide (((s.1 4) 0) &&& 1 = 1) with
  | true =>
    have g139 := q_rg_eqT h138 (q_rg_lit (n := 1) (x := 1) rfl)
    refine q_E_T ?_
    cases h140 : decide (v1 < 3072) with
    | true =>
      have g141 := (q_rg_ltT1 (l := -2147483648) (U := 3071) h140 (q_rg_full _) (q_rg_lit (n := 3072) (x := 3072) rfl) (by decide))
      refine q_E_T ?_
      exact dzj_W90_65_73 (s) hI (v1) ((s.1 4) 0)
    | false =>
      have g142 := (q_rg_ltF1 (l2 := 3072) (u := 2147483647) h140 (q_rg_full _) (q_rg_lit (n := 3072) (x := 3072) rfl))
      refine q_E_F ?_
      cases h143 : decide (v1 < 3584) with
      | true =>
        have g144 := (q_rg_ltT1 (l := 3072) (U := 3583) h143 g142 (q_rg_lit (n := 3584) (x := 3584) rfl) (by decide))
        refine q_E_T ?_
        exact q_E_x trivial
      | false =>
        have g145 := (q_rg_ltF1 (l2 := 3584) (u := 2147483647) h143 g142 (q_rg_lit (n := 3584) (x := 3584) rfl))
        refine q_E_F ?_
        exact dzj_W90_65_73 (s) hI (v1) ((s.1 4) 0)
  | false =>
    have g146 := (q_rg_neU (l := 0) (u := 1) (n := 1) (U := 0) h138 (q_rg_and ((s.1 4) 0) 1 (U := 1) (by decide) rfl) rfl (by decide) (by decide))
    refine q_E_F ?_
    exact dzj_W90_65_73 (s) hI (v1) ((s.1 4) 0)
set_option maxHeartbeats 4000000 in
theorem dzj_W90_65  (s : q_S) (hI : q_iW s) (a1 : Int32) : q_Ex (dz_W90_65 s a1) (fun _ => True) := by
  unfold dz_W90_65
  cases h147 : decide (a1 - 3840 < 0) with
  | true =>
    have g148 := (q_rg_ltT1 (l := -2147483648) (U := -1) h147 (q_rg_full _) (q_rg_lit (n := 0) (x := 0) rfl) (by decide))
    refine q_E_T ?_
    exact dzj_W90_65_31 (s) hI (a1)
  | false =>
    have g149 := (q_rg_ltF1 (l2 := 0) (u := 2147483647) h147 (q_rg_full _) (q_rg_lit (n := 0) (x := 0) rfl))
    refine q_E_F ?_
    cases h150 : decide (a1 - 3840 < 48) with
    | true =>
      have g151 := (q_rg_ltT1 (l := 0) (U := 47) h150 g149 (q_rg_lit (n := 48) (x := 48) rfl) (by decide))
      refine q_E_T ?_
      have j152 := dzj_W91_65 (s) hI (a1 - 3840) ((s.1 4) ((a1 - 3840).toNatClampNeg))
      refine q_E_L ?_
      generalize dz_W91_65 s (a1 - 3840) ((s.1 4) ((a1 - 3840).toNatClampNeg)) = r1 at j152 ⊢
      exact q_E_x trivial
    | false =>
      have g153 := (q_rg_ltF1 (l2 := 48) (u := 2147483647) h150 g149 (q_rg_lit (n := 48) (x := 48) rfl))
      refine q_E_F ?_
      exact dzj_W90_65_31 (s) hI (a1)
theorem dzj_W91_97  (s : q_S) (hI : q_iW s) (a1 : Int32) (a2 : Int32) : (fun _ => True) (dz_W91_97 s a1 a2) := trivial
set_option maxHeartbeats 4000000 in
theorem dzj_W90_97_73  (s : q_S) (hI : q_iW s) (v1 : Int32) (v3 : Int32) : q_Ex (dz_W90_97_73 s v1 v3) (fun _ => True) := by
  unfold dz_W90_97_73
  cases h236 : decide (v3 &&& 2 = 2) with
  | true =>
    have g237 := q_rg_eqT h236 (q_rg_lit (n := 2) (x := 2) rfl)
    refine q_E_T ?_
    cases h238 : decide (v1 < 2048) with
    | true =>
      have g239 := (q_rg_ltT1 (l := -2147483648) (U := 2047) h238 (q_rg_full _) (q_rg_lit (n := 2048) (x := 2048) rfl) (by decide))
      refine q_E_T ?_
      exact q_E_x trivial
    | false =>
      have g240 := (q_rg_ltF1 (l2 := 2048) (u := 2147483647) h238 (q_rg_full _) (q_rg_lit (n := 2048) (x := 2048) rfl))
      refine q_E_F ?_
      cases h241 : decide (v1 < 2560) with
      | true =>
        have g242 := (q_rg_ltT1 (l := 2048) (U := 2559) h241 g240 (q_rg_lit (n := 2560) (x := 2560) rfl) (by decide))
        refine q_E_T ?_
        refine q_E_A (q_in_rg (q_rg_sub (L := 0) (U := 2047) (q_rg_add (L := 2048) (U := 4095) (q_rg_mul (L := 0) (U := 1536) (q_rg_lit (n := 512) (x := 512) rfl) (q_rg_and (v3 >>> ((2 &&& 31) : Int32)) 3 (U := 3) (by decide) rfl) (by decide) (by decide) (by decide) (by decide) (by decide) (by decide)) g242 (by decide) (by decide) (by decide) (by decide)) (q_rg_lit (n := 2048) (x := 2048) rfl) (by decide) (by decide) (by decide) (by decide)) (by decide) (by decide)) ?_
        exact q_E_x trivial
      | false =>
        have g243 := (q_rg_ltF1 (l2 := 2560) (u := 2147483647) h241 g240 (q_rg_lit (n := 2560) (x := 2560) rfl))
        refine q_E_F ?_
        exact q_E_x trivial
  | false =>
    have g244 := (q_rg_neU (l := 0) (u := 2) (n := 2) (U := 1) h236 (q_rg_and v3 2 (U := 2) (by decide) rfl) rfl (by decide) (by decide))
    refine q_E_F ?_
    exact q_E_x trivial
set_option maxHeartbeats 4000000 in
theorem dzj_W90_97_31  (s : q_S) (hI : q_iW s) (v1 : Int32) : q_Ex (dz_W90_97_31 s v1) (fun _ => True) := by
  unfold dz_W90_97_31
  cases h245 : decide (((s.1 36) 0) &&& 1 = 1) with
  | true =>
    have g246 := q_rg_eqT h245 (q_rg_lit (n := 1) (x := 1) rfl)
    refine q_E_T ?_
    cases h247 : decide (v1 < 3072) with
    | true =>
      have g248 := (q_rg_ltT1 (l := -2147483648) (U := 3071) h247 (q_rg_full _) (q_rg_lit (n := 3072) (x := 3072) rfl) (by decide))
      refine q_E_T ?_
      exact dzj_W90_97_73 (s) hI (v1) ((s.1 36) 0)
    | false =>
      have g249 := (q_rg_ltF1 (l2 := 3072) (u := 2147483647) h247 (q_rg_full _) (q_rg_lit (n := 3072) (x := 3072) rfl))
      refine q_E_F ?_
      cases h250 : decide (v1 < 3584) with
      | true =>
        have g251 := (q_rg_ltT1 (l := 3072) (U := 3583) h250 g249 (q_rg_lit (n := 3584) (x := 3584) rfl) (by decide))
        refine q_E_T ?_
        exact q_E_x trivial
      | false =>
        have g252 := (q_rg_ltF1 (l2 := 3584) (u := 2147483647) h250 g249 (q_rg_lit (n := 3584) (x := 3584) rfl))
        refine q_E_F ?_
        exact dzj_W90_97_73 (s) hI (v1) ((s.1 36) 0)
  | false =>
    have g253 := (q_rg_neU (l := 0) (u := 1) (n := 1) (U := 0) h245 (q_rg_and ((s.1 36) 0) 1 (U := 1) (by decide) rfl) rfl (by decide) (by decide))
    refine q_E_F ?_
    exact dzj_W90_97_73 (s) hI (v1) ((s.1 36) 0)
set_option maxHeartbeats 4000000 in
theorem dzj_W90_97  (s : q_S) (hI : q_iW s) (a1 : Int32) : q_Ex (dz_W90_97 s a1) (fun _ => True) := by
  unfold dz_W90_97
  cases h254 : decide (a1 - 3840 < 0) with
  | true =>
    have g255 := (q_rg_ltT1 (l := -2147483648) (U := -1) h254 (q_rg_full _) (q_rg_lit (n := 0) (x := 0) rfl) (by decide))
    refine q_E_T ?_
    exact dzj_W90_97_31 (s) hI (a1)
  | false =>
    have g256 := (q_rg_ltF1 (l2 := 0) (u := 2147483647) h254 (q_rg_full _) (q_rg_lit (n := 0) (x := 0) rfl))
    refine q_E_F ?_
    cases h257 : decide (a1 - 3840 < 48) with
    | true =>
      have g258 := (q_rg_ltT1 (l := 0) (U := 47) h257 g256 (q_rg_lit (n := 48) (x := 48) rfl) (by decide))
      refine q_E_T ?_
      have j259 := dzj_W91_97 (s) hI (a1 - 3840) ((s.1 36) ((a1 - 3840).toNatClampNeg))
      refine q_E_L ?_
      generalize dz_W91_97 s (a1 - 3840) ((s.1 36) ((a1 - 3840).toNatClampNeg)) = r1 at j259 ⊢
      exact q_E_x trivial
    | false =>
      have g260 := (q_rg_ltF1 (l2 := 48) (u := 2147483647) h257 g256 (q_rg_lit (n := 48) (x := 48) rfl))
      refine q_E_F ?_
      exact dzj_W90_97_31 (s) hI (a1)
theorem dzj_W132_87_119  (s : q_S) (hI : q_iW s) : (fun _ => True) (dz_W132_87_119 s) := trivial
set_option maxHeartbeats 4000000 in
theorem dzjb_W167_89_121_2  (k2 : q_S → Int32 → Option (Bool)) (M2 : Int) (tk2 : ∀ (s : q_S), q_iW s → ∀ (v2 : Int32), q_rgz 0 40 v2 → ((40 - v2.toInt).toNat : Int) ≤ M2 → q_Ex (k2 s v2) (fun _ => True)) (s : q_S) (hI : q_iW s) (v2 : Int32) (rv2 : q_rgz 0 40 v2) (m2 : ((40 - v2.toInt).toNat : Int) ≤ M2 + 1) : q_Ex (cond (decide (v2 < 40)) (cond (q_in v2 40) (cond (decide ((s.1 30) (v2.toNatClampNeg) = (s.1 62) (v2.toNatClampNeg))) (k2 s (v2 + 1)) (some false)) none) (some true)) (fun _ => True) := by
  cases h293 : decide (v2 < 40) with
  | true =>
    have g294 := (q_rg_ltT1 (l := 0) (U := 39) h293 rv2 (q_rg_lit (n := 40) (x := 40) rfl) (by decide))
    refine q_E_T ?_
    refine q_E_A (q_in_rg g294 (by decide) (by decide)) ?_
    cases h295 : decide ((s.1 30) (v2.toNatClampNeg) = (s.1 62) (v2.toNatClampNeg)) with
    | true =>
      refine q_E_T ?_
      exact tk2 (s) hI (v2 + 1) (q_rg_le (L := 0) (U := 40) (q_rg_add (L := 1) (U := 40) g294 (q_rg_lit (n := 1) (x := 1) rfl) (by decide) (by decide) (by decide) (by decide)) (by decide) (by decide)) (q_meu g294 m2 (by decide) (by decide))
    | false =>
      refine q_E_F ?_
      exact q_E_x trivial
  | false =>
    have g296 := (q_rg_ltF1 (l2 := 40) (u := 40) h293 rv2 (q_rg_lit (n := 40) (x := 40) rfl))
    refine q_E_F ?_
    exact q_E_x trivial
theorem dzj_W167_89_121_2  : ∀ (m : Nat) (s : q_S) (hI : q_iW s) (v2 : Int32) (rv2 : q_rgz 0 40 v2), ((40 - v2.toInt).toNat : Int) ≤ (m : Int) → q_Ex (dz_W167_89_121_2 (m + 1) s v2) (fun _ => True) := by
  intro m
  induction m with
  | zero => intro s hI v2 rv2 hm; rw [dzs_W167_89_121_2]; exact dzjb_W167_89_121_2 (dz_W167_89_121_2 0) (-1) (fun s hI v2 rv2 hm => absurd hm (by omega)) s hI v2 rv2 (by omega)
  | succ m ih => intro s hI v2 rv2 hm; rw [dzs_W167_89_121_2]; exact dzjb_W167_89_121_2 (dz_W167_89_121_2 (m + 1)) (m : Int) (fun s hI v2 rv2 hm => ih s hI v2 rv2 hm) s hI v2 rv2 (by omega)
set_option maxHeartbeats 4000000 in
theorem dzj_W167_89_121  (s : q_S) (hI : q_iW s) : q_Ex (dz_W167_89_121 s) (fun _ => True) := by
  unfold dz_W167_89_121
  exact dzj_W167_89_121_2 4999 (s) hI (0) (q_rg_le (L := 0) (U := 40) (q_rg_lit (n := 0) (x := 0) rfl) (by decide) (by decide)) (q_meu0 (q_rg_lit (n := 0) (x := 0) rfl) (by decide) (by decide))
set_option maxHeartbeats 4000000 in
theorem dzjb_W78_64_96_45  (k45 : q_S → Int32 → Option (Bool)) (M45 : Int) (tk45 : ∀ (s : q_S), q_iW s → ∀ (v2 : Int32), q_rgz 0 1024 v2 → ((1024 - v2.toInt).toNat : Int) ≤ M45 → q_Ex (k45 s v2) (fun _ => True)) (s : q_S) (hI : q_iW s) (v2 : Int32) (rv2 : q_rgz 0 1024 v2) (m45 : ((1024 - v2.toInt).toNat : Int) ≤ M45 + 1) : q_Ex (cond (decide (v2 < 1024)) (cond (q_in v2 1024) (cond (decide ((s.1 31) (v2.toNatClampNeg) = (s.1 63) (v2.toNatClampNeg))) (k45 s (v2 + 1)) (some false)) none) ((dz_W111_66_98 s).bind fun r3 => cond (decide (r3 = 0)) (q_let (dz_W132_87_119 s) fun r4 => cond r4 ((dz_W167_89_121 s).bind fun r5 => cond r5 (some true) (some false)) (some false)) (some false))) (fun _ => True) := by
  cases h393 : decide (v2 < 1024) with
  | true =>
    have g394 := (q_rg_ltT1 (l := 0) (U := 1023) h393 rv2 (q_rg_lit (n := 1024) (x := 1024) rfl) (by decide))
    refine q_E_T ?_
    refine q_E_A (q_in_rg g394 (by decide) (by decide)) ?_
    cases h395 : decide ((s.1 31) (v2.toNatClampNeg) = (s.1 63) (v2.toNatClampNeg)) with
    | true =>
      refine q_E_T ?_
      exact tk45 (s) hI (v2 + 1) (q_rg_le (L := 0) (U := 1024) (q_rg_add (L := 1) (U := 1024) g394 (q_rg_lit (n := 1) (x := 1) rfl) (by decide) (by decide) (by decide) (by decide)) (by decide) (by decide)) (q_meu g394 m45 (by decide) (by decide))
    | false =>
      refine q_E_F ?_
      exact q_E_x trivial
  | false =>
    have g396 := (q_rg_ltF1 (l2 := 1024) (u := 1024) h393 rv2 (q_rg_lit (n := 1024) (x := 1024) rfl))
    refine q_E_F ?_
    obtain ⟨r3, e398, j397⟩ := dzj_W111_66_98 (s) hI
    rw [e398]
    refine q_E_B ?_
    cases h399 : decide (r3 = 0) with
    | true =>
      have g400 := q_rg_eqT h399 (q_rg_lit (n := 0) (x := 0) rfl)
      refine q_E_T ?_
      have j401 := dzj_W132_87_119 (s) hI
      refine q_E_L ?_
      generalize dz_W132_87_119 s = r4 at j401 ⊢
      cases h402 : r4 with
      | true =>
        refine q_E_T ?_
        obtain ⟨r5, e404, j403⟩ := dzj_W167_89_121 (s) hI
        rw [e404]
        refine q_E_B ?_
        cases h405 : r5 with
        | true =>
          refine q_E_T ?_
          exact q_E_x trivial
        | false =>
          refine q_E_F ?_
          exact q_E_x trivial
      | false =>
        refine q_E_F ?_
        exact q_E_x trivial
    | false =>
      refine q_E_F ?_
      exact q_E_x trivial
theorem dzj_W78_64_96_45  : ∀ (m : Nat) (s : q_S) (hI : q_iW s) (v2 : Int32) (rv2 : q_rgz 0 1024 v2), ((1024 - v2.toInt).toNat : Int) ≤ (m : Int) → q_Ex (dz_W78_64_96_45 (m + 1) s v2) (fun _ => True) := by
  intro m
  induction m with
  | zero => intro s hI v2 rv2 hm; rw [dzs_W78_64_96_45]; exact dzjb_W78_64_96_45 (dz_W78_64_96_45 0) (-1) (fun s hI v2 rv2 hm => absurd hm (by omega)) s hI v2 rv2 (by omega)
  | succ m ih => intro s hI v2 rv2 hm; rw [dzs_W78_64_96_45]; exact dzjb_W78_64_96_45 (dz_W78_64_96_45 (m + 1)) (m : Int) (fun s hI v2 rv2 hm => ih s hI v2 rv2 hm) s hI v2 rv2 (by omega)
set_option maxHeartbeats 4000000 in
theorem dzjb_W78_64_96_2  (k2 : q_S → Int32 → Option (Bool)) (M2 : Int) (tk2 : ∀ (s : q_S), q_iW s → ∀ (v2 : Int32), q_rgz 0 48 v2 → ((48 - v2.toInt).toNat : Int) ≤ M2 → q_Ex (k2 s v2) (fun _ => True)) (s : q_S) (hI : q_iW s) (v2 : Int32) (rv2 : q_rgz 0 48 v2) (m2 : ((48 - v2.toInt).toNat : Int) ≤ M2 + 1) : q_Ex (cond (decide (v2 < 48)) ((dz_W90_65 s ((3840 : Int32) + v2)).bind fun r1 => (dz_W90_97 s ((3840 : Int32) + v2)).bind fun r2 => cond (decide (r1 = r2)) (k2 s (v2 + 1)) (some false)) (dz_W78_64_96_45 5000 s 0)) (fun _ => True) := by
  cases h406 : decide (v2 < 48) with
  | true =>
    have g407 := (q_rg_ltT1 (l := 0) (U := 47) h406 rv2 (q_rg_lit (n := 48) (x := 48) rfl) (by decide))
    refine q_E_T ?_
    obtain ⟨r1, e409, j408⟩ := dzj_W90_65 (s) hI ((3840 : Int32) + v2)
    rw [e409]
    refine q_E_B ?_
    obtain ⟨r2, e411, j410⟩ := dzj_W90_97 (s) hI ((3840 : Int32) + v2)
    rw [e411]
    refine q_E_B ?_
    cases h412 : decide (r1 = r2) with
    | true =>
      refine q_E_T ?_
      exact tk2 (s) hI (v2 + 1) (q_rg_le (L := 0) (U := 48) (q_rg_add (L := 1) (U := 48) g407 (q_rg_lit (n := 1) (x := 1) rfl) (by decide) (by decide) (by decide) (by decide)) (by decide) (by decide)) (q_meu g407 m2 (by decide) (by decide))
    | false =>
      refine q_E_F ?_
      exact q_E_x trivial
  | false =>
    have g413 := (q_rg_ltF1 (l2 := 48) (u := 48) h406 rv2 (q_rg_lit (n := 48) (x := 48) rfl))
    refine q_E_F ?_
    exact dzj_W78_64_96_45 4999 (s) hI (0) (q_rg_le (L := 0) (U := 1024) (q_rg_lit (n := 0) (x := 0) rfl) (by decide) (by decide)) (q_meu0 (q_rg_lit (n := 0) (x := 0) rfl) (by decide) (by decide))
theorem dzj_W78_64_96_2  : ∀ (m : Nat) (s : q_S) (hI : q_iW s) (v2 : Int32) (rv2 : q_rgz 0 48 v2), ((48 - v2.toInt).toNat : Int) ≤ (m : Int) → q_Ex (dz_W78_64_96_2 (m + 1) s v2) (fun _ => True) := by
  intro m
  induction m with
  | zero => intro s hI v2 rv2 hm; rw [dzs_W78_64_96_2]; exact dzjb_W78_64_96_2 (dz_W78_64_96_2 0) (-1) (fun s hI v2 rv2 hm => absurd hm (by omega)) s hI v2 rv2 (by omega)
  | succ m ih => intro s hI v2 rv2 hm; rw [dzs_W78_64_96_2]; exact dzjb_W78_64_96_2 (dz_W78_64_96_2 (m + 1)) (m : Int) (fun s hI v2 rv2 hm => ih s hI v2 rv2 hm) s hI v2 rv2 (by omega)
set_option maxHeartbeats 4000000 in
theorem dzj_W78_64_96  (s : q_S) (hI : q_iW s) : q_Ex (dz_W78_64_96 s) (fun _ => True) := by
  unfold dz_W78_64_96
  exact dzj_W78_64_96_2 4999 (s) hI (0) (q_rg_le (L := 0) (U := 48) (q_rg_lit (n := 0) (x := 0) rfl) (by decide) (by decide)) (q_meu0 (q_rg_lit (n := 0) (x := 0) rfl) (by decide) (by decide))
