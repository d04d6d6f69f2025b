set_option maxHeartbeats 4000000 in
theorem dzj_M258_64 (c d w : Int) (s : q_S) (hI : q_Iv c d w s) (a1 : Int32) : (q_Iv c d w) (dz_M258_64 s a1) := by
  refine q_S_of (P := (q_Iv c d w)) ?_
  unfold dz_M258_64
  refine q_S_L ?_
  generalize p1697 : dz_M205 s a1 0 = r1
  cases r1 with
  | true =>
    refine q_S_T ?_
    refine q_S_L ?_
    generalize p1698 : dz_M205 (q_sA s 15 (upd (s.1 15) 5 (vp_nar .boolean 1))) a1 1 = r2
    cases r2 with
    | true =>
      refine q_S_T ?_
      have j1699 : q_Iv c d w (q_sA s 15 (upd (s.1 15) 5 (vp_nar .boolean 1))) := (q_Iv_A (i := 15) hI (q_hf_up ((hI).1 15) (q_s15 (q_rg_le (L := 0) (U := 1) (q_rg_nb _) (by decide) (by decide)))))
      refine q_S_L ?_
      generalize (q_sA s 15 (upd (s.1 15) 5 (vp_nar .boolean 1))) = r3 at j1699 ⊢
      refine q_S_L ?_
      generalize p1700 : dz_M205 (q_sA r3 15 (upd (r3.1 15) 4 (vp_nar .boolean 1))) a1 2 = r4
      cases r4 with
      | true =>
        refine q_S_T ?_
        have j1701 : q_Iv c d w (q_sA r3 15 (upd (r3.1 15) 4 (vp_nar .boolean 1))) := (q_Iv_A (i := 15) j1699 (q_hf_up ((j1699).1 15) (q_s15 (q_rg_le (L := 0) (U := 1) (q_rg_nb _) (by decide) (by decide)))))
        refine q_S_L ?_
        generalize (q_sA r3 15 (upd (r3.1 15) 4 (vp_nar .boolean 1))) = r5 at j1701 ⊢
        refine q_S_L ?_
        generalize p1702 : dz_M205 (q_sA r5 15 (upd (r5.1 15) 3 (vp_nar .boolean 1))) a1 3 = r6
        cases r6 with
        | true =>
          refine q_S_T ?_
          have j1703 : q_Iv c d w (q_sA r5 15 (upd (r5.1 15) 3 (vp_nar .boolean 1))) := (q_Iv_A (i := 15) j1701 (q_hf_up ((j1701).1 15) (q_s15 (q_rg_le (L := 0) (U := 1) (q_rg_nb _) (by decide) (by decide)))))
          refine q_S_L ?_
          generalize (q_sA r5 15 (upd (r5.1 15) 3 (vp_nar .boolean 1))) = r7 at j1703 ⊢
          refine q_S_L ?_
          generalize p1704 : dz_M205 (q_sA r7 15 (upd (r7.1 15) 2 (vp_nar .boolean 1))) a1 6 = r8
          cases r8 with
          | true =>
            refine q_S_T ?_
            have j1705 : q_Iv c d w (q_sA r7 15 (upd (r7.1 15) 2 (vp_nar .boolean 1))) := (q_Iv_A (i := 15) j1703 (q_hf_up ((j1703).1 15) (q_s15 (q_rg_le (L := 0) (U := 1) (q_rg_nb _) (by decide) (by decide)))))
            refine q_S_L ?_
            generalize (q_sA r7 15 (upd (r7.1 15) 2 (vp_nar .boolean 1))) = r9 at j1705 ⊢
            refine q_S_L ?_
            generalize p1706 : dz_M205 (q_sA r9 15 (upd (r9.1 15) 1 (vp_nar .boolean 1))) a1 7 = r10
            cases r10 with
            | true =>
              refine q_S_T ?_
              have j1707 : q_Iv c d w (q_sA r9 15 (upd (r9.1 15) 1 (vp_nar .boolean 1))) := (q_Iv_A (i := 15) j1705 (q_hf_up ((j1705).1 15) (q_s15 (q_rg_le (L := 0) (U := 1) (q_rg_nb _) (by decide) (by decide)))))
              refine q_S_L ?_
              generalize (q_sA r9 15 (upd (r9.1 15) 1 (vp_nar .boolean 1))) = r11 at j1707 ⊢
              exact q_E_x (q_Iv_A (i := 15) j1707 (q_hf_up ((j1707).1 15) (q_s15 (q_rg_le (L := 0) (U := 1) (q_rg_nb _) (by decide) (by decide)))))
            | false =>
              refine q_S_F ?_
              have j1708 : q_Iv c d w (q_sA r9 15 (upd (r9.1 15) 1 (vp_nar .boolean 1))) := (q_Iv_A (i := 15) j1705 (q_hf_up ((j1705).1 15) (q_s15 (q_rg_le (L := 0) (U := 1) (q_rg_nb _) (by decide) (by decide)))))
              refine q_S_L ?_
              generalize (q_sA r9 15 (upd (r9.1 15) 1 (vp_nar .boolean 1))) = r12 at j1708 ⊢
              exact q_E_x (q_Iv_A (i := 15) j1708 (q_hf_up ((j1708).1 15) (q_s15 (q_rg_le (L := 0) (U := 1) (q_rg_nb _) (by decide) (by decide)))))
          | false =>
            refine q_S_F ?_
            have j1709 : q_Iv c d w (q_sA r7 15 (upd (r7.1 15) 2 (vp_nar .boolean 1))) := (q_Iv_A (i := 15) j1703 (q_hf_up ((j1703).1 15) (q_s15 (q_rg_le (L := 0) (U := 1) (q_rg_nb _) (by decide) (by decide)))))
            refine q_S_L ?_
            generalize (q_sA r7 15 (upd (r7.1 15) 2 (vp_nar .boolean 1))) = r13 at j1709 ⊢
            refine q_S_L ?_
            generalize p1710 : dz_M205 (q_sA r13 15 (upd (r13.1 15) 1 (vp_nar .boolean 0))) a1 7 = r14
            cases r14 with
            | true =>
              refine q_S_T ?_
              have j1711 : q_Iv c d w (q_sA r13 15 (upd (r13.1 15) 1 (vp_nar .boolean 0))) := (q_Iv_A (i := 15) j1709 (q_hf_up ((j1709).1 15) (q_s15 (q_rg_le (L := 0) (U := 1) (q_rg_nb _) (by decide) (by decide)))))
              refine q_S_L ?_
              generalize (q_sA r13 15 (upd (r13.1 15) 1 (vp_nar .boolean 0))) = r15 at j1711 ⊢
              exact q_E_x (q_Iv_A (i := 15) j1711 (q_hf_up ((j1711).1 15) (q_s15 (q_rg_le (L := 0) (U := 1) (q_rg_nb _) (by decide) (by decide)))))
            | false =>
              refine q_S_F ?_
              have j1712 : q_Iv c d w (q_sA r13 15 (upd (r13.1 15) 1 (vp_nar .boolean 0))) := (q_Iv_A (i := 15) j1709 (q_hf_up ((j1709).1 15) (q_s15 (q_rg_le (L := 0) (U := 1) (q_rg_nb _) (by decide) (by decide)))))
              refine q_S_L ?_
              generalize (q_sA r13 15 (upd (r13.1 15) 1 (vp_nar .boolean 0))) = r16 at j1712 ⊢
              exact q_E_x (q_Iv_A (i := 15) j1712 (q_hf_up ((j1712).1 15) (q_s15 (q_rg_le (L := 0) (U := 1) (q_rg_nb _) (by decide) (by decide)))))
        | false =>
          refine q_S_F ?_
          have j1713 : q_Iv c d w (q_sA r5 15 (upd (r5.1 15) 3 (vp_nar .boolean 1))) := (q_Iv_A (i := 15) j1701 (q_hf_up ((j1701).1 15) (q_s15 (q_rg_le (L := 0) (U := 1) (q_rg_nb _) (by decide) (by decide)))))
          refine q_S_L ?_
          generalize (q_sA r5 15 (upd (r5.1 15) 3 (vp_nar .boolean 1))) = r17 at j1713 ⊢
          refine q_S_L ?_
          generalize p1714 : dz_M205 (q_sA r17 15 (upd (r17.1 15) 2 (vp_nar .boolean 0))) a1 6 = r18
          cases r18 with
          | true =>
            refine q_S_T ?_
            have j1715 : q_Iv c d w (q_sA r17 15 (upd (r17.1 15) 2 (vp_nar .boolean 0))) := (q_Iv_A (i := 15) j1713 (q_hf_up ((j1713).1 15) (q_s15 (q_rg_le (L := 0) (U := 1) (q_rg_nb _) (by decide) (by decide)))))
            refine q_S_L ?_
            generalize (q_sA r17 15 (upd (r17.1 15) 2 (vp_nar .boolean 0))) = r19 at j1715 ⊢
            refine q_S_L ?_
            generalize p1716 : dz_M205 (q_sA r19 15 (upd (r19.1 15) 1 (vp_nar .boolean 1))) a1 7 = r20
            cases r20 with
            | true =>
              refine q_S_T ?_
              have j1717 : q_Iv c d w (q_sA r19 15 (upd (r19.1 15) 1 (vp_nar .boolean 1))) := (q_Iv_A (i := 15) j1715 (q_hf_up ((j1715).1 15) (q_s15 (q_rg_le (L := 0) (U := 1) (q_rg_nb _) (by decide) (by decide)))))
              refine q_S_L ?_
              generalize (q_sA r19 15 (upd (r19.1 15) 1 (vp_nar .boolean 1))) = r21 at j1717 ⊢
              exact q_E_x (q_Iv_A (i := 15) j1717 (q_hf_up ((j1717).1 15) (q_s15 (q_rg_le (L := 0) (U := 1) (q_rg_nb _) (by decide) (by decide)))))
            | false =>
              refine q_S_F ?_
              have j1718 : q_Iv c d w (q_sA r19 15 (upd (r19.1 15) 1 (vp_nar .boolean 1))) := (q_Iv_A (i := 15) j1715 (q_hf_up ((j1715).1 15) (q_s15 (q_rg_le (L := 0) (U := 1) (q_rg_nb _) (by decide) (by decide)))))
              refine q_S_L ?_
              generalize (q_sA r19 15 (upd (r19.1 15) 1 (vp_nar .boolean 1))) = r22 at j1718 ⊢
              exact q_E_x (q_Iv_A (i := 15) j1718 (q_hf_up ((j1718).1 15) (q_s15 (q_rg_le (L := 0) (U := 1) (q_rg_nb _) (by decide) (by decide)))))
          | false =>
            refine q_S_F ?_
            have j1719 : q_Iv c d w (q_sA r17 15 (upd (r17.1 15) 2 (vp_nar .boolean 0))) := (q_Iv_A (i := 15) j1713 (q_hf_up ((j1713).1 15) (q_s15 (q_rg_le (L := 0) (U := 1) (q_rg_nb _) (by decide) (by decide)))))
            refine q_S_L ?_
            generalize (q_sA r17 15 (upd (r17.1 15) 2 (vp_nar .boolean 0))) = r23 at j1719 ⊢
            refine q_S_L ?_
            generalize p1720 : dz_M205 (q_sA r23 15 (upd (r23.1 15) 1 (vp_nar .boolean 0))) a1 7 = r24
            cases r24 with
            | true =>
              refine q_S_T ?_
              have j1721 : q_Iv c d w (q_sA r23 15 (upd (r23.1 15) 1 (vp_nar .boolean 0))) := (q_Iv_A (i := 15) j1719 (q_hf_up ((j1719).1 15) (q_s15 (q_rg_le (L := 0) (U := 1) (q_rg_nb _) (by decide) (by decide)))))
              refine q_S_L ?_
              generalize (q_sA r23 15 (upd (r23.1 15) 1 (vp_nar .boolean 0))) = r25 at j1721 ⊢
              exact q_E_x (q_Iv_A (i := 15) j1721 (q_hf_up ((j1721).1 15) (q_s15 (q_rg_le (L := 0) (U := 1) (q_rg_nb _) (by decide) (by decide)))))
            | false =>
              refine q_S_F ?_
              have j1722 : q_Iv c d w (q_sA r23 15 (upd (r23.1 15) 1 (vp_nar .boolean 0))) := (q_Iv_A (i := 15) j1719 (q_hf_up ((j1719).1 15) (q_s15 (q_rg_le (L := 0) (U := 1) (q_rg_nb _) (by decide) (by decide)))))
              refine q_S_L ?_
              generalize (q_sA r23 15 (upd (r23.1 15) 1 (vp_nar .boolean 0))) = r26 at j1722 ⊢
              exact q_E_x (q_Iv_A (i := 15) j1722 (q_hf_up ((j1722).1 15) (q_s15 (q_rg_le (L := 0) (U := 1) (q_rg_nb _) (by decide) (by decide)))))
      | false =>
        refine q_S_F ?_
        have j1723 : q_Iv c d w (q_sA r3 15 (upd (r3.1 15) 4 (vp_nar .boolean 1))) := (q_Iv_A (i := 15) j1699 (q_hf_up ((j1699).1 15) (q_s15 (q_rg_le (L := 0) (U := 1) (q_rg_nb _) (by decide) (by decide)))))
        refine q_S_L ?_
        generalize (q_sA r3 15 (upd (r3.1 15) 4 (vp_nar .boolean 1))) = r27 at j1723 ⊢
        refine q_S_L ?_
        generalize p1724 : dz_M205 (q_sA r27 15 (upd (r27.1 15) 3 (vp_nar .boolean 0))) a1 3 = r28
        cases r28 with
        | true =>
          refine q_S_T ?_
          have j1725 : q_Iv c d w (q_sA r27 15 (upd (r27.1 15) 3 (vp_nar .boolean 0))) := (q_Iv_A (i := 15) j1723 (q_hf_up ((j1723).1 15) (q_s15 (q_rg_le (L := 0) (U := 1) (q_rg_nb _) (by decide) (by decide)))))
          refine q_S_L ?_
          generalize (q_sA r27 15 (upd (r27.1 15) 3 (vp_nar .boolean 0))) = r29 at j1725 ⊢
          refine q_S_L ?_
          generalize p1726 : dz_M205 (q_sA r29 15 (upd (r29.1 15) 2 (vp_nar .boolean 1))) a1 6 = r30
          cases r30 with
          | true =>
            refine q_S_T ?_
            have j1727 : q_Iv c d w (q_sA r29 15 (upd (r29.1 15) 2 (vp_nar .boolean 1))) := (q_Iv_A (i := 15) j1725 (q_hf_up ((j1725).1 15) (q_s15 (q_rg_le (L := 0) (U := 1) (q_rg_nb _) (by decide) (by decide)))))
            refine q_S_L ?_
            generalize (q_sA r29 15 (upd (r29.1 15) 2 (vp_nar .boolean 1))) = r31 at j1727 ⊢
            refine q_S_L ?_
            generalize p1728 : dz_M205 (q_sA r31 15 (upd (r31.1 15) 1 (vp_nar .boolean 1))) a1 7 = r32
            cases r32 with
            | true =>
              refine q_S_T ?_
              have j1729 : q_Iv c d w (q_sA r31 15 (upd (r31.1 15) 1 (vp_nar .boolean 1))) := (q_Iv_A (i := 15) j1727 (q_hf_up ((j1727).1 15) (q_s15 (q_rg_le (L := 0) (U := 1) (q_rg_nb _) (by decide) (by decide)))))
              refine q_S_L ?_
              generalize (q_sA r31 15 (upd (r31.1 15) 1 (vp_nar .boolean 1))) = r33 at j1729 ⊢
              exact q_E_x (q_Iv_A (i := 15) j1729 (q_hf_up ((j1729).1 15) (q_s15 (q_rg_le (L := 0) (U := 1) (q_rg_nb _) (by decide) (by decide)))))
            | false =>
              refine q_S_F ?_
              have j1730 : q_Iv c d w (q_sA r31 15 (upd (r31.1 15) 1 (vp_nar .boolean 1))) := (q_Iv_A (i := 15) j1727 (q_hf_up ((j1727).1 15) (q_s15 (q_rg_le (L := 0) (U := 1) (q_rg_nb _) (by decide) (by decide)))))
              refine q_S_L ?_
              generalize (q_sA r31 15 (upd (r31.1 15) 1 (vp_nar .boolean 1))) = r34 at j1730 ⊢
              exact q_E_x (q_Iv_A (i := 15) j1730 (q_hf_up ((j1730).1 15) (q_s15 (q_rg_le (L := 0) (U := 1) (q_rg_nb _) (by decide) (by decide)))))
          | false =>
            refine q_S_F ?_
            have j1731 : q_Iv c d w (q_sA r29 15 (upd (r29.1 15) 2 (vp_nar .boolean 1))) := (q_Iv_A (i := 15) j1725 (q_hf_up ((j1725).1 15) (q_s15 (q_rg_le (L := 0) (U := 1) (q_rg_nb _) (by decide) (by decide)))))
            refine q_S_L ?_
            generalize (q_sA r29 15 (upd (r29.1 15) 2 (vp_nar .boolean 1))) = r35 at j1731 ⊢
            refine q_S_L ?_
            generalize p1732 : dz_M205 (q_sA r35 15 (upd (r35.1 15) 1 (vp_nar .boolean 0))) a1 7 = r36
            cases r36 with
            | true =>
              refine q_S_T ?_
              have j1733 : q_Iv c d w (q_sA r35 15 (upd (r35.1 15) 1 (vp_nar .boolean 0))) := (q_Iv_A (i := 15) j1731 (q_hf_up ((j1731).1 15) (q_s15 (q_rg_le (L := 0) (U := 1) (q_rg_nb _) (by decide) (by decide)))))
              refine q_S_L ?_
              generalize (q_sA r35 15 (upd (r35.1 15) 1 (vp_nar .boolean 0))) = r37 at j1733 ⊢
              exact q_E_x (q_Iv_A (i := 15) j1733 (q_hf_up ((j1733).1 15) (q_s15 (q_rg_le (L := 0) (U := 1) (q_rg_nb _) (by decide) (by decide)))))
            | false =>
              refine q_S_F ?_
              have j1734 : q_Iv c d w (q_sA r35 15 (upd (r35.1 15) 1 (vp_nar .boolean 0))) := (q_Iv_A (i := 15) j1731 (q_hf_up ((j1731).1 15) (q_s15 (q_rg_le (L := 0) (U := 1) (q_rg_nb _) (by decide) (by decide)))))
              refine q_S_L ?_
              generalize (q_sA r35 15 (upd (r35.1 15) 1 (vp_nar .boolean 0))) = r38 at j1734 ⊢
              exact q_E_x (q_Iv_A (i := 15) j1734 (q_hf_up ((j1734).1 15) (q_s15 (q_rg_le (L := 0) (U := 1) (q_rg_nb _) (by decide) (by decide)))))
        | false =>
          refine q_S_F ?_
          have j1735 : q_Iv c d w (q_sA r27 15 (upd (r27.1 15) 3 (vp_nar .boolean 0))) := (q_Iv_A (i := 15) j1723 (q_hf_up ((j1723).1 15) (q_s15 (q_rg_le (L := 0) (U := 1) (q_rg_nb _) (by decide) (by decide)))))
          refine q_S_L ?_
          generalize (q_sA r27 15 (upd (r27.1 15) 3 (vp_nar .boolean 0))) = r39 at j1735 ⊢
          refine q_S_L ?_
          generalize p1736 : dz_M205 (q_sA r39 15 (upd (r39.1 15) 2 (vp_nar .boolean 0))) a1 6 = r40
          cases r40 with
          | true =>
            refine q_S_T ?_
            have j1737 : q_Iv c d w (q_sA r39 15 (upd (r39.1 15) 2 (vp_nar .boolean 0))) := (q_Iv_A (i := 15) j1735 (q_hf_up ((j1735).1 15) (q_s15 (q_rg_le (L := 0) (U := 1) (q_rg_nb _) (by decide) (by decide)))))
            refine q_S_L ?_
            generalize (q_sA r39 15 (upd (r39.1 15) 2 (vp_nar .boolean 0))) = r41 at j1737 ⊢
            refine q_S_L ?_
            generalize p1738 : dz_M205 (q_sA r41 15 (upd (r41.1 15) 1 (vp_nar .boolean 1))) a1 7 = r42
            cases r42 with
            | true =>
              refine q_S_T ?_
              have j1739 : q_Iv c d w (q_sA r41 15 (upd (r41.1 15) 1 (vp_nar .boolean 1))) := (q_Iv_A (i := 15) j1737 (q_hf_up ((j1737).1 15) (q_s15 (q_rg_le (L := 0) (U := 1) (q_rg_nb _) (by decide) (by decide)))))
              refine q_S_L ?_
              generalize (q_sA r41 15 (upd (r41.1 15) 1 (vp_nar .boolean 1))) = r43 at j1739 ⊢
              exact q_E_x (q_Iv_A (i := 15) j1739 (q_hf_up ((j1739).1 15) (q_s15 (q_rg_le (L := 0) (U := 1) (q_rg_nb _) (by decide) (by decide)))))
            | false =>
              refine q_S_F ?_
              have j1740 : q_Iv c d w (q_sA r41 15 (upd (r41.1 15) 1 (vp_nar .boolean 1))) := (q_Iv_A (i := 15) j1737 (q_hf_up ((j1737).1 15) (q_s15 (q_rg_le (L := 0) (U := 1) (q_rg_nb _) (by decide) (by decide)))))
              refine q_S_L ?_
              generalize (q_sA r41 15 (upd (r41.1 15) 1 (vp_nar .boolean 1))) = r44 at j1740 ⊢
              exact q_E_x (q_Iv_A (i := 15) j1740 (q_hf_up ((j1740).1 15) (q_s15 (q_rg_le (L := 0) (U := 1) (q_rg_nb _) (by decide) (by decide)))))
          | false =>
            refine q_S_F ?_
            have j1741 : q_Iv c d w (q_sA r39 15 (upd (r39.1 15) 2 (vp_nar .boolean 0))) := (q_Iv_A (i := 15) j1735 (q_hf_up ((j1735).1 15) (q_s15 (q_rg_le (L := 0) (U := 1) (q_rg_nb _) (by decide) (by decide)))))
            refine q_S_L ?_
            generalize (q_sA r39 15 (upd (r39.1 15) 2 (vp_nar .boolean 0))) = r45 at j1741 ⊢
            refine q_S_L ?_
            generalize p1742 : dz_M205 (q_sA r45 15 (upd (r45.1 15) 1 (vp_nar .boolean 0))) a1 7 = r46
            cases r46 with
            | true =>
              refine q_S_T ?_
              have j1743 : q_Iv c d w (q_sA r45 15 (upd (r45.1 15) 1 (vp_nar .boolean 0))) := (q_Iv_A (i := 15) j1741 (q_hf_up ((j1741).1 15) (q_s15 (q_rg_le (L := 0) (U := 1) (q_rg_nb _) (by decide) (by decide)))))
              refine q_S_L ?_
              generalize (q_sA r45 15 (upd (r45.1 15) 1 (vp_nar .boolean 0))) = r47 at j1743 ⊢
              exact q_E_x (q_Iv_A (i := 15) j1743 (q_hf_up ((j1743).1 15) (q_s15 (q_rg_le (L := 0) (U := 1) (q_rg_nb _) (by decide) (by decide)))))
            | false =>
              refine q_S_F ?_
              have j1744 : q_Iv c d w (q_sA r45 15 (upd (r45.1 15) 1 (vp_nar .boolean 0))) := (q_Iv_A (i := 15) j1741 (q_hf_up ((j1741).1 15) (q_s15 (q_rg_le (L := 0) (U := 1) (q_rg_nb _) (by decide) (by decide)))))
              refine q_S_L ?_
              generalize (q_sA r45 15 (upd (r45.1 15) 1 (vp_nar .boolean 0))) = r48 at j1744 ⊢
              exact q_E_x (q_Iv_A (i := 15) j1744 (q_hf_up ((j1744).1 15) (q_s15 (q_rg_le (L := 0) (U := 1) (q_rg_nb _) (by decide) (by decide)))))
    | false =>
      refine q_S_F ?_
      have j1745 : q_Iv c d w (q_sA s 15 (upd (s.1 15) 5 (vp_nar .boolean 1))) := (q_Iv_A (i := 15) hI (q_hf_up ((hI).1 15) (q_s15 (q_rg_le (L := 0) (U := 1) (q_rg_nb _) (by decide) (by decide)))))
      refine q_S_L ?_
      generalize (q_sA s 15 (upd (s.1 15) 5 (vp_nar .boolean 1))) = r49 at j1745 ⊢
      refine q_S_L ?_
      generalize p1746 : dz_M205 (q_sA r49 15 (upd (r49.1 15) 4 (vp_nar .boolean 0))) a1 2 = r50
      cases r50 with
      | true =>
        refine q_S_T ?_
        have j1747 : q_Iv c d w (q_sA r49 15 (upd (r49.1 15) 4 (vp_nar .boolean 0))) := (q_Iv_A (i := 15) j1745 (q_hf_up ((j1745).1 15) (q_s15 (q_rg_le (L := 0) (U := 1) (q_rg_nb _) (by decide) (by decide)))))
        refine q_S_L ?_
        generalize (q_sA r49 15 (upd (r49.1 15) 4 (vp_nar .boolean 0))) = r51 at j1747 ⊢
        refine q_S_L ?_
        generalize p1748 : dz_M205 (q_sA r51 15 (upd (r51.1 15) 3 (vp_nar .boolean 1))) a1 3 = r52
        cases r52 with
        | true =>
          refine q_S_T ?_
          have j1749 : q_Iv c d w (q_sA r51 15 (upd (r51.1 15) 3 (vp_nar .boolean 1))) := (q_Iv_A (i := 15) j1747 (q_hf_up ((j1747).1 15) (q_s15 (q_rg_le (L := 0) (U := 1) (q_rg_nb _) (by decide) (by decide)))))
          refine q_S_L ?_
          generalize (q_sA r51 15 (upd (r51.1 15) 3 (vp_nar .boolean 1))) = r53 at j1749 ⊢
          refine q_S_L ?_
          generalize p1750 : dz_M205 (q_sA r53 15 (upd (r53.1 15) 2 (vp_nar .boolean 1))) a1 6 = r54
          cases r54 with
          | true =>
            refine q_S_T ?_
            have j1751 : q_Iv c d w (q_sA r53 15 (upd (r53.1 15) 2 (vp_nar .boolean 1))) := (q_Iv_A (i := 15) j1749 (q_hf_up ((j1749).1 15) (q_s15 (q_rg_le (L := 0) (U := 1) (q_rg_nb _) (by decide) (by decide)))))
            refine q_S_L ?_
            generalize (q_sA r53 15 (upd (r53.1 15) 2 (vp_nar .boolean 1))) = r55 at j1751 ⊢
            refine q_S_L ?_
            generalize p1752 : dz_M205 (q_sA r55 15 (upd (r55.1 15) 1 (vp_nar .boolean 1))) a1 7 = r56
            cases r56 with
            | true =>
              refine q_S_T ?_
              have j1753 : q_Iv c d w (q_sA r55 15 (upd (r55.1 15) 1 (vp_nar .boolean 1))) := (q_Iv_A (i := 15) j1751 (q_hf_up ((j1751).1 15) (q_s15 (q_rg_le (L := 0) (U := 1) (q_rg_nb _) (by decide) (by decide)))))
              refine q_S_L ?_
              generalize (q_sA r55 15 (upd (r55.1 15) 1 (vp_nar .boolean 1))) = r57 at j1753 ⊢
              exact q_E_x (q_Iv_A (i := 15) j1753 (q_hf_up ((j1753).1 15) (q_s15 (q_rg_le (L := 0) (U := 1) (q_rg_nb _) (by decide) (by decide)))))
            | false =>
              refine q_S_F ?_
              have j1754 : q_Iv c d w (q_sA r55 15 (upd (r55.1 15) 1 (vp_nar .boolean 1))) := (q_Iv_A (i := 15) j1751 (q_hf_up ((j1751).1 15) (q_s15 (q_rg_le (L := 0) (U := 1) (q_rg_nb _) (by decide) (by decide)))))
              refine q_S_L ?_
              generalize (q_sA r55 15 (upd (r55.1 15) 1 (vp_nar .boolean 1))) = r58 at j1754 ⊢
              exact q_E_x (q_Iv_A (i := 15) j1754 (q_hf_up ((j1754).1 15) (q_s15 (q_rg_le (L := 0) (U := 1) (q_rg_nb _) (by decide) (by decide)))))
          | false =>
            refine q_S_F ?_
            have j1755 : q_Iv c d w (q_sA r53 15 (upd (r53.1 15) 2 (vp_nar .boolean 1))) := (q_Iv_A (i := 15) j1749 (q_hf_up ((j1749).1 15) (q_s15 (q_rg_le (L := 0) (U := 1) (q_rg_nb _) (by decide) (by decide)))))
            refine q_S_L ?_
            generalize (q_sA r53 15 (upd (r53.1 15) 2 (vp_nar .boolean 1))) = r59 at j1755 ⊢
            refine q_S_L ?_
            generalize p1756 : dz_M205 (q_sA r59 15 (upd (r59.1 15) 1 (vp_nar .boolean 0))) a1 7 = r60
            cases r60 with
            | true =>
              refine q_S_T ?_
              have j1757 : q_Iv c d w (q_sA r59 15 (upd (r59.1 15) 1 (vp_nar .boolean 0))) := (q_Iv_A (i := 15) j1755 (q_hf_up ((j1755).1 15) (q_s15 (q_rg_le (L := 0) (U := 1) (q_rg_nb _) (by decide) (by decide)))))
              refine q_S_L ?_
              generalize (q_sA r59 15 (upd (r59.1 15) 1 (vp_nar .boolean 0))) = r61 at j1757 ⊢
              exact q_E_x (q_Iv_A (i := 15) j1757 (q_hf_up ((j1757).1 15) (q_s15 (q_rg_le (L := 0) (U := 1) (q_rg_nb _) (by decide) (by decide)))))
            | false =>
              refine q_S_F ?_
              have j1758 : q_Iv c d w (q_sA r59 15 (upd (r59.1 15) 1 (vp_nar .boolean 0))) := (q_Iv_A (i := 15) j1755 (q_hf_up ((j1755).1 15) (q_s15 (q_rg_le (L := 0) (U := 1) (q_rg_nb _) (by decide) (by decide)))))
              refine q_S_L ?_
              generalize (q_sA r59 15 (upd (r59.1 15) 1 (vp_nar .boolean 0))) = r62 at j1758 ⊢
              exact q_E_x (q_Iv_A (i := 15) j1758 (q_hf_up ((j1758).1 15) (q_s15 (q_rg_le (L := 0) (U := 1) (q_rg_nb _) (by decide) (by decide)))))
        | false =>
          refine q_S_F ?_
          have j1759 : q_Iv c d w (q_sA r51 15 (upd (r51.1 15) 3 (vp_nar .boolean 1))) := (q_Iv_A (i := 15) j1747 (q_hf_up ((j1747).1 15) (q_s15 (q_rg_le (L := 0) (U := 1) (q_rg_nb _) (by decide) (by decide)))))
          refine q_S_L ?_
          generalize (q_sA r51 15 (upd (r51.1 15) 3 (vp_nar .boolean 1))) = r63 at j1759 ⊢
          refine q_S_L ?_
          generalize p1760 : dz_M205 (q_sA r63 15 (upd (r63.1 15) 2 (vp_nar .boolean 0))) a1 6 = r64
          cases r64 with
          | true =>
            refine q_S_T ?_
            have j1761 : q_Iv c d w (q_sA r63 15 (upd (r63.1 15) 2 (vp_nar .boolean 0))) := (q_Iv_A (i := 15) j1759 (q_hf_up ((j1759).1 15) (q_s15 (q_rg_le (L := 0) (U := 1) (q_rg_nb _) (by decide) (by decide)))))
            refine q_S_L ?_
            generalize (q_sA r63 15 (upd (r63.1 15) 2 (vp_nar .boolean 0))) = r65 at j1761 ⊢
            refine q_S_L ?_
            generalize p1762 : dz_M205 (q_sA r65 15 (upd (r65.1 15) 1 (vp_nar .boolean 1))) a1 7 = r66
            cases r66 with
            | true =>
              refine q_S_T ?_
              have j1763 : q_Iv c d w (q_sA r65 15 (upd (r65.1 15) 1 (vp_nar .boolean 1))) := (q_Iv_A (i := 15) j1761 (q_hf_up ((j1761).1 15) (q_s15 (q_rg_le (L := 0) (U := 1) (q_rg_nb _) (by decide) (by decide)))))
              refine q_S_L ?_
              generalize (q_sA r65 15 (upd (r65.1 15) 1 (vp_nar .boolean 1))) = r67 at j1763 ⊢
              exact q_E_x (q_Iv_A (i := 15) j1763 (q_hf_up ((j1763).1 15) (q_s15 (q_rg_le (L := 0) (U := 1) (q_rg_nb _) (by decide) (by decide)))))
            | false =>
              refine q_S_F ?_
              have j1764 : q_Iv c d w (q_sA r65 15 (upd (r65.1 15) 1 (vp_nar .boolean 1))) := (q_Iv_A (i := 15) j1761 (q_hf_up ((j1761).1 15) (q_s15 (q_rg_le (L := 0) (U := 1) (q_rg_nb _) (by decide) (by decide)))))
              refine q_S_L ?_
              generalize (q_sA r65 15 (upd (r65.1 15) 1 (vp_nar .boolean 1))) = r68 at j1764 ⊢
              exact q_E_x (q_Iv_A (i := 15) j1764 (q_hf_up ((j1764).1 15) (q_s15 (q_rg_le (L := 0) (U := 1) (q_rg_nb _) (by decide) (by decide)))))
          | false =>
            refine q_S_F ?_
            have j1765 : q_Iv c d w (q_sA r63 15 (upd (r63.1 15) 2 (vp_nar .boolean 0))) := (q_Iv_A (i := 15) j1759 (q_hf_up ((j1759).1 15) (q_s15 (q_rg_le (L := 0) (U := 1) (q_rg_nb _) (by decide) (by decide)))))
            refine q_S_L ?_
            generalize (q_sA r63 15 (upd (r63.1 15) 2 (vp_nar .boolean 0))) = r69 at j1765 ⊢
            refine q_S_L ?_
            generalize p1766 : dz_M205 (q_sA r69 15 (upd (r69.1 15) 1 (vp_nar .boolean 0))) a1 7 = r70
            cases r70 with
            | true =>
              refine q_S_T ?_
              have j1767 : q_Iv c d w (q_sA r69 15 (upd (r69.1 15) 1 (vp_nar .boolean 0))) := (q_Iv_A (i := 15) j1765 (q_hf_up ((j1765).1 15) (q_s15 (q_rg_le (L := 0) (U := 1) (q_rg_nb _) (by decide) (by decide)))))
              refine q_S_L ?_
              generalize (q_sA r69 15 (upd (r69.1 15) 1 (vp_nar .boolean 0))) = r71 at j1767 ⊢
              exact q_E_x (q_Iv_A (i := 15) j1767 (q_hf_up ((j1767).1 15) (q_s15 (q_rg_le (L := 0) (U := 1) (q_rg_nb _) (by decide) (by decide)))))
            | false =>
              refine q_S_F ?_
              have j1768 : q_Iv c d w (q_sA r69 15 (upd (r69.1 15) 1 (vp_nar .boolean 0))) := (q_Iv_A (i := 15) j1765 (q_hf_up ((j1765).1 15) (q_s15 (q_rg_le (L := 0) (U := 1) (q_rg_nb _) (by decide) (by decide)))))
              refine q_S_L ?_
              generalize (q_sA r69 15 (upd (r69.1 15) 1 (vp_nar .boolean 0))) = r72 at j1768 ⊢
              exact q_E_x (q_Iv_A (i := 15) j1768 (q_hf_up ((j1768).1 15) (q_s15 (q_rg_le (L := 0) (U := 1) (q_rg_nb _) (by decide) (by decide)))))
      | false =>
        refine q_S_F ?_
        have j1769 : q_Iv c d w (q_sA r49 15 (upd (r49.1 15) 4 (vp_nar .boolean 0))) := (q_Iv_A (i := 15) j1745 (q_hf_up ((j1745).1 15) (q_s15 (q_rg_le (L := 0) (U := 1) (q_rg_nb _) (by decide) (by decide)))))
        refine q_S_L ?_
        generalize (q_sA r49 15 (upd (r49.1 15) 4 (vp_nar .boolean 0))) = r73 at j1769 ⊢
        refine q_S_L ?_
        generalize p1770 : dz_M205 (q_sA r73 15 (upd (r73.1 15) 3 (vp_nar .boolean 0))) a1 3 = r74
        cases r74 with
        | true =>
          refine q_S_T ?_
          have j1771 : q_Iv c d w (q_sA r73 15 (upd (r73.1 15) 3 (vp_nar .boolean 0))) := (q_Iv_A (i := 15) j1769 (q_hf_up ((j1769).1 15) (q_s15 (q_rg_le (L := 0) (U := 1) (q_rg_nb _) (by decide) (by decide)))))
          refine q_S_L ?_
          generalize (q_sA r73 15 (upd (r73.1 15) 3 (vp_nar .boolean 0))) = r75 at j1771 ⊢
          refine q_S_L ?_
          generalize p1772 : dz_M205 (q_sA r75 15 (upd (r75.1 15) 2 (vp_nar .boolean 1))) a1 6 = r76
          cases r76 with
          | true =>
            refine q_S_T ?_
            have j1773 : q_Iv c d w (q_sA r75 15 (upd (r75.1 15) 2 (vp_nar .boolean 1))) := (q_Iv_A (i := 15) j1771 (q_hf_up ((j1771).1 15) (q_s15 (q_rg_le (L := 0) (U := 1) (q_rg_nb _) (by decide) (by decide)))))
            refine q_S_L ?_
            generalize (q_sA r75 15 (upd (r75.1 15) 2 (vp_nar .boolean 1))) = r77 at j1773 ⊢
            refine q_S_L ?_
            generalize p1774 : dz_M205 (q_sA r77 15 (upd (r77.1 15) 1 (vp_nar .boolean 1))) a1 7 = r78
            cases r78 with
            | true =>
              refine q_S_T ?_
              have j1775 : q_Iv c d w (q_sA r77 15 (upd (r77.1 15) 1 (vp_nar .boolean 1))) := (q_Iv_A (i := 15) j1773 (q_hf_up ((j1773).1 15) (q_s15 (q_rg_le (L := 0) (U := 1) (q_rg_nb _) (by decide) (by decide)))))
              refine q_S_L ?_
              generalize (q_sA r77 15 (upd (r77.1 15) 1 (vp_nar .boolean 1))) = r79 at j1775 ⊢
              exact q_E_x (q_Iv_A (i := 15) j1775 (q_hf_up ((j1775).1 15) (q_s15 (q_rg_le (L := 0) (U := 1) (q_rg_nb _) (by decide) (by decide)))))
            | false =>
              refine q_S_F ?_
              have j1776 : q_Iv c d w (q_sA r77 15 (upd (r77.1 15) 1 (vp_nar .boolean 1))) := (q_Iv_A (i := 15) j1773 (q_hf_up ((j1773).1 15) (q_s15 (q_rg_le (L := 0) (U := 1) (q_rg_nb _) (by decide) (by decide)))))
              refine q_S_L ?_
              generalize (q_sA r77 15 (upd (r77.1 15) 1 (vp_nar .boolean 1))) = r80 at j1776 ⊢
              exact q_E_x (q_Iv_A (i := 15) j1776 (q_hf_up ((j1776).1 15) (q_s15 (q_rg_le (L := 0) (U := 1) (q_rg_nb _) (by decide) (by decide)))))
          | false =>
            refine q_S_F ?_
            have j1777 : q_Iv c d w (q_sA r75 15 (upd (r75.1 15) 2 (vp_nar .boolean 1))) := (q_Iv_A (i := 15) j1771 (q_hf_up ((j1771).1 15) (q_s15 (q_rg_le (L := 0) (U := 1) (q_rg_nb _) (by decide) (by decide)))))
            refine q_S_L ?_
            generalize (q_sA r75 15 (upd (r75.1 15) 2 (vp_nar .boolean 1))) = r81 at j1777 ⊢
            refine q_S_L ?_
            generalize p1778 : dz_M205 (q_sA r81 15 (upd (r81.1 15) 1 (vp_nar .boolean 0))) a1 7 = r82
            cases r82 with
            | true =>
              refine q_S_T ?_
              have j1779 : q_Iv c d w (q_sA r81 15 (upd (r81.1 15) 1 (vp_nar .boolean 0))) := (q_Iv_A (i := 15) j1777 (q_hf_up ((j1777).1 15) (q_s15 (q_rg_le (L := 0) (U := 1) (q_rg_nb _) (by decide) (by decide)))))
              refine q_S_L ?_
              generalize (q_sA r81 15 (upd (r81.1 15) 1 (vp_nar .boolean 0))) = r83 at j1779 ⊢
              exact q_E_x (q_Iv_A (i := 15) j1779 (q_hf_up ((j1779).1 15) (q_s15 (q_rg_le (L := 0) (U := 1) (q_rg_nb _) (by decide) (by decide)))))
            | false =>
              refine q_S_F ?_
              have j1780 : q_Iv c d w (q_sA r81 15 (upd (r81.1 15) 1 (vp_nar .boolean 0))) := (q_Iv_A (i := 15) j1777 (q_hf_up ((j1777).1 15) (q_s15 (q_rg_le (L := 0) (U := 1) (q_rg_nb _) (by decide) (by decide)))))
              refine q_S_L ?_
              generalize (q_sA r81 15 (upd (r81.1 15) 1 (vp_nar .boolean 0))) = r84 at j1780 ⊢
              exact q_E_x (q_Iv_A (i := 15) j1780 (q_hf_up ((j1780).1 15) (q_s15 (q_rg_le (L := 0) (U := 1) (q_rg_nb _) (by decide) (by decide)))))
        | false =>
          refine q_S_F ?_
          have j1781 : q_Iv c d w (q_sA r73 15 (upd (r73.1 15) 3 (vp_nar .boolean 0))) := (q_Iv_A (i := 15) j1769 (q_hf_up ((j1769).1 15) (q_s15 (q_rg_le (L := 0) (U := 1) (q_rg_nb _) (by decide) (by decide)))))
          refine q_S_L ?_
          generalize (q_sA r73 15 (upd (r73.1 15) 3 (vp_nar .boolean 0))) = r85 at j1781 ⊢
          refine q_S_L ?_
          generalize p1782 : dz_M205 (q_sA r85 15 (upd (r85.1 15) 2 (vp_nar .boolean 0))) a1 6 = r86
          cases r86 with
          | true =>
            refine q_S_T ?_
            have j1783 : q_Iv c d w (q_sA r85 15 (upd (r85.1 15) 2 (vp_nar .boolean 0))) := (q_Iv_A (i := 15) j1781 (q_hf_up ((j1781).1 15) (q_s15 (q_rg_le (L := 0) (U := 1) (q_rg_nb _) (by decide) (by decide)))))
            refine q_S_L ?_
            generalize (q_sA r85 15 (upd (r85.1 15) 2 (vp_nar .boolean 0))) = r87 at j1783 ⊢
            refine q_S_L ?_
            generalize p1784 : dz_M205 (q_sA r87 15 (upd (r87.1 15) 1 (vp_nar .boolean 1))) a1 7 = r88
            cases r88 with
            | true =>
              refine q_S_T ?_
              have j1785 : q_Iv c d w (q_sA r87 15 (upd (r87.1 15) 1 (vp_nar .boolean 1))) := (q_Iv_A (i := 15) j1783 (q_hf_up ((j1783).1 15) (q_s15 (q_rg_le (L := 0) (U := 1) (q_rg_nb _) (by decide) (by decide)))))
              refine q_S_L ?_
              generalize (q_sA r87 15 (upd (r87.1 15) 1 (vp_nar .boolean 1))) = r89 at j1785 ⊢
              exact q_E_x (q_Iv_A (i := 15) j1785 (q_hf_up ((j1785).1 15) (q_s15 (q_rg_le (L := 0) (U := 1) (q_rg_nb _) (by decide) (by decide)))))
            | false =>
              refine q_S_F ?_
              have j1786 : q_Iv c d w (q_sA r87 15 (upd (r87.1 15) 1 (vp_nar .boolean 1))) := (q_Iv_A (i := 15) j1783 (q_hf_up ((j1783).1 15) (q_s15 (q_rg_le (L := 0) (U := 1) (q_rg_nb _) (by decide) (by decide)))))
              refine q_S_L ?_
              generalize (q_sA r87 15 (upd (r87.1 15) 1 (vp_nar .boolean 1))) = r90 at j1786 ⊢
              exact q_E_x (q_Iv_A (i := 15) j1786 (q_hf_up ((j1786).1 15) (q_s15 (q_rg_le (L := 0) (U := 1) (q_rg_nb _) (by decide) (by decide)))))
          | false =>
            refine q_S_F ?_
            have j1787 : q_Iv c d w (q_sA r85 15 (upd (r85.1 15) 2 (vp_nar .boolean 0))) := (q_Iv_A (i := 15) j1781 (q_hf_up ((j1781).1 15) (q_s15 (q_rg_le (L := 0) (U := 1) (q_rg_nb _) (by decide) (by decide)))))
            refine q_S_L ?_
            generalize (q_sA r85 15 (upd (r85.1 15) 2 (vp_nar .boolean 0))) = r91 at j1787 ⊢
            refine q_S_L ?_
            generalize p1788 : dz_M205 (q_sA r91 15 (upd (r91.1 15) 1 (vp_nar .boolean 0))) a1 7 = r92
            cases r92 with
            | true =>
              refine q_S_T ?_
              have j1789 : q_Iv c d w (q_sA r91 15 (upd (r91.1 15) 1 (vp_nar .boolean 0))) := (q_Iv_A (i := 15) j1787 (q_hf_up ((j1787).1 15) (q_s15 (q_rg_le (L := 0) (U := 1) (q_rg_nb _) (by decide) (by decide)))))
              refine q_S_L ?_
              generalize (q_sA r91 15 (upd (r91.1 15) 1 (vp_nar .boolean 0))) = r93 at j1789 ⊢
              exact q_E_x (q_Iv_A (i := 15) j1789 (q_hf_up ((j1789).1 15) (q_s15 (q_rg_le (L := 0) (U := 1) (q_rg_nb _) (by decide) (by decide)))))
            | false =>
              refine q_S_F ?_
              have j1790 : q_Iv c d w (q_sA r91 15 (upd (r91.1 15) 1 (vp_nar .boolean 0))) := (q_Iv_A (i := 15) j1787 (q_hf_up ((j1787).1 15) (q_s15 (q_rg_le (L := 0) (U := 1) (q_rg_nb _) (by decide) (by decide)))))
              refine q_S_L ?_
              generalize (q_sA r91 15 (upd (r91.1 15) 1 (vp_nar .boolean 0))) = r94 at j1790 ⊢
              exact q_E_x (q_Iv_A (i := 15) j1790 (q_hf_up ((j1790).1 15) (q_s15 (q_rg_le (L := 0) (U := 1) (q_rg_nb _) (by decide) (by decide)))))
  | false =>
    refine q_S_F ?_
    refine q_S_L ?_
    generalize p1791 : dz_M205 (q_sA s 15 (upd (s.1 15) 5 (vp_nar .boolean 0))) a1 1 = r95
    cases r95 with
    | true =>
      refine q_S_T ?_
      have j1792 : q_Iv c d w (q_sA s 15 (upd (s.1 15) 5 (vp_nar .boolean 0))) := (q_Iv_A (i := 15) hI (q_hf_up ((hI).1 15) (q_s15 (q_rg_le (L := 0) (U := 1) (q_rg_nb _) (by decide) (by decide)))))
      refine q_S_L ?_
      generalize (q_sA s 15 (upd (s.1 15) 5 (vp_nar .boolean 0))) = r96 at j1792 ⊢
      refine q_S_L ?_
      generalize p1793 : dz_M205 (q_sA r96 15 (upd (r96.1 15) 4 (vp_nar .boolean 1))) a1 2 = r97
      cases r97 with
      | true =>
        refine q_S_T ?_
        have j1794 : q_Iv c d w (q_sA r96 15 (upd (r96.1 15) 4 (vp_nar .boolean 1))) := (q_Iv_A (i := 15) j1792 (q_hf_up ((j1792).1 15) (q_s15 (q_rg_le (L := 0) (U := 1) (q_rg_nb _) (by decide) (by decide)))))
        refine q_S_L ?_
        generalize (q_sA r96 15 (upd (r96.1 15) 4 (vp_nar .boolean 1))) = r98 at j1794 ⊢
        refine q_S_L ?_
        generalize p1795 : dz_M205 (q_sA r98 15 (upd (r98.1 15) 3 (vp_nar .boolean 1))) a1 3 = r99
        cases r99 with
        | true =>
          refine q_S_T ?_
          have j1796 : q_Iv c d w (q_sA r98 15 (upd (r98.1 15) 3 (vp_nar .boolean 1))) := (q_Iv_A (i := 15) j1794 (q_hf_up ((j1794).1 15) (q_s15 (q_rg_le (L := 0) (U := 1) (q_rg_nb _) (by decide) (by decide)))))
          refine q_S_L ?_
          generalize (q_sA r98 15 (upd (r98.1 15) 3 (vp_nar .boolean 1))) = r100 at j1796 ⊢
          refine q_S_L ?_
          generalize p1797 : dz_M205 (q_sA r100 15 (upd (r100.1 15) 2 (vp_nar .boolean 1))) a1 6 = r101
          cases r101 with
          | true =>
            refine q_S_T ?_
            have j1798 : q_Iv c d w (q_sA r100 15 (upd (r100.1 15) 2 (vp_nar .boolean 1))) := (q_Iv_A (i := 15) j1796 (q_hf_up ((j1796).1 15) (q_s15 (q_rg_le (L := 0) (U := 1) (q_rg_nb _) (by decide) (by decide)))))
            refine q_S_L ?_
            generalize (q_sA r100 15 (upd (r100.1 15) 2 (vp_nar .boolean 1))) = r102 at j1798 ⊢
            refine q_S_L ?_
            generalize p1799 : dz_M205 (q_sA r102 15 (upd (r102.1 15) 1 (vp_nar .boolean 1))) a1 7 = r103
            cases r103 with
            | true =>
              refine q_S_T ?_
              have j1800 : q_Iv c d w (q_sA r102 15 (upd (r102.1 15) 1 (vp_nar .boolean 1))) := (q_Iv_A (i := 15) j1798 (q_hf_up ((j1798).1 15) (q_s15 (q_rg_le (L := 0) (U := 1) (q_rg_nb _) (by decide) (by decide)))))
              refine q_S_L ?_
              generalize (q_sA r102 15 (upd (r102.1 15) 1 (vp_nar .boolean 1))) = r104 at j1800 ⊢
              exact q_E_x (q_Iv_A (i := 15) j1800 (q_hf_up ((j1800).1 15) (q_s15 (q_rg_le (L := 0) (U := 1) (q_rg_nb _) (by decide) (by decide)))))
            | false =>
              refine q_S_F ?_
              have j1801 : q_Iv c d w (q_sA r102 15 (upd (r102.1 15) 1 (vp_nar .boolean 1))) := (q_Iv_A (i := 15) j1798 (q_hf_up ((j1798).1 15) (q_s15 (q_rg_le (L := 0) (U := 1) (q_rg_nb _) (by decide) (by decide)))))
              refine q_S_L ?_
              generalize (q_sA r102 15 (upd (r102.1 15) 1 (vp_nar .boolean 1))) = r105 at j1801 ⊢
              exact q_E_x (q_Iv_A (i := 15) j1801 (q_hf_up ((j1801).1 15) (q_s15 (q_rg_le (L := 0) (U := 1) (q_rg_nb _) (by decide) (by decide)))))
          | false =>
            refine q_S_F ?_
            have j1802 : q_Iv c d w (q_sA r100 15 (upd (r100.1 15) 2 (vp_nar .boolean 1))) := (q_Iv_A (i := 15) j1796 (q_hf_up ((j1796).1 15) (q_s15 (q_rg_le (L := 0) (U := 1) (q_rg_nb _) (by decide) (by decide)))))
            refine q_S_L ?_
            generalize (q_sA r100 15 (upd (r100.1 15) 2 (vp_nar .boolean 1))) = r106 at j1802 ⊢
            refine q_S_L ?_
            generalize p1803 : dz_M205 (q_sA r106 15 (upd (r106.1 15) 1 (vp_nar .boolean 0))) a1 7 = r107
            cases r107 with
            | true =>
              refine q_S_T ?_
              have j1804 : q_Iv c d w (q_sA r106 15 (upd (r106.1 15) 1 (vp_nar .boolean 0))) := (q_Iv_A (i := 15) j1802 (q_hf_up ((j1802).1 15) (q_s15 (q_rg_le (L := 0) (U := 1) (q_rg_nb _) (by decide) (by decide)))))
              refine q_S_L ?_
              generalize (q_sA r106 15 (upd (r106.1 15) 1 (vp_nar .boolean 0))) = r108 at j1804 ⊢
              exact q_E_x (q_Iv_A (i := 15) j1804 (q_hf_up ((j1804).1 15) (q_s15 (q_rg_le (L := 0) (U := 1) (q_rg_nb _) (by decide) (by decide)))))
            | false =>
              refine q_S_F ?_
              have j1805 : q_Iv c d w (q_sA r106 15 (upd (r106.1 15) 1 (vp_nar .boolean 0))) := (q_Iv_A (i := 15) j1802 (q_hf_up ((j1802).1 15) (q_s15 (q_rg_le (L := 0) (U := 1) (q_rg_nb _) (by decide) (by decide)))))
              refine q_S_L ?_
              generalize (q_sA r106 15 (upd (r106.1 15) 1 (vp_nar .boolean 0))) = r109 at j1805 ⊢
              exact q_E_x (q_Iv_A (i := 15) j1805 (q_hf_up ((j1805).1 15) (q_s15 (q_rg_le (L := 0) (U := 1) (q_rg_nb _) (by decide) (by decide)))))
        | false =>
          refine q_S_F ?_
          have j1806 : q_Iv c d w (q_sA r98 15 (upd (r98.1 15) 3 (vp_nar .boolean 1))) := (q_Iv_A (i := 15) j1794 (q_hf_up ((j1794).1 15) (q_s15 (q_rg_le (L := 0) (U := 1) (q_rg_nb _) (by decide) (by decide)))))
          refine q_S_L ?_
          generalize (q_sA r98 15 (upd (r98.1 15) 3 (vp_nar .boolean 1))) = r110 at j1806 ⊢
          refine q_S_L ?_
          generalize p1807 : dz_M205 (q_sA r110 15 (upd (r110.1 15) 2 (vp_nar .boolean 0))) a1 6 = r111
          cases r111 with
          | true =>
            refine q_S_T ?_
            have j1808 : q_Iv c d w (q_sA r110 15 (upd (r110.1 15) 2 (vp_nar .boolean 0))) := (q_Iv_A (i := 15) j1806 (q_hf_up ((j1806).1 15) (q_s15 (q_rg_le (L := 0) (U := 1) (q_rg_nb _) (by decide) (by decide)))))
            refine q_S_L ?_
            generalize (q_sA r110 15 (upd (r110.1 15) 2 (vp_nar .boolean 0))) = r112 at j1808 ⊢
            refine q_S_L ?_
            generalize p1809 : dz_M205 (q_sA r112 15 (upd (r112.1 15) 1 (vp_nar .boolean 1))) a1 7 = r113
            cases r113 with
            | true =>
              refine q_S_T ?_
              have j1810 : q_Iv c d w (q_sA r112 15 (upd (r112.1 15) 1 (vp_nar .boolean 1))) := (q_Iv_A (i := 15) j1808 (q_hf_up ((j1808).1 15) (q_s15 (q_rg_le (L := 0) (U := 1) (q_rg_nb _) (by decide) (by decide)))))
              refine q_S_L ?_
              generalize (q_sA r112 15 (upd (r112.1 15) 1 (vp_nar .boolean 1))) = r114 at j1810 ⊢
              exact q_E_x (q_Iv_A (i := 15) j1810 (q_hf_up ((j1810).1 15) (q_s15 (q_rg_le (L := 0) (U := 1) (q_rg_nb _) (by decide) (by decide)))))
            | false =>
              refine q_S_F ?_
              have j1811 : q_Iv c d w (q_sA r112 15 (upd (r112.1 15) 1 (vp_nar .boolean 1))) := (q_Iv_A (i := 15) j1808 (q_hf_up ((j1808).1 15) (q_s15 (q_rg_le (L := 0) (U := 1) (q_rg_nb _) (by decide) (by decide)))))
              refine q_S_L ?_
              generalize (q_sA r112 15 (upd (r112.1 15) 1 (vp_nar .boolean 1))) = r115 at j1811 ⊢
              exact q_E_x (q_Iv_A (i := 15) j1811 (q_hf_up ((j1811).1 15) (q_s15 (q_rg_le (L := 0) (U := 1) (q_rg_nb _) (by decide) (by decide)))))
          | false =>
            refine q_S_F ?_
            have j1812 : q_Iv c d w (q_sA r110 15 (upd (r110.1 15) 2 (vp_nar .boolean 0))) := (q_Iv_A (i := 15) j1806 (q_hf_up ((j1806).1 15) (q_s15 (q_rg_le (L := 0) (U := 1) (q_rg_nb _) (by decide) (by decide)))))
            refine q_S_L ?_
            generalize (q_sA r110 15 (upd (r110.1 15) 2 (vp_nar .boolean 0))) = r116 at j1812 ⊢
            refine q_S_L ?_
            generalize p1813 : dz_M205 (q_sA r116 15 (upd (r116.1 15) 1 (vp_nar .boolean 0))) a1 7 = r117
            cases r117 with
            | true =>
              refine q_S_T ?_
              have j1814 : q_Iv c d w (q_sA r116 15 (upd (r116.1 15) 1 (vp_nar .boolean 0))) := (q_Iv_A (i := 15) j1812 (q_hf_up ((j1812).1 15) (q_s15 (q_rg_le (L := 0) (U := 1) (q_rg_nb _) (by decide) (by decide)))))
              refine q_S_L ?_
              generalize (q_sA r116 15 (upd (r116.1 15) 1 (vp_nar .boolean 0))) = r118 at j1814 ⊢
              exact q_E_x (q_Iv_A (i := 15) j1814 (q_hf_up ((j1814).1 15) (q_s15 (q_rg_le (L := 0) (U := 1) (q_rg_nb _) (by decide) (by decide)))))
            | false =>
              refine q_S_F ?_
              have j1815 : q_Iv c d w (q_sA r116 15 (upd (r116.1 15) 1 (vp_nar .boolean 0))) := (q_Iv_A (i := 15) j1812 (q_hf_up ((j1812).1 15) (q_s15 (q_rg_le (L := 0) (U := 1) (q_rg_nb _) (by decide) (by decide)))))
              refine q_S_L ?_
              generalize (q_sA r116 15 (upd (r116.1 15) 1 (vp_nar .boolean 0))) = r119 at j1815 ⊢
              exact q_E_x (q_Iv_A (i := 15) j1815 (q_hf_up ((j1815).1 15) (q_s15 (q_rg_le (L := 0) (U := 1) (q_rg_nb _) (by decide) (by decide)))))
      | false =>
        refine q_S_F ?_
        have j1816 : q_Iv c d w (q_sA r96 15 (upd (r96.1 15) 4 (vp_nar .boolean 1))) := (q_Iv_A (i := 15) j1792 (q_hf_up ((j1792).1 15) (q_s15 (q_rg_le (L := 0) (U := 1) (q_rg_nb _) (by decide) (by decide)))))
        refine q_S_L ?_
        generalize (q_sA r96 15 (upd (r96.1 15) 4 (vp_nar .boolean 1))) = r120 at j1816 ⊢
        refine q_S_L ?_
        generalize p1817 : dz_M205 (q_sA r120 15 (upd (r120.1 15) 3 (vp_nar .boolean 0))) a1 3 = r121
        cases r121 with
        | true =>
          refine q_S_T ?_
          have j1818 : q_Iv c d w (q_sA r120 15 (upd (r120.1 15) 3 (vp_nar .boolean 0))) := (q_Iv_A (i := 15) j1816 (q_hf_up ((j1816).1 15) (q_s15 (q_rg_le (L := 0) (U := 1) (q_rg_nb _) (by decide) (by decide)))))
          refine q_S_L ?_
          generalize (q_sA r120 15 (upd (r120.1 15) 3 (vp_nar .boolean 0))) = r122 at j1818 ⊢
          refine q_S_L ?_
          generalize p1819 : dz_M205 (q_sA r122 15 (upd (r122.1 15) 2 (vp_nar .boolean 1))) a1 6 = r123
          cases r123 with
          | true =>
            refine q_S_T ?_
            have j1820 : q_Iv c d w (q_sA r122 15 (upd (r122.1 15) 2 (vp_nar .boolean 1))) := (q_Iv_A (i := 15) j1818 (q_hf_up ((j1818).1 15) (q_s15 (q_rg_le (L := 0) (U := 1) (q_rg_nb _) (by decide) (by decide)))))
            refine q_S_L ?_
            generalize (q_sA r122 15 (upd (r122.1 15) 2 (vp_nar .boolean 1))) = r124 at j1820 ⊢
            refine q_S_L ?_
            generalize p1821 : dz_M205 (q_sA r124 15 (upd (r124.1 15) 1 (vp_nar .boolean 1))) a1 7 = r125
            cases r125 with
            | true =>
              refine q_S_T ?_
              have j1822 : q_Iv c d w (q_sA r124 15 (upd (r124.1 15) 1 (vp_nar .boolean 1))) := (q_Iv_A (i := 15) j1820 (q_hf_up ((j1820).1 15) (q_s15 (q_rg_le (L := 0) (U := 1) (q_rg_nb _) (by decide) (by decide)))))
              refine q_S_L ?_
              generalize (q_sA r124 15 (upd (r124.1 15) 1 (vp_nar .boolean 1))) = r126 at j1822 ⊢
              exact q_E_x (q_Iv_A (i := 15) j1822 (q_hf_up ((j1822).1 15) (q_s15 (q_rg_le (L := 0) (U := 1) (q_rg_nb _) (by decide) (by decide)))))
            | false =>
              refine q_S_F ?_
              have j1823 : q_Iv c d w (q_sA r124 15 (upd (r124.1 15) 1 (vp_nar .boolean 1))) := (q_Iv_A (i := 15) j1820 (q_hf_up ((j1820).1 15) (q_s15 (q_rg_le (L := 0) (U := 1) (q_rg_nb _) (by decide) (by decide)))))
              refine q_S_L ?_
              generalize (q_sA r124 15 (upd (r124.1 15) 1 (vp_nar .boolean 1))) = r127 at j1823 ⊢
              exact q_E_x (q_Iv_A (i := 15) j1823 (q_hf_up ((j1823).1 15) (q_s15 (q_rg_le (L := 0) (U := 1) (q_rg_nb _) (by decide) (by decide)))))
          | false =>
            refine q_S_F ?_
            have j1824 : q_Iv c d w (q_sA r122 15 (upd (r122.1 15) 2 (vp_nar .boolean 1))) := (q_Iv_A (i := 15) j1818 (q_hf_up ((j1818).1 15) (q_s15 (q_rg_le (L := 0) (U := 1) (q_rg_nb _) (by decide) (by decide)))))
            refine q_S_L ?_
            generalize (q_sA r122 15 (upd (r122.1 15) 2 (vp_nar .boolean 1))) = r128 at j1824 ⊢
            refine q_S_L ?_
            generalize p1825 : dz_M205 (q_sA r128 15 (upd (r128.1 15) 1 (vp_nar .boolean 0))) a1 7 = r129
            cases r129 with
            | true =>
              refine q_S_T ?_
              have j1826 : q_Iv c d w (q_sA r128 15 (upd (r128.1 15) 1 (vp_nar .boolean 0))) := (q_Iv_A (i := 15) j1824 (q_hf_up ((j1824).1 15) (q_s15 (q_rg_le (L := 0) (U := 1) (q_rg_nb _) (by decide) (by decide)))))
              refine q_S_L ?_
              generalize (q_sA r128 15 (upd (r128.1 15) 1 (vp_nar .boolean 0))) = r130 at j1826 ⊢
              exact q_E_x (q_Iv_A (i := 15) j1826 (q_hf_up ((j1826).1 15) (q_s15 (q_rg_le (L := 0) (U := 1) (q_rg_nb _) (by decide) (by decide)))))
            | false =>
              refine q_S_F ?_
              have j1827 : q_Iv c d w (q_sA r128 15 (upd (r128.1 15) 1 (vp_nar .boolean 0))) := (q_Iv_A (i := 15) j1824 (q_hf_up ((j1824).1 15) (q_s15 (q_rg_le (L := 0) (U := 1) (q_rg_nb _) (by decide) (by decide)))))
              refine q_S_L ?_
              generalize (q_sA r128 15 (upd (r128.1 15) 1 (vp_nar .boolean 0))) = r131 at j1827 ⊢
              exact q_E_x (q_Iv_A (i := 15) j1827 (q_hf_up ((j1827).1 15) (q_s15 (q_rg_le (L := 0) (U := 1) (q_rg_nb _) (by decide) (by decide)))))
        | false =>
          refine q_S_F ?_
          have j1828 : q_Iv c d w (q_sA r120 15 (upd (r120.1 15) 3 (vp_nar .boolean 0))) := (q_Iv_A (i := 15) j1816 (q_hf_up ((j1816).1 15) (q_s15 (q_rg_le (L := 0) (U := 1) (q_rg_nb _) (by decide) (by decide)))))
          refine q_S_L ?_
          generalize (q_sA r120 15 (upd (r120.1 15) 3 (vp_nar .boolean 0))) = r132 at j1828 ⊢
          refine q_S_L ?_
          generalize p1829 : dz_M205 (q_sA r132 15 (upd (r132.1 15) 2 (vp_nar .boolean 0))) a1 6 = r133
          cases r133 with
          | true =>
            refine q_S_T ?_
            have j1830 : q_Iv c d w (q_sA r132 15 (upd (r132.1 15) 2 (vp_nar .boolean 0))) := (q_Iv_A (i := 15) j1828 (q_hf_up ((j1828).1 15) (q_s15 (q_rg_le (L := 0) (U := 1) (q_rg_nb _) (by decide) (by decide)))))
            refine q_S_L ?_
            generalize (q_sA r132 15 (upd (r132.1 15) 2 (vp_nar .boolean 0))) = r134 at j1830 ⊢
            refine q_S_L ?_
            generalize p1831 : dz_M205 (q_sA r134 15 (upd (r134.1 15) 1 (vp_nar .boolean 1))) a1 7 = r135
            cases r135 with
            | true =>
              refine q_S_T ?_
              have j1832 : q_Iv c d w (q_sA r134 15 (upd (r134.1 15) 1 (vp_nar .boolean 1))) := (q_Iv_A (i := 15) j1830 (q_hf_up ((j1830).1 15) (q_s15 (q_rg_le (L := 0) (U := 1) (q_rg_nb _) (by decide) (by decide)))))
              refine q_S_L ?_
              generalize (q_sA r134 15 (upd (r134.1 15) 1 (vp_nar .boolean 1))) = r136 at j1832 ⊢
              exact q_E_x (q_Iv_A (i := 15) j1832 (q_hf_up ((j1832).1 15) (q_s15 (q_rg_le (L := 0) (U := 1) (q_rg_nb _) (by decide) (by decide)))))
            | false =>
              refine q_S_F ?_
              have j1833 : q_Iv c d w (q_sA r134 15 (upd (r134.1 15) 1 (vp_nar .boolean 1))) := (q_Iv_A (i := 15) j1830 (q_hf_up ((j1830).1 15) (q_s15 (q_rg_le (L := 0) (U := 1) (q_rg_nb _) (by decide) (by decide)))))
              refine q_S_L ?_
              generalize (q_sA r134 15 (upd (r134.1 15) 1 (vp_nar .boolean 1))) = r137 at j1833 ⊢
              exact q_E_x (q_Iv_A (i := 15) j1833 (q_hf_up ((j1833).1 15) (q_s15 (q_rg_le (L := 0) (U := 1) (q_rg_nb _) (by decide) (by decide)))))
          | false =>
            refine q_S_F ?_
            have j1834 : q_Iv c d w (q_sA r132 15 (upd (r132.1 15) 2 (vp_nar .boolean 0))) := (q_Iv_A (i := 15) j1828 (q_hf_up ((j1828).1 15) (q_s15 (q_rg_le (L := 0) (U := 1) (q_rg_nb _) (by decide) (by decide)))))
            refine q_S_L ?_
            generalize (q_sA r132 15 (upd (r132.1 15) 2 (vp_nar .boolean 0))) = r138 at j1834 ⊢
            refine q_S_L ?_
            generalize p1835 : dz_M205 (q_sA r138 15 (upd (r138.1 15) 1 (vp_nar .boolean 0))) a1 7 = r139
            cases r139 with
            | true =>
              refine q_S_T ?_
              have j1836 : q_Iv c d w (q_sA r138 15 (upd (r138.1 15) 1 (vp_nar .boolean 0))) := (q_Iv_A (i := 15) j1834 (q_hf_up ((j1834).1 15) (q_s15 (q_rg_le (L := 0) (U := 1) (q_rg_nb _) (by decide) (by decide)))))
              refine q_S_L ?_
              generalize (q_sA r138 15 (upd (r138.1 15) 1 (vp_nar .boolean 0))) = r140 at j1836 ⊢
              exact q_E_x (q_Iv_A (i := 15) j1836 (q_hf_up ((j1836).1 15) (q_s15 (q_rg_le (L := 0) (U := 1) (q_rg_nb _) (by decide) (by decide)))))
            | false =>
              refine q_S_F ?_
              have j1837 : q_Iv c d w (q_sA r138 15 (upd (r138.1 15) 1 (vp_nar .boolean 0))) := (q_Iv_A (i := 15) j1834 (q_hf_up ((j1834).1 15) (q_s15 (q_rg_le (L := 0) (U := 1) (q_rg_nb _) (by decide) (by decide)))))
              refine q_S_L ?_
              generalize (q_sA r138 15 (upd (r138.1 15) 1 (vp_nar .boolean 0))) = r141 at j1837 ⊢
              exact q_E_x (q_Iv_A (i := 15) j1837 (q_hf_up ((j1837).1 15) (q_s15 (q_rg_le (L := 0) (U := 1) (q_rg_nb _) (by decide) (by decide)))))
    | false =>
      refine q_S_F ?_
      have j1838 : q_Iv c d w (q_sA s 15 (upd (s.1 15) 5 (vp_nar .boolean 0))) := (q_Iv_A (i := 15) hI (q_hf_up ((hI).1 15) (q_s15 (q_rg_le (L := 0) (U := 1) (q_rg_nb _) (by decide) (by decide)))))
      refine q_S_L ?_
      generalize (q_sA s 15 (upd (s.1 15) 5 (vp_nar .boolean 0))) = r142 at j1838 ⊢
      refine q_S_L ?_
      generalize p1839 : dz_M205 (q_sA r142 15 (upd (r142.1 15) 4 (vp_nar .boolean 0))) a1 2 = r143
      cases r143 with
      | true =>
        refine q_S_T ?_
        have j1840 : q_Iv c d w (q_sA r142 15 (upd (r142.1 15) 4 (vp_nar .boolean 0))) := (q_Iv_A (i := 15) j1838 (q_hf_up ((j1838).1 15) (q_s15 (q_rg_le (L := 0) (U := 1) (q_rg_nb _) (by decide) (by decide)))))
        refine q_S_L ?_
        generalize (q_sA r142 15 (upd (r142.1 15) 4 (vp_nar .boolean 0))) = r144 at j1840 ⊢
        refine q_S_L ?_
        generalize p1841 : dz_M205 (q_sA r144 15 (upd (r144.1 15) 3 (vp_nar .boolean 1))) a1 3 = r145
        cases r145 with
        | true =>
          refine q_S_T ?_
          have j1842 : q_Iv c d w (q_sA r144 15 (upd (r144.1 15) 3 (vp_nar .boolean 1))) := (q_Iv_A (i := 15) j1840 (q_hf_up ((j1840).1 15) (q_s15 (q_rg_le (L := 0) (U := 1) (q_rg_nb _) (by decide) (by decide)))))
          refine q_S_L ?_
          generalize (q_sA r144 15 (upd (r144.1 15) 3 (vp_nar .boolean 1))) = r146 at j1842 ⊢
          refine q_S_L ?_
          generalize p1843 : dz_M205 (q_sA r146 15 (upd (r146.1 15) 2 (vp_nar .boolean 1))) a1 6 = r147
          cases r147 with
          | true =>
            refine q_S_T ?_
            have j1844 : q_Iv c d w (q_sA r146 15 (upd (r146.1 15) 2 (vp_nar .boolean 1))) := (q_Iv_A (i := 15) j1842 (q_hf_up ((j1842).1 15) (q_s15 (q_rg_le (L := 0) (U := 1) (q_rg_nb _) (by decide) (by decide)))))
            refine q_S_L ?_
            generalize (q_sA r146 15 (upd (r146.1 15) 2 (vp_nar .boolean 1))) = r148 at j1844 ⊢
            refine q_S_L ?_
            generalize p1845 : dz_M205 (q_sA r148 15 (upd (r148.1 15) 1 (vp_nar .boolean 1))) a1 7 = r149
            cases r149 with
            | true =>
              refine q_S_T ?_
              have j1846 : q_Iv c d w (q_sA r148 15 (upd (r148.1 15) 1 (vp_nar .boolean 1))) := (q_Iv_A (i := 15) j1844 (q_hf_up ((j1844).1 15) (q_s15 (q_rg_le (L := 0) (U := 1) (q_rg_nb _) (by decide) (by decide)))))
              refine q_S_L ?_
              generalize (q_sA r148 15 (upd (r148.1 15) 1 (vp_nar .boolean 1))) = r150 at j1846 ⊢
              exact q_E_x (q_Iv_A (i := 15) j1846 (q_hf_up ((j1846).1 15) (q_s15 (q_rg_le (L := 0) (U := 1) (q_rg_nb _) (by decide) (by decide)))))
            | false =>
              refine q_S_F ?_
              have j1847 : q_Iv c d w (q_sA r148 15 (upd (r148.1 15) 1 (vp_nar .boolean 1))) := (q_Iv_A (i := 15) j1844 (q_hf_up ((j1844).1 15) (q_s15 (q_rg_le (L := 0) (U := 1) (q_rg_nb _) (by decide) (by decide)))))
              refine q_S_L ?_
              generalize (q_sA r148 15 (upd (r148.1 15) 1 (vp_nar .boolean 1))) = r151 at j1847 ⊢
              exact q_E_x (q_Iv_A (i := 15) j1847 (q_hf_up ((j1847).1 15) (q_s15 (q_rg_le (L := 0) (U := 1) (q_rg_nb _) (by decide) (by decide)))))
          | false =>
            refine q_S_F ?_
            have j1848 : q_Iv c d w (q_sA r146 15 (upd (r146.1 15) 2 (vp_nar .boolean 1))) := (q_Iv_A (i := 15) j1842 (q_hf_up ((j1842).1 15) (q_s15 (q_rg_le (L := 0) (U := 1) (q_rg_nb _) (by decide) (by decide)))))
            refine q_S_L ?_
            generalize (q_sA r146 15 (upd (r146.1 15) 2 (vp_nar .boolean 1))) = r152 at j1848 ⊢
            refine q_S_L ?_
            generalize p1849 : dz_M205 (q_sA r152 15 (upd (r152.1 15) 1 (vp_nar .boolean 0))) a1 7 = r153
            cases r153 with
            | true =>
              refine q_S_T ?_
              have j1850 : q_Iv c d w (q_sA r152 15 (upd (r152.1 15) 1 (vp_nar .boolean 0))) := (q_Iv_A (i := 15) j1848 (q_hf_up ((j1848).1 15) (q_s15 (q_rg_le (L := 0) (U := 1) (q_rg_nb _) (by decide) (by decide)))))
              refine q_S_L ?_
              generalize (q_sA r152 15 (upd (r152.1 15) 1 (vp_nar .boolean 0))) = r154 at j1850 ⊢
              exact q_E_x (q_Iv_A (i := 15) j1850 (q_hf_up ((j1850).1 15) (q_s15 (q_rg_le (L := 0) (U := 1) (q_rg_nb _) (by decide) (by decide)))))
            | false =>
              refine q_S_F ?_
              have j1851 : q_Iv c d w (q_sA r152 15 (upd (r152.1 15) 1 (vp_nar .boolean 0))) := (q_Iv_A (i := 15) j1848 (q_hf_up ((j1848).1 15) (q_s15 (q_rg_le (L := 0) (U := 1) (q_rg_nb _) (by decide) (by decide)))))
              refine q_S_L ?_
              generalize (q_sA r152 15 (upd (r152.1 15) 1 (vp_nar .boolean 0))) = r155 at j1851 ⊢
              exact q_E_x (q_Iv_A (i := 15) j1851 (q_hf_up ((j1851).1 15) (q_s15 (q_rg_le (L := 0) (U := 1) (q_rg_nb _) (by decide) (by decide)))))
        | false =>
          refine q_S_F ?_
          have j1852 : q_Iv c d w (q_sA r144 15 (upd (r144.1 15) 3 (vp_nar .boolean 1))) := (q_Iv_A (i := 15) j1840 (q_hf_up ((j1840).1 15) (q_s15 (q_rg_le (L := 0) (U := 1) (q_rg_nb _) (by decide) (by decide)))))
          refine q_S_L ?_
          generalize (q_sA r144 15 (upd (r144.1 15) 3 (vp_nar .boolean 1))) = r156 at j1852 ⊢
          refine q_S_L ?_
          generalize p1853 : dz_M205 (q_sA r156 15 (upd (r156.1 15) 2 (vp_nar .boolean 0))) a1 6 = r157
          cases r157 with
          | true =>
            refine q_S_T ?_
            have j1854 : q_Iv c d w (q_sA r156 15 (upd (r156.1 15) 2 (vp_nar .boolean 0))) := (q_Iv_A (i := 15) j1852 (q_hf_up ((j1852).1 15) (q_s15 (q_rg_le (L := 0) (U := 1) (q_rg_nb _) (by decide) (by decide)))))
            refine q_S_L ?_
            generalize (q_sA r156 15 (upd (r156.1 15) 2 (vp_nar .boolean 0))) = r158 at j1854 ⊢
            refine q_S_L ?_
            generalize p1855 : dz_M205 (q_sA r158 15 (upd (r158.1 15) 1 (vp_nar .boolean 1))) a1 7 = r159
            cases r159 with
            | true =>
              refine q_S_T ?_
              have j1856 : q_Iv c d w (q_sA r158 15 (upd (r158.1 15) 1 (vp_nar .boolean 1))) := (q_Iv_A (i := 15) j1854 (q_hf_up ((j1854).1 15) (q_s15 (q_rg_le (L := 0) (U := 1) (q_rg_nb _) (by decide) (by decide)))))
              refine q_S_L ?_
              generalize (q_sA r158 15 (upd (r158.1 15) 1 (vp_nar .boolean 1))) = r160 at j1856 ⊢
              exact q_E_x (q_Iv_A (i := 15) j1856 (q_hf_up ((j1856).1 15) (q_s15 (q_rg_le (L := 0) (U := 1) (q_rg_nb _) (by decide) (by decide)))))
            | false =>
              refine q_S_F ?_
              have j1857 : q_Iv c d w (q_sA r158 15 (upd (r158.1 15) 1 (vp_nar .boolean 1))) := (q_Iv_A (i := 15) j1854 (q_hf_up ((j1854).1 15) (q_s15 (q_rg_le (L := 0) (U := 1) (q_rg_nb _) (by decide) (by decide)))))
              refine q_S_L ?_
              generalize (q_sA r158 15 (upd (r158.1 15) 1 (vp_nar .boolean 1))) = r161 at j1857 ⊢
              exact q_E_x (q_Iv_A (i := 15) j1857 (q_hf_up ((j1857).1 15) (q_s15 (q_rg_le (L := 0) (U := 1) (q_rg_nb _) (by decide) (by decide)))))
          | false =>
            refine q_S_F ?_
            have j1858 : q_Iv c d w (q_sA r156 15 (upd (r156.1 15) 2 (vp_nar .boolean 0))) := (q_Iv_A (i := 15) j1852 (q_hf_up ((j1852).1 15) (q_s15 (q_rg_le (L := 0) (U := 1) (q_rg_nb _) (by decide) (by decide)))))
            refine q_S_L ?_
            generalize (q_sA r156 15 (upd (r156.1 15) 2 (vp_nar .boolean 0))) = r162 at j1858 ⊢
            refine q_S_L ?_
            generalize p1859 : dz_M205 (q_sA r162 15 (upd (r162.1 15) 1 (vp_nar .boolean 0))) a1 7 = r163
            cases r163 with
            | true =>
              refine q_S_T ?_
              have j1860 : q_Iv c d w (q_sA r162 15 (upd (r162.1 15) 1 (vp_nar .boolean 0))) := (q_Iv_A (i := 15) j1858 (q_hf_up ((j1858).1 15) (q_s15 (q_rg_le (L := 0) (U := 1) (q_rg_nb _) (by decide) (by decide)))))
              refine q_S_L ?_
              generalize (q_sA r162 15 (upd (r162.1 15) 1 (vp_nar .boolean 0))) = r164 at j1860 ⊢
              exact q_E_x (q_Iv_A (i := 15) j1860 (q_hf_up ((j1860).1 15) (q_s15 (q_rg_le (L := 0) (U := 1) (q_rg_nb _) (by decide) (by decide)))))
            | false =>
              refine q_S_F ?_
              have j1861 : q_Iv c d w (q_sA r162 15 (upd (r162.1 15) 1 (vp_nar .boolean 0))) := (q_Iv_A (i := 15) j1858 (q_hf_up ((j1858).1 15) (q_s15 (q_rg_le (L := 0) (U := 1) (q_rg_nb _) (by decide) (by decide)))))
              refine q_S_L ?_
              generalize (q_sA r162 15 (upd (r162.1 15) 1 (vp_nar .boolean 0))) = r165 at j1861 ⊢
              exact q_E_x (q_Iv_A (i := 15) j1861 (q_hf_up ((j1861).1 15) (q_s15 (q_rg_le (L := 0) (U := 1) (q_rg_nb _) (by decide) (by decide)))))
      | false =>
        refine q_S_F ?_
        have j1862 : q_Iv c d w (q_sA r142 15 (upd (r142.1 15) 4 (vp_nar .boolean 0))) := (q_Iv_A (i := 15) j1838 (q_hf_up ((j1838).1 15) (q_s15 (q_rg_le (L := 0) (U := 1) (q_rg_nb _) (by decide) (by decide)))))
        refine q_S_L ?_
        generalize (q_sA r142 15 (upd (r142.1 15) 4 (vp_nar .boolean 0))) = r166 at j1862 ⊢
        refine q_S_L ?_
        generalize p1863 : dz_M205 (q_sA r166 15 (upd (r166.1 15) 3 (vp_nar .boolean 0))) a1 3 = r167
        cases r167 with
        | true =>
          refine q_S_T ?_
          have j1864 : q_Iv c d w (q_sA r166 15 (upd (r166.1 15) 3 (vp_nar .boolean 0))) := (q_Iv_A (i := 15) j1862 (q_hf_up ((j1862).1 15) (q_s15 (q_rg_le (L := 0) (U := 1) (q_rg_nb _) (by decide) (by decide)))))
          refine q_S_L ?_
          generalize (q_sA r166 15 (upd (r166.1 15) 3 (vp_nar .boolean 0))) = r168 at j1864 ⊢
          refine q_S_L ?_
          generalize p1865 : dz_M205 (q_sA r168 15 (upd (r168.1 15) 2 (vp_nar .boolean 1))) a1 6 = r169
          cases r169 with
          | true =>
            refine q_S_T ?_
            have j1866 : q_Iv c d w (q_sA r168 15 (upd (r168.1 15) 2 (vp_nar .boolean 1))) := (q_Iv_A (i := 15) j1864 (q_hf_up ((j1864).1 15) (q_s15 (q_rg_le (L := 0) (U := 1) (q_rg_nb _) (by decide) (by decide)))))
            refine q_S_L ?_
            generalize (q_sA r168 15 (upd (r168.1 15) 2 (vp_nar .boolean 1))) = r170 at j1866 ⊢
            refine q_S_L ?_
            generalize p1867 : dz_M205 (q_sA r170 15 (upd (r170.1 15) 1 (vp_nar .boolean 1))) a1 7 = r171
            cases r171 with
            | true =>
              refine q_S_T ?_
              have j1868 : q_Iv c d w (q_sA r170 15 (upd (r170.1 15) 1 (vp_nar .boolean 1))) := (q_Iv_A (i := 15) j1866 (q_hf_up ((j1866).1 15) (q_s15 (q_rg_le (L := 0) (U := 1) (q_rg_nb _) (by decide) (by decide)))))
              refine q_S_L ?_
              generalize (q_sA r170 15 (upd (r170.1 15) 1 (vp_nar .boolean 1))) = r172 at j1868 ⊢
              exact q_E_x (q_Iv_A (i := 15) j1868 (q_hf_up ((j1868).1 15) (q_s15 (q_rg_le (L := 0) (U := 1) (q_rg_nb _) (by decide) (by decide)))))
            | false =>
              refine q_S_F ?_
              have j1869 : q_Iv c d w (q_sA r170 15 (upd (r170.1 15) 1 (vp_nar .boolean 1))) := (q_Iv_A (i := 15) j1866 (q_hf_up ((j1866).1 15) (q_s15 (q_rg_le (L := 0) (U := 1) (q_rg_nb _) (by decide) (by decide)))))
              refine q_S_L ?_
              generalize (q_sA r170 15 (upd (r170.1 15) 1 (vp_nar .boolean 1))) = r173 at j1869 ⊢
              exact q_E_x (q_Iv_A (i := 15) j1869 (q_hf_up ((j1869).1 15) (q_s15 (q_rg_le (L := 0) (U := 1) (q_rg_nb _) (by decide) (by decide)))))
          | false =>
            refine q_S_F ?_
            have j1870 : q_Iv c d w (q_sA r168 15 (upd (r168.1 15) 2 (vp_nar .boolean 1))) := (q_Iv_A (i := 15) j1864 (q_hf_up ((j1864).1 15) (q_s15 (q_rg_le (L := 0) (U := 1) (q_rg_nb _) (by decide) (by decide)))))
            refine q_S_L ?_
            generalize (q_sA r168 15 (upd (r168.1 15) 2 (vp_nar .boolean 1))) = r174 at j1870 ⊢
            refine q_S_L ?_
            generalize p1871 : dz_M205 (q_sA r174 15 (upd (r174.1 15) 1 (vp_nar .boolean 0))) a1 7 = r175
            cases r175 with
            | true =>
              refine q_S_T ?_
              have j1872 : q_Iv c d w (q_sA r174 15 (upd (r174.1 15) 1 (vp_nar .boolean 0))) := (q_Iv_A (i := 15) j1870 (q_hf_up ((j1870).1 15) (q_s15 (q_rg_le (L := 0) (U := 1) (q_rg_nb _) (by decide) (by decide)))))
              refine q_S_L ?_
              generalize (q_sA r174 15 (upd (r174.1 15) 1 (vp_nar .boolean 0))) = r176 at j1872 ⊢
              exact q_E_x (q_Iv_A (i := 15) j1872 (q_hf_up ((j1872).1 15) (q_s15 (q_rg_le (L := 0) (U := 1) (q_rg_nb _) (by decide) (by decide)))))
            | false =>
              refine q_S_F ?_
              have j1873 : q_Iv c d w (q_sA r174 15 (upd (r174.1 15) 1 (vp_nar .boolean 0))) := (q_Iv_A (i := 15) j1870 (q_hf_up ((j1870).1 15) (q_s15 (q_rg_le (L := 0) (U := 1) (q_rg_nb _) (by decide) (by decide)))))
              refine q_S_L ?_
              generalize (q_sA r174 15 (upd (r174.1 15) 1 (vp_nar .boolean 0))) = r177 at j1873 ⊢
              exact q_E_x (q_Iv_A (i := 15) j1873 (q_hf_up ((j1873).1 15) (q_s15 (q_rg_le (L := 0) (U := 1) (q_rg_nb _) (by decide) (by decide)))))
        | false =>
          refine q_S_F ?_
          have j1874 : q_Iv c d w (q_sA r166 15 (upd (r166.1 15) 3 (vp_nar .boolean 0))) := (q_Iv_A (i := 15) j1862 (q_hf_up ((j1862).1 15) (q_s15 (q_rg_le (L := 0) (U := 1) (q_rg_nb _) (by decide) (by decide)))))
          refine q_S_L ?_
          generalize (q_sA r166 15 (upd (r166.1 15) 3 (vp_nar .boolean 0))) = r178 at j1874 ⊢
          refine q_S_L ?_
          generalize p1875 : dz_M205 (q_sA r178 15 (upd (r178.1 15) 2 (vp_nar .boolean 0))) a1 6 = r179
          cases r179 with
          | true =>
            refine q_S_T ?_
            have j1876 : q_Iv c d w (q_sA r178 15 (upd (r178.1 15) 2 (vp_nar .boolean 0))) := (q_Iv_A (i := 15) j1874 (q_hf_up ((j1874).1 15) (q_s15 (q_rg_le (L := 0) (U := 1) (q_rg_nb _) (by decide) (by decide)))))
            refine q_S_L ?_
            generalize (q_sA r178 15 (upd (r178.1 15) 2 (vp_nar .boolean 0))) = r180 at j1876 ⊢
            refine q_S_L ?_
            generalize p1877 : dz_M205 (q_sA r180 15 (upd (r180.1 15) 1 (vp_nar .boolean 1))) a1 7 = r181
            cases r181 with
            | true =>
              refine q_S_T ?_
              have j1878 : q_Iv c d w (q_sA r180 15 (upd (r180.1 15) 1 (vp_nar .boolean 1))) := (q_Iv_A (i := 15) j1876 (q_hf_up ((j1876).1 15) (q_s15 (q_rg_le (L := 0) (U := 1) (q_rg_nb _) (by decide) (by decide)))))
              refine q_S_L ?_
              generalize (q_sA r180 15 (upd (r180.1 15) 1 (vp_nar .boolean 1))) = r182 at j1878 ⊢
              exact q_E_x (q_Iv_A (i := 15) j1878 (q_hf_up ((j1878).1 15) (q_s15 (q_rg_le (L := 0) (U := 1) (q_rg_nb _) (by decide) (by decide)))))
            | false =>
              refine q_S_F ?_
              have j1879 : q_Iv c d w (q_sA r180 15 (upd (r180.1 15) 1 (vp_nar .boolean 1))) := (q_Iv_A (i := 15) j1876 (q_hf_up ((j1876).1 15) (q_s15 (q_rg_le (L := 0) (U := 1) (q_rg_nb _) (by decide) (by decide)))))
              refine q_S_L ?_
              generalize (q_sA r180 15 (upd (r180.1 15) 1 (vp_nar .boolean 1))) = r183 at j1879 ⊢
              exact q_E_x (q_Iv_A (i := 15) j1879 (q_hf_up ((j1879).1 15) (q_s15 (q_rg_le (L := 0) (U := 1) (q_rg_nb _) (by decide) (by decide)))))
          | false =>
            refine q_S_F ?_
            have j1880 : q_Iv c d w (q_sA r178 15 (upd (r178.1 15) 2 (vp_nar .boolean 0))) := (q_Iv_A (i := 15) j1874 (q_hf_up ((j1874).1 15) (q_s15 (q_rg_le (L := 0) (U := 1) (q_rg_nb _) (by decide) (by decide)))))
            refine q_S_L ?_
            generalize (q_sA r178 15 (upd (r178.1 15) 2 (vp_nar .boolean 0))) = r184 at j1880 ⊢
            refine q_S_L ?_
            generalize p1881 : dz_M205 (q_sA r184 15 (upd (r184.1 15) 1 (vp_nar .boolean 0))) a1 7 = r185
            cases r185 with
            | true =>
              refine q_S_T ?_
              have j1882 : q_Iv c d w (q_sA r184 15 (upd (r184.1 15) 1 (vp_nar .boolean 0))) := (q_Iv_A (i := 15) j1880 (q_hf_up ((j1880).1 15) (q_s15 (q_rg_le (L := 0) (U := 1) (q_rg_nb _) (by decide) (by decide)))))
              refine q_S_L ?_
              generalize (q_sA r184 15 (upd (r184.1 15) 1 (vp_nar .boolean 0))) = r186 at j1882 ⊢
              exact q_E_x (q_Iv_A (i := 15) j1882 (q_hf_up ((j1882).1 15) (q_s15 (q_rg_le (L := 0) (U := 1) (q_rg_nb _) (by decide) (by decide)))))
            | false =>
              refine q_S_F ?_
              have j1883 : q_Iv c d w (q_sA r184 15 (upd (r184.1 15) 1 (vp_nar .boolean 0))) := (q_Iv_A (i := 15) j1880 (q_hf_up ((j1880).1 15) (q_s15 (q_rg_le (L := 0) (U := 1) (q_rg_nb _) (by decide) (by decide)))))
              refine q_S_L ?_
              generalize (q_sA r184 15 (upd (r184.1 15) 1 (vp_nar .boolean 0))) = r187 at j1883 ⊢
              exact q_E_x (q_Iv_A (i := 15) j1883 (q_hf_up ((j1883).1 15) (q_s15 (q_rg_le (L := 0) (U := 1) (q_rg_nb _) (by decide) (by decide)))))
set_option maxHeartbeats 4000000 in
theorem dzj_M273_64 (c d w : Int) (s : q_S) (hI : q_Iv c d w s) (a1 : Int32) : q_Ex (dz_M273_64 s a1) (fun (x : q_S × Int32) => q_Iv c d w x.1 ∧ q_rgz 0 4095 x.2) := by
  unfold dz_M273_64
  obtain ⟨r2, e1890, j1889⟩ := dzj_M255_64 c d w (s) hI
  rw [e1890]
  refine q_E_B ?_
  obtain ⟨r3, e1892, j1891⟩ := dzj_M255_64 c d w (r2.1) j1889.1
  rw [e1892]
  refine q_E_B ?_
  have j1893 := dzj_M212 c d w (r3.1) j1891.1 ((r2.2 + (256 * r3.2)) + a1)
  refine q_E_L ?_
  generalize dz_M212 r3.1 ((r2.2 + (256 * r3.2)) + a1) = r4 at j1893 ⊢
  exact q_E_x ⟨j1891.1, q_rg_le j1893 (by decide) (by decide)⟩
set_option maxHeartbeats 4000000 in
theorem dzj_M274_64_43 (c d w : Int) (s : q_S) (hI : q_Iv c d w s) (v1 : Int32) (v3 : Int32) (rv3 : q_rgz 0 4095 v3) : q_Ex (dz_M274_64_43 s v1 v3) (q_Iv c d w) := by
  unfold dz_M274_64_43
  cases h1919 : decide (v1 = 159) with
  | true =>
    have g1920 := q_rg_eqT h1919 (q_rg_lit (n := 159) (x := 159) rfl)
    refine q_E_T ?_
    obtain ⟨r6, e1922, j1921⟩ := dzj_M246_64 c d w (s) hI (v3)
    rw [e1922]
    refine q_E_B ?_
    obtain ⟨r7, e1924, j1923⟩ := dzj_M246_64 c d w (r6.1) j1921.1 (((v3 / 256) * 256) + ((v3 + 1) - (v3 + 1) / 256 * 256))
    rw [e1924]
    refine q_E_B ?_
    have j1925 := dzj_M212 c d w (r7.1) j1923.1 (r6.2 + (256 * r7.2))
    refine q_E_L ?_
    generalize dz_M212 r7.1 (r6.2 + (256 * r7.2)) = r8 at j1925 ⊢
    exact q_E_x (q_Iv_A (i := 14) j1923.1 (q_hf_up ((j1923.1).1 14) (q_sn4 (q_rg_le (L := 0) (U := 4095) j1925 (by decide) (by decide)))))
  | false =>
    refine q_E_F ?_
    exact q_E_x (q_Iv_A (i := 14) hI (q_hf_up ((hI).1 14) (q_sn4 (q_rg_le (L := 0) (U := 4095) rv3 (by decide) (by decide)))))
set_option maxHeartbeats 4000000 in
theorem dzj_M274_64 (c d w : Int) (s : q_S) (hI : q_Iv c d w s) (a1 : Int32) (a2 : Int32) : q_Ex (dz_M274_64 s a1 a2) (q_Iv c d w) := by
  unfold dz_M274_64
  obtain ⟨r2, e1927, j1926⟩ := dzj_M247_64 c d w (s) hI (a2 + 1)
  rw [e1927]
  refine q_E_B ?_
  cases h1928 : decide (a1 = 158) with
  | true =>
    have g1929 := q_rg_eqT h1928 (q_rg_lit (n := 158) (x := 158) rfl)
    refine q_E_T ?_
    have j1930 := dzj_M212 c d w (r2.1) j1926.1 (a2 + 2)
    refine q_E_L ?_
    generalize dz_M212 r2.1 (a2 + 2) = r3 at j1930 ⊢
    obtain ⟨r4, e1932, j1931⟩ := dzj_M254_64 c d w (r2.1) j1926.1 (r3 / 256) (q_rg_le (L := 0) (U := 255) (q_rg_div (c := 256) (U := 15) j1930 (by decide) rfl (by decide) (by decide)) (by decide) (by decide))
    rw [e1932]
    refine q_E_B ?_
    obtain ⟨r5, e1934, j1933⟩ := dzj_M254_64 c d w (r4) j1931 (r3 - r3 / 256 * 256) (q_rg_le (L := 0) (U := 255) (q_rg_rem (c := 256) (U := 255) j1930 (by decide) rfl (by decide) (by decide)) (by decide) (by decide))
    rw [e1934]
    refine q_E_B ?_
    exact dzj_M274_64_43 c d w (r5) j1933 (a1) (r2.2) (q_rg_le (L := 0) (U := 4095) j1926.2 (by decide) (by decide))
  | false =>
    refine q_E_F ?_
    exact dzj_M274_64_43 c d w (r2.1) j1926.1 (a1) (r2.2) (q_rg_le (L := 0) (U := 4095) j1926.2 (by decide) (by decide))
set_option maxHeartbeats 4000000 in
theorem dzj_M260_64 (c d w : Int) (s : q_S) (hI : q_Iv c d w s) (a1 : Int32) (ra1 : q_rgz 0 255 a1) : (fun (x : q_S × Int32) => q_Iv c d w x.1 ∧ q_rgz 0 255 x.2) (dz_M260_64 s a1) := by
  refine q_S_of (P := (fun (x : q_S × Int32) => q_Iv c d w x.1 ∧ q_rgz 0 255 x.2)) ?_
  unfold dz_M260_64
  cases h1945 : decide (a1 = 0) with
  | true =>
    have g1946 := q_rg_eqT h1945 (q_rg_lit (n := 0) (x := 0) rfl)
    refine q_S_T ?_
    cases h1947 : decide (127 < a1) with
    | true =>
      exact (q_rg_no (q_rg_ltT1 (l := 127) (U := -1) h1947 (q_rg_lit (n := 127) (x := 127) rfl) g1946 (by decide)) (by decide)).elim
    | false =>
      refine q_S_F ?_
      have j1948 : q_Iv c d w (q_sA s 15 (upd (s.1 15) 4 (vp_nar .boolean 1))) := (q_Iv_A (i := 15) hI (q_hf_up ((hI).1 15) (q_s15 (q_rg_le (L := 0) (U := 1) (q_rg_nb _) (by decide) (by decide)))))
      refine q_S_L ?_
      generalize (q_sA s 15 (upd (s.1 15) 4 (vp_nar .boolean 1))) = r2 at j1948 ⊢
      exact q_E_x ⟨(q_Iv_A (i := 15) j1948 (q_hf_up ((j1948).1 15) (q_s15 (q_rg_le (L := 0) (U := 1) (q_rg_nb _) (by decide) (by decide))))), q_rg_le g1946 (by decide) (by decide)⟩
  | false =>
    have g1949 := (q_rg_neL (l := 0) (u := 255) (n := 0) (L := 1) h1945 ra1 rfl (by decide) (by decide))
    refine q_S_F ?_
    cases h1950 : decide (127 < a1) with
    | true =>
      have g1951 := (q_rg_ltT2 (L := 128) (u2 := 255) h1950 (q_rg_lit (n := 127) (x := 127) rfl) g1949 (by decide))
      refine q_S_T ?_
      have j1952 : q_Iv c d w (q_sA s 15 (upd (s.1 15) 4 (vp_nar .boolean 0))) := (q_Iv_A (i := 15) hI (q_hf_up ((hI).1 15) (q_s15 (q_rg_le (L := 0) (U := 1) (q_rg_nb _) (by decide) (by decide)))))
      refine q_S_L ?_
      generalize (q_sA s 15 (upd (s.1 15) 4 (vp_nar .boolean 0))) = r3 at j1952 ⊢
      exact q_E_x ⟨(q_Iv_A (i := 15) j1952 (q_hf_up ((j1952).1 15) (q_s15 (q_rg_le (L := 0) (U := 1) (q_rg_nb _) (by decide) (by decide))))), q_rg_le g1951 (by decide) (by decide)⟩
    | false =>
      have g1953 := (q_rg_ltF2 (l2 := 1) (u := 127) h1950 (q_rg_lit (n := 127) (x := 127) rfl) g1949)
      refine q_S_F ?_
      have j1954 : q_Iv c d w (q_sA s 15 (upd (s.1 15) 4 (vp_nar .boolean 0))) := (q_Iv_A (i := 15) hI (q_hf_up ((hI).1 15) (q_s15 (q_rg_le (L := 0) (U := 1) (q_rg_nb _) (by decide) (by decide)))))
      refine q_S_L ?_
      generalize (q_sA s 15 (upd (s.1 15) 4 (vp_nar .boolean 0))) = r4 at j1954 ⊢
      exact q_E_x ⟨(q_Iv_A (i := 15) j1954 (q_hf_up ((j1954).1 15) (q_s15 (q_rg_le (L := 0) (U := 1) (q_rg_nb _) (by decide) (by decide))))), q_rg_le g1953 (by decide) (by decide)⟩
set_option maxHeartbeats 4000000 in
theorem dzj_M261_64 (c d w : Int) (s : q_S) (hI : q_Iv c d w s) (a1 : Int32) (a2 : Int32) (ra1 : q_rgz 0 2 a1) (ra2 : q_rgz 0 255 a2) : q_Ex (dz_M261_64 s a1 a2) (q_Iv c d w) := by
  unfold dz_M261_64
  have j1956 := dzj_M260_64 c d w (s) hI (a2) (q_rg_le (L := 0) (U := 255) ra2 (by decide) (by decide))
  refine q_E_L ?_
  generalize dz_M260_64 s a2 = r2 at j1956 ⊢
  refine q_E_A (q_in_rg ra1 (by decide) (by decide)) ?_
  exact q_E_x (q_Iv_A (i := 14) j1956.1 (q_hf_up ((j1956.1).1 14) (q_stv (i := 14) (a := 0) (n := 3) (L := 0) (U := 255) j1956.1 (q_rg_le ra1 (by decide) (by decide)) (by decide) j1956.2)))
set_option maxHeartbeats 4000000 in
theorem dzj_M271_64 (c d w : Int) (s : q_S) (hI : q_Iv c d w s) (a1 : Int32) : q_Ex (dz_M271_64 s a1) (q_Iv c d w) := by
  unfold dz_M271_64
  obtain ⟨r2, e2020, j2019⟩ := dzj_M256_64 c d w 1 (s) hI (5) (1)  (q_rg_le (L := 0) (U := 7) (q_rg_lit (n := 5) (x := 5) rfl) (by decide) (by decide)) (q_rg_le (L := 0) (U := 1) (q_rg_lit (n := 1) (x := 1) rfl) (by decide) (by decide))
  rw [e2020]
  refine q_E_B ?_
  cases h2021 : decide (a1 - a1 / 2 * 2 = 0) with
  | true =>
    have g2022 := q_rg_eqT h2021 (q_rg_lit (n := 0) (x := 0) rfl)
    refine q_E_T ?_
    refine q_E_L ?_
    generalize p2023 : dz_M205 s ((s.1 14) 0) 7 = r3
    cases r3 with
    | true =>
      refine q_E_T ?_
      cases h2024 : decide (a1 = 150) with
      | true =>
        have g2025 := q_rg_eqT h2024 (q_rg_lit (n := 150) (x := 150) rfl)
        refine q_E_T ?_
        obtain ⟨r4, e2027, j2026⟩ := dzj_M261_64 c d w (q_sA s 15 (upd (s.1 15) 5 (vp_nar .boolean 1))) (q_Iv_A (i := 15) hI (q_hf_up ((hI).1 15) (q_s15 (q_rg_le (L := 0) (U := 1) (q_rg_nb _) (by decide) (by decide))))) (0) ((((s.1 14) 0) * 2) &&& 255) (q_rg_le (L := 0) (U := 2) (q_rg_lit (n := 0) (x := 0) rfl) (by decide) (by decide)) (q_rg_le (L := 0) (U := 255) (q_rg_and (((s.1 14) 0) * 2) 255 (U := 255) (by decide) rfl) (by decide) (by decide))
        rw [e2027]
        refine q_E_B ?_
        exact q_E_x j2026
      | false =>
        refine q_E_F ?_
        cases h2028 : decide (a1 = 151) with
        | true =>
          have g2029 := q_rg_eqT h2028 (q_rg_lit (n := 151) (x := 151) rfl)
          refine q_E_T ?_
          obtain ⟨r5, e2031, j2030⟩ := dzj_M261_64 c d w (q_sA s 15 (upd (s.1 15) 5 (vp_nar .boolean 1))) (q_Iv_A (i := 15) hI (q_hf_up ((hI).1 15) (q_s15 (q_rg_le (L := 0) (U := 1) (q_rg_nb _) (by decide) (by decide))))) (0) (((s.1 14) 0) / 2) (q_rg_le (L := 0) (U := 2) (q_rg_lit (n := 0) (x := 0) rfl) (by decide) (by decide)) (q_rg_le (L := 0) (U := 255) (q_rg_div (c := 2) (U := 127) (q_n0z hI) (by decide) rfl (by decide) (by decide)) (by decide) (by decide))
          rw [e2031]
          refine q_E_B ?_
          exact q_E_x j2030
        | false =>
          refine q_E_F ?_
          cases h2032 : decide (a1 = 152) with
          | true =>
            have g2033 := q_rg_eqT h2032 (q_rg_lit (n := 152) (x := 152) rfl)
            refine q_E_T ?_
            obtain ⟨r6, e2035, j2034⟩ := dzj_M261_64 c d w (q_sA s 15 (upd (s.1 15) 5 (vp_nar .boolean 1))) (q_Iv_A (i := 15) hI (q_hf_up ((hI).1 15) (q_s15 (q_rg_le (L := 0) (U := 1) (q_rg_nb _) (by decide) (by decide))))) (0) (((((s.1 14) 0) * 2) + r2) &&& 255) (q_rg_le (L := 0) (U := 2) (q_rg_lit (n := 0) (x := 0) rfl) (by decide) (by decide)) (q_rg_le (L := 0) (U := 255) (q_rg_and ((((s.1 14) 0) * 2) + r2) 255 (U := 255) (by decide) rfl) (by decide) (by decide))
            rw [e2035]
            refine q_E_B ?_
            exact q_E_x j2034
          | false =>
            refine q_E_F ?_
            obtain ⟨r7, e2037, j2036⟩ := dzj_M261_64 c d w (q_sA s 15 (upd (s.1 15) 5 (vp_nar .boolean 1))) (q_Iv_A (i := 15) hI (q_hf_up ((hI).1 15) (q_s15 (q_rg_le (L := 0) (U := 1) (q_rg_nb _) (by decide) (by decide))))) (0) ((((s.1 14) 0) / 2) + (128 * r2)) (q_rg_le (L := 0) (U := 2) (q_rg_lit (n := 0) (x := 0) rfl) (by decide) (by decide)) (q_rg_le (L := 0) (U := 255) (q_rg_add (L := 0) (U := 255) (q_rg_div (c := 2) (U := 127) (q_n0z hI) (by decide) rfl (by decide) (by decide)) (q_rg_mul (L := 0) (U := 128) (q_rg_lit (n := 128) (x := 128) rfl) j2019 (by decide) (by decide) (by decide) (by decide) (by decide) (by decide)) (by decide) (by decide) (by decide) (by decide)) (by decide) (by decide))
            rw [e2037]
            refine q_E_B ?_
            exact q_E_x j2036
    | false =>
      refine q_E_F ?_
      cases h2038 : decide (a1 = 150) with
      | true =>
        have g2039 := q_rg_eqT h2038 (q_rg_lit (n := 150) (x := 150) rfl)
        refine q_E_T ?_
        obtain ⟨r8, e2041, j2040⟩ := dzj_M261_64 c d w (q_sA s 15 (upd (s.1 15) 5 (vp_nar .boolean 0))) (q_Iv_A (i := 15) hI (q_hf_up ((hI).1 15) (q_s15 (q_rg_le (L := 0) (U := 1) (q_rg_nb _) (by decide) (by decide))))) (0) ((((s.1 14) 0) * 2) &&& 255) (q_rg_le (L := 0) (U := 2) (q_rg_lit (n := 0) (x := 0) rfl) (by decide) (by decide)) (q_rg_le (L := 0) (U := 255) (q_rg_and (((s.1 14) 0) * 2) 255 (U := 255) (by decide) rfl) (by decide) (by decide))
        rw [e2041]
        refine q_E_B ?_
        exact q_E_x j2040
      | false =>
        refine q_E_F ?_
        cases h2042 : decide (a1 = 151) with
        | true =>
          have g2043 := q_rg_eqT h2042 (q_rg_lit (n := 151) (x := 151) rfl)
          refine q_E_T ?_
          obtain ⟨r9, e2045, j2044⟩ := dzj_M261_64 c d w (q_sA s 15 (upd (s.1 15) 5 (vp_nar .boolean 0))) (q_Iv_A (i := 15) hI (q_hf_up ((hI).1 15) (q_s15 (q_rg_le (L := 0) (U := 1) (q_rg_nb _) (by decide) (by decide))))) (0) (((s.1 14) 0) / 2) (q_rg_le (L := 0) (U := 2) (q_rg_lit (n := 0) (x := 0) rfl) (by decide) (by decide)) (q_rg_le (L := 0) (U := 255) (q_rg_div (c := 2) (U := 127) (q_n0z hI) (by decide) rfl (by decide) (by decide)) (by decide) (by decide))
          rw [e2045]
          refine q_E_B ?_
          exact q_E_x j2044
        | false =>
          refine q_E_F ?_
          cases h2046 : decide (a1 = 152) with
          | true =>
            have g2047 := q_rg_eqT h2046 (q_rg_lit (n := 152) (x := 152) rfl)
            refine q_E_T ?_
            obtain ⟨r10, e2049, j2048⟩ := dzj_M261_64 c d w (q_sA s 15 (upd (s.1 15) 5 (vp_nar .boolean 0))) (q_Iv_A (i := 15) hI (q_hf_up ((hI).1 15) (q_s15 (q_rg_le (L := 0) (U := 1) (q_rg_nb _) (by decide) (by decide))))) (0) (((((s.1 14) 0) * 2) + r2) &&& 255) (q_rg_le (L := 0) (U := 2) (q_rg_lit (n := 0) (x := 0) rfl) (by decide) (by decide)) (q_rg_le (L := 0) (U := 255) (q_rg_and ((((s.1 14) 0) * 2) + r2) 255 (U := 255) (by decide) rfl) (by decide) (by decide))
            rw [e2049]
            refine q_E_B ?_
            exact q_E_x j2048
          | false =>
            refine q_E_F ?_
            obtain ⟨r11, e2051, j2050⟩ := dzj_M261_64 c d w (q_sA s 15 (upd (s.1 15) 5 (vp_nar .boolean 0))) (q_Iv_A (i := 15) hI (q_hf_up ((hI).1 15) (q_s15 (q_rg_le (L := 0) (U := 1) (q_rg_nb _) (by decide) (by decide))))) (0) ((((s.1 14) 0) / 2) + (128 * r2)) (q_rg_le (L := 0) (U := 2) (q_rg_lit (n := 0) (x := 0) rfl) (by decide) (by decide)) (q_rg_le (L := 0) (U := 255) (q_rg_add (L := 0) (U := 255) (q_rg_div (c := 2) (U := 127) (q_n0z hI) (by decide) rfl (by decide) (by decide)) (q_rg_mul (L := 0) (U := 128) (q_rg_lit (n := 128) (x := 128) rfl) j2019 (by decide) (by decide) (by decide) (by decide) (by decide) (by decide)) (by decide) (by decide) (by decide) (by decide)) (by decide) (by decide))
            rw [e2051]
            refine q_E_B ?_
            exact q_E_x j2050
  | false =>
    refine q_E_F ?_
    refine q_E_L ?_
    generalize p2052 : dz_M205 s ((s.1 14) 0) 0 = r12
    cases r12 with
    | true =>
      refine q_E_T ?_
      cases h2053 : decide (a1 = 150) with
      | true =>
        have g2054 := q_rg_eqT h2053 (q_rg_lit (n := 150) (x := 150) rfl)
        refine q_E_T ?_
        obtain ⟨r13, e2056, j2055⟩ := dzj_M261_64 c d w (q_sA s 15 (upd (s.1 15) 5 (vp_nar .boolean 1))) (q_Iv_A (i := 15) hI (q_hf_up ((hI).1 15) (q_s15 (q_rg_le (L := 0) (U := 1) (q_rg_nb _) (by decide) (by decide))))) (0) ((((s.1 14) 0) * 2) &&& 255) (q_rg_le (L := 0) (U := 2) (q_rg_lit (n := 0) (x := 0) rfl) (by decide) (by decide)) (q_rg_le (L := 0) (U := 255) (q_rg_and (((s.1 14) 0) * 2) 255 (U := 255) (by decide) rfl) (by decide) (by decide))
        rw [e2056]
        refine q_E_B ?_
        exact q_E_x j2055
      | false =>
        refine q_E_F ?_
        cases h2057 : decide (a1 = 151) with
        | true =>
          have g2058 := q_rg_eqT h2057 (q_rg_lit (n := 151) (x := 151) rfl)
          refine q_E_T ?_
          obtain ⟨r14, e2060, j2059⟩ := dzj_M261_64 c d w (q_sA s 15 (upd (s.1 15) 5 (vp_nar .boolean 1))) (q_Iv_A (i := 15) hI (q_hf_up ((hI).1 15) (q_s15 (q_rg_le (L := 0) (U := 1) (q_rg_nb _) (by decide) (by decide))))) (0) (((s.1 14) 0) / 2) (q_rg_le (L := 0) (U := 2) (q_rg_lit (n := 0) (x := 0) rfl) (by decide) (by decide)) (q_rg_le (L := 0) (U := 255) (q_rg_div (c := 2) (U := 127) (q_n0z hI) (by decide) rfl (by decide) (by decide)) (by decide) (by decide))
          rw [e2060]
          refine q_E_B ?_
          exact q_E_x j2059
        | false =>
          refine q_E_F ?_
          cases h2061 : decide (a1 = 152) with
          | true =>
            have g2062 := q_rg_eqT h2061 (q_rg_lit (n := 152) (x := 152) rfl)
            refine q_E_T ?_
            obtain ⟨r15, e2064, j2063⟩ := dzj_M261_64 c d w (q_sA s 15 (upd (s.1 15) 5 (vp_nar .boolean 1))) (q_Iv_A (i := 15) hI (q_hf_up ((hI).1 15) (q_s15 (q_rg_le (L := 0) (U := 1) (q_rg_nb _) (by decide) (by decide))))) (0) (((((s.1 14) 0) * 2) + r2) &&& 255) (q_rg_le (L := 0) (U := 2) (q_rg_lit (n := 0) (x := 0) rfl) (by decide) (by decide)) (q_rg_le (L := 0) (U := 255) (q_rg_and ((((s.1 14) 0) * 2) + r2) 255 (U := 255) (by decide) rfl) (by decide) (by decide))
            rw [e2064]
            refine q_E_B ?_
            exact q_E_x j2063
          | false =>
            refine q_E_F ?_
            obtain ⟨r16, e2066, j2065⟩ := dzj_M261_64 c d w (q_sA s 15 (upd (s.1 15) 5 (vp_nar .boolean 1))) (q_Iv_A (i := 15) hI (q_hf_up ((hI).1 15) (q_s15 (q_rg_le (L := 0) (U := 1) (q_rg_nb _) (by decide) (by decide))))) (0) ((((s.1 14) 0) / 2) + (128 * r2)) (q_rg_le (L := 0) (U := 2) (q_rg_lit (n := 0) (x := 0) rfl) (by decide) (by decide)) (q_rg_le (L := 0) (U := 255) (q_rg_add (L := 0) (U := 255) (q_rg_div (c := 2) (U := 127) (q_n0z hI) (by decide) rfl (by decide) (by decide)) (q_rg_mul (L := 0) (U := 128) (q_rg_lit (n := 128) (x := 128) rfl) j2019 (by decide) (by decide) (by decide) (by decide) (by decide) (by decide)) (by decide) (by decide) (by decide) (by decide)) (by decide) (by decide))
            rw [e2066]
            refine q_E_B ?_
            exact q_E_x j2065
    | false =>
      refine q_E_F ?_
      cases h2067 : decide (a1 = 150) with
      | true =>
        have g2068 := q_rg_eqT h2067 (q_rg_lit (n := 150) (x := 150) rfl)
        refine q_E_T ?_
        obtain ⟨r17, e2070, j2069⟩ := dzj_M261_64 c d w (q_sA s 15 (upd (s.1 15) 5 (vp_nar .boolean 0))) (q_Iv_A (i := 15) hI (q_hf_up ((hI).1 15) (q_s15 (q_rg_le (L := 0) (U := 1) (q_rg_nb _) (by decide) (by decide))))) (0) ((((s.1 14) 0) * 2) &&& 255) (q_rg_le (L := 0) (U := 2) (q_rg_lit (n := 0) (x := 0) rfl) (by decide) (by decide)) (q_rg_le (L := 0) (U := 255) (q_rg_and (((s.1 14) 0) * 2) 255 (U := 255) (by decide) rfl) (by decide) (by decide))
        rw [e2070]
        refine q_E_B ?_
        exact q_E_x j2069
      | false =>
        refine q_E_F ?_
        cases h2071 : decide (a1 = 151) with
        | true =>
          have g2072 := q_rg_eqT h2071 (q_rg_lit (n := 151) (x := 151) rfl)
          refine q_E_T ?_
          obtain ⟨r18, e2074, j2073⟩ := dzj_M261_64 c d w (q_sA s 15 (upd (s.1 15) 5 (vp_nar .boolean 0))) (q_Iv_A (i := 15) hI (q_hf_up ((hI).1 15) (q_s15 (q_rg_le (L := 0) (U := 1) (q_rg_nb _) (by decide) (by decide))))) (0) (((s.1 14) 0) / 2) (q_rg_le (L := 0) (U := 2) (q_rg_lit (n := 0) (x := 0) rfl) (by decide) (by decide)) (q_rg_le (L := 0) (U := 255) (q_rg_div (c := 2) (U := 127) (q_n0z hI) (by decide) rfl (by decide) (by decide)) (by decide) (by decide))
          rw [e2074]
          refine q_E_B ?_
          exact q_E_x j2073
        | false =>
          refine q_E_F ?_
          cases h2075 : decide (a1 = 152) with
          | true =>
            have g2076 := q_rg_eqT h2075 (q_rg_lit (n := 152) (x := 152) rfl)
            refine q_E_T ?_
            obtain ⟨r19, e2078, j2077⟩ := dzj_M261_64 c d w (q_sA s 15 (upd (s.1 15) 5 (vp_nar .boolean 0))) (q_Iv_A (i := 15) hI (q_hf_up ((hI).1 15) (q_s15 (q_rg_le (L := 0) (U := 1) (q_rg_nb _) (by decide) (by decide))))) (0) (((((s.1 14) 0) * 2) + r2) &&& 255) (q_rg_le (L := 0) (U := 2) (q_rg_lit (n := 0) (x := 0) rfl) (by decide) (by decide)) (q_rg_le (L := 0) (U := 255) (q_rg_and ((((s.1 14) 0) * 2) + r2) 255 (U := 255) (by decide) rfl) (by decide) (by decide))
            rw [e2078]
            refine q_E_B ?_
            exact q_E_x j2077
          | false =>
            refine q_E_F ?_
            obtain ⟨r20, e2080, j2079⟩ := dzj_M261_64 c d w (q_sA s 15 (upd (s.1 15) 5 (vp_nar .boolean 0))) (q_Iv_A (i := 15) hI (q_hf_up ((hI).1 15) (q_s15 (q_rg_le (L := 0) (U := 1) (q_rg_nb _) (by decide) (by decide))))) (0) ((((s.1 14) 0) / 2) + (128 * r2)) (q_rg_le (L := 0) (U := 2) (q_rg_lit (n := 0) (x := 0) rfl) (by decide) (by decide)) (q_rg_le (L := 0) (U := 255) (q_rg_add (L := 0) (U := 255) (q_rg_div (c := 2) (U := 127) (q_n0z hI) (by decide) rfl (by decide) (by decide)) (q_rg_mul (L := 0) (U := 128) (q_rg_lit (n := 128) (x := 128) rfl) j2019 (by decide) (by decide) (by decide) (by decide) (by decide) (by decide)) (by decide) (by decide) (by decide) (by decide)) (by decide) (by decide))
            rw [e2080]
            refine q_E_B ?_
            exact q_E_x j2079
set_option maxHeartbeats 4000000 in
theorem dzj_M272_64 (c d w : Int) (s : q_S) (hI : q_Iv c d w s) (a1 : Int32) (a2 : Int32) : q_Ex (dz_M272_64 s a1 a2) (q_Iv c d w) := by
  unfold dz_M272_64
  cases h2230 : decide (a1 < 128) with
  | true =>
    have g2231 := (q_rg_ltT1 (l := -2147483648) (U := 127) h2230 (q_rg_full _) (q_rg_lit (n := 128) (x := 128) rfl) (by decide))
    refine q_E_T ?_
    have j2232 := dzj_M212 c d w (q_sA s 15 (upd (s.1 15) 7 (vp_nar .boolean 1))) (q_Iv_A (i := 15) hI (q_hf_up ((hI).1 15) (q_s15 (q_rg_le (L := 0) (U := 1) (q_rg_nb _) (by decide) (by decide))))) (a2 + 1)
    refine q_E_L ?_
    generalize dz_M212 (q_sA s 15 (upd (s.1 15) 7 (vp_nar .boolean 1))) (a2 + 1) = r4 at j2232 ⊢
    exact q_E_x (q_Iv_A (i := 14) (q_Iv_A (i := 15) hI (q_hf_up ((hI).1 15) (q_s15 (q_rg_le (L := 0) (U := 1) (q_rg_nb _) (by decide) (by decide))))) (q_hf_up ((hI).1 14) (q_sn4 (q_rg_le (L := 0) (U := 4095) j2232 (by decide) (by decide)))))
  | false =>
    have g2233 := (q_rg_ltF1 (l2 := 128) (u := 2147483647) h2230 (q_rg_full _) (q_rg_lit (n := 128) (x := 128) rfl))
    refine q_E_F ?_
    cases h2234 : decide (153 < a1) with
    | true =>
      have g2235 := (q_rg_ltT2 (L := 154) (u2 := 2147483647) h2234 (q_rg_lit (n := 153) (x := 153) rfl) g2233 (by decide))
      refine q_E_T ?_
      have j2236 := dzj_M212 c d w (q_sA s 15 (upd (s.1 15) 7 (vp_nar .boolean 1))) (q_Iv_A (i := 15) hI (q_hf_up ((hI).1 15) (q_s15 (q_rg_le (L := 0) (U := 1) (q_rg_nb _) (by decide) (by decide))))) (a2 + 1)
      refine q_E_L ?_
      generalize dz_M212 (q_sA s 15 (upd (s.1 15) 7 (vp_nar .boolean 1))) (a2 + 1) = r5 at j2236 ⊢
      exact q_E_x (q_Iv_A (i := 14) (q_Iv_A (i := 15) hI (q_hf_up ((hI).1 15) (q_s15 (q_rg_le (L := 0) (U := 1) (q_rg_nb _) (by decide) (by decide))))) (q_hf_up ((hI).1 14) (q_sn4 (q_rg_le (L := 0) (U := 4095) j2236 (by decide) (by decide)))))
    | false =>
      have g2237 := (q_rg_ltF2 (l2 := 128) (u := 153) h2234 (q_rg_lit (n := 153) (x := 153) rfl) g2233)
      refine q_E_F ?_
      cases h2238 : decide (a1 = 128) with
      | true =>
        have g2239 := q_rg_eqT h2238 (q_rg_lit (n := 128) (x := 128) rfl)
        refine q_E_T ?_
        obtain ⟨r6, e2241, j2240⟩ := dzj_M261_64 c d w (s) hI (1) ((((s.1 14) 1) + 1) &&& 255) (q_rg_le (L := 0) (U := 2) (q_rg_lit (n := 1) (x := 1) rfl) (by decide) (by decide)) (q_rg_le (L := 0) (U := 255) (q_rg_and (((s.1 14) 1) + 1) 255 (U := 255) (by decide) rfl) (by decide) (by decide))
        rw [e2241]
        refine q_E_B ?_
        have j2242 := dzj_M212 c d w (r6) j2240 (a2 + 1)
        refine q_E_L ?_
        generalize dz_M212 r6 (a2 + 1) = r7 at j2242 ⊢
        exact q_E_x (q_Iv_A (i := 14) j2240 (q_hf_up ((j2240).1 14) (q_sn4 (q_rg_le (L := 0) (U := 4095) j2242 (by decide) (by decide)))))
      | false =>
        have g2243 := (q_rg_neL (l := 128) (u := 153) (n := 128) (L := 129) h2238 g2237 rfl (by decide) (by decide))
        refine q_E_F ?_
        cases h2244 : decide (a1 = 129) with
        | true =>
          have g2245 := q_rg_eqT h2244 (q_rg_lit (n := 129) (x := 129) rfl)
          refine q_E_T ?_
          obtain ⟨r8, e2247, j2246⟩ := dzj_M261_64 c d w (s) hI (1) ((((s.1 14) 1) - 1) &&& 255) (q_rg_le (L := 0) (U := 2) (q_rg_lit (n := 1) (x := 1) rfl) (by decide) (by decide)) (q_rg_le (L := 0) (U := 255) (q_rg_and (((s.1 14) 1) - 1) 255 (U := 255) (by decide) rfl) (by decide) (by decide))
          rw [e2247]
          refine q_E_B ?_
          have j2248 := dzj_M212 c d w (r8) j2246 (a2 + 1)
          refine q_E_L ?_
          generalize dz_M212 r8 (a2 + 1) = r9 at j2248 ⊢
          exact q_E_x (q_Iv_A (i := 14) j2246 (q_hf_up ((j2246).1 14) (q_sn4 (q_rg_le (L := 0) (U := 4095) j2248 (by decide) (by decide)))))
        | false =>
          have g2249 := (q_rg_neL (l := 129) (u := 153) (n := 129) (L := 130) h2244 g2243 rfl (by decide) (by decide))
          refine q_E_F ?_
          cases h2250 : decide (a1 = 130) with
          | true =>
            have g2251 := q_rg_eqT h2250 (q_rg_lit (n := 130) (x := 130) rfl)
            refine q_E_T ?_
            obtain ⟨r10, e2253, j2252⟩ := dzj_M261_64 c d w (s) hI (2) ((((s.1 14) 2) + 1) &&& 255) (q_rg_le (L := 0) (U := 2) (q_rg_lit (n := 2) (x := 2) rfl) (by decide) (by decide)) (q_rg_le (L := 0) (U := 255) (q_rg_and (((s.1 14) 2) + 1) 255 (U := 255) (by decide) rfl) (by decide) (by decide))
            rw [e2253]
            refine q_E_B ?_
            have j2254 := dzj_M212 c d w (r10) j2252 (a2 + 1)
            refine q_E_L ?_
            generalize dz_M212 r10 (a2 + 1) = r11 at j2254 ⊢
            exact q_E_x (q_Iv_A (i := 14) j2252 (q_hf_up ((j2252).1 14) (q_sn4 (q_rg_le (L := 0) (U := 4095) j2254 (by decide) (by decide)))))
          | false =>
            have g2255 := (q_rg_neL (l := 130) (u := 153) (n := 130) (L := 131) h2250 g2249 rfl (by decide) (by decide))
            refine q_E_F ?_
            cases h2256 : decide (a1 = 131) with
            | true =>
              have g2257 := q_rg_eqT h2256 (q_rg_lit (n := 131) (x := 131) rfl)
              refine q_E_T ?_
              obtain ⟨r12, e2259, j2258⟩ := dzj_M261_64 c d w (s) hI (2) ((((s.1 14) 2) - 1) &&& 255) (q_rg_le (L := 0) (U := 2) (q_rg_lit (n := 2) (x := 2) rfl) (by decide) (by decide)) (q_rg_le (L := 0) (U := 255) (q_rg_and (((s.1 14) 2) - 1) 255 (U := 255) (by decide) rfl) (by decide) (by decide))
              rw [e2259]
              refine q_E_B ?_
              have j2260 := dzj_M212 c d w (r12) j2258 (a2 + 1)
              refine q_E_L ?_
              generalize dz_M212 r12 (a2 + 1) = r13 at j2260 ⊢
              exact q_E_x (q_Iv_A (i := 14) j2258 (q_hf_up ((j2258).1 14) (q_sn4 (q_rg_le (L := 0) (U := 4095) j2260 (by decide) (by decide)))))
            | false =>
              have g2261 := (q_rg_neL (l := 131) (u := 153) (n := 131) (L := 132) h2256 g2255 rfl (by decide) (by decide))
              refine q_E_F ?_
              cases h2262 : decide (a1 = 132) with
              | true =>
                have g2263 := q_rg_eqT h2262 (q_rg_lit (n := 132) (x := 132) rfl)
                refine q_E_T ?_
                obtain ⟨r14, e2265, j2264⟩ := dzj_M261_64 c d w (s) hI (1) ((s.1 14) 0) (q_rg_le (L := 0) (U := 2) (q_rg_lit (n := 1) (x := 1) rfl) (by decide) (by decide)) (q_rg_le (L := 0) (U := 255) (q_n0z hI) (by decide) (by decide))
                rw [e2265]
                refine q_E_B ?_
                have j2266 := dzj_M212 c d w (r14) j2264 (a2 + 1)
                refine q_E_L ?_
                generalize dz_M212 r14 (a2 + 1) = r15 at j2266 ⊢
                exact q_E_x (q_Iv_A (i := 14) j2264 (q_hf_up ((j2264).1 14) (q_sn4 (q_rg_le (L := 0) (U := 4095) j2266 (by decide) (by decide)))))
              | false =>
                have g2267 := (q_rg_neL (l := 132) (u := 153) (n := 132) (L := 133) h2262 g2261 rfl (by decide) (by decide))
                refine q_E_F ?_
                cases h2268 : decide (a1 = 133) with
                | true =>
                  have g2269 := q_rg_eqT h2268 (q_rg_lit (n := 133) (x := 133) rfl)
                  refine q_E_T ?_
                  obtain ⟨r16, e2271, j2270⟩ := dzj_M261_64 c d w (s) hI (0) ((s.1 14) 1) (q_rg_le (L := 0) (U := 2) (q_rg_lit (n := 0) (x := 0) rfl) (by decide) (by decide)) (q_rg_le (L := 0) (U := 255) (q_n1 hI) (by decide) (by decide))
                  rw [e2271]
                  refine q_E_B ?_
                  have j2272 := dzj_M212 c d w (r16) j2270 (a2 + 1)
                  refine q_E_L ?_
                  generalize dz_M212 r16 (a2 + 1) = r17 at j2272 ⊢
                  exact q_E_x (q_Iv_A (i := 14) j2270 (q_hf_up ((j2270).1 14) (q_sn4 (q_rg_le (L := 0) (U := 4095) j2272 (by decide) (by decide)))))
                | false =>
                  have g2273 := (q_rg_neL (l := 133) (u := 153) (n := 133) (L := 134) h2268 g2267 rfl (by decide) (by decide))
                  refine q_E_F ?_
                  cases h2274 : decide (a1 = 134) with
                  | true =>
                    have g2275 := q_rg_eqT h2274 (q_rg_lit (n := 134) (x := 134) rfl)
                    refine q_E_T ?_
                    obtain ⟨r18, e2277, j2276⟩ := dzj_M261_64 c d w (s) hI (2) ((s.1 14) 0) (q_rg_le (L := 0) (U := 2) (q_rg_lit (n := 2) (x := 2) rfl) (by decide) (by decide)) (q_rg_le (L := 0) (U := 255) (q_n0z hI) (by decide) (by decide))
                    rw [e2277]
                    refine q_E_B ?_
                    have j2278 := dzj_M212 c d w (r18) j2276 (a2 + 1)
                    refine q_E_L ?_
                    generalize dz_M212 r18 (a2 + 1) = r19 at j2278 ⊢
                    exact q_E_x (q_Iv_A (i := 14) j2276 (q_hf_up ((j2276).1 14) (q_sn4 (q_rg_le (L := 0) (U := 4095) j2278 (by decide) (by decide)))))
                  | false =>
                    have g2279 := (q_rg_neL (l := 134) (u := 153) (n := 134) (L := 135) h2274 g2273 rfl (by decide) (by decide))
                    refine q_E_F ?_
                    cases h2280 : decide (a1 = 135) with
                    | true =>
                      have g2281 := q_rg_eqT h2280 (q_rg_lit (n := 135) (x := 135) rfl)
                      refine q_E_T ?_
                      obtain ⟨r20, e2283, j2282⟩ := dzj_M261_64 c d w (s) hI (0) ((s.1 14) 2) (q_rg_le (L := 0) (U := 2) (q_rg_lit (n := 0) (x := 0) rfl) (by decide) (by decide)) (q_rg_le (L := 0) (U := 255) (q_n2 hI) (by decide) (by decide))
                      rw [e2283]
                      refine q_E_B ?_
                      have j2284 := dzj_M212 c d w (r20) j2282 (a2 + 1)
                      refine q_E_L ?_
                      generalize dz_M212 r20 (a2 + 1) = r21 at j2284 ⊢
                      exact q_E_x (q_Iv_A (i := 14) j2282 (q_hf_up ((j2282).1 14) (q_sn4 (q_rg_le (L := 0) (U := 4095) j2284 (by decide) (by decide)))))
                    | false =>
                      have g2285 := (q_rg_neL (l := 135) (u := 153) (n := 135) (L := 136) h2280 g2279 rfl (by decide) (by decide))
                      refine q_E_F ?_
                      cases h2286 : decide (a1 = 136) with
                      | true =>
                        have g2287 := q_rg_eqT h2286 (q_rg_lit (n := 136) (x := 136) rfl)
                        refine q_E_T ?_
                        obtain ⟨r22, e2289, j2288⟩ := dzj_M261_64 c d w (s) hI (1) ((s.1 14) 3) (q_rg_le (L := 0) (U := 2) (q_rg_lit (n := 1) (x := 1) rfl) (by decide) (by decide)) (q_rg_le (L := 0) (U := 255) (q_n3 hI) (by decide) (by decide))
                        rw [e2289]
                        refine q_E_B ?_
                        have j2290 := dzj_M212 c d w (r22) j2288 (a2 + 1)
                        refine q_E_L ?_
                        generalize dz_M212 r22 (a2 + 1) = r23 at j2290 ⊢
                        exact q_E_x (q_Iv_A (i := 14) j2288 (q_hf_up ((j2288).1 14) (q_sn4 (q_rg_le (L := 0) (U := 4095) j2290 (by decide) (by decide)))))
                      | false =>
                        have g2291 := (q_rg_neL (l := 136) (u := 153) (n := 136) (L := 137) h2286 g2285 rfl (by decide) (by decide))
                        refine q_E_F ?_
                        cases h2292 : decide (a1 = 137) with
                        | true =>
                          have g2293 := q_rg_eqT h2292 (q_rg_lit (n := 137) (x := 137) rfl)
                          refine q_E_T ?_
                          have j2294 := dzj_M212 c d w (q_sA s 14 (upd (s.1 14) 3 ((s.1 14) 1))) (q_Iv_A (i := 14) hI (q_hf_up ((hI).1 14) (q_sn3 (q_rg_le (L := 0) (U := 255) (q_n1 hI) (by decide) (by decide))))) (a2 + 1)
                          refine q_E_L ?_
                          generalize dz_M212 (q_sA s 14 (upd (s.1 14) 3 ((s.1 14) 1))) (a2 + 1) = r24 at j2294 ⊢
                          have j2295 : q_Iv c d w (q_sA s 14 (upd (s.1 14) 3 ((s.1 14) 1))) := (q_Iv_A (i := 14) hI (q_hf_up ((hI).1 14) (q_sn3 (q_rg_le (L := 0) (U := 255) (q_n1 hI) (by decide) (by decide)))))
                          refine q_E_L ?_
                          generalize (q_sA s 14 (upd (s.1 14) 3 ((s.1 14) 1))) = r25 at j2295 ⊢
                          exact q_E_x (q_Iv_A (i := 14) j2295 (q_hf_up ((j2295).1 14) (q_sn4 (q_rg_le (L := 0) (U := 4095) j2294 (by decide) (by decide)))))
                        | false =>
                          have g2296 := (q_rg_neL (l := 137) (u := 153) (n := 137) (L := 138) h2292 g2291 rfl (by decide) (by decide))
                          refine q_E_F ?_
                          cases h2297 : decide (a1 = 138) with
                          | true =>
                            have g2298 := q_rg_eqT h2297 (q_rg_lit (n := 138) (x := 138) rfl)
                            refine q_E_T ?_
                            obtain ⟨r26, e2300, j2299⟩ := dzj_M254_64 c d w (s) hI ((s.1 14) 0) (q_rg_le (L := 0) (U := 255) (q_n0z hI) (by decide) (by decide))
                            rw [e2300]
                            refine q_E_B ?_
                            have j2301 := dzj_M212 c d w (r26) j2299 (a2 + 1)
                            refine q_E_L ?_
                            generalize dz_M212 r26 (a2 + 1) = r27 at j2301 ⊢
                            exact q_E_x (q_Iv_A (i := 14) j2299 (q_hf_up ((j2299).1 14) (q_sn4 (q_rg_le (L := 0) (U := 4095) j2301 (by decide) (by decide)))))
                          | false =>
                            have g2302 := (q_rg_neL (l := 138) (u := 153) (n := 138) (L := 139) h2297 g2296 rfl (by decide) (by decide))
                            refine q_E_F ?_
                            cases h2303 : decide (a1 = 139) with
                            | true =>
                              have g2304 := q_rg_eqT h2303 (q_rg_lit (n := 139) (x := 139) rfl)
                              refine q_E_T ?_
                              obtain ⟨r28, e2306, j2305⟩ := dzj_M255_64 c d w (s) hI
                              rw [e2306]
                              refine q_E_B ?_
                              obtain ⟨r29, e2308, j2307⟩ := dzj_M261_64 c d w (r28.1) j2305.1 (0) (r28.2) (q_rg_le (L := 0) (U := 2) (q_rg_lit (n := 0) (x := 0) rfl) (by decide) (by decide)) (q_rg_le (L := 0) (U := 255) j2305.2 (by decide) (by decide))
                              rw [e2308]
                              refine q_E_B ?_
                              have j2309 := dzj_M212 c d w (r29) j2307 (a2 + 1)
                              refine q_E_L ?_
                              generalize dz_M212 r29 (a2 + 1) = r30 at j2309 ⊢
                              exact q_E_x (q_Iv_A (i := 14) j2307 (q_hf_up ((j2307).1 14) (q_sn4 (q_rg_le (L := 0) (U := 4095) j2309 (by decide) (by decide)))))
                            | false =>
                              have g2310 := (q_rg_neL (l := 139) (u := 153) (n := 139) (L := 140) h2303 g2302 rfl (by decide) (by decide))
                              refine q_E_F ?_
                              cases h2311 : decide (a1 = 140) with
                              | true =>
                                have g2312 := q_rg_eqT h2311 (q_rg_lit (n := 140) (x := 140) rfl)
                                refine q_E_T ?_
                                obtain ⟨r31, e2314, j2313⟩ := dzj_M257_64 c d w (s) hI (16) (q_rg_le (L := 0) (U := 16) (q_rg_lit (n := 16) (x := 16) rfl) (by decide) (by decide))
                                rw [e2314]
                                refine q_E_B ?_
                                obtain ⟨r32, e2316, j2315⟩ := dzj_M254_64 c d w (s) hI (r31) (q_rg_le (L := 0) (U := 255) j2313 (by decide) (by decide))
                                rw [e2316]
                                refine q_E_B ?_
                                have j2317 := dzj_M212 c d w (r32) j2315 (a2 + 1)
                                refine q_E_L ?_
                                generalize dz_M212 r32 (a2 + 1) = r33 at j2317 ⊢
                                exact q_E_x (q_Iv_A (i := 14) j2315 (q_hf_up ((j2315).1 14) (q_sn4 (q_rg_le (L := 0) (U := 4095) j2317 (by decide) (by decide)))))
                              | false =>
                                have g2318 := (q_rg_neL (l := 140) (u := 153) (n := 140) (L := 141) h2311 g2310 rfl (by decide) (by decide))
                                refine q_E_F ?_
                                cases h2319 : decide (a1 = 141) with
                                | true =>
                                  have g2320 := q_rg_eqT h2319 (q_rg_lit (n := 141) (x := 141) rfl)
                                  refine q_E_T ?_
                                  obtain ⟨r34, e2322, j2321⟩ := dzj_M255_64 c d w (s) hI
                                  rw [e2322]
                                  refine q_E_B ?_
                                  have j2323 := dzj_M258_64 c d w (r34.1) j2321.1 (r34.2)
                                  refine q_E_L ?_
                                  generalize dz_M258_64 r34.1 r34.2 = r35 at j2323 ⊢
                                  have j2324 := dzj_M212 c d w (r35) j2323 (a2 + 1)
                                  refine q_E_L ?_
                                  generalize dz_M212 r35 (a2 + 1) = r36 at j2324 ⊢
                                  exact q_E_x (q_Iv_A (i := 14) j2323 (q_hf_up ((j2323).1 14) (q_sn4 (q_rg_le (L := 0) (U := 4095) j2324 (by decide) (by decide)))))
                                | false =>
                                  have g2325 := (q_rg_neL (l := 141) (u := 153) (n := 141) (L := 142) h2319 g2318 rfl (by decide) (by decide))
                                  refine q_E_F ?_
                                  cases h2326 : decide (a1 = 142) with
                                  | true =>
                                    have g2327 := q_rg_eqT h2326 (q_rg_lit (n := 142) (x := 142) rfl)
                                    refine q_E_T ?_
                                    have j2328 := dzj_M212 c d w (q_sA s 15 (upd (s.1 15) 5 (vp_nar .boolean 1))) (q_Iv_A (i := 15) hI (q_hf_up ((hI).1 15) (q_s15 (q_rg_le (L := 0) (U := 1) (q_rg_nb _) (by decide) (by decide))))) (a2 + 1)
                                    refine q_E_L ?_
                                    generalize dz_M212 (q_sA s 15 (upd (s.1 15) 5 (vp_nar .boolean 1))) (a2 + 1) = r37 at j2328 ⊢
                                    exact q_E_x (q_Iv_A (i := 14) (q_Iv_A (i := 15) hI (q_hf_up ((hI).1 15) (q_s15 (q_rg_le (L := 0) (U := 1) (q_rg_nb _) (by decide) (by decide))))) (q_hf_up ((hI).1 14) (q_sn4 (q_rg_le (L := 0) (U := 4095) j2328 (by decide) (by decide)))))
                                  | false =>
                                    have g2329 := (q_rg_neL (l := 142) (u := 153) (n := 142) (L := 143) h2326 g2325 rfl (by decide) (by decide))
                                    refine q_E_F ?_
                                    cases h2330 : decide (a1 = 143) with
                                    | true =>
                                      have g2331 := q_rg_eqT h2330 (q_rg_lit (n := 143) (x := 143) rfl)
                                      refine q_E_T ?_
                                      have j2332 := dzj_M212 c d w (q_sA s 15 (upd (s.1 15) 5 (vp_nar .boolean 0))) (q_Iv_A (i := 15) hI (q_hf_up ((hI).1 15) (q_s15 (q_rg_le (L := 0) (U := 1) (q_rg_nb _) (by decide) (by decide))))) (a2 + 1)
                                      refine q_E_L ?_
                                      generalize dz_M212 (q_sA s 15 (upd (s.1 15) 5 (vp_nar .boolean 0))) (a2 + 1) = r38 at j2332 ⊢
                                      exact q_E_x (q_Iv_A (i := 14) (q_Iv_A (i := 15) hI (q_hf_up ((hI).1 15) (q_s15 (q_rg_le (L := 0) (U := 1) (q_rg_nb _) (by decide) (by decide))))) (q_hf_up ((hI).1 14) (q_sn4 (q_rg_le (L := 0) (U := 4095) j2332 (by decide) (by decide)))))
                                    | false =>
                                      have g2333 := (q_rg_neL (l := 143) (u := 153) (n := 143) (L := 144) h2330 g2329 rfl (by decide) (by decide))
                                      refine q_E_F ?_
                                      cases h2334 : decide (a1 = 144) with
                                      | true =>
                                        have g2335 := q_rg_eqT h2334 (q_rg_lit (n := 144) (x := 144) rfl)
                                        refine q_E_T ?_
                                        have j2336 := dzj_M212 c d w (q_sA s 15 (upd (s.1 15) 2 (vp_nar .boolean 1))) (q_Iv_A (i := 15) hI (q_hf_up ((hI).1 15) (q_s15 (q_rg_le (L := 0) (U := 1) (q_rg_nb _) (by decide) (by decide))))) (a2 + 1)
                                        refine q_E_L ?_
                                        generalize dz_M212 (q_sA s 15 (upd (s.1 15) 2 (vp_nar .boolean 1))) (a2 + 1) = r39 at j2336 ⊢
                                        exact q_E_x (q_Iv_A (i := 14) (q_Iv_A (i := 15) hI (q_hf_up ((hI).1 15) (q_s15 (q_rg_le (L := 0) (U := 1) (q_rg_nb _) (by decide) (by decide))))) (q_hf_up ((hI).1 14) (q_sn4 (q_rg_le (L := 0) (U := 4095) j2336 (by decide) (by decide)))))
                                      | false =>
                                        have g2337 := (q_rg_neL (l := 144) (u := 153) (n := 144) (L := 145) h2334 g2333 rfl (by decide) (by decide))
                                        refine q_E_F ?_
                                        cases h2338 : decide (a1 = 145) with
                                        | true =>
                                          have g2339 := q_rg_eqT h2338 (q_rg_lit (n := 145) (x := 145) rfl)
                                          refine q_E_T ?_
                                          have j2340 := dzj_M212 c d w (q_sA s 15 (upd (s.1 15) 2 (vp_nar .boolean 0))) (q_Iv_A (i := 15) hI (q_hf_up ((hI).1 15) (q_s15 (q_rg_le (L := 0) (U := 1) (q_rg_nb _) (by decide) (by decide))))) (a2 + 1)
                                          refine q_E_L ?_
                                          generalize dz_M212 (q_sA s 15 (upd (s.1 15) 2 (vp_nar .boolean 0))) (a2 + 1) = r40 at j2340 ⊢
                                          exact q_E_x (q_Iv_A (i := 14) (q_Iv_A (i := 15) hI (q_hf_up ((hI).1 15) (q_s15 (q_rg_le (L := 0) (U := 1) (q_rg_nb _) (by decide) (by decide))))) (q_hf_up ((hI).1 14) (q_sn4 (q_rg_le (L := 0) (U := 4095) j2340 (by decide) (by decide)))))
                                        | false =>
                                          have g2341 := (q_rg_neL (l := 145) (u := 153) (n := 145) (L := 146) h2338 g2337 rfl (by decide) (by decide))
                                          refine q_E_F ?_
                                          cases h2342 : decide (a1 = 146) with
                                          | true =>
                                            have g2343 := q_rg_eqT h2342 (q_rg_lit (n := 146) (x := 146) rfl)
                                            refine q_E_T ?_
                                            have j2344 := dzj_M212 c d w (q_sA s 15 (upd (s.1 15) 3 (vp_nar .boolean 1))) (q_Iv_A (i := 15) hI (q_hf_up ((hI).1 15) (q_s15 (q_rg_le (L := 0) (U := 1) (q_rg_nb _) (by decide) (by decide))))) (a2 + 1)
                                            refine q_E_L ?_
                                            generalize dz_M212 (q_sA s 15 (upd (s.1 15) 3 (vp_nar .boolean 1))) (a2 + 1) = r41 at j2344 ⊢
                                            exact q_E_x (q_Iv_A (i := 14) (q_Iv_A (i := 15) hI (q_hf_up ((hI).1 15) (q_s15 (q_rg_le (L := 0) (U := 1) (q_rg_nb _) (by decide) (by decide))))) (q_hf_up ((hI).1 14) (q_sn4 (q_rg_le (L := 0) (U := 4095) j2344 (by decide) (by decide)))))
                                          | false =>
                                            have g2345 := (q_rg_neL (l := 146) (u := 153) (n := 146) (L := 147) h2342 g2341 rfl (by decide) (by decide))
                                            refine q_E_F ?_
                                            cases h2346 : decide (a1 = 147) with
                                            | true =>
                                              have g2347 := q_rg_eqT h2346 (q_rg_lit (n := 147) (x := 147) rfl)
                                              refine q_E_T ?_
                                              have j2348 := dzj_M212 c d w (q_sA s 15 (upd (s.1 15) 3 (vp_nar .boolean 0))) (q_Iv_A (i := 15) hI (q_hf_up ((hI).1 15) (q_s15 (q_rg_le (L := 0) (U := 1) (q_rg_nb _) (by decide) (by decide))))) (a2 + 1)
                                              refine q_E_L ?_
                                              generalize dz_M212 (q_sA s 15 (upd (s.1 15) 3 (vp_nar .boolean 0))) (a2 + 1) = r42 at j2348 ⊢
                                              exact q_E_x (q_Iv_A (i := 14) (q_Iv_A (i := 15) hI (q_hf_up ((hI).1 15) (q_s15 (q_rg_le (L := 0) (U := 1) (q_rg_nb _) (by decide) (by decide))))) (q_hf_up ((hI).1 14) (q_sn4 (q_rg_le (L := 0) (U := 4095) j2348 (by decide) (by decide)))))
                                            | false =>
                                              have g2349 := (q_rg_neL (l := 147) (u := 153) (n := 147) (L := 148) h2346 g2345 rfl (by decide) (by decide))
                                              refine q_E_F ?_
                                              cases h2350 : decide (a1 = 148) with
                                              | true =>
                                                have g2351 := q_rg_eqT h2350 (q_rg_lit (n := 148) (x := 148) rfl)
                                                refine q_E_T ?_
                                                have j2352 := dzj_M212 c d w (q_sA s 15 (upd (s.1 15) 1 (vp_nar .boolean 0))) (q_Iv_A (i := 15) hI (q_hf_up ((hI).1 15) (q_s15 (q_rg_le (L := 0) (U := 1) (q_rg_nb _) (by decide) (by decide))))) (a2 + 1)
                                                refine q_E_L ?_
                                                generalize dz_M212 (q_sA s 15 (upd (s.1 15) 1 (vp_nar .boolean 0))) (a2 + 1) = r43 at j2352 ⊢
                                                exact q_E_x (q_Iv_A (i := 14) (q_Iv_A (i := 15) hI (q_hf_up ((hI).1 15) (q_s15 (q_rg_le (L := 0) (U := 1) (q_rg_nb _) (by decide) (by decide))))) (q_hf_up ((hI).1 14) (q_sn4 (q_rg_le (L := 0) (U := 4095) j2352 (by decide) (by decide)))))
                                              | false =>
                                                have g2353 := (q_rg_neL (l := 148) (u := 153) (n := 148) (L := 149) h2350 g2349 rfl (by decide) (by decide))
                                                refine q_E_F ?_
                                                cases h2354 : decide (a1 = 149) with
                                                | true =>
                                                  have g2355 := q_rg_eqT h2354 (q_rg_lit (n := 149) (x := 149) rfl)
                                                  refine q_E_T ?_
                                                  have j2356 := dzj_M212 c d w (s) hI (a2 + 1)
                                                  refine q_E_L ?_
                                                  generalize dz_M212 s (a2 + 1) = r44 at j2356 ⊢
                                                  exact q_E_x (q_Iv_A (i := 14) hI (q_hf_up ((hI).1 14) (q_sn4 (q_rg_le (L := 0) (U := 4095) j2356 (by decide) (by decide)))))
                                                | false =>
                                                  have g2357 := (q_rg_neL (l := 149) (u := 153) (n := 149) (L := 150) h2354 g2353 rfl (by decide) (by decide))
                                                  refine q_E_F ?_
                                                  cases h2358 : decide (a1 = 150) with
                                                  | true =>
                                                    have g2359 := q_rg_eqT h2358 (q_rg_lit (n := 150) (x := 150) rfl)
                                                    refine q_E_T ?_
                                                    obtain ⟨r45, e2361, j2360⟩ := dzj_M271_64 c d w (s) hI (a1)
                                                    rw [e2361]
                                                    refine q_E_B ?_
                                                    have j2362 := dzj_M212 c d w (r45) j2360 (a2 + 1)
                                                    refine q_E_L ?_
                                                    generalize dz_M212 r45 (a2 + 1) = r46 at j2362 ⊢
                                                    exact q_E_x (q_Iv_A (i := 14) j2360 (q_hf_up ((j2360).1 14) (q_sn4 (q_rg_le (L := 0) (U := 4095) j2362 (by decide) (by decide)))))
                                                  | false =>
                                                    have g2363 := (q_rg_neL (l := 150) (u := 153) (n := 150) (L := 151) h2358 g2357 rfl (by decide) (by decide))
                                                    refine q_E_F ?_
                                                    cases h2364 : decide (a1 = 151) with
                                                    | true =>
                                                      have g2365 := q_rg_eqT h2364 (q_rg_lit (n := 151) (x := 151) rfl)
                                                      refine q_E_T ?_
                                                      obtain ⟨r47, e2367, j2366⟩ := dzj_M271_64 c d w (s) hI (a1)
                                                      rw [e2367]
                                                      refine q_E_B ?_
                                                      have j2368 := dzj_M212 c d w (r47) j2366 (a2 + 1)
                                                      refine q_E_L ?_
                                                      generalize dz_M212 r47 (a2 + 1) = r48 at j2368 ⊢
                                                      exact q_E_x (q_Iv_A (i := 14) j2366 (q_hf_up ((j2366).1 14) (q_sn4 (q_rg_le (L := 0) (U := 4095) j2368 (by decide) (by decide)))))
                                                    | false =>
                                                      have g2369 := (q_rg_neL (l := 151) (u := 153) (n := 151) (L := 152) h2364 g2363 rfl (by decide) (by decide))
                                                      refine q_E_F ?_
                                                      cases h2370 : decide (a1 = 152) with
                                                      | true =>
                                                        have g2371 := q_rg_eqT h2370 (q_rg_lit (n := 152) (x := 152) rfl)
                                                        refine q_E_T ?_
                                                        obtain ⟨r49, e2373, j2372⟩ := dzj_M271_64 c d w (s) hI (a1)
                                                        rw [e2373]
                                                        refine q_E_B ?_
                                                        have j2374 := dzj_M212 c d w (r49) j2372 (a2 + 1)
                                                        refine q_E_L ?_
                                                        generalize dz_M212 r49 (a2 + 1) = r50 at j2374 ⊢
                                                        exact q_E_x (q_Iv_A (i := 14) j2372 (q_hf_up ((j2372).1 14) (q_sn4 (q_rg_le (L := 0) (U := 4095) j2374 (by decide) (by decide)))))
                                                      | false =>
                                                        have g2375 := (q_rg_neL (l := 152) (u := 153) (n := 152) (L := 153) h2370 g2369 rfl (by decide) (by decide))
                                                        refine q_E_F ?_
                                                        obtain ⟨r51, e2377, j2376⟩ := dzj_M271_64 c d w (s) hI (a1)
                                                        rw [e2377]
                                                        refine q_E_B ?_
                                                        have j2378 := dzj_M212 c d w (r51) j2376 (a2 + 1)
                                                        refine q_E_L ?_
                                                        generalize dz_M212 r51 (a2 + 1) = r52 at j2378 ⊢
                                                        exact q_E_x (q_Iv_A (i := 14) j2376 (q_hf_up ((j2376).1 14) (q_sn4 (q_rg_le (L := 0) (U := 4095) j2378 (by decide) (by decide)))))
set_option maxHeartbeats 4000000 in
theorem dzj_M245 (c d w : Int) (s : q_S) (hI : q_Iv c d w s) (a0 : Int32) : (fun x => q_rgz 1 3 x) (dz_M245 s a0) := by
  refine q_S_of (P := (fun x => q_rgz 1 3 x)) ?_
  unfold dz_M245
  have j2389 := dzj_M243 c d w (s) hI (a0)
  refine q_S_L ?_
  generalize dz_M243 s a0 = r1 at j2389 ⊢
  cases h2390 : decide (r1 < 0) with
  | true =>
    have g2391 := (q_rg_ltT1 (l := -2147483648) (U := -1) h2390 (q_rg_full _) (q_rg_lit (n := 0) (x := 0) rfl) (by decide))
    refine q_S_T ?_
    refine q_S_L ?_
    generalize p2392 : dz_M201 s a0 157 159 = r2
    cases r2 with
    | true =>
      have g2393 : q_rgz 157 159 (a0) := ⟨(q_p202 p2392 (q_rg_lit (n := 157) (x := 157) rfl) (q_rg_lit (n := 159) (x := 159) rfl)).1, (q_p202 p2392 (q_rg_lit (n := 157) (x := 157) rfl) (q_rg_lit (n := 159) (x := 159) rfl)).2⟩
      refine q_S_T ?_
      exact q_E_x (q_rg_le (q_rg_lit (n := 3) (x := 3) rfl) (by decide) (by decide))
    | false =>
      refine q_S_F ?_
      refine q_S_L ?_
      generalize p2394 : dz_M201 s a0 160 167 = r3
      cases r3 with
      | true =>
        have g2395 : q_rgz 160 167 (a0) := ⟨(q_p202 p2394 (q_rg_lit (n := 160) (x := 160) rfl) (q_rg_lit (n := 167) (x := 167) rfl)).1, (q_p202 p2394 (q_rg_lit (n := 160) (x := 160) rfl) (q_rg_lit (n := 167) (x := 167) rfl)).2⟩
        refine q_S_T ?_
        exact q_E_x (q_rg_le (q_rg_lit (n := 2) (x := 2) rfl) (by decide) (by decide))
      | false =>
        refine q_S_F ?_
        exact q_E_x (q_rg_le (q_rg_lit (n := 1) (x := 1) rfl) (by decide) (by decide))
  | false =>
    have g2396 := (q_rg_ltF1 (l2 := 0) (u := 2147483647) h2390 (q_rg_full _) (q_rg_lit (n := 0) (x := 0) rfl))
    refine q_S_F ?_
    refine q_S_L ?_
    generalize p2397 : dz_M201 s (a0 - a0 / 8 * 8) 3 5 = r4
    cases r4 with
    | true =>
      have g2398 : q_rgz 3 5 (a0 - a0 / 8 * 8) := ⟨(q_p202 p2397 (q_rg_lit (n := 3) (x := 3) rfl) (q_rg_lit (n := 5) (x := 5) rfl)).1, (q_p202 p2397 (q_rg_lit (n := 3) (x := 3) rfl) (q_rg_lit (n := 5) (x := 5) rfl)).2⟩
      refine q_S_T ?_
      exact q_E_x (q_rg_le (q_rg_lit (n := 3) (x := 3) rfl) (by decide) (by decide))
    | false =>
      refine q_S_F ?_
      exact q_E_x (q_rg_le (q_rg_lit (n := 2) (x := 2) rfl) (by decide) (by decide))
set_option maxHeartbeats 4000000 in
theorem dzj_M262_64 (c d w : Int) (s : q_S) (hI : q_Iv c d w s) (a1 : Int32) (a2 : Int32) (ra1 : q_rgz 0 2 a1) (ra2 : q_rgz 0 255 a2) : q_Ex (dz_M262_64 s a1 a2) (q_Iv c d w) := by
  unfold dz_M262_64
  refine q_E_A (q_in_rg ra1 (by decide) (by decide)) ?_
  cases h2404 : decide ((s.1 14) (a1.toNatClampNeg) < a2) with
  | true =>
    have g2405 := (q_rg_ltT1 (l := 0) (U := 254) h2404 (q_rdv (i := 14) (a := 0) (n := 3) (L := 0) (U := 255) hI (q_rg_le ra1 (by decide) (by decide)) rfl (by decide)) ra2 (by decide))
    have g2406 := (q_rg_ltT2 (L := 1) (u2 := 255) h2404 (q_rdv (i := 14) (a := 0) (n := 3) (L := 0) (U := 255) hI (q_rg_le ra1 (by decide) (by decide)) rfl (by decide)) ra2 (by decide))
    refine q_E_T ?_
    have j2407 := dzj_M260_64 c d w (q_sA s 15 (upd (s.1 15) 5 (vp_nar .boolean 0))) (q_Iv_A (i := 15) hI (q_hf_up ((hI).1 15) (q_s15 (q_rg_le (L := 0) (U := 1) (q_rg_nb _) (by decide) (by decide))))) ((((s.1 14) (a1.toNatClampNeg)) - a2) &&& 255) (q_rg_le (L := 0) (U := 255) (q_rg_and (((s.1 14) (a1.toNatClampNeg)) - a2) 255 (U := 255) (by decide) rfl) (by decide) (by decide))
    refine q_E_L ?_
    generalize dz_M260_64 (q_sA s 15 (upd (s.1 15) 5 (vp_nar .boolean 0))) ((((s.1 14) (a1.toNatClampNeg)) - a2) &&& 255) = r1 at j2407 ⊢
    exact q_E_x j2407.1
  | false =>
    refine q_E_F ?_
    have j2408 := dzj_M260_64 c d w (q_sA s 15 (upd (s.1 15) 5 (vp_nar .boolean 1))) (q_Iv_A (i := 15) hI (q_hf_up ((hI).1 15) (q_s15 (q_rg_le (L := 0) (U := 1) (q_rg_nb _) (by decide) (by decide))))) ((((s.1 14) (a1.toNatClampNeg)) - a2) &&& 255) (q_rg_le (L := 0) (U := 255) (q_rg_and (((s.1 14) (a1.toNatClampNeg)) - a2) 255 (U := 255) (by decide) rfl) (by decide) (by decide))
    refine q_E_L ?_
    generalize dz_M260_64 (q_sA s 15 (upd (s.1 15) 5 (vp_nar .boolean 1))) ((((s.1 14) (a1.toNatClampNeg)) - a2) &&& 255) = r2 at j2408 ⊢
    exact q_E_x j2408.1
set_option maxHeartbeats 4000000 in
theorem dzj_M263_64 (c d w : Int) (s : q_S) (hI : q_Iv c d w s) (a1 : Int32) (ra1 : q_rgz 0 255 a1) : q_Ex (dz_M263_64 s a1) (q_Iv c d w) := by
  unfold dz_M263_64
  obtain ⟨r2, e2425, j2424⟩ := dzj_M256_64 c d w 1 (s) hI (5) (1)  (q_rg_le (L := 0) (U := 7) (q_rg_lit (n := 5) (x := 5) rfl) (by decide) (by decide)) (q_rg_le (L := 0) (U := 1) (q_rg_lit (n := 1) (x := 1) rfl) (by decide) (by decide))
  rw [e2425]
  refine q_E_B ?_
  cases h2426 : decide (((((s.1 14) 0) ^^^ ((((s.1 14) 0) + a1) + r2)) &&& (a1 ^^^ ((((s.1 14) 0) + a1) + r2))) &&& 128 = 0) with
  | true =>
    have g2427 := q_rg_eqT h2426 (q_rg_lit (n := 0) (x := 0) rfl)
    refine q_E_T ?_
    cases h2428 : decide (255 < (((s.1 14) 0) + a1) + r2) with
    | true =>
      have g2429 := (q_rg_ltT2 (L := 256) (u2 := 511) h2428 (q_rg_lit (n := 255) (x := 255) rfl) (q_rg_add (L := 0) (U := 511) (q_rg_add (L := 0) (U := 510) (q_n0z hI) ra1 (by decide) (by decide) (by decide) (by decide)) j2424 (by decide) (by decide) (by decide) (by decide)) (by decide))
      refine q_E_T ?_
      have j2430 : q_Iv c d w (q_sA s 15 (upd (s.1 15) 1 (vp_nar .boolean 0))) := (q_Iv_A (i := 15) hI (q_hf_up ((hI).1 15) (q_s15 (q_rg_le (L := 0) (U := 1) (q_rg_nb _) (by decide) (by decide)))))
      refine q_E_L ?_
      generalize (q_sA s 15 (upd (s.1 15) 1 (vp_nar .boolean 0))) = r3 at j2430 ⊢
      exact q_E_x (q_Iv_A (i := 14) (q_Iv_A (i := 15) j2430 (q_hf_up ((j2430).1 15) (q_s15 (q_rg_le (L := 0) (U := 1) (q_rg_nb _) (by decide) (by decide))))) (q_hf_up ((j2430).1 14) (q_sn0 (q_rg_le (L := 0) (U := 255) (q_rg_rem (c := 256) (U := 255) g2429 (by decide) rfl (by decide) (by decide)) (by decide) (by decide)))))
    | false =>
      have g2431 := (q_rg_ltF2 (l2 := 0) (u := 255) h2428 (q_rg_lit (n := 255) (x := 255) rfl) (q_rg_add (L := 0) (U := 511) (q_rg_add (L := 0) (U := 510) (q_n0z hI) ra1 (by decide) (by decide) (by decide) (by decide)) j2424 (by decide) (by decide) (by decide) (by decide)))
      refine q_E_F ?_
      have j2432 : q_Iv c d w (q_sA s 15 (upd (s.1 15) 1 (vp_nar .boolean 0))) := (q_Iv_A (i := 15) hI (q_hf_up ((hI).1 15) (q_s15 (q_rg_le (L := 0) (U := 1) (q_rg_nb _) (by decide) (by decide)))))
      refine q_E_L ?_
      generalize (q_sA s 15 (upd (s.1 15) 1 (vp_nar .boolean 0))) = r4 at j2432 ⊢
      exact q_E_x (q_Iv_A (i := 14) (q_Iv_A (i := 15) j2432 (q_hf_up ((j2432).1 15) (q_s15 (q_rg_le (L := 0) (U := 1) (q_rg_nb _) (by decide) (by decide))))) (q_hf_up ((j2432).1 14) (q_sn0 (q_rg_le (L := 0) (U := 255) (q_rg_rem2 (c := 256) g2431 (by decide) rfl (by decide)) (by decide) (by decide)))))
  | false =>
    have g2433 := (q_rg_neL (l := 0) (u := 128) (n := 0) (L := 1) h2426 (q_rg_and ((((s.1 14) 0) ^^^ ((((s.1 14) 0) + a1) + r2)) &&& (a1 ^^^ ((((s.1 14) 0) + a1) + r2))) 128 (U := 128) (by decide) rfl) rfl (by decide) (by decide))
    refine q_E_F ?_
    cases h2434 : decide (255 < (((s.1 14) 0) + a1) + r2) with
    | true =>
      have g2435 := (q_rg_ltT2 (L := 256) (u2 := 511) h2434 (q_rg_lit (n := 255) (x := 255) rfl) (q_rg_add (L := 0) (U := 511) (q_rg_add (L := 0) (U := 510) (q_n0z hI) ra1 (by decide) (by decide) (by decide) (by decide)) j2424 (by decide) (by decide) (by decide) (by decide)) (by decide))
      refine q_E_T ?_
      have j2436 : q_Iv c d w (q_sA s 15 (upd (s.1 15) 1 (vp_nar .boolean 1))) := (q_Iv_A (i := 15) hI (q_hf_up ((hI).1 15) (q_s15 (q_rg_le (L := 0) (U := 1) (q_rg_nb _) (by decide) (by decide)))))
      refine q_E_L ?_
      generalize (q_sA s 15 (upd (s.1 15) 1 (vp_nar .boolean 1))) = r5 at j2436 ⊢
      exact q_E_x (q_Iv_A (i := 14) (q_Iv_A (i := 15) j2436 (q_hf_up ((j2436).1 15) (q_s15 (q_rg_le (L := 0) (U := 1) (q_rg_nb _) (by decide) (by decide))))) (q_hf_up ((j2436).1 14) (q_sn0 (q_rg_le (L := 0) (U := 255) (q_rg_rem (c := 256) (U := 255) g2435 (by decide) rfl (by decide) (by decide)) (by decide) (by decide)))))
    | false =>
      have g2437 := (q_rg_ltF2 (l2 := 0) (u := 255) h2434 (q_rg_lit (n := 255) (x := 255) rfl) (q_rg_add (L := 0) (U := 511) (q_rg_add (L := 0) (U := 510) (q_n0z hI) ra1 (by decide) (by decide) (by decide) (by decide)) j2424 (by decide) (by decide) (by decide) (by decide)))
      refine q_E_F ?_
      have j2438 : q_Iv c d w (q_sA s 15 (upd (s.1 15) 1 (vp_nar .boolean 1))) := (q_Iv_A (i := 15) hI (q_hf_up ((hI).1 15) (q_s15 (q_rg_le (L := 0) (U := 1) (q_rg_nb _) (by decide) (by decide)))))
      refine q_E_L ?_
      generalize (q_sA s 15 (upd (s.1 15) 1 (vp_nar .boolean 1))) = r6 at j2438 ⊢
      exact q_E_x (q_Iv_A (i := 14) (q_Iv_A (i := 15) j2438 (q_hf_up ((j2438).1 15) (q_s15 (q_rg_le (L := 0) (U := 1) (q_rg_nb _) (by decide) (by decide))))) (q_hf_up ((j2438).1 14) (q_sn0 (q_rg_le (L := 0) (U := 255) (q_rg_rem2 (c := 256) g2437 (by decide) rfl (by decide)) (by decide) (by decide)))))
set_option maxHeartbeats 4000000 in
theorem dzj_M265_64 (c d w : Int) (s : q_S) (hI : q_Iv c d w s) (a1 : Int32) (a2 : Int32) (a3 : Int32) : (q_Iv c d w) (dz_M265_64 s a1 a2 a3) := by
  refine q_S_of (P := (q_Iv c d w)) ?_
  unfold dz_M265_64
  cases h2449 : decide ((((a1 - a1 / 16 * 16) - (a2 - a2 / 16 * 16)) - 1) + a3 < 0) with
  | true =>
    have g2450 := (q_rg_ltT1 (l := -2147483648) (U := -1) h2449 (q_rg_full _) (q_rg_lit (n := 0) (x := 0) rfl) (by decide))
    refine q_S_T ?_
    have j2451 : q_rgz (-2147483638) 9 (((((a1 - a1 / 16 * 16) - (a2 - a2 / 16 * 16)) - 1) + a3) + 10) := (q_rg_add (L := -2147483638) (U := 9) g2450 (q_rg_lit (n := 10) (x := 10) rfl) (by decide) (by decide) (by decide) (by decide))
    refine q_S_L ?_
    generalize (((((a1 - a1 / 16 * 16) - (a2 - a2 / 16 * 16)) - 1) + a3) + 10) = x1 at j2451 ⊢
    cases h2452 : decide (((a1 / 16) - (a2 / 16)) - 1 < 0) with
    | true =>
      have g2453 := (q_rg_ltT1 (l := -2147483648) (U := -1) h2452 (q_rg_full _) (q_rg_lit (n := 0) (x := 0) rfl) (by decide))
      refine q_S_T ?_
      exact q_E_x (q_Iv_A (i := 14) (q_Iv_A (i := 15) hI (q_hf_up ((hI).1 15) (q_s15 (q_rg_le (L := 0) (U := 1) (q_rg_nb _) (by decide) (by decide))))) (q_hf_up ((hI).1 14) (q_sn0 (q_rg_le (L := 0) (U := 255) (q_rg_and ((16 * ((((a1 / 16) - (a2 / 16)) - 1) + 10)) + x1) 255 (U := 255) (by decide) rfl) (by decide) (by decide)))))
    | false =>
      have g2454 := (q_rg_ltF1 (l2 := 0) (u := 2147483647) h2452 (q_rg_full _) (q_rg_lit (n := 0) (x := 0) rfl))
      refine q_S_F ?_
      exact q_E_x (q_Iv_A (i := 14) (q_Iv_A (i := 15) hI (q_hf_up ((hI).1 15) (q_s15 (q_rg_le (L := 0) (U := 1) (q_rg_nb _) (by decide) (by decide))))) (q_hf_up ((hI).1 14) (q_sn0 (q_rg_le (L := 0) (U := 255) (q_rg_and ((16 * ((((a1 / 16) - (a2 / 16)) - 1) + 0)) + x1) 255 (U := 255) (by decide) rfl) (by decide) (by decide)))))
  | false =>
    have g2455 := (q_rg_ltF1 (l2 := 0) (u := 2147483647) h2449 (q_rg_full _) (q_rg_lit (n := 0) (x := 0) rfl))
    refine q_S_F ?_
    cases h2456 : decide (((a1 / 16) - (a2 / 16)) - 0 < 0) with
    | true =>
      have g2457 := (q_rg_ltT1 (l := -2147483648) (U := -1) h2456 (q_rg_full _) (q_rg_lit (n := 0) (x := 0) rfl) (by decide))
      refine q_S_T ?_
      exact q_E_x (q_Iv_A (i := 14) (q_Iv_A (i := 15) hI (q_hf_up ((hI).1 15) (q_s15 (q_rg_le (L := 0) (U := 1) (q_rg_nb _) (by decide) (by decide))))) (q_hf_up ((hI).1 14) (q_sn0 (q_rg_le (L := 0) (U := 255) (q_rg_and ((16 * ((((a1 / 16) - (a2 / 16)) - 0) + 10)) + (((((a1 - a1 / 16 * 16) - (a2 - a2 / 16 * 16)) - 1) + a3) + 0)) 255 (U := 255) (by decide) rfl) (by decide) (by decide)))))
    | false =>
      have g2458 := (q_rg_ltF1 (l2 := 0) (u := 2147483647) h2456 (q_rg_full _) (q_rg_lit (n := 0) (x := 0) rfl))
      refine q_S_F ?_
      exact q_E_x (q_Iv_A (i := 14) (q_Iv_A (i := 15) hI (q_hf_up ((hI).1 15) (q_s15 (q_rg_le (L := 0) (U := 1) (q_rg_nb _) (by decide) (by decide))))) (q_hf_up ((hI).1 14) (q_sn0 (q_rg_le (L := 0) (U := 255) (q_rg_and ((16 * ((((a1 / 16) - (a2 / 16)) - 0) + 0)) + (((((a1 - a1 / 16 * 16) - (a2 - a2 / 16 * 16)) - 1) + a3) + 0)) 255 (U := 255) (by decide) rfl) (by decide) (by decide)))))
set_option maxHeartbeats 4000000 in
theorem dzj_M266_64_f_56 (c d w : Int) (s : q_S) (hI : q_Iv c d w s) (v2 : Int32) (v3 : Int32) (v4 : Int32) (rv2 : q_rgz 0 255 v2) (rv3 : q_rgz 0 255 v3) (rv4 : q_rgz 0 1 v4) : q_Ex (dz_M266_64_f_56 s v2 v3 v4) (q_Iv c d w) := by
  unfold dz_M266_64_f_56
  cases h2479 : decide ((s.1 15) 2 = 0) with
  | true =>
    have g2480 := q_rg_eqT h2479 (q_rg_lit (n := 0) (x := 0) rfl)
    refine q_E_T ?_
    have j2481 := dzj_M260_64 c d w (s) hI ((s.1 14) 0) (q_rg_le (L := 0) (U := 255) (q_n0z hI) (by decide) (by decide))
    refine q_E_L ?_
    generalize dz_M260_64 s ((s.1 14) 0) = r4 at j2481 ⊢
    exact q_E_x j2481.1
  | false =>
    have g2482 := (q_rg_neL (l := 0) (u := 1) (n := 0) (L := 1) h2479 (q_r15 hI 2) rfl (by decide) (by decide))
    refine q_E_F ?_
    have j2483 := dzj_M265_64 c d w (s) hI (v3) (v2) (v4)
    refine q_E_L ?_
    generalize dz_M265_64 s v3 v2 v4 = r5 at j2483 ⊢
    have j2484 := dzj_M260_64 c d w (r5) j2483 ((r5.1 14) 0) (q_rg_le (L := 0) (U := 255) (q_n0z j2483) (by decide) (by decide))
    refine q_E_L ?_
    generalize dz_M260_64 r5 ((r5.1 14) 0) = r6 at j2484 ⊢
    exact q_E_x j2484.1
set_option maxHeartbeats 4000000 in
theorem dzj_M266_64_f (c d w : Int) (s : q_S) (hI : q_Iv c d w s) (a2 : Int32) (ra2 : q_rgz 0 255 a2) : q_Ex (dz_M266_64_f s a2) (q_Iv c d w) := by
  unfold dz_M266_64_f
  obtain ⟨r2, e2486, j2485⟩ := dzj_M256_64 c d w 1 (s) hI (5) (1)  (q_rg_le (L := 0) (U := 7) (q_rg_lit (n := 5) (x := 5) rfl) (by decide) (by decide)) (q_rg_le (L := 0) (U := 1) (q_rg_lit (n := 1) (x := 1) rfl) (by decide) (by decide))
  rw [e2486]
  refine q_E_B ?_
  obtain ⟨r3, e2488, j2487⟩ := dzj_M263_64 c d w (s) hI ((255 : Int32) - a2) (q_rg_le (L := 0) (U := 255) (q_rg_sub (L := 0) (U := 255) (q_rg_lit (n := 255) (x := 255) rfl) ra2 (by decide) (by decide) (by decide) (by decide)) (by decide) (by decide))
  rw [e2488]
  refine q_E_B ?_
  cases h2489 : decide ((r3.1 15) 2 = 0) with
  | true =>
    have g2490 := q_rg_eqT h2489 (q_rg_lit (n := 0) (x := 0) rfl)
    refine q_E_T ?_
    exact dzj_M266_64_f_56 c d w (r3) j2487 (a2) ((s.1 14) 0) (r2) (q_rg_le (L := 0) (U := 255) ra2 (by decide) (by decide)) (q_rg_le (L := 0) (U := 255) (q_n0z hI) (by decide) (by decide)) (q_rg_le (L := 0) (U := 1) j2485 (by decide) (by decide))
  | false =>
    have g2491 := (q_rg_neL (l := 0) (u := 1) (n := 0) (L := 1) h2489 (q_r15 j2487 2) rfl (by decide) (by decide))
    refine q_E_F ?_
    exact dzj_M266_64_f_56 c d w (r3) j2487 (a2) ((s.1 14) 0) (r2) (q_rg_le (L := 0) (U := 255) ra2 (by decide) (by decide)) (q_rg_le (L := 0) (U := 255) (q_n0z hI) (by decide) (by decide)) (q_rg_le (L := 0) (U := 1) j2485 (by decide) (by decide))
set_option maxHeartbeats 4000000 in
theorem dzj_M267_64 (c d w : Int) (s : q_S) (hI : q_Iv c d w s) (a1 : Int32) (ra1 : q_rgz 0 4095 a1) : q_Ex (dz_M267_64 s a1) (fun (x : q_S × Int32) => q_Iv c d w x.1 ∧ q_rgz 0 255 x.2) := by
  unfold dz_M267_64
  obtain ⟨r2, e2500, j2499⟩ := dzj_M213_64 c d w (s) hI (a1) (q_rg_le (L := 0) (U := 4095) ra1 (by decide) (by decide))
  rw [e2500]
  refine q_E_B ?_
  cases h2501 : decide (a1 = 3869) with
  | true =>
    have g2502 := q_rg_eqT h2501 (q_rg_lit (n := 3869) (x := 3869) rfl)
    refine q_E_T ?_
    cases h2503 : decide (a1 = 3870) with
    | true =>
      exact (q_rg_no (q_rg_le (L := 3870) (U := 3869) ⟨(q_rg_eqT h2503 (q_rg_lit (n := 3870) (x := 3870) rfl)).1, g2502.2⟩ (by decide) (by decide)) (by decide)).elim
    | false =>
      refine q_E_F ?_
      exact q_E_x ⟨(q_Iv_A (i := 14) j2499.1 (q_hf_up ((j2499.1).1 14) (q_sn10 (q_rg_le (L := 0) (U := 15) (q_rg_lit (n := 0) (x := 0) rfl) (by decide) (by decide))))), q_rg_le j2499.2 (by decide) (by decide)⟩
  | false =>
    refine q_E_F ?_
    cases h2504 : decide (a1 = 3870) with
    | true =>
      have g2505 := q_rg_eqT h2504 (q_rg_lit (n := 3870) (x := 3870) rfl)
      refine q_E_T ?_
      exact q_E_x ⟨(q_Iv_A (i := 14) j2499.1 (q_hf_up ((j2499.1).1 14) (q_sn11 (q_rg_le (L := 0) (U := 15) (q_rg_lit (n := 0) (x := 0) rfl) (by decide) (by decide))))), q_rg_le j2499.2 (by decide) (by decide)⟩
    | false =>
      refine q_E_F ?_
      exact q_E_x ⟨j2499.1, q_rg_le j2499.2 (by decide) (by decide)⟩
set_option maxHeartbeats 4000000 in
theorem dzj_M269_64_38 (c d w : Int) (s : q_S) (hI : q_Iv c d w s) (v1 : Int32) (v2 : Int32) (v3 : Int32) (rv1 : q_rgz 14 19 v1) (rv2 : q_rgz 0 4095 v2) (rv3 : q_rgz 0 255 v3) : q_Ex (dz_M269_64_38 s v1 v2 v3) (q_Iv c d w) := by
  unfold dz_M269_64_38
  cases h2615 : decide (v1 = 3) with
  | true =>
    exact (q_rg_no (q_rg_le (L := 14) (U := 3) ⟨rv1.1, (q_rg_eqT h2615 (q_rg_lit (n := 3) (x := 3) rfl)).2⟩ (by decide) (by decide)) (by decide)).elim
  | false =>
    refine q_E_F ?_
    cases h2616 : decide (v1 = 4) with
    | true =>
      exact (q_rg_no (q_rg_le (L := 14) (U := 4) ⟨rv1.1, (q_rg_eqT h2616 (q_rg_lit (n := 4) (x := 4) rfl)).2⟩ (by decide) (by decide)) (by decide)).elim
    | false =>
      refine q_E_F ?_
      cases h2617 : decide (v1 = 5) with
      | true =>
        exact (q_rg_no (q_rg_le (L := 14) (U := 5) ⟨rv1.1, (q_rg_eqT h2617 (q_rg_lit (n := 5) (x := 5) rfl)).2⟩ (by decide) (by decide)) (by decide)).elim
      | false =>
        refine q_E_F ?_
        cases h2618 : decide (v1 = 17) with
        | true =>
          have g2619 := q_rg_eqT h2618 (q_rg_lit (n := 17) (x := 17) rfl)
          refine q_E_T ?_
          obtain ⟨r5, e2621, j2620⟩ := dzj_M214_64 c d w (s) hI (v2) (((s.1 14) 0) &&& ((s.1 14) 1)) (q_rg_le (L := 0) (U := 4095) rv2 (by decide) (by decide)) (q_rg_le (L := 0) (U := 255) (q_rg_and1 (q_n0z hI) (by decide)) (by decide) (by decide))
          rw [e2621]
          refine q_E_B ?_
          exact q_E_x j2620
        | false =>
          refine q_E_F ?_
          obtain ⟨r6, e2623, j2622⟩ := dzj_M214_64 c d w (s) hI (v2) ((v3 + 1) &&& 255) (q_rg_le (L := 0) (U := 4095) rv2 (by decide) (by decide)) (q_rg_le (L := 0) (U := 255) (q_rg_and (v3 + 1) 255 (U := 255) (by decide) rfl) (by decide) (by decide))
          rw [e2623]
          refine q_E_B ?_
          cases h2624 : decide (v1 = 18) with
          | true =>
            have g2625 := q_rg_eqT h2624 (q_rg_lit (n := 18) (x := 18) rfl)
            refine q_E_T ?_
            obtain ⟨r7, e2627, j2626⟩ := dzj_M262_64 c d w (r6) j2622 (0) ((v3 + 1) &&& 255) (q_rg_le (L := 0) (U := 2) (q_rg_lit (n := 0) (x := 0) rfl) (by decide) (by decide)) (q_rg_le (L := 0) (U := 255) (q_rg_and (v3 + 1) 255 (U := 255) (by decide) rfl) (by decide) (by decide))
            rw [e2627]
            refine q_E_B ?_
            exact q_E_x j2626
          | false =>
            refine q_E_F ?_
            cases h2628 : decide (v1 = 19) with
            | true =>
              have g2629 := q_rg_eqT h2628 (q_rg_lit (n := 19) (x := 19) rfl)
              refine q_E_T ?_
              obtain ⟨r8, e2631, j2630⟩ := dzj_M266_64_f c d w (r6) j2622 ((v3 + 1) &&& 255) (q_rg_le (L := 0) (U := 255) (q_rg_and (v3 + 1) 255 (U := 255) (by decide) rfl) (by decide) (by decide))
              rw [e2631]
              refine q_E_B ?_
              exact q_E_x j2630
            | false =>
              have g2632 := (q_rg_neU (l := 14) (u := 19) (n := 19) (U := 18) h2628 rv1 rfl (by decide) (by decide))
              refine q_E_F ?_
              have j2633 := dzj_M260_64 c d w (r6) j2622 ((v3 + 1) &&& 255) (q_rg_le (L := 0) (U := 255) (q_rg_and (v3 + 1) 255 (U := 255) (by decide) rfl) (by decide) (by decide))
              refine q_E_L ?_
              generalize dz_M260_64 r6 ((v3 + 1) &&& 255) = r9 at j2633 ⊢
              exact q_E_x j2633.1
set_option maxHeartbeats 4000000 in
theorem dzj_M269_64 (c d w : Int) (s : q_S) (hI : q_Iv c d w s) (a1 : Int32) (a2 : Int32) (ra2 : q_rgz 0 4095 a2) : q_Ex (dz_M269_64 s a1 a2) (q_Iv c d w) := by
  unfold dz_M269_64
  cases h2634 : decide (a1 < 14) with
  | true =>
    have g2635 := (q_rg_ltT1 (l := -2147483648) (U := 13) h2634 (q_rg_full _) (q_rg_lit (n := 14) (x := 14) rfl) (by decide))
    refine q_E_T ?_
    cases h2636 : decide (a1 = 14) with
    | true =>
      exact (q_rg_no (q_rg_le (L := 14) (U := 13) ⟨(q_rg_eqT h2636 (q_rg_lit (n := 14) (x := 14) rfl)).1, g2635.2⟩ (by decide) (by decide)) (by decide)).elim
    | false =>
      refine q_E_F ?_
      cases h2637 : decide (a1 = 19) with
      | true =>
        exact (q_rg_no (q_rg_le (L := 19) (U := 13) ⟨(q_rg_eqT h2637 (q_rg_lit (n := 19) (x := 19) rfl)).1, g2635.2⟩ (by decide) (by decide)) (by decide)).elim
      | false =>
        refine q_E_F ?_
        cases h2638 : decide (a1 = 3) with
        | true =>
          have g2639 := q_rg_eqT h2638 (q_rg_lit (n := 3) (x := 3) rfl)
          refine q_E_T ?_
          obtain ⟨r10, e2641, j2640⟩ := dzj_M214_64 c d w (s) hI (a2) ((s.1 14) 0) (q_rg_le (L := 0) (U := 4095) ra2 (by decide) (by decide)) (q_rg_le (L := 0) (U := 255) (q_n0z hI) (by decide) (by decide))
          rw [e2641]
          refine q_E_B ?_
          exact q_E_x j2640
        | false =>
          refine q_E_F ?_
          cases h2642 : decide (a1 = 4) with
          | true =>
            have g2643 := q_rg_eqT h2642 (q_rg_lit (n := 4) (x := 4) rfl)
            refine q_E_T ?_
            obtain ⟨r11, e2645, j2644⟩ := dzj_M214_64 c d w (s) hI (a2) ((s.1 14) 1) (q_rg_le (L := 0) (U := 4095) ra2 (by decide) (by decide)) (q_rg_le (L := 0) (U := 255) (q_n1 hI) (by decide) (by decide))
            rw [e2645]
            refine q_E_B ?_
            exact q_E_x j2644
          | false =>
            refine q_E_F ?_
            cases h2646 : decide (a1 = 5) with
            | true =>
              have g2647 := q_rg_eqT h2646 (q_rg_lit (n := 5) (x := 5) rfl)
              refine q_E_T ?_
              obtain ⟨r12, e2649, j2648⟩ := dzj_M214_64 c d w (s) hI (a2) ((s.1 14) 2) (q_rg_le (L := 0) (U := 4095) ra2 (by decide) (by decide)) (q_rg_le (L := 0) (U := 255) (q_n2 hI) (by decide) (by decide))
              rw [e2649]
              refine q_E_B ?_
              exact q_E_x j2648
            | false =>
              refine q_E_F ?_
              cases h2650 : decide (a1 = 17) with
              | true =>
                exact (q_rg_no (q_rg_le (L := 17) (U := 13) ⟨(q_rg_eqT h2650 (q_rg_lit (n := 17) (x := 17) rfl)).1, g2635.2⟩ (by decide) (by decide)) (by decide)).elim
              | false =>
                refine q_E_F ?_
                obtain ⟨r14, e2652, j2651⟩ := dzj_M214_64 c d w (s) hI (a2) (255) (q_rg_le (L := 0) (U := 4095) ra2 (by decide) (by decide)) (q_rg_le (L := 0) (U := 255) (q_rg_lit (n := 255) (x := 255) rfl) (by decide) (by decide))
                rw [e2652]
                refine q_E_B ?_
                cases h2653 : decide (a1 = 18) with
                | true =>
                  exact (q_rg_no (q_rg_le (L := 18) (U := 13) ⟨(q_rg_eqT h2653 (q_rg_lit (n := 18) (x := 18) rfl)).1, g2635.2⟩ (by decide) (by decide)) (by decide)).elim
                | false =>
                  refine q_E_F ?_
                  have j2654 := dzj_M260_64 c d w (r14) j2651 (255) (q_rg_le (L := 0) (U := 255) (q_rg_lit (n := 255) (x := 255) rfl) (by decide) (by decide))
                  refine q_E_L ?_
                  generalize dz_M260_64 r14 255 = r16 at j2654 ⊢
                  exact q_E_x j2654.1
  | false =>
    have g2655 := (q_rg_ltF1 (l2 := 14) (u := 2147483647) h2634 (q_rg_full _) (q_rg_lit (n := 14) (x := 14) rfl))
    refine q_E_F ?_
    cases h2656 : decide (a1 = 17) with
    | true =>
      have g2657 := q_rg_eqT h2656 (q_rg_lit (n := 17) (x := 17) rfl)
      refine q_E_T ?_
      cases h2658 : decide (a1 = 14) with
      | true =>
        exact (q_rg_no (q_rg_le (L := 17) (U := 14) ⟨g2657.1, (q_rg_eqT h2658 (q_rg_lit (n := 14) (x := 14) rfl)).2⟩ (by decide) (by decide)) (by decide)).elim
      | false =>
        refine q_E_F ?_
        cases h2659 : decide (a1 = 19) with
        | true =>
          exact (q_rg_no (q_rg_le (L := 19) (U := 17) ⟨(q_rg_eqT h2659 (q_rg_lit (n := 19) (x := 19) rfl)).1, g2657.2⟩ (by decide) (by decide)) (by decide)).elim
        | false =>
          refine q_E_F ?_
          obtain ⟨r17, e2661, j2660⟩ := dzj_M214_64 c d w (s) hI (a2) (((s.1 14) 0) &&& ((s.1 14) 1)) (q_rg_le (L := 0) (U := 4095) ra2 (by decide) (by decide)) (q_rg_le (L := 0) (U := 255) (q_rg_and1 (q_n0z hI) (by decide)) (by decide) (by decide))
          rw [e2661]
          refine q_E_B ?_
          exact q_E_x j2660
    | false =>
      refine q_E_F ?_
      obtain ⟨r18, e2663, j2662⟩ := dzj_M267_64 c d w (s) hI (a2) (q_rg_le (L := 0) (U := 4095) ra2 (by decide) (by decide))
      rw [e2663]
      refine q_E_B ?_
      cases h2664 : decide (a1 = 14) with
      | true =>
        have g2665 := q_rg_eqT h2664 (q_rg_lit (n := 14) (x := 14) rfl)
        refine q_E_T ?_
        exact dzj_M269_64_38 c d w (r18.1) j2662.1 (a1) (a2) (r18.2) (q_rg_le (L := 14) (U := 19) g2665 (by decide) (by decide)) (q_rg_le (L := 0) (U := 4095) ra2 (by decide) (by decide)) (q_rg_le (L := 0) (U := 255) j2662.2 (by decide) (by decide))
      | false =>
        have g2666 := (q_rg_neL (l := 14) (u := 2147483647) (n := 14) (L := 15) h2664 g2655 rfl (by decide) (by decide))
        refine q_E_F ?_
        cases h2667 : decide (a1 = 19) with
        | true =>
          have g2668 := q_rg_eqT h2667 (q_rg_lit (n := 19) (x := 19) rfl)
          refine q_E_T ?_
          exact dzj_M269_64_38 c d w (r18.1) j2662.1 (a1) (a2) (r18.2) (q_rg_le (L := 14) (U := 19) g2668 (by decide) (by decide)) (q_rg_le (L := 0) (U := 4095) ra2 (by decide) (by decide)) (q_rg_le (L := 0) (U := 255) j2662.2 (by decide) (by decide))
        | false =>
          refine q_E_F ?_
          cases h2669 : decide (a1 = 3) with
          | true =>
            exact (q_rg_no (q_rg_le (L := 15) (U := 3) ⟨g2666.1, (q_rg_eqT h2669 (q_rg_lit (n := 3) (x := 3) rfl)).2⟩ (by decide) (by decide)) (by decide)).elim
          | false =>
            refine q_E_F ?_
            cases h2670 : decide (a1 = 4) with
            | true =>
              exact (q_rg_no (q_rg_le (L := 15) (U := 4) ⟨g2666.1, (q_rg_eqT h2670 (q_rg_lit (n := 4) (x := 4) rfl)).2⟩ (by decide) (by decide)) (by decide)).elim
            | false =>
              refine q_E_F ?_
              cases h2671 : decide (a1 = 5) with
              | true =>
                exact (q_rg_no (q_rg_le (L := 15) (U := 5) ⟨g2666.1, (q_rg_eqT h2671 (q_rg_lit (n := 5) (x := 5) rfl)).2⟩ (by decide) (by decide)) (by decide)).elim
              | false =>
                refine q_E_F ?_
                obtain ⟨r22, e2673, j2672⟩ := dzj_M214_64 c d w (r18.1) j2662.1 (a2) ((r18.2 - 1) &&& 255) (q_rg_le (L := 0) (U := 4095) ra2 (by decide) (by decide)) (q_rg_le (L := 0) (U := 255) (q_rg_and (r18.2 - 1) 255 (U := 255) (by decide) rfl) (by decide) (by decide))
                rw [e2673]
                refine q_E_B ?_
                cases h2674 : decide (a1 = 18) with
                | true =>
                  have g2675 := q_rg_eqT h2674 (q_rg_lit (n := 18) (x := 18) rfl)
                  refine q_E_T ?_
                  obtain ⟨r23, e2677, j2676⟩ := dzj_M262_64 c d w (r22) j2672 (0) ((r18.2 - 1) &&& 255) (q_rg_le (L := 0) (U := 2) (q_rg_lit (n := 0) (x := 0) rfl) (by decide) (by decide)) (q_rg_le (L := 0) (U := 255) (q_rg_and (r18.2 - 1) 255 (U := 255) (by decide) rfl) (by decide) (by decide))
                  rw [e2677]
                  refine q_E_B ?_
                  exact q_E_x j2676
                | false =>
                  refine q_E_F ?_
                  have j2678 := dzj_M260_64 c d w (r22) j2672 ((r18.2 - 1) &&& 255) (q_rg_le (L := 0) (U := 255) (q_rg_and (r18.2 - 1) 255 (U := 255) (by decide) rfl) (by decide) (by decide))
                  refine q_E_L ?_
                  generalize dz_M260_64 r22 ((r18.2 - 1) &&& 255) = r24 at j2678 ⊢
                  exact q_E_x j2678.1
set_option maxHeartbeats 4000000 in
theorem dzj_M264_64 (c d w : Int) (s : q_S) (hI : q_Iv c d w s) (a1 : Int32) (a2 : Int32) (a3 : Int32) : (q_Iv c d w) (dz_M264_64 s a1 a2 a3) := by
  refine q_S_of (P := (q_Iv c d w)) ?_
  unfold dz_M264_64
  cases h2688 : decide (9 < ((a1 - a1 / 16 * 16) + (a2 - a2 / 16 * 16)) + a3) with
  | true =>
    have g2689 := (q_rg_ltT2 (L := 10) (u2 := 2147483647) h2688 (q_rg_lit (n := 9) (x := 9) rfl) (q_rg_full _) (by decide))
    refine q_S_T ?_
    cases h2690 : decide (9 < ((a1 / 16) + (a2 / 16)) + 1) with
    | true =>
      have g2691 := (q_rg_ltT2 (L := 10) (u2 := 2147483647) h2690 (q_rg_lit (n := 9) (x := 9) rfl) (q_rg_full _) (by decide))
      refine q_S_T ?_
      exact q_E_x (q_Iv_A (i := 14) (q_Iv_A (i := 15) hI (q_hf_up ((hI).1 15) (q_s15 (q_rg_le (L := 0) (U := 1) (q_rg_nb _) (by decide) (by decide))))) (q_hf_up ((hI).1 14) (q_sn0 (q_rg_le (L := 0) (U := 255) (q_rg_and ((16 * ((((a1 / 16) + (a2 / 16)) + 1) - 10)) + ((((a1 - a1 / 16 * 16) + (a2 - a2 / 16 * 16)) + a3) - 10)) 255 (U := 255) (by decide) rfl) (by decide) (by decide)))))
    | false =>
      have g2692 := (q_rg_ltF2 (l2 := -2147483648) (u := 9) h2690 (q_rg_lit (n := 9) (x := 9) rfl) (q_rg_full _))
      refine q_S_F ?_
      exact q_E_x (q_Iv_A (i := 14) (q_Iv_A (i := 15) hI (q_hf_up ((hI).1 15) (q_s15 (q_rg_le (L := 0) (U := 1) (q_rg_nb _) (by decide) (by decide))))) (q_hf_up ((hI).1 14) (q_sn0 (q_rg_le (L := 0) (U := 255) (q_rg_and ((16 * ((((a1 / 16) + (a2 / 16)) + 1) - 0)) + ((((a1 - a1 / 16 * 16) + (a2 - a2 / 16 * 16)) + a3) - 10)) 255 (U := 255) (by decide) rfl) (by decide) (by decide)))))
  | false =>
    have g2693 := (q_rg_ltF2 (l2 := -2147483648) (u := 9) h2688 (q_rg_lit (n := 9) (x := 9) rfl) (q_rg_full _))
    refine q_S_F ?_
    cases h2694 : decide (9 < ((a1 / 16) + (a2 / 16)) + 0) with
    | true =>
      have g2695 := (q_rg_ltT2 (L := 10) (u2 := 2147483647) h2694 (q_rg_lit (n := 9) (x := 9) rfl) (q_rg_full _) (by decide))
      refine q_S_T ?_
      exact q_E_x (q_Iv_A (i := 14) (q_Iv_A (i := 15) hI (q_hf_up ((hI).1 15) (q_s15 (q_rg_le (L := 0) (U := 1) (q_rg_nb _) (by decide) (by decide))))) (q_hf_up ((hI).1 14) (q_sn0 (q_rg_le (L := 0) (U := 255) (q_rg_and ((16 * ((((a1 / 16) + (a2 / 16)) + 0) - 10)) + ((((a1 - a1 / 16 * 16) + (a2 - a2 / 16 * 16)) + a3) - 0)) 255 (U := 255) (by decide) rfl) (by decide) (by decide)))))
    | false =>
      have g2696 := (q_rg_ltF2 (l2 := -2147483648) (u := 9) h2694 (q_rg_lit (n := 9) (x := 9) rfl) (q_rg_full _))
      refine q_S_F ?_
      exact q_E_x (q_Iv_A (i := 14) (q_Iv_A (i := 15) hI (q_hf_up ((hI).1 15) (q_s15 (q_rg_le (L := 0) (U := 1) (q_rg_nb _) (by decide) (by decide))))) (q_hf_up ((hI).1 14) (q_sn0 (q_rg_le (L := 0) (U := 255) (q_rg_and ((16 * ((((a1 / 16) + (a2 / 16)) + 0) - 0)) + ((((a1 - a1 / 16 * 16) + (a2 - a2 / 16 * 16)) + a3) - 0)) 255 (U := 255) (by decide) rfl) (by decide) (by decide)))))
set_option maxHeartbeats 4000000 in
theorem dzj_M266_64_t_56 (c d w : Int) (s : q_S) (hI : q_Iv c d w s) (v2 : Int32) (v3 : Int32) (v4 : Int32) (rv2 : q_rgz 0 255 v2) (rv3 : q_rgz 0 255 v3) (rv4 : q_rgz 0 1 v4) : q_Ex (dz_M266_64_t_56 s v2 v3 v4) (q_Iv c d w) := by
  unfold dz_M266_64_t_56
  cases h2721 : decide ((s.1 15) 2 = 0) with
  | true =>
    have g2722 := q_rg_eqT h2721 (q_rg_lit (n := 0) (x := 0) rfl)
    refine q_E_T ?_
    have j2723 := dzj_M260_64 c d w (s) hI ((s.1 14) 0) (q_rg_le (L := 0) (U := 255) (q_n0z hI) (by decide) (by decide))
    refine q_E_L ?_
    generalize dz_M260_64 s ((s.1 14) 0) = r4 at j2723 ⊢
    exact q_E_x j2723.1
  | false =>
    have g2724 := (q_rg_neL (l := 0) (u := 1) (n := 0) (L := 1) h2721 (q_r15 hI 2) rfl (by decide) (by decide))
    refine q_E_F ?_
    have j2725 := dzj_M265_64 c d w (s) hI (v3) (v2) (v4)
    refine q_E_L ?_
    generalize dz_M265_64 s v3 v2 v4 = r5 at j2725 ⊢
    have j2726 := dzj_M260_64 c d w (r5) j2725 ((r5.1 14) 0) (q_rg_le (L := 0) (U := 255) (q_n0z j2725) (by decide) (by decide))
    refine q_E_L ?_
    generalize dz_M260_64 r5 ((r5.1 14) 0) = r6 at j2726 ⊢
    exact q_E_x j2726.1
set_option maxHeartbeats 4000000 in
theorem dzj_M266_64_t (c d w : Int) (s : q_S) (hI : q_Iv c d w s) (a2 : Int32) (ra2 : q_rgz 0 255 a2) : q_Ex (dz_M266_64_t s a2) (q_Iv c d w) := by
  unfold dz_M266_64_t
  obtain ⟨r2, e2728, j2727⟩ := dzj_M256_64 c d w 1 (s) hI (5) (1)  (q_rg_le (L := 0) (U := 7) (q_rg_lit (n := 5) (x := 5) rfl) (by decide) (by decide)) (q_rg_le (L := 0) (U := 1) (q_rg_lit (n := 1) (x := 1) rfl) (by decide) (by decide))
  rw [e2728]
  refine q_E_B ?_
  obtain ⟨r3, e2730, j2729⟩ := dzj_M263_64 c d w (s) hI (a2) (q_rg_le (L := 0) (U := 255) ra2 (by decide) (by decide))
  rw [e2730]
  refine q_E_B ?_
  cases h2731 : decide ((r3.1 15) 2 = 0) with
  | true =>
    have g2732 := q_rg_eqT h2731 (q_rg_lit (n := 0) (x := 0) rfl)
    refine q_E_T ?_
    exact dzj_M266_64_t_56 c d w (r3) j2729 (a2) ((s.1 14) 0) (r2) (q_rg_le (L := 0) (U := 255) ra2 (by decide) (by decide)) (q_rg_le (L := 0) (U := 255) (q_n0z hI) (by decide) (by decide)) (q_rg_le (L := 0) (U := 1) j2727 (by decide) (by decide))
  | false =>
    have g2733 := (q_rg_neL (l := 0) (u := 1) (n := 0) (L := 1) h2731 (q_r15 j2729 2) rfl (by decide) (by decide))
    refine q_E_F ?_
    have j2734 := dzj_M264_64 c d w (r3) j2729 ((s.1 14) 0) (a2) (r2)
    refine q_E_L ?_
    generalize dz_M264_64 r3 ((s.1 14) 0) a2 r2 = r7 at j2734 ⊢
    have j2735 := dzj_M260_64 c d w (r7) j2734 ((r7.1 14) 0) (q_rg_le (L := 0) (U := 255) (q_n0z j2734) (by decide) (by decide))
    refine q_E_L ?_
    generalize dz_M260_64 r7 ((r7.1 14) 0) = r8 at j2735 ⊢
    exact q_E_x j2735.1
