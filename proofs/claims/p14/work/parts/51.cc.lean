set_option maxHeartbeats 4000000 in
theorem dzj_M268_64 (c d w : Int) (s : q_S) (hI : q_Iv c d w s) (a1 : Int32) (a2 : Int32) (ra2 : q_rgz 0 255 a2) : q_Ex (dz_M268_64 s a1 a2) (q_Iv c d w) := by
  unfold dz_M268_64
  cases h2961 : decide (a1 < 0) with
  | true =>
    have g2962 := (q_rg_ltT1 (l := -2147483648) (U := -1) h2961 (q_rg_full _) (q_rg_lit (n := 0) (x := 0) rfl) (by decide))
    refine q_E_T ?_
    cases h2963 : decide (((s.1 14) 0) &&& a2 = 0) with
    | true =>
      have g2964 := q_rg_eqT h2963 (q_rg_lit (n := 0) (x := 0) rfl)
      refine q_E_T ?_
      refine q_E_L ?_
      generalize p2965 : dz_M205 (q_sA s 15 (upd (s.1 15) 4 (vp_nar .boolean 1))) a2 7 = r38
      cases r38 with
      | true =>
        refine q_E_T ?_
        have j2966 : q_Iv c d w (q_sA s 15 (upd (s.1 15) 4 (vp_nar .boolean 1))) := (q_Iv_A (i := 15) hI (q_hf_up ((hI).1 15) (q_s15 (q_rg_le (L := 0) (U := 1) (q_rg_nb _) (by decide) (by decide)))))
        refine q_E_L ?_
        generalize (q_sA s 15 (upd (s.1 15) 4 (vp_nar .boolean 1))) = r39 at j2966 ⊢
        refine q_E_L ?_
        generalize p2967 : dz_M205 (q_sA r39 15 (upd (r39.1 15) 0 (vp_nar .boolean 1))) a2 6 = r40
        cases r40 with
        | true =>
          refine q_E_T ?_
          have j2968 : q_Iv c d w (q_sA r39 15 (upd (r39.1 15) 0 (vp_nar .boolean 1))) := (q_Iv_A (i := 15) j2966 (q_hf_up ((j2966).1 15) (q_s15 (q_rg_le (L := 0) (U := 1) (q_rg_nb _) (by decide) (by decide)))))
          refine q_E_L ?_
          generalize (q_sA r39 15 (upd (r39.1 15) 0 (vp_nar .boolean 1))) = r41 at j2968 ⊢
          exact q_E_x (q_Iv_A (i := 15) j2968 (q_hf_up ((j2968).1 15) (q_s15 (q_rg_le (L := 0) (U := 1) (q_rg_nb _) (by decide) (by decide)))))
        | false =>
          refine q_E_F ?_
          have j2969 : q_Iv c d w (q_sA r39 15 (upd (r39.1 15) 0 (vp_nar .boolean 1))) := (q_Iv_A (i := 15) j2966 (q_hf_up ((j2966).1 15) (q_s15 (q_rg_le (L := 0) (U := 1) (q_rg_nb _) (by decide) (by decide)))))
          refine q_E_L ?_
          generalize (q_sA r39 15 (upd (r39.1 15) 0 (vp_nar .boolean 1))) = r42 at j2969 ⊢
          exact q_E_x (q_Iv_A (i := 15) j2969 (q_hf_up ((j2969).1 15) (q_s15 (q_rg_le (L := 0) (U := 1) (q_rg_nb _) (by decide) (by decide)))))
      | false =>
        refine q_E_F ?_
        have j2970 : q_Iv c d w (q_sA s 15 (upd (s.1 15) 4 (vp_nar .boolean 1))) := (q_Iv_A (i := 15) hI (q_hf_up ((hI).1 15) (q_s15 (q_rg_le (L := 0) (U := 1) (q_rg_nb _) (by decide) (by decide)))))
        refine q_E_L ?_
        generalize (q_sA s 15 (upd (s.1 15) 4 (vp_nar .boolean 1))) = r43 at j2970 ⊢
        refine q_E_L ?_
        generalize p2971 : dz_M205 (q_sA r43 15 (upd (r43.1 15) 0 (vp_nar .boolean 0))) a2 6 = r44
        cases r44 with
        | true =>
          refine q_E_T ?_
          have j2972 : q_Iv c d w (q_sA r43 15 (upd (r43.1 15) 0 (vp_nar .boolean 0))) := (q_Iv_A (i := 15) j2970 (q_hf_up ((j2970).1 15) (q_s15 (q_rg_le (L := 0) (U := 1) (q_rg_nb _) (by decide) (by decide)))))
          refine q_E_L ?_
          generalize (q_sA r43 15 (upd (r43.1 15) 0 (vp_nar .boolean 0))) = r45 at j2972 ⊢
          exact q_E_x (q_Iv_A (i := 15) j2972 (q_hf_up ((j2972).1 15) (q_s15 (q_rg_le (L := 0) (U := 1) (q_rg_nb _) (by decide) (by decide)))))
        | false =>
          refine q_E_F ?_
          have j2973 : q_Iv c d w (q_sA r43 15 (upd (r43.1 15) 0 (vp_nar .boolean 0))) := (q_Iv_A (i := 15) j2970 (q_hf_up ((j2970).1 15) (q_s15 (q_rg_le (L := 0) (U := 1) (q_rg_nb _) (by decide) (by decide)))))
          refine q_E_L ?_
          generalize (q_sA r43 15 (upd (r43.1 15) 0 (vp_nar .boolean 0))) = r46 at j2973 ⊢
          exact q_E_x (q_Iv_A (i := 15) j2973 (q_hf_up ((j2973).1 15) (q_s15 (q_rg_le (L := 0) (U := 1) (q_rg_nb _) (by decide) (by decide)))))
    | false =>
      have g2974 := (q_rg_neL (l := 0) (u := 255) (n := 0) (L := 1) h2963 (q_rg_and1 (q_n0z hI) (by decide)) rfl (by decide) (by decide))
      refine q_E_F ?_
      refine q_E_L ?_
      generalize p2975 : dz_M205 (q_sA s 15 (upd (s.1 15) 4 (vp_nar .boolean 0))) a2 7 = r47
      cases r47 with
      | true =>
        refine q_E_T ?_
        have j2976 : q_Iv c d w (q_sA s 15 (upd (s.1 15) 4 (vp_nar .boolean 0))) := (q_Iv_A (i := 15) hI (q_hf_up ((hI).1 15) (q_s15 (q_rg_le (L := 0) (U := 1) (q_rg_nb _) (by decide) (by decide)))))
        refine q_E_L ?_
        generalize (q_sA s 15 (upd (s.1 15) 4 (vp_nar .boolean 0))) = r48 at j2976 ⊢
        refine q_E_L ?_
        generalize p2977 : dz_M205 (q_sA r48 15 (upd (r48.1 15) 0 (vp_nar .boolean 1))) a2 6 = r49
        cases r49 with
        | true =>
          refine q_E_T ?_
          have j2978 : q_Iv c d w (q_sA r48 15 (upd (r48.1 15) 0 (vp_nar .boolean 1))) := (q_Iv_A (i := 15) j2976 (q_hf_up ((j2976).1 15) (q_s15 (q_rg_le (L := 0) (U := 1) (q_rg_nb _) (by decide) (by decide)))))
          refine q_E_L ?_
          generalize (q_sA r48 15 (upd (r48.1 15) 0 (vp_nar .boolean 1))) = r50 at j2978 ⊢
          exact q_E_x (q_Iv_A (i := 15) j2978 (q_hf_up ((j2978).1 15) (q_s15 (q_rg_le (L := 0) (U := 1) (q_rg_nb _) (by decide) (by decide)))))
        | false =>
          refine q_E_F ?_
          have j2979 : q_Iv c d w (q_sA r48 15 (upd (r48.1 15) 0 (vp_nar .boolean 1))) := (q_Iv_A (i := 15) j2976 (q_hf_up ((j2976).1 15) (q_s15 (q_rg_le (L := 0) (U := 1) (q_rg_nb _) (by decide) (by decide)))))
          refine q_E_L ?_
          generalize (q_sA r48 15 (upd (r48.1 15) 0 (vp_nar .boolean 1))) = r51 at j2979 ⊢
          exact q_E_x (q_Iv_A (i := 15) j2979 (q_hf_up ((j2979).1 15) (q_s15 (q_rg_le (L := 0) (U := 1) (q_rg_nb _) (by decide) (by decide)))))
      | false =>
        refine q_E_F ?_
        have j2980 : q_Iv c d w (q_sA s 15 (upd (s.1 15) 4 (vp_nar .boolean 0))) := (q_Iv_A (i := 15) hI (q_hf_up ((hI).1 15) (q_s15 (q_rg_le (L := 0) (U := 1) (q_rg_nb _) (by decide) (by decide)))))
        refine q_E_L ?_
        generalize (q_sA s 15 (upd (s.1 15) 4 (vp_nar .boolean 0))) = r52 at j2980 ⊢
        refine q_E_L ?_
        generalize p2981 : dz_M205 (q_sA r52 15 (upd (r52.1 15) 0 (vp_nar .boolean 0))) a2 6 = r53
        cases r53 with
        | true =>
          refine q_E_T ?_
          have j2982 : q_Iv c d w (q_sA r52 15 (upd (r52.1 15) 0 (vp_nar .boolean 0))) := (q_Iv_A (i := 15) j2980 (q_hf_up ((j2980).1 15) (q_s15 (q_rg_le (L := 0) (U := 1) (q_rg_nb _) (by decide) (by decide)))))
          refine q_E_L ?_
          generalize (q_sA r52 15 (upd (r52.1 15) 0 (vp_nar .boolean 0))) = r54 at j2982 ⊢
          exact q_E_x (q_Iv_A (i := 15) j2982 (q_hf_up ((j2982).1 15) (q_s15 (q_rg_le (L := 0) (U := 1) (q_rg_nb _) (by decide) (by decide)))))
        | false =>
          refine q_E_F ?_
          have j2983 : q_Iv c d w (q_sA r52 15 (upd (r52.1 15) 0 (vp_nar .boolean 0))) := (q_Iv_A (i := 15) j2980 (q_hf_up ((j2980).1 15) (q_s15 (q_rg_le (L := 0) (U := 1) (q_rg_nb _) (by decide) (by decide)))))
          refine q_E_L ?_
          generalize (q_sA r52 15 (upd (r52.1 15) 0 (vp_nar .boolean 0))) = r55 at j2983 ⊢
          exact q_E_x (q_Iv_A (i := 15) j2983 (q_hf_up ((j2983).1 15) (q_s15 (q_rg_le (L := 0) (U := 1) (q_rg_nb _) (by decide) (by decide)))))
  | false =>
    have g2984 := (q_rg_ltF1 (l2 := 0) (u := 2147483647) h2961 (q_rg_full _) (q_rg_lit (n := 0) (x := 0) rfl))
    refine q_E_F ?_
    cases h2985 : decide (16 < a1) with
    | true =>
      have g2986 := (q_rg_ltT2 (L := 17) (u2 := 2147483647) h2985 (q_rg_lit (n := 16) (x := 16) rfl) g2984 (by decide))
      refine q_E_T ?_
      cases h2987 : decide (((s.1 14) 0) &&& a2 = 0) with
      | true =>
        have g2988 := q_rg_eqT h2987 (q_rg_lit (n := 0) (x := 0) rfl)
        refine q_E_T ?_
        refine q_E_L ?_
        generalize p2989 : dz_M205 (q_sA s 15 (upd (s.1 15) 4 (vp_nar .boolean 1))) a2 7 = r56
        cases r56 with
        | true =>
          refine q_E_T ?_
          have j2990 : q_Iv c d w (q_sA s 15 (upd (s.1 15) 4 (vp_nar .boolean 1))) := (q_Iv_A (i := 15) hI (q_hf_up ((hI).1 15) (q_s15 (q_rg_le (L := 0) (U := 1) (q_rg_nb _) (by decide) (by decide)))))
          refine q_E_L ?_
          generalize (q_sA s 15 (upd (s.1 15) 4 (vp_nar .boolean 1))) = r57 at j2990 ⊢
          refine q_E_L ?_
          generalize p2991 : dz_M205 (q_sA r57 15 (upd (r57.1 15) 0 (vp_nar .boolean 1))) a2 6 = r58
          cases r58 with
          | true =>
            refine q_E_T ?_
            have j2992 : q_Iv c d w (q_sA r57 15 (upd (r57.1 15) 0 (vp_nar .boolean 1))) := (q_Iv_A (i := 15) j2990 (q_hf_up ((j2990).1 15) (q_s15 (q_rg_le (L := 0) (U := 1) (q_rg_nb _) (by decide) (by decide)))))
            refine q_E_L ?_
            generalize (q_sA r57 15 (upd (r57.1 15) 0 (vp_nar .boolean 1))) = r59 at j2992 ⊢
            exact q_E_x (q_Iv_A (i := 15) j2992 (q_hf_up ((j2992).1 15) (q_s15 (q_rg_le (L := 0) (U := 1) (q_rg_nb _) (by decide) (by decide)))))
          | false =>
            refine q_E_F ?_
            have j2993 : q_Iv c d w (q_sA r57 15 (upd (r57.1 15) 0 (vp_nar .boolean 1))) := (q_Iv_A (i := 15) j2990 (q_hf_up ((j2990).1 15) (q_s15 (q_rg_le (L := 0) (U := 1) (q_rg_nb _) (by decide) (by decide)))))
            refine q_E_L ?_
            generalize (q_sA r57 15 (upd (r57.1 15) 0 (vp_nar .boolean 1))) = r60 at j2993 ⊢
            exact q_E_x (q_Iv_A (i := 15) j2993 (q_hf_up ((j2993).1 15) (q_s15 (q_rg_le (L := 0) (U := 1) (q_rg_nb _) (by decide) (by decide)))))
        | false =>
          refine q_E_F ?_
          have j2994 : q_Iv c d w (q_sA s 15 (upd (s.1 15) 4 (vp_nar .boolean 1))) := (q_Iv_A (i := 15) hI (q_hf_up ((hI).1 15) (q_s15 (q_rg_le (L := 0) (U := 1) (q_rg_nb _) (by decide) (by decide)))))
          refine q_E_L ?_
          generalize (q_sA s 15 (upd (s.1 15) 4 (vp_nar .boolean 1))) = r61 at j2994 ⊢
          refine q_E_L ?_
          generalize p2995 : dz_M205 (q_sA r61 15 (upd (r61.1 15) 0 (vp_nar .boolean 0))) a2 6 = r62
          cases r62 with
          | true =>
            refine q_E_T ?_
            have j2996 : q_Iv c d w (q_sA r61 15 (upd (r61.1 15) 0 (vp_nar .boolean 0))) := (q_Iv_A (i := 15) j2994 (q_hf_up ((j2994).1 15) (q_s15 (q_rg_le (L := 0) (U := 1) (q_rg_nb _) (by decide) (by decide)))))
            refine q_E_L ?_
            generalize (q_sA r61 15 (upd (r61.1 15) 0 (vp_nar .boolean 0))) = r63 at j2996 ⊢
            exact q_E_x (q_Iv_A (i := 15) j2996 (q_hf_up ((j2996).1 15) (q_s15 (q_rg_le (L := 0) (U := 1) (q_rg_nb _) (by decide) (by decide)))))
          | false =>
            refine q_E_F ?_
            have j2997 : q_Iv c d w (q_sA r61 15 (upd (r61.1 15) 0 (vp_nar .boolean 0))) := (q_Iv_A (i := 15) j2994 (q_hf_up ((j2994).1 15) (q_s15 (q_rg_le (L := 0) (U := 1) (q_rg_nb _) (by decide) (by decide)))))
            refine q_E_L ?_
            generalize (q_sA r61 15 (upd (r61.1 15) 0 (vp_nar .boolean 0))) = r64 at j2997 ⊢
            exact q_E_x (q_Iv_A (i := 15) j2997 (q_hf_up ((j2997).1 15) (q_s15 (q_rg_le (L := 0) (U := 1) (q_rg_nb _) (by decide) (by decide)))))
      | false =>
        have g2998 := (q_rg_neL (l := 0) (u := 255) (n := 0) (L := 1) h2987 (q_rg_and1 (q_n0z hI) (by decide)) rfl (by decide) (by decide))
        refine q_E_F ?_
        refine q_E_L ?_
        generalize p2999 : dz_M205 (q_sA s 15 (upd (s.1 15) 4 (vp_nar .boolean 0))) a2 7 = r65
        cases r65 with
        | true =>
          refine q_E_T ?_
          have j3000 : q_Iv c d w (q_sA s 15 (upd (s.1 15) 4 (vp_nar .boolean 0))) := (q_Iv_A (i := 15) hI (q_hf_up ((hI).1 15) (q_s15 (q_rg_le (L := 0) (U := 1) (q_rg_nb _) (by decide) (by decide)))))
          refine q_E_L ?_
          generalize (q_sA s 15 (upd (s.1 15) 4 (vp_nar .boolean 0))) = r66 at j3000 ⊢
          refine q_E_L ?_
          generalize p3001 : dz_M205 (q_sA r66 15 (upd (r66.1 15) 0 (vp_nar .boolean 1))) a2 6 = r67
          cases r67 with
          | true =>
            refine q_E_T ?_
            have j3002 : q_Iv c d w (q_sA r66 15 (upd (r66.1 15) 0 (vp_nar .boolean 1))) := (q_Iv_A (i := 15) j3000 (q_hf_up ((j3000).1 15) (q_s15 (q_rg_le (L := 0) (U := 1) (q_rg_nb _) (by decide) (by decide)))))
            refine q_E_L ?_
            generalize (q_sA r66 15 (upd (r66.1 15) 0 (vp_nar .boolean 1))) = r68 at j3002 ⊢
            exact q_E_x (q_Iv_A (i := 15) j3002 (q_hf_up ((j3002).1 15) (q_s15 (q_rg_le (L := 0) (U := 1) (q_rg_nb _) (by decide) (by decide)))))
          | false =>
            refine q_E_F ?_
            have j3003 : q_Iv c d w (q_sA r66 15 (upd (r66.1 15) 0 (vp_nar .boolean 1))) := (q_Iv_A (i := 15) j3000 (q_hf_up ((j3000).1 15) (q_s15 (q_rg_le (L := 0) (U := 1) (q_rg_nb _) (by decide) (by decide)))))
            refine q_E_L ?_
            generalize (q_sA r66 15 (upd (r66.1 15) 0 (vp_nar .boolean 1))) = r69 at j3003 ⊢
            exact q_E_x (q_Iv_A (i := 15) j3003 (q_hf_up ((j3003).1 15) (q_s15 (q_rg_le (L := 0) (U := 1) (q_rg_nb _) (by decide) (by decide)))))
        | false =>
          refine q_E_F ?_
          have j3004 : q_Iv c d w (q_sA s 15 (upd (s.1 15) 4 (vp_nar .boolean 0))) := (q_Iv_A (i := 15) hI (q_hf_up ((hI).1 15) (q_s15 (q_rg_le (L := 0) (U := 1) (q_rg_nb _) (by decide) (by decide)))))
          refine q_E_L ?_
          generalize (q_sA s 15 (upd (s.1 15) 4 (vp_nar .boolean 0))) = r70 at j3004 ⊢
          refine q_E_L ?_
          generalize p3005 : dz_M205 (q_sA r70 15 (upd (r70.1 15) 0 (vp_nar .boolean 0))) a2 6 = r71
          cases r71 with
          | true =>
            refine q_E_T ?_
            have j3006 : q_Iv c d w (q_sA r70 15 (upd (r70.1 15) 0 (vp_nar .boolean 0))) := (q_Iv_A (i := 15) j3004 (q_hf_up ((j3004).1 15) (q_s15 (q_rg_le (L := 0) (U := 1) (q_rg_nb _) (by decide) (by decide)))))
            refine q_E_L ?_
            generalize (q_sA r70 15 (upd (r70.1 15) 0 (vp_nar .boolean 0))) = r72 at j3006 ⊢
            exact q_E_x (q_Iv_A (i := 15) j3006 (q_hf_up ((j3006).1 15) (q_s15 (q_rg_le (L := 0) (U := 1) (q_rg_nb _) (by decide) (by decide)))))
          | false =>
            refine q_E_F ?_
            have j3007 : q_Iv c d w (q_sA r70 15 (upd (r70.1 15) 0 (vp_nar .boolean 0))) := (q_Iv_A (i := 15) j3004 (q_hf_up ((j3004).1 15) (q_s15 (q_rg_le (L := 0) (U := 1) (q_rg_nb _) (by decide) (by decide)))))
            refine q_E_L ?_
            generalize (q_sA r70 15 (upd (r70.1 15) 0 (vp_nar .boolean 0))) = r73 at j3007 ⊢
            exact q_E_x (q_Iv_A (i := 15) j3007 (q_hf_up ((j3007).1 15) (q_s15 (q_rg_le (L := 0) (U := 1) (q_rg_nb _) (by decide) (by decide)))))
    | false =>
      have g3008 := (q_rg_ltF2 (l2 := 0) (u := 16) h2985 (q_rg_lit (n := 16) (x := 16) rfl) g2984)
      refine q_E_F ?_
      cases h3009 : decide (a1 = 0) with
      | true =>
        have g3010 := q_rg_eqT h3009 (q_rg_lit (n := 0) (x := 0) rfl)
        refine q_E_T ?_
        obtain ⟨r74, e3012, j3011⟩ := dzj_M261_64 c d w (s) hI (0) (a2) (q_rg_le (L := 0) (U := 2) (q_rg_lit (n := 0) (x := 0) rfl) (by decide) (by decide)) (q_rg_le (L := 0) (U := 255) ra2 (by decide) (by decide))
        rw [e3012]
        refine q_E_B ?_
        exact q_E_x j3011
      | false =>
        have g3013 := (q_rg_neL (l := 0) (u := 16) (n := 0) (L := 1) h3009 g3008 rfl (by decide) (by decide))
        refine q_E_F ?_
        cases h3014 : decide (a1 = 1) with
        | true =>
          have g3015 := q_rg_eqT h3014 (q_rg_lit (n := 1) (x := 1) rfl)
          refine q_E_T ?_
          obtain ⟨r75, e3017, j3016⟩ := dzj_M261_64 c d w (s) hI (1) (a2) (q_rg_le (L := 0) (U := 2) (q_rg_lit (n := 1) (x := 1) rfl) (by decide) (by decide)) (q_rg_le (L := 0) (U := 255) ra2 (by decide) (by decide))
          rw [e3017]
          refine q_E_B ?_
          exact q_E_x j3016
        | false =>
          have g3018 := (q_rg_neL (l := 1) (u := 16) (n := 1) (L := 2) h3014 g3013 rfl (by decide) (by decide))
          refine q_E_F ?_
          cases h3019 : decide (a1 = 2) with
          | true =>
            have g3020 := q_rg_eqT h3019 (q_rg_lit (n := 2) (x := 2) rfl)
            refine q_E_T ?_
            obtain ⟨r76, e3022, j3021⟩ := dzj_M261_64 c d w (s) hI (2) (a2) (q_rg_le (L := 0) (U := 2) (q_rg_lit (n := 2) (x := 2) rfl) (by decide) (by decide)) (q_rg_le (L := 0) (U := 255) ra2 (by decide) (by decide))
            rw [e3022]
            refine q_E_B ?_
            exact q_E_x j3021
          | false =>
            have g3023 := (q_rg_neL (l := 2) (u := 16) (n := 2) (L := 3) h3019 g3018 rfl (by decide) (by decide))
            refine q_E_F ?_
            cases h3024 : decide (a1 = 3) with
            | true =>
              have g3025 := q_rg_eqT h3024 (q_rg_lit (n := 3) (x := 3) rfl)
              refine q_E_T ?_
              cases h3026 : decide (((s.1 14) 0) &&& a2 = 0) with
              | true =>
                have g3027 := q_rg_eqT h3026 (q_rg_lit (n := 0) (x := 0) rfl)
                refine q_E_T ?_
                refine q_E_L ?_
                generalize p3028 : dz_M205 (q_sA s 15 (upd (s.1 15) 4 (vp_nar .boolean 1))) a2 7 = r77
                cases r77 with
                | true =>
                  refine q_E_T ?_
                  have j3029 : q_Iv c d w (q_sA s 15 (upd (s.1 15) 4 (vp_nar .boolean 1))) := (q_Iv_A (i := 15) hI (q_hf_up ((hI).1 15) (q_s15 (q_rg_le (L := 0) (U := 1) (q_rg_nb _) (by decide) (by decide)))))
                  refine q_E_L ?_
                  generalize (q_sA s 15 (upd (s.1 15) 4 (vp_nar .boolean 1))) = r78 at j3029 ⊢
                  refine q_E_L ?_
                  generalize p3030 : dz_M205 (q_sA r78 15 (upd (r78.1 15) 0 (vp_nar .boolean 1))) a2 6 = r79
                  cases r79 with
                  | true =>
                    refine q_E_T ?_
                    have j3031 : q_Iv c d w (q_sA r78 15 (upd (r78.1 15) 0 (vp_nar .boolean 1))) := (q_Iv_A (i := 15) j3029 (q_hf_up ((j3029).1 15) (q_s15 (q_rg_le (L := 0) (U := 1) (q_rg_nb _) (by decide) (by decide)))))
                    refine q_E_L ?_
                    generalize (q_sA r78 15 (upd (r78.1 15) 0 (vp_nar .boolean 1))) = r80 at j3031 ⊢
                    exact q_E_x (q_Iv_A (i := 15) j3031 (q_hf_up ((j3031).1 15) (q_s15 (q_rg_le (L := 0) (U := 1) (q_rg_nb _) (by decide) (by decide)))))
                  | false =>
                    refine q_E_F ?_
                    have j3032 : q_Iv c d w (q_sA r78 15 (upd (r78.1 15) 0 (vp_nar .boolean 1))) := (q_Iv_A (i := 15) j3029 (q_hf_up ((j3029).1 15) (q_s15 (q_rg_le (L := 0) (U := 1) (q_rg_nb _) (by decide) (by decide)))))
                    refine q_E_L ?_
                    generalize (q_sA r78 15 (upd (r78.1 15) 0 (vp_nar .boolean 1))) = r81 at j3032 ⊢
                    exact q_E_x (q_Iv_A (i := 15) j3032 (q_hf_up ((j3032).1 15) (q_s15 (q_rg_le (L := 0) (U := 1) (q_rg_nb _) (by decide) (by decide)))))
                | false =>
                  refine q_E_F ?_
                  have j3033 : q_Iv c d w (q_sA s 15 (upd (s.1 15) 4 (vp_nar .boolean 1))) := (q_Iv_A (i := 15) hI (q_hf_up ((hI).1 15) (q_s15 (q_rg_le (L := 0) (U := 1) (q_rg_nb _) (by decide) (by decide)))))
                  refine q_E_L ?_
                  generalize (q_sA s 15 (upd (s.1 15) 4 (vp_nar .boolean 1))) = r82 at j3033 ⊢
                  refine q_E_L ?_
                  generalize p3034 : dz_M205 (q_sA r82 15 (upd (r82.1 15) 0 (vp_nar .boolean 0))) a2 6 = r83
                  cases r83 with
                  | true =>
                    refine q_E_T ?_
                    have j3035 : q_Iv c d w (q_sA r82 15 (upd (r82.1 15) 0 (vp_nar .boolean 0))) := (q_Iv_A (i := 15) j3033 (q_hf_up ((j3033).1 15) (q_s15 (q_rg_le (L := 0) (U := 1) (q_rg_nb _) (by decide) (by decide)))))
                    refine q_E_L ?_
                    generalize (q_sA r82 15 (upd (r82.1 15) 0 (vp_nar .boolean 0))) = r84 at j3035 ⊢
                    exact q_E_x (q_Iv_A (i := 15) j3035 (q_hf_up ((j3035).1 15) (q_s15 (q_rg_le (L := 0) (U := 1) (q_rg_nb _) (by decide) (by decide)))))
                  | false =>
                    refine q_E_F ?_
                    have j3036 : q_Iv c d w (q_sA r82 15 (upd (r82.1 15) 0 (vp_nar .boolean 0))) := (q_Iv_A (i := 15) j3033 (q_hf_up ((j3033).1 15) (q_s15 (q_rg_le (L := 0) (U := 1) (q_rg_nb _) (by decide) (by decide)))))
                    refine q_E_L ?_
                    generalize (q_sA r82 15 (upd (r82.1 15) 0 (vp_nar .boolean 0))) = r85 at j3036 ⊢
                    exact q_E_x (q_Iv_A (i := 15) j3036 (q_hf_up ((j3036).1 15) (q_s15 (q_rg_le (L := 0) (U := 1) (q_rg_nb _) (by decide) (by decide)))))
              | false =>
                have g3037 := (q_rg_neL (l := 0) (u := 255) (n := 0) (L := 1) h3026 (q_rg_and1 (q_n0z hI) (by decide)) rfl (by decide) (by decide))
                refine q_E_F ?_
                refine q_E_L ?_
                generalize p3038 : dz_M205 (q_sA s 15 (upd (s.1 15) 4 (vp_nar .boolean 0))) a2 7 = r86
                cases r86 with
                | true =>
                  refine q_E_T ?_
                  have j3039 : q_Iv c d w (q_sA s 15 (upd (s.1 15) 4 (vp_nar .boolean 0))) := (q_Iv_A (i := 15) hI (q_hf_up ((hI).1 15) (q_s15 (q_rg_le (L := 0) (U := 1) (q_rg_nb _) (by decide) (by decide)))))
                  refine q_E_L ?_
                  generalize (q_sA s 15 (upd (s.1 15) 4 (vp_nar .boolean 0))) = r87 at j3039 ⊢
                  refine q_E_L ?_
                  generalize p3040 : dz_M205 (q_sA r87 15 (upd (r87.1 15) 0 (vp_nar .boolean 1))) a2 6 = r88
                  cases r88 with
                  | true =>
                    refine q_E_T ?_
                    have j3041 : q_Iv c d w (q_sA r87 15 (upd (r87.1 15) 0 (vp_nar .boolean 1))) := (q_Iv_A (i := 15) j3039 (q_hf_up ((j3039).1 15) (q_s15 (q_rg_le (L := 0) (U := 1) (q_rg_nb _) (by decide) (by decide)))))
                    refine q_E_L ?_
                    generalize (q_sA r87 15 (upd (r87.1 15) 0 (vp_nar .boolean 1))) = r89 at j3041 ⊢
                    exact q_E_x (q_Iv_A (i := 15) j3041 (q_hf_up ((j3041).1 15) (q_s15 (q_rg_le (L := 0) (U := 1) (q_rg_nb _) (by decide) (by decide)))))
                  | false =>
                    refine q_E_F ?_
                    have j3042 : q_Iv c d w (q_sA r87 15 (upd (r87.1 15) 0 (vp_nar .boolean 1))) := (q_Iv_A (i := 15) j3039 (q_hf_up ((j3039).1 15) (q_s15 (q_rg_le (L := 0) (U := 1) (q_rg_nb _) (by decide) (by decide)))))
                    refine q_E_L ?_
                    generalize (q_sA r87 15 (upd (r87.1 15) 0 (vp_nar .boolean 1))) = r90 at j3042 ⊢
                    exact q_E_x (q_Iv_A (i := 15) j3042 (q_hf_up ((j3042).1 15) (q_s15 (q_rg_le (L := 0) (U := 1) (q_rg_nb _) (by decide) (by decide)))))
                | false =>
                  refine q_E_F ?_
                  have j3043 : q_Iv c d w (q_sA s 15 (upd (s.1 15) 4 (vp_nar .boolean 0))) := (q_Iv_A (i := 15) hI (q_hf_up ((hI).1 15) (q_s15 (q_rg_le (L := 0) (U := 1) (q_rg_nb _) (by decide) (by decide)))))
                  refine q_E_L ?_
                  generalize (q_sA s 15 (upd (s.1 15) 4 (vp_nar .boolean 0))) = r91 at j3043 ⊢
                  refine q_E_L ?_
                  generalize p3044 : dz_M205 (q_sA r91 15 (upd (r91.1 15) 0 (vp_nar .boolean 0))) a2 6 = r92
                  cases r92 with
                  | true =>
                    refine q_E_T ?_
                    have j3045 : q_Iv c d w (q_sA r91 15 (upd (r91.1 15) 0 (vp_nar .boolean 0))) := (q_Iv_A (i := 15) j3043 (q_hf_up ((j3043).1 15) (q_s15 (q_rg_le (L := 0) (U := 1) (q_rg_nb _) (by decide) (by decide)))))
                    refine q_E_L ?_
                    generalize (q_sA r91 15 (upd (r91.1 15) 0 (vp_nar .boolean 0))) = r93 at j3045 ⊢
                    exact q_E_x (q_Iv_A (i := 15) j3045 (q_hf_up ((j3045).1 15) (q_s15 (q_rg_le (L := 0) (U := 1) (q_rg_nb _) (by decide) (by decide)))))
                  | false =>
                    refine q_E_F ?_
                    have j3046 : q_Iv c d w (q_sA r91 15 (upd (r91.1 15) 0 (vp_nar .boolean 0))) := (q_Iv_A (i := 15) j3043 (q_hf_up ((j3043).1 15) (q_s15 (q_rg_le (L := 0) (U := 1) (q_rg_nb _) (by decide) (by decide)))))
                    refine q_E_L ?_
                    generalize (q_sA r91 15 (upd (r91.1 15) 0 (vp_nar .boolean 0))) = r94 at j3046 ⊢
                    exact q_E_x (q_Iv_A (i := 15) j3046 (q_hf_up ((j3046).1 15) (q_s15 (q_rg_le (L := 0) (U := 1) (q_rg_nb _) (by decide) (by decide)))))
            | false =>
              have g3047 := (q_rg_neL (l := 3) (u := 16) (n := 3) (L := 4) h3024 g3023 rfl (by decide) (by decide))
              refine q_E_F ?_
              cases h3048 : decide (a1 = 4) with
              | true =>
                have g3049 := q_rg_eqT h3048 (q_rg_lit (n := 4) (x := 4) rfl)
                refine q_E_T ?_
                cases h3050 : decide (((s.1 14) 0) &&& a2 = 0) with
                | true =>
                  have g3051 := q_rg_eqT h3050 (q_rg_lit (n := 0) (x := 0) rfl)
                  refine q_E_T ?_
                  refine q_E_L ?_
                  generalize p3052 : dz_M205 (q_sA s 15 (upd (s.1 15) 4 (vp_nar .boolean 1))) a2 7 = r95
                  cases r95 with
                  | true =>
                    refine q_E_T ?_
                    have j3053 : q_Iv c d w (q_sA s 15 (upd (s.1 15) 4 (vp_nar .boolean 1))) := (q_Iv_A (i := 15) hI (q_hf_up ((hI).1 15) (q_s15 (q_rg_le (L := 0) (U := 1) (q_rg_nb _) (by decide) (by decide)))))
                    refine q_E_L ?_
                    generalize (q_sA s 15 (upd (s.1 15) 4 (vp_nar .boolean 1))) = r96 at j3053 ⊢
                    refine q_E_L ?_
                    generalize p3054 : dz_M205 (q_sA r96 15 (upd (r96.1 15) 0 (vp_nar .boolean 1))) a2 6 = r97
                    cases r97 with
                    | true =>
                      refine q_E_T ?_
                      have j3055 : q_Iv c d w (q_sA r96 15 (upd (r96.1 15) 0 (vp_nar .boolean 1))) := (q_Iv_A (i := 15) j3053 (q_hf_up ((j3053).1 15) (q_s15 (q_rg_le (L := 0) (U := 1) (q_rg_nb _) (by decide) (by decide)))))
                      refine q_E_L ?_
                      generalize (q_sA r96 15 (upd (r96.1 15) 0 (vp_nar .boolean 1))) = r98 at j3055 ⊢
                      exact q_E_x (q_Iv_A (i := 15) j3055 (q_hf_up ((j3055).1 15) (q_s15 (q_rg_le (L := 0) (U := 1) (q_rg_nb _) (by decide) (by decide)))))
                    | false =>
                      refine q_E_F ?_
                      have j3056 : q_Iv c d w (q_sA r96 15 (upd (r96.1 15) 0 (vp_nar .boolean 1))) := (q_Iv_A (i := 15) j3053 (q_hf_up ((j3053).1 15) (q_s15 (q_rg_le (L := 0) (U := 1) (q_rg_nb _) (by decide) (by decide)))))
                      refine q_E_L ?_
                      generalize (q_sA r96 15 (upd (r96.1 15) 0 (vp_nar .boolean 1))) = r99 at j3056 ⊢
                      exact q_E_x (q_Iv_A (i := 15) j3056 (q_hf_up ((j3056).1 15) (q_s15 (q_rg_le (L := 0) (U := 1) (q_rg_nb _) (by decide) (by decide)))))
                  | false =>
                    refine q_E_F ?_
                    have j3057 : q_Iv c d w (q_sA s 15 (upd (s.1 15) 4 (vp_nar .boolean 1))) := (q_Iv_A (i := 15) hI (q_hf_up ((hI).1 15) (q_s15 (q_rg_le (L := 0) (U := 1) (q_rg_nb _) (by decide) (by decide)))))
                    refine q_E_L ?_
                    generalize (q_sA s 15 (upd (s.1 15) 4 (vp_nar .boolean 1))) = r100 at j3057 ⊢
                    refine q_E_L ?_
                    generalize p3058 : dz_M205 (q_sA r100 15 (upd (r100.1 15) 0 (vp_nar .boolean 0))) a2 6 = r101
                    cases r101 with
                    | true =>
                      refine q_E_T ?_
                      have j3059 : q_Iv c d w (q_sA r100 15 (upd (r100.1 15) 0 (vp_nar .boolean 0))) := (q_Iv_A (i := 15) j3057 (q_hf_up ((j3057).1 15) (q_s15 (q_rg_le (L := 0) (U := 1) (q_rg_nb _) (by decide) (by decide)))))
                      refine q_E_L ?_
                      generalize (q_sA r100 15 (upd (r100.1 15) 0 (vp_nar .boolean 0))) = r102 at j3059 ⊢
                      exact q_E_x (q_Iv_A (i := 15) j3059 (q_hf_up ((j3059).1 15) (q_s15 (q_rg_le (L := 0) (U := 1) (q_rg_nb _) (by decide) (by decide)))))
                    | false =>
                      refine q_E_F ?_
                      have j3060 : q_Iv c d w (q_sA r100 15 (upd (r100.1 15) 0 (vp_nar .boolean 0))) := (q_Iv_A (i := 15) j3057 (q_hf_up ((j3057).1 15) (q_s15 (q_rg_le (L := 0) (U := 1) (q_rg_nb _) (by decide) (by decide)))))
                      refine q_E_L ?_
                      generalize (q_sA r100 15 (upd (r100.1 15) 0 (vp_nar .boolean 0))) = r103 at j3060 ⊢
                      exact q_E_x (q_Iv_A (i := 15) j3060 (q_hf_up ((j3060).1 15) (q_s15 (q_rg_le (L := 0) (U := 1) (q_rg_nb _) (by decide) (by decide)))))
                | false =>
                  have g3061 := (q_rg_neL (l := 0) (u := 255) (n := 0) (L := 1) h3050 (q_rg_and1 (q_n0z hI) (by decide)) rfl (by decide) (by decide))
                  refine q_E_F ?_
                  refine q_E_L ?_
                  generalize p3062 : dz_M205 (q_sA s 15 (upd (s.1 15) 4 (vp_nar .boolean 0))) a2 7 = r104
                  cases r104 with
                  | true =>
                    refine q_E_T ?_
                    have j3063 : q_Iv c d w (q_sA s 15 (upd (s.1 15) 4 (vp_nar .boolean 0))) := (q_Iv_A (i := 15) hI (q_hf_up ((hI).1 15) (q_s15 (q_rg_le (L := 0) (U := 1) (q_rg_nb _) (by decide) (by decide)))))
                    refine q_E_L ?_
                    generalize (q_sA s 15 (upd (s.1 15) 4 (vp_nar .boolean 0))) = r105 at j3063 ⊢
                    refine q_E_L ?_
                    generalize p3064 : dz_M205 (q_sA r105 15 (upd (r105.1 15) 0 (vp_nar .boolean 1))) a2 6 = r106
                    cases r106 with
                    | true =>
                      refine q_E_T ?_
                      have j3065 : q_Iv c d w (q_sA r105 15 (upd (r105.1 15) 0 (vp_nar .boolean 1))) := (q_Iv_A (i := 15) j3063 (q_hf_up ((j3063).1 15) (q_s15 (q_rg_le (L := 0) (U := 1) (q_rg_nb _) (by decide) (by decide)))))
                      refine q_E_L ?_
                      generalize (q_sA r105 15 (upd (r105.1 15) 0 (vp_nar .boolean 1))) = r107 at j3065 ⊢
                      exact q_E_x (q_Iv_A (i := 15) j3065 (q_hf_up ((j3065).1 15) (q_s15 (q_rg_le (L := 0) (U := 1) (q_rg_nb _) (by decide) (by decide)))))
                    | false =>
                      refine q_E_F ?_
                      have j3066 : q_Iv c d w (q_sA r105 15 (upd (r105.1 15) 0 (vp_nar .boolean 1))) := (q_Iv_A (i := 15) j3063 (q_hf_up ((j3063).1 15) (q_s15 (q_rg_le (L := 0) (U := 1) (q_rg_nb _) (by decide) (by decide)))))
                      refine q_E_L ?_
                      generalize (q_sA r105 15 (upd (r105.1 15) 0 (vp_nar .boolean 1))) = r108 at j3066 ⊢
                      exact q_E_x (q_Iv_A (i := 15) j3066 (q_hf_up ((j3066).1 15) (q_s15 (q_rg_le (L := 0) (U := 1) (q_rg_nb _) (by decide) (by decide)))))
                  | false =>
                    refine q_E_F ?_
                    have j3067 : q_Iv c d w (q_sA s 15 (upd (s.1 15) 4 (vp_nar .boolean 0))) := (q_Iv_A (i := 15) hI (q_hf_up ((hI).1 15) (q_s15 (q_rg_le (L := 0) (U := 1) (q_rg_nb _) (by decide) (by decide)))))
                    refine q_E_L ?_
                    generalize (q_sA s 15 (upd (s.1 15) 4 (vp_nar .boolean 0))) = r109 at j3067 ⊢
                    refine q_E_L ?_
                    generalize p3068 : dz_M205 (q_sA r109 15 (upd (r109.1 15) 0 (vp_nar .boolean 0))) a2 6 = r110
                    cases r110 with
                    | true =>
                      refine q_E_T ?_
                      have j3069 : q_Iv c d w (q_sA r109 15 (upd (r109.1 15) 0 (vp_nar .boolean 0))) := (q_Iv_A (i := 15) j3067 (q_hf_up ((j3067).1 15) (q_s15 (q_rg_le (L := 0) (U := 1) (q_rg_nb _) (by decide) (by decide)))))
                      refine q_E_L ?_
                      generalize (q_sA r109 15 (upd (r109.1 15) 0 (vp_nar .boolean 0))) = r111 at j3069 ⊢
                      exact q_E_x (q_Iv_A (i := 15) j3069 (q_hf_up ((j3069).1 15) (q_s15 (q_rg_le (L := 0) (U := 1) (q_rg_nb _) (by decide) (by decide)))))
                    | false =>
                      refine q_E_F ?_
                      have j3070 : q_Iv c d w (q_sA r109 15 (upd (r109.1 15) 0 (vp_nar .boolean 0))) := (q_Iv_A (i := 15) j3067 (q_hf_up ((j3067).1 15) (q_s15 (q_rg_le (L := 0) (U := 1) (q_rg_nb _) (by decide) (by decide)))))
                      refine q_E_L ?_
                      generalize (q_sA r109 15 (upd (r109.1 15) 0 (vp_nar .boolean 0))) = r112 at j3070 ⊢
                      exact q_E_x (q_Iv_A (i := 15) j3070 (q_hf_up ((j3070).1 15) (q_s15 (q_rg_le (L := 0) (U := 1) (q_rg_nb _) (by decide) (by decide)))))
              | false =>
                have g3071 := (q_rg_neL (l := 4) (u := 16) (n := 4) (L := 5) h3048 g3047 rfl (by decide) (by decide))
                refine q_E_F ?_
                cases h3072 : decide (a1 = 5) with
                | true =>
                  have g3073 := q_rg_eqT h3072 (q_rg_lit (n := 5) (x := 5) rfl)
                  refine q_E_T ?_
                  cases h3074 : decide (((s.1 14) 0) &&& a2 = 0) with
                  | true =>
                    have g3075 := q_rg_eqT h3074 (q_rg_lit (n := 0) (x := 0) rfl)
                    refine q_E_T ?_
                    refine q_E_L ?_
                    generalize p3076 : dz_M205 (q_sA s 15 (upd (s.1 15) 4 (vp_nar .boolean 1))) a2 7 = r113
                    cases r113 with
                    | true =>
                      refine q_E_T ?_
                      have j3077 : q_Iv c d w (q_sA s 15 (upd (s.1 15) 4 (vp_nar .boolean 1))) := (q_Iv_A (i := 15) hI (q_hf_up ((hI).1 15) (q_s15 (q_rg_le (L := 0) (U := 1) (q_rg_nb _) (by decide) (by decide)))))
                      refine q_E_L ?_
                      generalize (q_sA s 15 (upd (s.1 15) 4 (vp_nar .boolean 1))) = r114 at j3077 ⊢
                      refine q_E_L ?_
                      generalize p3078 : dz_M205 (q_sA r114 15 (upd (r114.1 15) 0 (vp_nar .boolean 1))) a2 6 = r115
                      cases r115 with
                      | true =>
                        refine q_E_T ?_
                        have j3079 : q_Iv c d w (q_sA r114 15 (upd (r114.1 15) 0 (vp_nar .boolean 1))) := (q_Iv_A (i := 15) j3077 (q_hf_up ((j3077).1 15) (q_s15 (q_rg_le (L := 0) (U := 1) (q_rg_nb _) (by decide) (by decide)))))
                        refine q_E_L ?_
                        generalize (q_sA r114 15 (upd (r114.1 15) 0 (vp_nar .boolean 1))) = r116 at j3079 ⊢
                        exact q_E_x (q_Iv_A (i := 15) j3079 (q_hf_up ((j3079).1 15) (q_s15 (q_rg_le (L := 0) (U := 1) (q_rg_nb _) (by decide) (by decide)))))
                      | false =>
                        refine q_E_F ?_
                        have j3080 : q_Iv c d w (q_sA r114 15 (upd (r114.1 15) 0 (vp_nar .boolean 1))) := (q_Iv_A (i := 15) j3077 (q_hf_up ((j3077).1 15) (q_s15 (q_rg_le (L := 0) (U := 1) (q_rg_nb _) (by decide) (by decide)))))
                        refine q_E_L ?_
                        generalize (q_sA r114 15 (upd (r114.1 15) 0 (vp_nar .boolean 1))) = r117 at j3080 ⊢
                        exact q_E_x (q_Iv_A (i := 15) j3080 (q_hf_up ((j3080).1 15) (q_s15 (q_rg_le (L := 0) (U := 1) (q_rg_nb _) (by decide) (by decide)))))
                    | false =>
                      refine q_E_F ?_
                      have j3081 : q_Iv c d w (q_sA s 15 (upd (s.1 15) 4 (vp_nar .boolean 1))) := (q_Iv_A (i := 15) hI (q_hf_up ((hI).1 15) (q_s15 (q_rg_le (L := 0) (U := 1) (q_rg_nb _) (by decide) (by decide)))))
                      refine q_E_L ?_
                      generalize (q_sA s 15 (upd (s.1 15) 4 (vp_nar .boolean 1))) = r118 at j3081 ⊢
                      refine q_E_L ?_
                      generalize p3082 : dz_M205 (q_sA r118 15 (upd (r118.1 15) 0 (vp_nar .boolean 0))) a2 6 = r119
                      cases r119 with
                      | true =>
                        refine q_E_T ?_
                        have j3083 : q_Iv c d w (q_sA r118 15 (upd (r118.1 15) 0 (vp_nar .boolean 0))) := (q_Iv_A (i := 15) j3081 (q_hf_up ((j3081).1 15) (q_s15 (q_rg_le (L := 0) (U := 1) (q_rg_nb _) (by decide) (by decide)))))
                        refine q_E_L ?_
                        generalize (q_sA r118 15 (upd (r118.1 15) 0 (vp_nar .boolean 0))) = r120 at j3083 ⊢
                        exact q_E_x (q_Iv_A (i := 15) j3083 (q_hf_up ((j3083).1 15) (q_s15 (q_rg_le (L := 0) (U := 1) (q_rg_nb _) (by decide) (by decide)))))
                      | false =>
                        refine q_E_F ?_
                        have j3084 : q_Iv c d w (q_sA r118 15 (upd (r118.1 15) 0 (vp_nar .boolean 0))) := (q_Iv_A (i := 15) j3081 (q_hf_up ((j3081).1 15) (q_s15 (q_rg_le (L := 0) (U := 1) (q_rg_nb _) (by decide) (by decide)))))
                        refine q_E_L ?_
                        generalize (q_sA r118 15 (upd (r118.1 15) 0 (vp_nar .boolean 0))) = r121 at j3084 ⊢
                        exact q_E_x (q_Iv_A (i := 15) j3084 (q_hf_up ((j3084).1 15) (q_s15 (q_rg_le (L := 0) (U := 1) (q_rg_nb _) (by decide) (by decide)))))
                  | false =>
                    have g3085 := (q_rg_neL (l := 0) (u := 255) (n := 0) (L := 1) h3074 (q_rg_and1 (q_n0z hI) (by decide)) rfl (by decide) (by decide))
                    refine q_E_F ?_
                    refine q_E_L ?_
                    generalize p3086 : dz_M205 (q_sA s 15 (upd (s.1 15) 4 (vp_nar .boolean 0))) a2 7 = r122
                    cases r122 with
                    | true =>
                      refine q_E_T ?_
                      have j3087 : q_Iv c d w (q_sA s 15 (upd (s.1 15) 4 (vp_nar .boolean 0))) := (q_Iv_A (i := 15) hI (q_hf_up ((hI).1 15) (q_s15 (q_rg_le (L := 0) (U := 1) (q_rg_nb _) (by decide) (by decide)))))
                      refine q_E_L ?_
                      generalize (q_sA s 15 (upd (s.1 15) 4 (vp_nar .boolean 0))) = r123 at j3087 ⊢
                      refine q_E_L ?_
                      generalize p3088 : dz_M205 (q_sA r123 15 (upd (r123.1 15) 0 (vp_nar .boolean 1))) a2 6 = r124
                      cases r124 with
                      | true =>
                        refine q_E_T ?_
                        have j3089 : q_Iv c d w (q_sA r123 15 (upd (r123.1 15) 0 (vp_nar .boolean 1))) := (q_Iv_A (i := 15) j3087 (q_hf_up ((j3087).1 15) (q_s15 (q_rg_le (L := 0) (U := 1) (q_rg_nb _) (by decide) (by decide)))))
                        refine q_E_L ?_
                        generalize (q_sA r123 15 (upd (r123.1 15) 0 (vp_nar .boolean 1))) = r125 at j3089 ⊢
                        exact q_E_x (q_Iv_A (i := 15) j3089 (q_hf_up ((j3089).1 15) (q_s15 (q_rg_le (L := 0) (U := 1) (q_rg_nb _) (by decide) (by decide)))))
                      | false =>
                        refine q_E_F ?_
                        have j3090 : q_Iv c d w (q_sA r123 15 (upd (r123.1 15) 0 (vp_nar .boolean 1))) := (q_Iv_A (i := 15) j3087 (q_hf_up ((j3087).1 15) (q_s15 (q_rg_le (L := 0) (U := 1) (q_rg_nb _) (by decide) (by decide)))))
                        refine q_E_L ?_
                        generalize (q_sA r123 15 (upd (r123.1 15) 0 (vp_nar .boolean 1))) = r126 at j3090 ⊢
                        exact q_E_x (q_Iv_A (i := 15) j3090 (q_hf_up ((j3090).1 15) (q_s15 (q_rg_le (L := 0) (U := 1) (q_rg_nb _) (by decide) (by decide)))))
                    | false =>
                      refine q_E_F ?_
                      have j3091 : q_Iv c d w (q_sA s 15 (upd (s.1 15) 4 (vp_nar .boolean 0))) := (q_Iv_A (i := 15) hI (q_hf_up ((hI).1 15) (q_s15 (q_rg_le (L := 0) (U := 1) (q_rg_nb _) (by decide) (by decide)))))
                      refine q_E_L ?_
                      generalize (q_sA s 15 (upd (s.1 15) 4 (vp_nar .boolean 0))) = r127 at j3091 ⊢
                      refine q_E_L ?_
                      generalize p3092 : dz_M205 (q_sA r127 15 (upd (r127.1 15) 0 (vp_nar .boolean 0))) a2 6 = r128
                      cases r128 with
                      | true =>
                        refine q_E_T ?_
                        have j3093 : q_Iv c d w (q_sA r127 15 (upd (r127.1 15) 0 (vp_nar .boolean 0))) := (q_Iv_A (i := 15) j3091 (q_hf_up ((j3091).1 15) (q_s15 (q_rg_le (L := 0) (U := 1) (q_rg_nb _) (by decide) (by decide)))))
                        refine q_E_L ?_
                        generalize (q_sA r127 15 (upd (r127.1 15) 0 (vp_nar .boolean 0))) = r129 at j3093 ⊢
                        exact q_E_x (q_Iv_A (i := 15) j3093 (q_hf_up ((j3093).1 15) (q_s15 (q_rg_le (L := 0) (U := 1) (q_rg_nb _) (by decide) (by decide)))))
                      | false =>
                        refine q_E_F ?_
                        have j3094 : q_Iv c d w (q_sA r127 15 (upd (r127.1 15) 0 (vp_nar .boolean 0))) := (q_Iv_A (i := 15) j3091 (q_hf_up ((j3091).1 15) (q_s15 (q_rg_le (L := 0) (U := 1) (q_rg_nb _) (by decide) (by decide)))))
                        refine q_E_L ?_
                        generalize (q_sA r127 15 (upd (r127.1 15) 0 (vp_nar .boolean 0))) = r130 at j3094 ⊢
                        exact q_E_x (q_Iv_A (i := 15) j3094 (q_hf_up ((j3094).1 15) (q_s15 (q_rg_le (L := 0) (U := 1) (q_rg_nb _) (by decide) (by decide)))))
                | false =>
                  have g3095 := (q_rg_neL (l := 5) (u := 16) (n := 5) (L := 6) h3072 g3071 rfl (by decide) (by decide))
                  refine q_E_F ?_
                  cases h3096 : decide (a1 = 6) with
                  | true =>
                    have g3097 := q_rg_eqT h3096 (q_rg_lit (n := 6) (x := 6) rfl)
                    refine q_E_T ?_
                    obtain ⟨r131, e3099, j3098⟩ := dzj_M266_64_t c d w (s) hI (a2) (q_rg_le (L := 0) (U := 255) ra2 (by decide) (by decide))
                    rw [e3099]
                    refine q_E_B ?_
                    exact q_E_x j3098
                  | false =>
                    have g3100 := (q_rg_neL (l := 6) (u := 16) (n := 6) (L := 7) h3096 g3095 rfl (by decide) (by decide))
                    refine q_E_F ?_
                    cases h3101 : decide (a1 = 7) with
                    | true =>
                      have g3102 := q_rg_eqT h3101 (q_rg_lit (n := 7) (x := 7) rfl)
                      refine q_E_T ?_
                      obtain ⟨r132, e3104, j3103⟩ := dzj_M266_64_f c d w (s) hI (a2) (q_rg_le (L := 0) (U := 255) ra2 (by decide) (by decide))
                      rw [e3104]
                      refine q_E_B ?_
                      exact q_E_x j3103
                    | false =>
                      have g3105 := (q_rg_neL (l := 7) (u := 16) (n := 7) (L := 8) h3101 g3100 rfl (by decide) (by decide))
                      refine q_E_F ?_
                      cases h3106 : decide (a1 = 8) with
                      | true =>
                        have g3107 := q_rg_eqT h3106 (q_rg_lit (n := 8) (x := 8) rfl)
                        refine q_E_T ?_
                        obtain ⟨r133, e3109, j3108⟩ := dzj_M261_64 c d w (s) hI (0) (((s.1 14) 0) &&& a2) (q_rg_le (L := 0) (U := 2) (q_rg_lit (n := 0) (x := 0) rfl) (by decide) (by decide)) (q_rg_le (L := 0) (U := 255) (q_rg_and1 (q_n0z hI) (by decide)) (by decide) (by decide))
                        rw [e3109]
                        refine q_E_B ?_
                        exact q_E_x j3108
                      | false =>
                        have g3110 := (q_rg_neL (l := 8) (u := 16) (n := 8) (L := 9) h3106 g3105 rfl (by decide) (by decide))
                        refine q_E_F ?_
                        cases h3111 : decide (a1 = 9) with
                        | true =>
                          have g3112 := q_rg_eqT h3111 (q_rg_lit (n := 9) (x := 9) rfl)
                          refine q_E_T ?_
                          obtain ⟨r134, e3114, j3113⟩ := dzj_M261_64 c d w (s) hI (0) (((s.1 14) 0) ||| a2) (q_rg_le (L := 0) (U := 2) (q_rg_lit (n := 0) (x := 0) rfl) (by decide) (by decide)) (q_rg_le (L := 0) (U := 255) (q_rg_or (n := 8) (W := 255) (q_n0z hI) ra2 (by decide) (by decide) (by decide) (by decide) (by decide)) (by decide) (by decide))
                          rw [e3114]
                          refine q_E_B ?_
                          exact q_E_x j3113
                        | false =>
                          have g3115 := (q_rg_neL (l := 9) (u := 16) (n := 9) (L := 10) h3111 g3110 rfl (by decide) (by decide))
                          refine q_E_F ?_
                          cases h3116 : decide (a1 = 10) with
                          | true =>
                            have g3117 := q_rg_eqT h3116 (q_rg_lit (n := 10) (x := 10) rfl)
                            refine q_E_T ?_
                            obtain ⟨r135, e3119, j3118⟩ := dzj_M261_64 c d w (s) hI (0) (((s.1 14) 0) ^^^ a2) (q_rg_le (L := 0) (U := 2) (q_rg_lit (n := 0) (x := 0) rfl) (by decide) (by decide)) (q_rg_le (L := 0) (U := 255) (q_rg_xor (n := 8) (W := 255) (q_n0z hI) ra2 (by decide) (by decide) (by decide) (by decide) (by decide)) (by decide) (by decide))
                            rw [e3119]
                            refine q_E_B ?_
                            exact q_E_x j3118
                          | false =>
                            have g3120 := (q_rg_neL (l := 10) (u := 16) (n := 10) (L := 11) h3116 g3115 rfl (by decide) (by decide))
                            refine q_E_F ?_
                            cases h3121 : decide (a1 = 11) with
                            | true =>
                              have g3122 := q_rg_eqT h3121 (q_rg_lit (n := 11) (x := 11) rfl)
                              refine q_E_T ?_
                              obtain ⟨r136, e3124, j3123⟩ := dzj_M262_64 c d w (s) hI (0) (a2) (q_rg_le (L := 0) (U := 2) (q_rg_lit (n := 0) (x := 0) rfl) (by decide) (by decide)) (q_rg_le (L := 0) (U := 255) ra2 (by decide) (by decide))
                              rw [e3124]
                              refine q_E_B ?_
                              exact q_E_x j3123
                            | false =>
                              have g3125 := (q_rg_neL (l := 11) (u := 16) (n := 11) (L := 12) h3121 g3120 rfl (by decide) (by decide))
                              refine q_E_F ?_
                              cases h3126 : decide (a1 = 12) with
                              | true =>
                                have g3127 := q_rg_eqT h3126 (q_rg_lit (n := 12) (x := 12) rfl)
                                refine q_E_T ?_
                                obtain ⟨r137, e3129, j3128⟩ := dzj_M262_64 c d w (s) hI (1) (a2) (q_rg_le (L := 0) (U := 2) (q_rg_lit (n := 1) (x := 1) rfl) (by decide) (by decide)) (q_rg_le (L := 0) (U := 255) ra2 (by decide) (by decide))
                                rw [e3129]
                                refine q_E_B ?_
                                exact q_E_x j3128
                              | false =>
                                have g3130 := (q_rg_neL (l := 12) (u := 16) (n := 12) (L := 13) h3126 g3125 rfl (by decide) (by decide))
                                refine q_E_F ?_
                                cases h3131 : decide (a1 = 13) with
                                | true =>
                                  have g3132 := q_rg_eqT h3131 (q_rg_lit (n := 13) (x := 13) rfl)
                                  refine q_E_T ?_
                                  obtain ⟨r138, e3134, j3133⟩ := dzj_M262_64 c d w (s) hI (2) (a2) (q_rg_le (L := 0) (U := 2) (q_rg_lit (n := 2) (x := 2) rfl) (by decide) (by decide)) (q_rg_le (L := 0) (U := 255) ra2 (by decide) (by decide))
                                  rw [e3134]
                                  refine q_E_B ?_
                                  exact q_E_x j3133
                                | false =>
                                  have g3135 := (q_rg_neL (l := 13) (u := 16) (n := 13) (L := 14) h3131 g3130 rfl (by decide) (by decide))
                                  refine q_E_F ?_
                                  cases h3136 : decide (a1 = 14) with
                                  | true =>
                                    have g3137 := q_rg_eqT h3136 (q_rg_lit (n := 14) (x := 14) rfl)
                                    refine q_E_T ?_
                                    cases h3138 : decide (((s.1 14) 0) &&& a2 = 0) with
                                    | true =>
                                      have g3139 := q_rg_eqT h3138 (q_rg_lit (n := 0) (x := 0) rfl)
                                      refine q_E_T ?_
                                      refine q_E_L ?_
                                      generalize p3140 : dz_M205 (q_sA s 15 (upd (s.1 15) 4 (vp_nar .boolean 1))) a2 7 = r139
                                      cases r139 with
                                      | true =>
                                        refine q_E_T ?_
                                        have j3141 : q_Iv c d w (q_sA s 15 (upd (s.1 15) 4 (vp_nar .boolean 1))) := (q_Iv_A (i := 15) hI (q_hf_up ((hI).1 15) (q_s15 (q_rg_le (L := 0) (U := 1) (q_rg_nb _) (by decide) (by decide)))))
                                        refine q_E_L ?_
                                        generalize (q_sA s 15 (upd (s.1 15) 4 (vp_nar .boolean 1))) = r140 at j3141 ⊢
                                        refine q_E_L ?_
                                        generalize p3142 : dz_M205 (q_sA r140 15 (upd (r140.1 15) 0 (vp_nar .boolean 1))) a2 6 = r141
                                        cases r141 with
                                        | true =>
                                          refine q_E_T ?_
                                          have j3143 : q_Iv c d w (q_sA r140 15 (upd (r140.1 15) 0 (vp_nar .boolean 1))) := (q_Iv_A (i := 15) j3141 (q_hf_up ((j3141).1 15) (q_s15 (q_rg_le (L := 0) (U := 1) (q_rg_nb _) (by decide) (by decide)))))
                                          refine q_E_L ?_
                                          generalize (q_sA r140 15 (upd (r140.1 15) 0 (vp_nar .boolean 1))) = r142 at j3143 ⊢
                                          exact q_E_x (q_Iv_A (i := 15) j3143 (q_hf_up ((j3143).1 15) (q_s15 (q_rg_le (L := 0) (U := 1) (q_rg_nb _) (by decide) (by decide)))))
                                        | false =>
                                          refine q_E_F ?_
                                          have j3144 : q_Iv c d w (q_sA r140 15 (upd (r140.1 15) 0 (vp_nar .boolean 1))) := (q_Iv_A (i := 15) j3141 (q_hf_up ((j3141).1 15) (q_s15 (q_rg_le (L := 0) (U := 1) (q_rg_nb _) (by decide) (by decide)))))
                                          refine q_E_L ?_
                                          generalize (q_sA r140 15 (upd (r140.1 15) 0 (vp_nar .boolean 1))) = r143 at j3144 ⊢
                                          exact q_E_x (q_Iv_A (i := 15) j3144 (q_hf_up ((j3144).1 15) (q_s15 (q_rg_le (L := 0) (U := 1) (q_rg_nb _) (by decide) (by decide)))))
                                      | false =>
                                        refine q_E_F ?_
                                        have j3145 : q_Iv c d w (q_sA s 15 (upd (s.1 15) 4 (vp_nar .boolean 1))) := (q_Iv_A (i := 15) hI (q_hf_up ((hI).1 15) (q_s15 (q_rg_le (L := 0) (U := 1) (q_rg_nb _) (by decide) (by decide)))))
                                        refine q_E_L ?_
                                        generalize (q_sA s 15 (upd (s.1 15) 4 (vp_nar .boolean 1))) = r144 at j3145 ⊢
                                        refine q_E_L ?_
                                        generalize p3146 : dz_M205 (q_sA r144 15 (upd (r144.1 15) 0 (vp_nar .boolean 0))) a2 6 = r145
                                        cases r145 with
                                        | true =>
                                          refine q_E_T ?_
                                          have j3147 : q_Iv c d w (q_sA r144 15 (upd (r144.1 15) 0 (vp_nar .boolean 0))) := (q_Iv_A (i := 15) j3145 (q_hf_up ((j3145).1 15) (q_s15 (q_rg_le (L := 0) (U := 1) (q_rg_nb _) (by decide) (by decide)))))
                                          refine q_E_L ?_
                                          generalize (q_sA r144 15 (upd (r144.1 15) 0 (vp_nar .boolean 0))) = r146 at j3147 ⊢
                                          exact q_E_x (q_Iv_A (i := 15) j3147 (q_hf_up ((j3147).1 15) (q_s15 (q_rg_le (L := 0) (U := 1) (q_rg_nb _) (by decide) (by decide)))))
                                        | false =>
                                          refine q_E_F ?_
                                          have j3148 : q_Iv c d w (q_sA r144 15 (upd (r144.1 15) 0 (vp_nar .boolean 0))) := (q_Iv_A (i := 15) j3145 (q_hf_up ((j3145).1 15) (q_s15 (q_rg_le (L := 0) (U := 1) (q_rg_nb _) (by decide) (by decide)))))
                                          refine q_E_L ?_
                                          generalize (q_sA r144 15 (upd (r144.1 15) 0 (vp_nar .boolean 0))) = r147 at j3148 ⊢
                                          exact q_E_x (q_Iv_A (i := 15) j3148 (q_hf_up ((j3148).1 15) (q_s15 (q_rg_le (L := 0) (U := 1) (q_rg_nb _) (by decide) (by decide)))))
                                    | false =>
                                      have g3149 := (q_rg_neL (l := 0) (u := 255) (n := 0) (L := 1) h3138 (q_rg_and1 (q_n0z hI) (by decide)) rfl (by decide) (by decide))
                                      refine q_E_F ?_
                                      refine q_E_L ?_
                                      generalize p3150 : dz_M205 (q_sA s 15 (upd (s.1 15) 4 (vp_nar .boolean 0))) a2 7 = r148
                                      cases r148 with
                                      | true =>
                                        refine q_E_T ?_
                                        have j3151 : q_Iv c d w (q_sA s 15 (upd (s.1 15) 4 (vp_nar .boolean 0))) := (q_Iv_A (i := 15) hI (q_hf_up ((hI).1 15) (q_s15 (q_rg_le (L := 0) (U := 1) (q_rg_nb _) (by decide) (by decide)))))
                                        refine q_E_L ?_
                                        generalize (q_sA s 15 (upd (s.1 15) 4 (vp_nar .boolean 0))) = r149 at j3151 ⊢
                                        refine q_E_L ?_
                                        generalize p3152 : dz_M205 (q_sA r149 15 (upd (r149.1 15) 0 (vp_nar .boolean 1))) a2 6 = r150
                                        cases r150 with
                                        | true =>
                                          refine q_E_T ?_
                                          have j3153 : q_Iv c d w (q_sA r149 15 (upd (r149.1 15) 0 (vp_nar .boolean 1))) := (q_Iv_A (i := 15) j3151 (q_hf_up ((j3151).1 15) (q_s15 (q_rg_le (L := 0) (U := 1) (q_rg_nb _) (by decide) (by decide)))))
                                          refine q_E_L ?_
                                          generalize (q_sA r149 15 (upd (r149.1 15) 0 (vp_nar .boolean 1))) = r151 at j3153 ⊢
                                          exact q_E_x (q_Iv_A (i := 15) j3153 (q_hf_up ((j3153).1 15) (q_s15 (q_rg_le (L := 0) (U := 1) (q_rg_nb _) (by decide) (by decide)))))
                                        | false =>
                                          refine q_E_F ?_
                                          have j3154 : q_Iv c d w (q_sA r149 15 (upd (r149.1 15) 0 (vp_nar .boolean 1))) := (q_Iv_A (i := 15) j3151 (q_hf_up ((j3151).1 15) (q_s15 (q_rg_le (L := 0) (U := 1) (q_rg_nb _) (by decide) (by decide)))))
                                          refine q_E_L ?_
                                          generalize (q_sA r149 15 (upd (r149.1 15) 0 (vp_nar .boolean 1))) = r152 at j3154 ⊢
                                          exact q_E_x (q_Iv_A (i := 15) j3154 (q_hf_up ((j3154).1 15) (q_s15 (q_rg_le (L := 0) (U := 1) (q_rg_nb _) (by decide) (by decide)))))
                                      | false =>
                                        refine q_E_F ?_
                                        have j3155 : q_Iv c d w (q_sA s 15 (upd (s.1 15) 4 (vp_nar .boolean 0))) := (q_Iv_A (i := 15) hI (q_hf_up ((hI).1 15) (q_s15 (q_rg_le (L := 0) (U := 1) (q_rg_nb _) (by decide) (by decide)))))
                                        refine q_E_L ?_
                                        generalize (q_sA s 15 (upd (s.1 15) 4 (vp_nar .boolean 0))) = r153 at j3155 ⊢
                                        refine q_E_L ?_
                                        generalize p3156 : dz_M205 (q_sA r153 15 (upd (r153.1 15) 0 (vp_nar .boolean 0))) a2 6 = r154
                                        cases r154 with
                                        | true =>
                                          refine q_E_T ?_
                                          have j3157 : q_Iv c d w (q_sA r153 15 (upd (r153.1 15) 0 (vp_nar .boolean 0))) := (q_Iv_A (i := 15) j3155 (q_hf_up ((j3155).1 15) (q_s15 (q_rg_le (L := 0) (U := 1) (q_rg_nb _) (by decide) (by decide)))))
                                          refine q_E_L ?_
                                          generalize (q_sA r153 15 (upd (r153.1 15) 0 (vp_nar .boolean 0))) = r155 at j3157 ⊢
                                          exact q_E_x (q_Iv_A (i := 15) j3157 (q_hf_up ((j3157).1 15) (q_s15 (q_rg_le (L := 0) (U := 1) (q_rg_nb _) (by decide) (by decide)))))
                                        | false =>
                                          refine q_E_F ?_
                                          have j3158 : q_Iv c d w (q_sA r153 15 (upd (r153.1 15) 0 (vp_nar .boolean 0))) := (q_Iv_A (i := 15) j3155 (q_hf_up ((j3155).1 15) (q_s15 (q_rg_le (L := 0) (U := 1) (q_rg_nb _) (by decide) (by decide)))))
                                          refine q_E_L ?_
                                          generalize (q_sA r153 15 (upd (r153.1 15) 0 (vp_nar .boolean 0))) = r156 at j3158 ⊢
                                          exact q_E_x (q_Iv_A (i := 15) j3158 (q_hf_up ((j3158).1 15) (q_s15 (q_rg_le (L := 0) (U := 1) (q_rg_nb _) (by decide) (by decide)))))
                                  | false =>
                                    have g3159 := (q_rg_neL (l := 14) (u := 16) (n := 14) (L := 15) h3136 g3135 rfl (by decide) (by decide))
                                    refine q_E_F ?_
                                    cases h3160 : decide (a1 = 15) with
                                    | true =>
                                      have g3161 := q_rg_eqT h3160 (q_rg_lit (n := 15) (x := 15) rfl)
                                      refine q_E_T ?_
                                      cases h3162 : decide (((s.1 14) 0) &&& a2 = 0) with
                                      | true =>
                                        have g3163 := q_rg_eqT h3162 (q_rg_lit (n := 0) (x := 0) rfl)
                                        refine q_E_T ?_
                                        refine q_E_L ?_
                                        generalize p3164 : dz_M205 (q_sA s 15 (upd (s.1 15) 4 (vp_nar .boolean 1))) a2 7 = r157
                                        cases r157 with
                                        | true =>
                                          refine q_E_T ?_
                                          have j3165 : q_Iv c d w (q_sA s 15 (upd (s.1 15) 4 (vp_nar .boolean 1))) := (q_Iv_A (i := 15) hI (q_hf_up ((hI).1 15) (q_s15 (q_rg_le (L := 0) (U := 1) (q_rg_nb _) (by decide) (by decide)))))
                                          refine q_E_L ?_
                                          generalize (q_sA s 15 (upd (s.1 15) 4 (vp_nar .boolean 1))) = r158 at j3165 ⊢
                                          refine q_E_L ?_
                                          generalize p3166 : dz_M205 (q_sA r158 15 (upd (r158.1 15) 0 (vp_nar .boolean 1))) a2 6 = r159
                                          cases r159 with
                                          | true =>
                                            refine q_E_T ?_
                                            have j3167 : q_Iv c d w (q_sA r158 15 (upd (r158.1 15) 0 (vp_nar .boolean 1))) := (q_Iv_A (i := 15) j3165 (q_hf_up ((j3165).1 15) (q_s15 (q_rg_le (L := 0) (U := 1) (q_rg_nb _) (by decide) (by decide)))))
                                            refine q_E_L ?_
                                            generalize (q_sA r158 15 (upd (r158.1 15) 0 (vp_nar .boolean 1))) = r160 at j3167 ⊢
                                            exact q_E_x (q_Iv_A (i := 15) j3167 (q_hf_up ((j3167).1 15) (q_s15 (q_rg_le (L := 0) (U := 1) (q_rg_nb _) (by decide) (by decide)))))
                                          | false =>
                                            refine q_E_F ?_
                                            have j3168 : q_Iv c d w (q_sA r158 15 (upd (r158.1 15) 0 (vp_nar .boolean 1))) := (q_Iv_A (i := 15) j3165 (q_hf_up ((j3165).1 15) (q_s15 (q_rg_le (L := 0) (U := 1) (q_rg_nb _) (by decide) (by decide)))))
                                            refine q_E_L ?_
                                            generalize (q_sA r158 15 (upd (r158.1 15) 0 (vp_nar .boolean 1))) = r161 at j3168 ⊢
                                            exact q_E_x (q_Iv_A (i := 15) j3168 (q_hf_up ((j3168).1 15) (q_s15 (q_rg_le (L := 0) (U := 1) (q_rg_nb _) (by decide) (by decide)))))
                                        | false =>
                                          refine q_E_F ?_
                                          have j3169 : q_Iv c d w (q_sA s 15 (upd (s.1 15) 4 (vp_nar .boolean 1))) := (q_Iv_A (i := 15) hI (q_hf_up ((hI).1 15) (q_s15 (q_rg_le (L := 0) (U := 1) (q_rg_nb _) (by decide) (by decide)))))
                                          refine q_E_L ?_
                                          generalize (q_sA s 15 (upd (s.1 15) 4 (vp_nar .boolean 1))) = r162 at j3169 ⊢
                                          refine q_E_L ?_
                                          generalize p3170 : dz_M205 (q_sA r162 15 (upd (r162.1 15) 0 (vp_nar .boolean 0))) a2 6 = r163
                                          cases r163 with
                                          | true =>
                                            refine q_E_T ?_
                                            have j3171 : q_Iv c d w (q_sA r162 15 (upd (r162.1 15) 0 (vp_nar .boolean 0))) := (q_Iv_A (i := 15) j3169 (q_hf_up ((j3169).1 15) (q_s15 (q_rg_le (L := 0) (U := 1) (q_rg_nb _) (by decide) (by decide)))))
                                            refine q_E_L ?_
                                            generalize (q_sA r162 15 (upd (r162.1 15) 0 (vp_nar .boolean 0))) = r164 at j3171 ⊢
                                            exact q_E_x (q_Iv_A (i := 15) j3171 (q_hf_up ((j3171).1 15) (q_s15 (q_rg_le (L := 0) (U := 1) (q_rg_nb _) (by decide) (by decide)))))
                                          | false =>
                                            refine q_E_F ?_
                                            have j3172 : q_Iv c d w (q_sA r162 15 (upd (r162.1 15) 0 (vp_nar .boolean 0))) := (q_Iv_A (i := 15) j3169 (q_hf_up ((j3169).1 15) (q_s15 (q_rg_le (L := 0) (U := 1) (q_rg_nb _) (by decide) (by decide)))))
                                            refine q_E_L ?_
                                            generalize (q_sA r162 15 (upd (r162.1 15) 0 (vp_nar .boolean 0))) = r165 at j3172 ⊢
                                            exact q_E_x (q_Iv_A (i := 15) j3172 (q_hf_up ((j3172).1 15) (q_s15 (q_rg_le (L := 0) (U := 1) (q_rg_nb _) (by decide) (by decide)))))
                                      | false =>
                                        have g3173 := (q_rg_neL (l := 0) (u := 255) (n := 0) (L := 1) h3162 (q_rg_and1 (q_n0z hI) (by decide)) rfl (by decide) (by decide))
                                        refine q_E_F ?_
                                        refine q_E_L ?_
                                        generalize p3174 : dz_M205 (q_sA s 15 (upd (s.1 15) 4 (vp_nar .boolean 0))) a2 7 = r166
                                        cases r166 with
                                        | true =>
                                          refine q_E_T ?_
                                          have j3175 : q_Iv c d w (q_sA s 15 (upd (s.1 15) 4 (vp_nar .boolean 0))) := (q_Iv_A (i := 15) hI (q_hf_up ((hI).1 15) (q_s15 (q_rg_le (L := 0) (U := 1) (q_rg_nb _) (by decide) (by decide)))))
                                          refine q_E_L ?_
                                          generalize (q_sA s 15 (upd (s.1 15) 4 (vp_nar .boolean 0))) = r167 at j3175 ⊢
                                          refine q_E_L ?_
                                          generalize p3176 : dz_M205 (q_sA r167 15 (upd (r167.1 15) 0 (vp_nar .boolean 1))) a2 6 = r168
                                          cases r168 with
                                          | true =>
                                            refine q_E_T ?_
                                            have j3177 : q_Iv c d w (q_sA r167 15 (upd (r167.1 15) 0 (vp_nar .boolean 1))) := (q_Iv_A (i := 15) j3175 (q_hf_up ((j3175).1 15) (q_s15 (q_rg_le (L := 0) (U := 1) (q_rg_nb _) (by decide) (by decide)))))
                                            refine q_E_L ?_
                                            generalize (q_sA r167 15 (upd (r167.1 15) 0 (vp_nar .boolean 1))) = r169 at j3177 ⊢
                                            exact q_E_x (q_Iv_A (i := 15) j3177 (q_hf_up ((j3177).1 15) (q_s15 (q_rg_le (L := 0) (U := 1) (q_rg_nb _) (by decide) (by decide)))))
                                          | false =>
                                            refine q_E_F ?_
                                            have j3178 : q_Iv c d w (q_sA r167 15 (upd (r167.1 15) 0 (vp_nar .boolean 1))) := (q_Iv_A (i := 15) j3175 (q_hf_up ((j3175).1 15) (q_s15 (q_rg_le (L := 0) (U := 1) (q_rg_nb _) (by decide) (by decide)))))
                                            refine q_E_L ?_
                                            generalize (q_sA r167 15 (upd (r167.1 15) 0 (vp_nar .boolean 1))) = r170 at j3178 ⊢
                                            exact q_E_x (q_Iv_A (i := 15) j3178 (q_hf_up ((j3178).1 15) (q_s15 (q_rg_le (L := 0) (U := 1) (q_rg_nb _) (by decide) (by decide)))))
                                        | false =>
                                          refine q_E_F ?_
                                          have j3179 : q_Iv c d w (q_sA s 15 (upd (s.1 15) 4 (vp_nar .boolean 0))) := (q_Iv_A (i := 15) hI (q_hf_up ((hI).1 15) (q_s15 (q_rg_le (L := 0) (U := 1) (q_rg_nb _) (by decide) (by decide)))))
                                          refine q_E_L ?_
                                          generalize (q_sA s 15 (upd (s.1 15) 4 (vp_nar .boolean 0))) = r171 at j3179 ⊢
                                          refine q_E_L ?_
                                          generalize p3180 : dz_M205 (q_sA r171 15 (upd (r171.1 15) 0 (vp_nar .boolean 0))) a2 6 = r172
                                          cases r172 with
                                          | true =>
                                            refine q_E_T ?_
                                            have j3181 : q_Iv c d w (q_sA r171 15 (upd (r171.1 15) 0 (vp_nar .boolean 0))) := (q_Iv_A (i := 15) j3179 (q_hf_up ((j3179).1 15) (q_s15 (q_rg_le (L := 0) (U := 1) (q_rg_nb _) (by decide) (by decide)))))
                                            refine q_E_L ?_
                                            generalize (q_sA r171 15 (upd (r171.1 15) 0 (vp_nar .boolean 0))) = r173 at j3181 ⊢
                                            exact q_E_x (q_Iv_A (i := 15) j3181 (q_hf_up ((j3181).1 15) (q_s15 (q_rg_le (L := 0) (U := 1) (q_rg_nb _) (by decide) (by decide)))))
                                          | false =>
                                            refine q_E_F ?_
                                            have j3182 : q_Iv c d w (q_sA r171 15 (upd (r171.1 15) 0 (vp_nar .boolean 0))) := (q_Iv_A (i := 15) j3179 (q_hf_up ((j3179).1 15) (q_s15 (q_rg_le (L := 0) (U := 1) (q_rg_nb _) (by decide) (by decide)))))
                                            refine q_E_L ?_
                                            generalize (q_sA r171 15 (upd (r171.1 15) 0 (vp_nar .boolean 0))) = r174 at j3182 ⊢
                                            exact q_E_x (q_Iv_A (i := 15) j3182 (q_hf_up ((j3182).1 15) (q_s15 (q_rg_le (L := 0) (U := 1) (q_rg_nb _) (by decide) (by decide)))))
                                    | false =>
                                      have g3183 := (q_rg_neL (l := 15) (u := 16) (n := 15) (L := 16) h3160 g3159 rfl (by decide) (by decide))
                                      refine q_E_F ?_
                                      obtain ⟨r175, e3185, j3184⟩ := dzj_M261_64 c d w (s) hI (0) (a2) (q_rg_le (L := 0) (U := 2) (q_rg_lit (n := 0) (x := 0) rfl) (by decide) (by decide)) (q_rg_le (L := 0) (U := 255) ra2 (by decide) (by decide))
                                      rw [e3185]
                                      refine q_E_B ?_
                                      exact q_E_x (q_Iv_A (i := 14) j3184 (q_hf_up ((j3184).1 14) (q_sn1 (q_rg_le (L := 0) (U := 255) ra2 (by decide) (by decide)))))
set_option maxHeartbeats 4000000 in
theorem dzj_M270_64 (c d w : Int) (s : q_S) (hI : q_Iv c d w s) (a1 : Int32) (a2 : Int32) (a3 : Int32) : q_Ex (dz_M270_64 s a1 a2 a3) (q_Iv c d w) := by
  unfold dz_M270_64
  refine q_E_L ?_
  generalize p3206 : dz_M244 s a1 = r3
  cases r3 with
  | true =>
    refine q_E_T ?_
    cases h3207 : decide (0 < a2) with
    | true =>
      have g3208 := (q_rg_ltT2 (L := 1) (u2 := 2147483647) h3207 (q_rg_lit (n := 0) (x := 0) rfl) (q_rg_full _) (by decide))
      refine q_E_T ?_
      obtain ⟨r4, e3210, j3209⟩ := dzj_M249_64 c d w (s) hI (a2) (a3)
      rw [e3210]
      refine q_E_B ?_
      obtain ⟨r5, e3212, j3211⟩ := dzj_M269_64 c d w (r4.1) j3209.1 (a1) (r4.2) (q_rg_le (L := 0) (U := 4095) j3209.2 (by decide) (by decide))
      rw [e3212]
      refine q_E_B ?_
      exact q_E_x j3211
    | false =>
      have g3213 := (q_rg_ltF2 (l2 := -2147483648) (u := 0) h3207 (q_rg_lit (n := 0) (x := 0) rfl) (q_rg_full _))
      refine q_E_F ?_
      exact q_E_x hI
  | false =>
    refine q_E_F ?_
    cases h3214 : decide (a2 = 0) with
    | true =>
      have g3215 := q_rg_eqT h3214 (q_rg_lit (n := 0) (x := 0) rfl)
      refine q_E_T ?_
      obtain ⟨r6, e3217, j3216⟩ := dzj_M246_64 c d w (s) hI (a3 + 1)
      rw [e3217]
      refine q_E_B ?_
      obtain ⟨r7, e3219, j3218⟩ := dzj_M268_64 c d w (r6.1) j3216.1 (a1) (r6.2) (q_rg_le (L := 0) (U := 255) j3216.2 (by decide) (by decide))
      rw [e3219]
      refine q_E_B ?_
      exact q_E_x j3218
    | false =>
      refine q_E_F ?_
      obtain ⟨r8, e3221, j3220⟩ := dzj_M249_64 c d w (s) hI (a2) (a3)
      rw [e3221]
      refine q_E_B ?_
      obtain ⟨r9, e3223, j3222⟩ := dzj_M267_64 c d w (r8.1) j3220.1 (r8.2) (q_rg_le (L := 0) (U := 4095) j3220.2 (by decide) (by decide))
      rw [e3223]
      refine q_E_B ?_
      obtain ⟨r10, e3225, j3224⟩ := dzj_M268_64 c d w (r9.1) j3222.1 (a1) (r9.2) (q_rg_le (L := 0) (U := 255) j3222.2 (by decide) (by decide))
      rw [e3225]
      refine q_E_B ?_
      exact q_E_x j3224
theorem dzj_M275_64_194 (c d w : Int) (s : q_S) (hI : q_Iv c d w s) (v1 : Int32) (hd : c ≤ 1000000 ∧ d ≤ 1000000) : q_Ex (dz_M275_64_194 s v1) (q_Iv c (d + 1) w) := by
  unfold dz_M275_64_194
  have h : q_rgz 0 d ((s.1 14) 20) := hI.1 14 20
  have h2 := q_rg_rem (c := 16) (U := 15) (b := 16) h (by decide) rfl (by decide) (by decide)
  refine q_E_A (q_in_rg h2 (by decide) (by decide)) (q_E_x ?_)
  have I2 : q_Iv c (d + 1) w s := q_Iv_mono hI (Int.le_refl _) (by omega) (Int.le_refl _)
  refine q_Iv_A (i := 14) (q_Iv_A (i := 9) I2 (q_hf_up (I2.1 9) (q_rg_full _))) (q_hf_up (I2.1 14) ?_)
  show q_rgz 0 (d + 1) (((s.1 14) 20) + 1)
  exact q_rg_le (q_rg_add (L := 1) (U := d + 1) h (q_rg_lit (n := 1) (x := 1) rfl) (by decide) rfl (by decide) (by omega)) (by decide) (Int.le_refl _)

set_option maxHeartbeats 4000000 in
theorem dzj_M275_64 (c d w : Int) (s : q_S) (hI : q_Iv c d w s) (a1 : Int32) (hd : c ≤ 1000000 ∧ d ≤ 1000000) : q_Ex (dz_M275_64 s a1) (q_Iv c (d + 1) w) := by
  unfold dz_M275_64
  obtain ⟨r2, e3303, j3302⟩ := dzj_M246_64 c d w (s) hI (a1)
  rw [e3303]
  refine q_E_B ?_
  have j3304 := dzj_M243 c d w (r2.1) j3302.1 (r2.2)
  refine q_E_L ?_
  generalize dz_M243 r2.1 r2.2 = r3 at j3304 ⊢
  cases h3305 : decide (r3 < 0) with
  | true =>
    have g3306 := (q_rg_ltT1 (l := -2147483648) (U := -1) h3305 (q_rg_full _) (q_rg_lit (n := 0) (x := 0) rfl) (by decide))
    refine q_E_T ?_
    cases h3307 : decide (r2.2 = 154) with
    | true =>
      have g3308 := q_rg_eqT h3307 (q_rg_lit (n := 154) (x := 154) rfl)
      refine q_E_T ?_
      have j3309 := dzj_M212 c d w (r2.1) j3302.1 (a1 + 1)
      refine q_E_L ?_
      generalize dz_M212 r2.1 (a1 + 1) = r4 at j3309 ⊢
      obtain ⟨r5, e3311, j3310⟩ := dzj_M259_64 c d w (r2.1) j3302.1 (3838) (r4) (16) (q_rg_le (L := 0) (U := 4095) j3309 (by decide) (by decide)) (q_rg_le (L := 0) (U := 16) (q_rg_lit (n := 16) (x := 16) rfl) (by decide) (by decide))
      rw [e3311]
      refine q_E_B ?_
      exact dzj_M275_64_194 c d w (r5) j3310 (a1) (by omega)
    | false =>
      refine q_E_F ?_
      cases h3312 : decide (r2.2 = 155) with
      | true =>
        have g3313 := q_rg_eqT h3312 (q_rg_lit (n := 155) (x := 155) rfl)
        refine q_E_T ?_
        obtain ⟨r6, e3315, j3314⟩ := dzj_M255_64 c d w (r2.1) j3302.1
        rw [e3315]
        refine q_E_B ?_
        have j3316 := dzj_M258_64 c d w (r6.1) j3314.1 (r6.2)
        refine q_E_L ?_
        generalize dz_M258_64 r6.1 r6.2 = r7 at j3316 ⊢
        obtain ⟨r8, e3318, j3317⟩ := dzj_M273_64 c d w (r7) j3316 (0)
        rw [e3318]
        refine q_E_B ?_
        exact dzj_M275_64_194 c d w (q_sA r8.1 14 (upd (r8.1.1 14) 4 r8.2)) (q_Iv_A (i := 14) j3317.1 (q_hf_up ((j3317.1).1 14) (q_sn4 (q_rg_le (L := 0) (U := 4095) j3317.2 (by decide) (by decide))))) (a1) (by omega)
      | false =>
        refine q_E_F ?_
        cases h3319 : decide (r2.2 = 156) with
        | true =>
          have g3320 := q_rg_eqT h3319 (q_rg_lit (n := 156) (x := 156) rfl)
          refine q_E_T ?_
          obtain ⟨r9, e3322, j3321⟩ := dzj_M273_64 c d w (r2.1) j3302.1 (1)
          rw [e3322]
          refine q_E_B ?_
          exact dzj_M275_64_194 c d w (q_sA r9.1 14 (upd (r9.1.1 14) 4 r9.2)) (q_Iv_A (i := 14) j3321.1 (q_hf_up ((j3321.1).1 14) (q_sn4 (q_rg_le (L := 0) (U := 4095) j3321.2 (by decide) (by decide))))) (a1) (by omega)
        | false =>
          refine q_E_F ?_
          refine q_E_L ?_
          generalize p3323 : dz_M201 r2.1 r2.2 157 159 = r10
          cases r10 with
          | true =>
            have g3324 : q_rgz 157 159 (r2.2) := ⟨(q_p202 p3323 (q_rg_lit (n := 157) (x := 157) rfl) (q_rg_lit (n := 159) (x := 159) rfl)).1, (q_p202 p3323 (q_rg_lit (n := 157) (x := 157) rfl) (q_rg_lit (n := 159) (x := 159) rfl)).2⟩
            refine q_E_T ?_
            obtain ⟨r11, e3326, j3325⟩ := dzj_M274_64 c d w (r2.1) j3302.1 (r2.2) (a1)
            rw [e3326]
            refine q_E_B ?_
            exact dzj_M275_64_194 c d w (r11) j3325 (a1) (by omega)
          | false =>
            refine q_E_F ?_
            refine q_E_L ?_
            generalize p3327 : dz_M201 r2.1 r2.2 160 167 = r12
            cases r12 with
            | true =>
              have g3328 : q_rgz 160 167 (r2.2) := ⟨(q_p202 p3327 (q_rg_lit (n := 160) (x := 160) rfl) (q_rg_lit (n := 167) (x := 167) rfl)).1, (q_p202 p3327 (q_rg_lit (n := 160) (x := 160) rfl) (q_rg_lit (n := 167) (x := 167) rfl)).2⟩
              refine q_E_T ?_
              refine q_E_L ?_
              generalize p3329 : dz_M251_64 r2.1 r2.2 = r13
              cases r13 with
              | true =>
                refine q_E_T ?_
                obtain ⟨r14, e3331, j3330⟩ := dzj_M252_64 c d w (r2.1) j3302.1 (a1)
                rw [e3331]
                refine q_E_B ?_
                exact dzj_M275_64_194 c d w (q_sA r14.1 14 (upd (r14.1.1 14) 4 r14.2)) (q_Iv_A (i := 14) j3330.1 (q_hf_up ((j3330.1).1 14) (q_sn4 (q_rg_le (L := 0) (U := 4095) j3330.2 (by decide) (by decide))))) (a1) (by omega)
              | false =>
                refine q_E_F ?_
                have j3332 := dzj_M212 c d w (r2.1) j3302.1 (a1 + 2)
                refine q_E_L ?_
                generalize dz_M212 r2.1 (a1 + 2) = r15 at j3332 ⊢
                exact dzj_M275_64_194 c d w (q_sA r2.1 14 (upd (r2.1.1 14) 4 r15)) (q_Iv_A (i := 14) j3302.1 (q_hf_up ((j3302.1).1 14) (q_sn4 (q_rg_le (L := 0) (U := 4095) j3332 (by decide) (by decide))))) (a1) (by omega)
            | false =>
              refine q_E_F ?_
              obtain ⟨r16, e3334, j3333⟩ := dzj_M272_64 c d w (r2.1) j3302.1 (r2.2) (a1)
              rw [e3334]
              refine q_E_B ?_
              exact dzj_M275_64_194 c d w (r16) j3333 (a1) (by omega)
  | false =>
    have g3335 := (q_rg_ltF1 (l2 := 0) (u := 2147483647) h3305 (q_rg_full _) (q_rg_lit (n := 0) (x := 0) rfl))
    refine q_E_F ?_
    have j3336 := dzj_M245 c d w (r2.1) j3302.1 (r2.2)
    refine q_E_L ?_
    generalize dz_M245 r2.1 r2.2 = r17 at j3336 ⊢
    obtain ⟨r18, e3338, j3337⟩ := dzj_M270_64 c d w (r2.1) j3302.1 (r3) (r2.2 - r2.2 / 8 * 8) (a1)
    rw [e3338]
    refine q_E_B ?_
    have j3339 := dzj_M212 c d w (r18) j3337 (a1 + r17)
    refine q_E_L ?_
    generalize dz_M212 r18 (a1 + r17) = r19 at j3339 ⊢
    exact dzj_M275_64_194 c d w (q_sA r18 14 (upd (r18.1 14) 4 r19)) (q_Iv_A (i := 14) j3337 (q_hf_up ((j3337).1 14) (q_sn4 (q_rg_le (L := 0) (U := 4095) j3339 (by decide) (by decide))))) (a1) (by omega)
set_option maxHeartbeats 4000000 in
theorem dzj_M277_64_25 (c d w : Int) (s : q_S) (hI : q_Iv c d w s) (hd : c ≤ 1000000 ∧ d ≤ 1000000) : q_Ex (dz_M277_64_25 s) (q_Iv c (d + 1) w) := by
  unfold dz_M277_64_25
  cases h3347 : decide (0 < (upd (s.1 14) 17 (((s.1 14) 17) - 1)) 17) with
  | true =>
    have g3348 := (q_rg_ltT2 (L := 1) (u2 := 2147483647) h3347 (q_rg_lit (n := 0) (x := 0) rfl) (q_rg_full _) (by decide))
    refine q_E_T ?_
    exact q_E_x (q_Iv_mono (q_Iv_A (i := 14) hI (q_hf_up ((hI).1 14) (q_sn17 (q_rg_full _)))) (by omega) (by omega) (by omega))
  | false =>
    have g3349 := (q_rg_ltF2 (l2 := -2147483648) (u := 0) h3347 (q_rg_lit (n := 0) (x := 0) rfl) (q_rg_full _))
    refine q_E_F ?_
    have j3350 : q_Iv c d w (q_sA s 14 (upd (s.1 14) 17 (((s.1 14) 17) - 1))) := (q_Iv_A (i := 14) hI (q_hf_up ((hI).1 14) (q_sn17 (q_rg_full _))))
    refine q_E_L ?_
    generalize (q_sA s 14 (upd (s.1 14) 17 (((s.1 14) 17) - 1))) = r3 at j3350 ⊢
    cases h3351 : decide (0 < (upd (r3.1 14) 19 (((upd (s.1 14) 17 (((s.1 14) 17) - 1)) 19) + 1)) 18) with
    | true =>
      have g3352 := (q_rg_ltT2 (L := 1) (u2 := 4095) h3351 (q_rg_lit (n := 0) (x := 0) rfl) (q_up_ne (i := 19) (j := 18) (by decide) (q_n18 j3350)) (by decide))
      refine q_E_T ?_
      obtain ⟨r4, e3354, j3353⟩ := dzj_M259_64 c d w (q_sA r3 14 (upd (r3.1 14) 19 (((upd (s.1 14) 17 (((s.1 14) 17) - 1)) 19) + 1))) (q_Iv_A (i := 14) j3350 (q_hf_up ((j3350).1 14) (q_sn19 (q_rg_full _)))) ((upd (r3.1 14) 19 (((upd (s.1 14) 17 (((s.1 14) 17) - 1)) 19) + 1)) 18) ((upd (r3.1 14) 19 (((upd (s.1 14) 17 (((s.1 14) 17) - 1)) 19) + 1)) 4) (0) (q_rg_le (L := 0) (U := 4095) (q_up_ne (i := 19) (j := 4) (by decide) (q_n4 j3350)) (by decide) (by decide)) (q_rg_le (L := 0) (U := 16) (q_rg_lit (n := 0) (x := 0) rfl) (by decide) (by decide))
      rw [e3354]
      refine q_E_B ?_
      exact q_E_x (q_Iv_mono j3353 (by omega) (by omega) (by omega))
    | false =>
      have g3355 := (q_rg_ltF2 (l2 := 0) (u := 0) h3351 (q_rg_lit (n := 0) (x := 0) rfl) (q_up_ne (i := 19) (j := 18) (by decide) (q_n18 j3350)))
      refine q_E_F ?_
      obtain ⟨r5, e3357, j3356⟩ := dzj_M275_64 c d w (q_sA r3 14 (upd (r3.1 14) 19 (((upd (s.1 14) 17 (((s.1 14) 17) - 1)) 19) + 1))) (q_Iv_A (i := 14) j3350 (q_hf_up ((j3350).1 14) (q_sn19 (q_rg_full _)))) ((upd (r3.1 14) 19 (((upd (s.1 14) 17 (((s.1 14) 17) - 1)) 19) + 1)) 4) (by omega)
      rw [e3357]
      refine q_E_B ?_
      exact q_E_x j3356
set_option maxHeartbeats 4000000 in
theorem dzj_M277_64 (c d w : Int) (s : q_S) (hI : q_Iv c d w s) (hd : c ≤ 1000000 ∧ d ≤ 1000000) : q_Ex (dz_M277_64 s) (q_Iv c (d + 1) w) := by
  unfold dz_M277_64
  cases h3358 : decide ((s.1 15) 7 = 0) with
  | true =>
    have g3359 := q_rg_eqT h3358 (q_rg_lit (n := 0) (x := 0) rfl)
    refine q_E_T ?_
    cases h3360 : decide ((s.1 14) 17 = 0) with
    | true =>
      have g3361 := q_rg_eqT h3360 (q_rg_lit (n := 0) (x := 0) rfl)
      refine q_E_T ?_
      obtain ⟨r2, e3363, j3362⟩ := dzj_M276_64 c d w (s) hI
      rw [e3363]
      refine q_E_B ?_
      exact dzj_M277_64_25 c d w (r2) j3362 (by omega)
    | false =>
      refine q_E_F ?_
      exact dzj_M277_64_25 c d w (s) hI (by omega)
  | false =>
    have g3364 := (q_rg_neL (l := 0) (u := 1) (n := 0) (L := 1) h3358 (q_r15 hI 7) rfl (by decide) (by decide))
    refine q_E_F ?_
    exact q_E_x (q_Iv_mono hI (by omega) (by omega) (by omega))
theorem q_J1 {c d w : Int} {s : q_S} {v : Int64} (hI : q_Iv c d w s) (hc : c ≤ 1000000) (hv : v.toInt = 0 ∨ v.toInt = 1) : q_Iv (c + 1) d w (q_sJ (q_sJ s 0 16 ((s.2.2 0 16) + v)) 0 15 ((s.2.2 0 15) + 1)) := by
  have I2 : q_Iv (c + 1) d w s := q_Iv_mono hI (by omega) (Int.le_refl _) (Int.le_refl _)
  have k (x u : Int64) (hx : q_rgL 0 c x) (hu : u.toInt = 0 ∨ u.toInt = 1) : q_rgL 0 (c + 1) (x + u) := by
    have a := hx.1
    have b := hx.2
    have e : (x + u).toInt = x.toInt + u.toInt := by
      rw [Int64.toInt_add]
      exact Int.bmod_eq_of_le (by omega) (by omega)
    unfold q_rgL
    rw [e]
    omega
  exact q_Iv_J (q_Iv_J I2 (k _ _ (hI.2.2 0 16 rfl) hv)) (k _ _ (hI.2.2 0 15 rfl) (Or.inr rfl))
theorem dzj_M234_64_117 (c d w : Int) (s : q_S) (hI : q_Iv c d w s) (v2 : Int32) (rv2 : q_rgz 0 1 v2) (hd : c ≤ 1000000 ∧ d ≤ 1000001) : q_Ex (dz_M234_64_117 s v2) (fun x => q_Iv (c + 1) d w x.1) := by
  unfold dz_M234_64_117
  have z := q_z1_rg rv2
  cases decide (v2 = 0) with
  | true => exact q_E_T (q_E_A z (q_E_x (q_J1 hI hd.1 (Or.inl rfl))))
  | false => exact q_E_F (q_E_A z (q_E_x (q_J1 hI hd.1 (Or.inr rfl))))

set_option maxHeartbeats 4000000 in
theorem dzj_M234_64_109 (c d w : Int) (s : q_S) (hI : q_Iv c d w s) (v2 : Int32) (rv2 : q_rgz 0 1 v2) (hd : c ≤ 1000000 ∧ d ≤ 1000000) : q_Ex (dz_M234_64_109 s v2) (fun (x : q_S × Bool) => q_Iv (c + 1) (d + 1) w x.1) := by
  unfold dz_M234_64_109
  cases h3514 : decide (v2 = 0) with
  | true =>
    have g3515 := q_rg_eqT h3514 (q_rg_lit (n := 0) (x := 0) rfl)
    refine q_E_T ?_
    obtain ⟨r13, e3517, j3516⟩ := dzj_M277_64 c d w (s) hI (by omega)
    rw [e3517]
    refine q_E_B ?_
    exact dzj_M234_64_117 c (d + 1) w (r13) j3516 (v2) (q_rg_le (L := 0) (U := 1) g3515 (by decide) (by decide)) (by omega)
  | false =>
    have g3518 := (q_rg_neL (l := 0) (u := 1) (n := 0) (L := 1) h3514 rv2 rfl (by decide) (by decide))
    refine q_E_F ?_
    exact q_E_to (dzj_M234_64_117 c d w (s) hI (v2) (q_rg_le (L := 0) (U := 1) g3518 (by decide) (by decide)) (by omega)) (fun x hx => (q_Iv_mono hx (by omega) (by omega) (by omega)))
set_option maxHeartbeats 4000000 in
theorem dzj_M234_64_91 (c d w : Int) (s : q_S) (hI : q_Iv c d w s) (v1 : Int32) (v2 : Int32) (rv1 : q_rgz 0 23 v1) (rv2 : q_rgz 0 1 v2) (hd : c ≤ 1000000 ∧ d ≤ 1000000) : q_Ex (dz_M234_64_91 s v1 v2) (fun (x : q_S × Bool) => q_Iv (c + 1) (d + 1) w x.1) := by
  unfold dz_M234_64_91
  obtain ⟨r10, e3520, j3519⟩ := dzj_M229_64 c d w (s) hI
  rw [e3520]
  refine q_E_B ?_
  obtain ⟨r11, e3522, j3521⟩ := dzj_M230_64 c d w (r10) j3519
  rw [e3522]
  refine q_E_B ?_
  cases h3523 : decide (v1 = 23) with
  | true =>
    have g3524 := q_rg_eqT h3523 (q_rg_lit (n := 23) (x := 23) rfl)
    refine q_E_T ?_
    obtain ⟨r12, e3526, j3525⟩ := dzj_M233_64 c d w (r11) j3521
    rw [e3526]
    refine q_E_B ?_
    exact dzj_M234_64_109 c d w (r12) j3525 (v2) (q_rg_le (L := 0) (U := 1) rv2 (by decide) (by decide)) (by omega)
  | false =>
    have g3527 := (q_rg_neU (l := 0) (u := 23) (n := 23) (U := 22) h3523 rv1 rfl (by decide) (by decide))
    refine q_E_F ?_
    exact dzj_M234_64_109 c d w (r11) j3521 (v2) (q_rg_le (L := 0) (U := 1) rv2 (by decide) (by decide)) (by omega)
set_option maxHeartbeats 4000000 in
theorem dzj_M234_64_39 (c d w : Int) (s : q_S) (hI : q_Iv c d w s) (v1 : Int32) (rv1 : q_rgz 0 23 v1) (hd : c ≤ 1000000 ∧ d ≤ 1000000) : q_Ex (dz_M234_64_39 s v1) (fun (x : q_S × Bool) => q_Iv (c + 1) (d + 1) w x.1) := by
  unfold dz_M234_64_39
  obtain ⟨r4, e3529, j3528⟩ := dzj_M224_64 c d w (s) hI
  rw [e3529]
  refine q_E_B ?_
  cases h3530 : r4 with
  | true =>
    refine q_E_T ?_
    have j3531 := dzj_M221_64 c d w (s) hI
    refine q_E_L ?_
    generalize dz_M221_64 s = r5 at j3531 ⊢
    refine q_E_L ?_
    generalize p3532 : dz_M201 s r5 0 31 = r6
    cases r6 with
    | true =>
      have g3533 : q_rgz 0 31 (r5) := ⟨(q_p202 p3532 (q_rg_lit (n := 0) (x := 0) rfl) (q_rg_lit (n := 31) (x := 31) rfl)).1, (q_p202 p3532 (q_rg_lit (n := 0) (x := 0) rfl) (q_rg_lit (n := 31) (x := 31) rfl)).2⟩
      refine q_E_T ?_
      refine q_E_L ?_
      generalize p3534 : dz_M201 s v1 4 19 = r7
      cases r7 with
      | true =>
        have g3535 : q_rgz 4 19 (v1) := ⟨(q_p202 p3534 (q_rg_lit (n := 4) (x := 4) rfl) (q_rg_lit (n := 19) (x := 19) rfl)).1, (q_p202 p3534 (q_rg_lit (n := 4) (x := 4) rfl) (q_rg_lit (n := 19) (x := 19) rfl)).2⟩
        refine q_E_T ?_
        obtain ⟨r8, e3537, j3536⟩ := dzj_M227_64 c d w (s) hI ((2 * v1) - 8) (r5) (q_rg_le (L := 0) (U := 31) (q_rg_sub (L := 0) (U := 30) (q_rg_mul (L := 8) (U := 38) (q_rg_lit (n := 2) (x := 2) rfl) g3535 (by decide) (by decide) (by decide) (by decide) (by decide) (by decide)) (q_rg_lit (n := 8) (x := 8) rfl) (by decide) (by decide) (by decide) (by decide)) (by decide) (by decide)) (q_rg_le (L := 0) (U := 31) g3533 (by decide) (by decide))
        rw [e3537]
        refine q_E_B ?_
        obtain ⟨r9, e3539, j3538⟩ := dzj_M227_64 c d w (r8) j3536 ((2 * v1) - 7) (r5) (q_rg_le (L := 0) (U := 31) (q_rg_sub (L := 1) (U := 31) (q_rg_mul (L := 8) (U := 38) (q_rg_lit (n := 2) (x := 2) rfl) g3535 (by decide) (by decide) (by decide) (by decide) (by decide) (by decide)) (q_rg_lit (n := 7) (x := 7) rfl) (by decide) (by decide) (by decide) (by decide)) (by decide) (by decide)) (q_rg_le (L := 0) (U := 31) g3533 (by decide) (by decide))
        rw [e3539]
        refine q_E_B ?_
        exact dzj_M234_64_91 c d w (r9) j3538 (v1) (1) (q_rg_le (L := 0) (U := 23) g3535 (by decide) (by decide)) (q_rg_le (L := 0) (U := 1) (q_rg_lit (n := 1) (x := 1) rfl) (by decide) (by decide)) (by omega)
      | false =>
        refine q_E_F ?_
        exact dzj_M234_64_91 c d w (s) hI (v1) (1) (q_rg_le (L := 0) (U := 23) rv1 (by decide) (by decide)) (q_rg_le (L := 0) (U := 1) (q_rg_lit (n := 1) (x := 1) rfl) (by decide) (by decide)) (by omega)
    | false =>
      refine q_E_F ?_
      exact dzj_M234_64_91 c d w (s) hI (v1) (1) (q_rg_le (L := 0) (U := 23) rv1 (by decide) (by decide)) (q_rg_le (L := 0) (U := 1) (q_rg_lit (n := 1) (x := 1) rfl) (by decide) (by decide)) (by omega)
  | false =>
    refine q_E_F ?_
    have j3540 := dzj_M221_64 c d w (s) hI
    refine q_E_L ?_
    generalize dz_M221_64 s = r14 at j3540 ⊢
    refine q_E_L ?_
    generalize p3541 : dz_M201 s r14 0 31 = r15
    cases r15 with
    | true =>
      have g3542 : q_rgz 0 31 (r14) := ⟨(q_p202 p3541 (q_rg_lit (n := 0) (x := 0) rfl) (q_rg_lit (n := 31) (x := 31) rfl)).1, (q_p202 p3541 (q_rg_lit (n := 0) (x := 0) rfl) (q_rg_lit (n := 31) (x := 31) rfl)).2⟩
      refine q_E_T ?_
      refine q_E_L ?_
      generalize p3543 : dz_M201 s v1 4 19 = r16
      cases r16 with
      | true =>
        have g3544 : q_rgz 4 19 (v1) := ⟨(q_p202 p3543 (q_rg_lit (n := 4) (x := 4) rfl) (q_rg_lit (n := 19) (x := 19) rfl)).1, (q_p202 p3543 (q_rg_lit (n := 4) (x := 4) rfl) (q_rg_lit (n := 19) (x := 19) rfl)).2⟩
        refine q_E_T ?_
        obtain ⟨r17, e3546, j3545⟩ := dzj_M227_64 c d w (s) hI ((2 * v1) - 8) (r14) (q_rg_le (L := 0) (U := 31) (q_rg_sub (L := 0) (U := 30) (q_rg_mul (L := 8) (U := 38) (q_rg_lit (n := 2) (x := 2) rfl) g3544 (by decide) (by decide) (by decide) (by decide) (by decide) (by decide)) (q_rg_lit (n := 8) (x := 8) rfl) (by decide) (by decide) (by decide) (by decide)) (by decide) (by decide)) (q_rg_le (L := 0) (U := 31) g3542 (by decide) (by decide))
        rw [e3546]
        refine q_E_B ?_
        obtain ⟨r18, e3548, j3547⟩ := dzj_M227_64 c d w (r17) j3545 ((2 * v1) - 7) (r14) (q_rg_le (L := 0) (U := 31) (q_rg_sub (L := 1) (U := 31) (q_rg_mul (L := 8) (U := 38) (q_rg_lit (n := 2) (x := 2) rfl) g3544 (by decide) (by decide) (by decide) (by decide) (by decide) (by decide)) (q_rg_lit (n := 7) (x := 7) rfl) (by decide) (by decide) (by decide) (by decide)) (by decide) (by decide)) (q_rg_le (L := 0) (U := 31) g3542 (by decide) (by decide))
        rw [e3548]
        refine q_E_B ?_
        exact dzj_M234_64_91 c d w (r18) j3547 (v1) (0) (q_rg_le (L := 0) (U := 23) g3544 (by decide) (by decide)) (q_rg_le (L := 0) (U := 1) (q_rg_lit (n := 0) (x := 0) rfl) (by decide) (by decide)) (by omega)
      | false =>
        refine q_E_F ?_
        exact dzj_M234_64_91 c d w (s) hI (v1) (0) (q_rg_le (L := 0) (U := 23) rv1 (by decide) (by decide)) (q_rg_le (L := 0) (U := 1) (q_rg_lit (n := 0) (x := 0) rfl) (by decide) (by decide)) (by omega)
    | false =>
      refine q_E_F ?_
      exact dzj_M234_64_91 c d w (s) hI (v1) (0) (q_rg_le (L := 0) (U := 23) rv1 (by decide) (by decide)) (q_rg_le (L := 0) (U := 1) (q_rg_lit (n := 0) (x := 0) rfl) (by decide) (by decide)) (by omega)
set_option maxHeartbeats 4000000 in
theorem dzj_M234_64 (c d w : Int) (s : q_S) (hI : q_Iv c d w s) (hd : c ≤ 1000000 ∧ d ≤ 1000000) : q_Ex (dz_M234_64 s) (fun (x : q_S × Bool) => q_Iv (c + 1) (d + 1) w x.1) := by
  unfold dz_M234_64
  cases h3549 : decide (((s.2.2 0 15) - (s.2.2 0 15) / 24 * 24).toInt32 = 0) with
  | true =>
    have g3550 := q_rg_eqT h3549 (q_rg_lit (n := 0) (x := 0) rfl)
    refine q_E_T ?_
    have j3551 := dzj_M206_64 c d w (s) hI
    refine q_E_L ?_
    generalize dz_M206_64 s = r3 at j3551 ⊢
    cases h3552 : decide (r3 = (s.1 4) 9) with
    | true =>
      refine q_E_T ?_
      exact dzj_M234_64_39 c d w (q_sA s 14 (upd (s.1 14) 9 (((s.1 14) 9) ||| 1))) (q_Iv_A (i := 14) hI (q_hf_up ((hI).1 14) (q_sn9 (q_rg_le (L := 0) (U := 15) (q_rg_or (n := 4) (W := 15) (q_n9 hI) (q_rg_lit (n := 1) (x := 1) rfl) (by decide) (by decide) (by decide) (by decide) (by decide)) (by decide) (by decide))))) (((s.2.2 0 15) - (s.2.2 0 15) / 24 * 24).toInt32) (q_rg_le (L := 0) (U := 23) g3550 (by decide) (by decide)) (by omega)
    | false =>
      refine q_E_F ?_
      exact dzj_M234_64_39 c d w (s) hI (((s.2.2 0 15) - (s.2.2 0 15) / 24 * 24).toInt32) (q_rg_le (L := 0) (U := 23) g3550 (by decide) (by decide)) (by omega)
  | false =>
    have g3553 := (q_rg_neL (l := 0) (u := 23) (n := 0) (L := 1) h3549 (q_rg_cyc (n := 24) (hI) (by decide) (by decide)) rfl (by decide) (by decide))
    refine q_E_F ?_
    exact dzj_M234_64_39 c d w (s) hI (((s.2.2 0 15) - (s.2.2 0 15) / 24 * 24).toInt32) (q_rg_le (L := 0) (U := 23) g3553 (by decide) (by decide)) (by omega)
theorem dzj_M235_64_29 (C D w : Int) (hC : C + 1000 ≤ 1000000 ∧ D + 1000 ≤ 1000000) : ∀ (m : Nat) (s : q_S) (v1 v2 v3 : Int32) (hI : q_Iv (C + v3.toInt) (D + v3.toInt) w s) (r1 : q_rgz 0 1000 v1) (r3 : q_rgz 0 v1.toInt v3), ((v1.toInt - v3.toInt).toNat : Int) ≤ (m : Int) → q_Ex (dz_M235_64_29 (m + 1) s v1 v2 v3) (fun x => q_Iv (C + 1000) (D + 1000) w x.1) := by
  have leaf : ∀ (s : q_S) (v1 v2 v3 : Int32) (hI : q_Iv (C + v3.toInt) (D + v3.toInt) w s) (r1 : q_rgz 0 1000 v1) (r3 : q_rgz 0 v1.toInt v3), q_Ex (q_let (dz_M204_64 s) fun r1232 => some (r1232, v2)) (fun x => q_Iv (C + 1000) (D + 1000) w x.1) := by
    intro s v1 v2 v3 hI r1 r3
    have a := r1.2
    have b := r3.2
    refine q_E_L (q_E_x ?_)
    exact q_Iv_mono (dzj_M204_64 _ _ w s hI) (by omega) (by omega) (Int.le_refl _)
  intro m
  induction m with
  | zero =>
    intro s v1 v2 v3 hI r1 r3 hm
    rw [dzs_M235_64_29]
    dsimp only
    have a1 := r3.2
    have e : decide (v3 < v1) = false := decide_eq_false (fun z => by have := Int32.lt_iff_toInt_lt.mp z; omega)
    rw [e]
    exact q_E_F (leaf s v1 v2 v3 hI r1 r3)
  | succ m ih =>
    intro s v1 v2 v3 hI r1 r3 hm
    rw [dzs_M235_64_29]
    dsimp only
    have a1 := r3.1
    have a2 := r3.2
    have a3 := r1.2
    cases h : decide (v3 < v1) with
    | false => exact q_E_F (leaf s v1 v2 v3 hI r1 r3)
    | true =>
      refine q_E_T ?_
      have e1 : v3.toInt < v1.toInt := Int32.lt_iff_toInt_lt.mp (of_decide_eq_true h)
      have e3 : (v3 + 1).toInt = v3.toInt + 1 := q_add9 (c := 1) (by show _ ≤ v3.toInt + 1; omega) (by show v3.toInt + 1 ≤ _; omega)
      obtain ⟨r, er, hr⟩ := dzj_M234_64 _ _ w s hI (by omega)
      rw [er]
      refine q_E_B ?_
      have hr2 : q_Iv (C + (v3 + 1).toInt) (D + (v3 + 1).toInt) w r.1 := q_Iv_mono hr (by omega) (by omega) (Int.le_refl _)
      cases h9 : r.2 with
      | true => exact q_E_T (ih _ _ _ _ hr2 r1 ⟨by omega, by omega⟩ (by omega))
      | false => exact q_E_F (ih _ _ _ _ hr2 r1 ⟨by omega, by omega⟩ (by omega))
theorem dzj_M235_64 (c d w : Int) (hC : c + 1000 ≤ 1000000 ∧ d + 1000 ≤ 1000000) (s : q_S) (hI : q_Iv c d w s) (a1 : Int32) : q_Ex (dz_M235_64 s a1) (fun x => q_Iv (c + 1000) (d + 1000) w x.1) := by
  unfold dz_M235_64
  refine q_E_L ?_
  generalize p1 : dz_M201 s a1 1 1000 = r
  have z0 : (0 : Int32).toInt = 0 := rfl
  cases r with
  | true =>
    have g := q_p202 p1 (q_rg_lit (n := 1) rfl) (q_rg_lit (n := 1000) rfl)
    have g1 := g.1
    refine q_E_T (q_E_L ?_)
    have j := q_fails s 0 hI
    generalize dz_M199_64 s 0 = r at j ⊢
    cases h : r.2 with
    | true => exact (q_failsT j h (q_rg_lit (n := 0) rfl) (by decide)).elim
    | false =>
      refine q_E_F ?_
      exact dzj_M235_64_29 c d w hC 4999 r.1 a1 0 0 (by rw [z0, Int.add_zero, Int.add_zero]; exact j.1) (q_rg_le g (by decide) (by decide)) ⟨by omega, by omega⟩ (by have := g.2; omega)
  | false =>
    refine q_E_F (q_E_L ?_)
    have j := q_fails s 1 hI
    generalize dz_M199_64 s 1 = r at j ⊢
    cases h : r.2 with
    | true => exact q_E_T (q_E_x (q_Iv_mono j.1 (by omega) (by omega) (Int.le_refl _)))
    | false => exact (q_failsF j h (q_rg_lit (n := 1) rfl) (by decide)).elim

theorem dzj_M236_64_34 (C D w : Int) (hC : C + 1000 ≤ 1000000 ∧ D + 1000 ≤ 1000000) : ∀ (m : Nat) (s : q_S) (v1 v2 : Int32) (hI : q_Iv (C + v2.toInt) (D + v2.toInt) w s) (r2 : q_rgz 0 200 v2), ((200 - v2.toInt).toNat : Int) ≤ (m : Int) → q_Ex (dz_M236_64_34 (m + 1) s v1 v2) (fun x => q_Iv (C + 200) (D + 200) w x.1) := by
  have leaf : ∀ (s : q_S) (v2 : Int32) (hI : q_Iv (C + v2.toInt) (D + v2.toInt) w s) (r2 : q_rgz 0 200 v2), q_Ex (q_let (dz_M204_64 s) fun r1232 => some (r1232, v2)) (fun x => q_Iv (C + 200) (D + 200) w x.1) := by
    intro s v2 hI r2
    have b := r2.2
    refine q_E_L (q_E_x ?_)
    exact q_Iv_mono (dzj_M204_64 _ _ w s hI) (by omega) (by omega) (Int.le_refl _)
  have k2 : (200 : Int32).toInt = 200 := rfl
  intro m
  induction m with
  | zero =>
    intro s v1 v2 hI r2 hm
    rw [dzs_M236_64_34]
    dsimp only
    have a1 := r2.2
    have e : decide (v2 < 200) = false := decide_eq_false (fun z => by have := Int32.lt_iff_toInt_lt.mp z; omega)
    rw [e]
    exact q_E_F (leaf s v2 hI r2)
  | succ m ih =>
    intro s v1 v2 hI r2 hm
    rw [dzs_M236_64_34]
    dsimp only
    have a1 := r2.1
    have a2 := r2.2
    cases h : decide (v2 < 200) with
    | false => exact q_E_F (leaf s v2 hI r2)
    | true =>
      refine q_E_T ?_
      have e1 : v2.toInt < 200 := Int32.lt_iff_toInt_lt.mp (of_decide_eq_true h)
      have e3 : (v2 + 1).toInt = v2.toInt + 1 := q_add9 (c := 1) (by show _ ≤ v2.toInt + 1; omega) (by show v2.toInt + 1 ≤ _; omega)
      cases h8 : decide ((s.1 14) 19 = v1) with
      | false => exact q_E_F (leaf s v2 hI r2)
      | true =>
        refine q_E_T ?_
        obtain ⟨r, er, hr⟩ := dzj_M234_64 _ _ w s hI (by omega)
        rw [er]
        refine q_E_B ?_
        have hr2 : q_Iv (C + (v2 + 1).toInt) (D + (v2 + 1).toInt) w r.1 := q_Iv_mono hr (by omega) (by omega) (Int.le_refl _)
        cases h9 : r.2 with
        | true => exact q_E_T (ih _ _ _ hr2 ⟨by omega, by omega⟩ (by omega))
        | false => exact q_E_F (ih _ _ _ hr2 ⟨by omega, by omega⟩ (by omega))
theorem dzj_M236_64 (c d w : Int) (hC : c + 1000 ≤ 1000000 ∧ d + 1000 ≤ 1000000) (s : q_S) (hI : q_Iv c d w s) : q_Ex (dz_M236_64 s) (fun x => q_Iv (c + 1000) (d + 1000) w x.1) := by
  unfold dz_M236_64
  have z0 : (0 : Int32).toInt = 0 := rfl
  cases decide ((s.1 15) 7 = 0) with
  | true =>
    refine q_E_T (q_E_L ?_)
    have j := q_fails s 0 hI
    generalize dz_M199_64 s 0 = r at j ⊢
    cases h : r.2 with
    | true => exact (q_failsT j h (q_rg_lit (n := 0) rfl) (by decide)).elim
    | false =>
      refine q_E_F ?_
      exact q_E_to (dzj_M236_64_34 c d w hC 4999 r.1 ((r.1.1 14) 19) 0 (by rw [z0, Int.add_zero, Int.add_zero]; exact j.1) ⟨by omega, by omega⟩ (by omega)) (fun x hx => q_Iv_mono hx (by omega) (by omega) (Int.le_refl _))
  | false =>
    refine q_E_F (q_E_L ?_)
    have j := q_fails s 1 hI
    generalize dz_M199_64 s 1 = r at j ⊢
    cases h : r.2 with
    | true => exact q_E_T (q_E_x (q_Iv_mono j.1 (by omega) (by omega) (Int.le_refl _)))
    | false => exact (q_failsF j h (q_rg_lit (n := 1) rfl) (by decide)).elim

set_option maxHeartbeats 4000000 in
theorem dzj_M237_64 (c d w : Int) (s : q_S) (hI : q_Iv c d w s) : (fun (x : q_S × Int64) => q_Iv c d w x.1) (dz_M237_64 s) := by
  refine q_S_of (P := (fun (x : q_S × Int64) => q_Iv c d w x.1)) ?_
  unfold dz_M237_64
  exact q_E_x (q_Iv_I (i := 0) (m := 39) hI (q_rg_full _))
set_option maxHeartbeats 4000000 in
theorem dzj_M238_64 (c d w : Int) (s : q_S) (hI : q_Iv c d w s) : q_Ex (dz_M238_64 s) (fun (x : q_S × Bool) => q_Iv c d w x.1) := by
  unfold dz_M238_64
  obtain ⟨r2, e3558, j3557⟩ := dzj_M224_64 c d w (q_sI s 0 39 0) (q_Iv_I (i := 0) (m := 39) hI (q_rg_full _))
  rw [e3558]
  refine q_E_B ?_
  cases h3559 : r2 with
  | true =>
    refine q_E_T ?_
    exact q_E_x (q_Iv_I (i := 0) (m := 39) hI (q_rg_full _))
  | false =>
    refine q_E_F ?_
    exact q_E_x (q_Iv_I (i := 0) (m := 39) hI (q_rg_full _))
set_option maxHeartbeats 4000000 in
theorem dzj_M239_64 (c d w : Int) (s : q_S) (hI : q_Iv c d w s) : (fun (x : q_S × Int32) => q_Iv c d w x.1) (dz_M239_64 s) := by
  refine q_S_of (P := (fun (x : q_S × Int32) => q_Iv c d w x.1)) ?_
  unfold dz_M239_64
  have j3561 := dzj_M200_64 c d w (s) hI ((s.1 14) 17)
  refine q_S_L ?_
  generalize dz_M200_64 s ((s.1 14) 17) = r1 at j3561 ⊢
  exact q_E_x j3561
set_option maxHeartbeats 4000000 in
theorem dzj_M240_64 (c d w : Int) (s : q_S) (hI : q_Iv c d w s) : (fun (x : q_S × Int32) => q_Iv c d w x.1) (dz_M240_64 s) := by
  refine q_S_of (P := (fun (x : q_S × Int32) => q_Iv c d w x.1)) ?_
  unfold dz_M240_64
  have j3563 := dzj_M200_64 c d w (s) hI ((s.1 14) 19)
  refine q_S_L ?_
  generalize dz_M200_64 s ((s.1 14) 19) = r1 at j3563 ⊢
  exact q_E_x j3563
set_option maxHeartbeats 4000000 in
theorem dzj_M241_64 (c d w : Int) (s : q_S) (hI : q_Iv c d w s) : q_Ex (dz_M241_64 s) (fun (x : q_S × Bool) => q_Iv c d w x.1) := by
  unfold dz_M241_64
  refine q_E_A (q_z1_rg (q_rg_le (q_r15 hI 7) (by decide) (by decide))) ?_
  exact q_E_x (q_Iv_I (i := 0) (m := 39) hI (q_rg_full _))
theorem q_trx {d : Int} {t a : Int32} {hi : Int32} {s : q_S} (h : q_rgz 0 d t) (hd : d ≤ 1000000) (hp : dz_M201 s a 0 ((if t < (16 : Int32) then t else (16 : Int32)) - 1) = true) : q_in (((t - 1) - a) - ((t - 1) - a) / 16 * 16) 16 = true := by
  have z0 : (0 : Int32).toInt = 0 := rfl
  have z1 : (1 : Int32).toInt = 1 := rfl
  have z16 : (16 : Int32).toInt = 16 := rfl
  have t0 := h.1
  have t1 := h.2
  have mn : ∀ u : Int32, u = (if t < (16 : Int32) then t else (16 : Int32)) → 0 ≤ u.toInt ∧ u.toInt ≤ t.toInt ∧ u.toInt ≤ 16 := by
    intro u hu
    rw [hu]
    by_cases e : t < (16 : Int32)
    · rw [if_pos e]; have := Int32.lt_iff_toInt_lt.mp e; omega
    · rw [if_neg e]; have : ¬ t.toInt < (16 : Int32).toInt := fun z => e (Int32.lt_iff_toInt_lt.mpr z); omega
  generalize hu : (if t < (16 : Int32) then t else (16 : Int32)) = u at hp
  obtain ⟨m0, m1, m2⟩ := mn u hu.symm
  have eu : (u - 1).toInt = u.toInt - 1 := by
    rw [Int32.toInt_sub, z1]
    exact Int.bmod_eq_of_le (by omega) (by omega)
  have g := q_p202 (a := 0) (b := 0) (a2 := u.toInt - 1) (b2 := u.toInt - 1) hp (q_rg_lit (n := 0) rfl) ⟨by omega, by omega⟩
  have g1 := g.1
  have g2 := g.2
  have e1 : (t - 1).toInt = t.toInt - 1 := by
    rw [Int32.toInt_sub, z1]
    exact Int.bmod_eq_of_le (by omega) (by omega)
  have e2 : ((t - 1) - a).toInt = t.toInt - 1 - a.toInt := by
    rw [Int32.toInt_sub, e1]
    exact Int.bmod_eq_of_le (by omega) (by omega)
  have r : q_rgz 0 d ((t - 1) - a) := ⟨by omega, by omega⟩
  exact q_in_rg (q_rg_rem (c := 16) (U := 15) (b := 16) r (by decide) rfl (by decide) (by decide)) (by decide) (by decide)
theorem dzj_M242_64 (c d w : Int) (hd : d ≤ 1000000) (s : q_S) (hI : q_Iv c d w s) (a1 : Int32) : q_Ex (dz_M242_64 s a1) (fun x => q_Iv c d w x.1) := by
  unfold dz_M242_64
  refine q_E_L ?_
  generalize p1 : dz_M201 s a1 0 ((if ((s.1 14) 20) < (16 : Int32) then ((s.1 14) 20) else (16 : Int32)) - 1) = r
  cases r with
  | true =>
    refine q_E_T (q_E_L ?_)
    have j := q_fails s 0 hI
    generalize dz_M199_64 s 0 = r at j ⊢
    cases h : r.2 with
    | true => exact (q_failsT j h (q_rg_lit (n := 0) rfl) (by decide)).elim
    | false =>
      refine q_E_F (q_E_A ?_ (q_E_x j.1))
      rw [j.2.2.1]
      exact q_trx (hi := 0) (hI.1 14 20) hd p1
  | false =>
    refine q_E_F (q_E_L ?_)
    have j := q_fails s 1 hI
    generalize dz_M199_64 s 1 = r at j ⊢
    cases h : r.2 with
    | true => exact q_E_T (q_E_x j.1)
    | false => exact (q_failsF j h (q_rg_lit (n := 1) rfl) (by decide)).elim

set_option maxHeartbeats 4000000 in
theorem dzj_M266_64_56 (c d w : Int) (s : q_S) (hI : q_Iv c d w s) (v2 : Int32) (v3 : Int32) (v4 : Int32) (rv2 : q_rgz 0 255 v2) (rv3 : q_rgz 0 255 v3) (rv4 : q_rgz 0 1 v4) : q_Ex (dz_M266_64_56 s v2 v3 v4) (q_Iv c d w) := by
  unfold dz_M266_64_56
  cases h3602 : decide ((s.1 15) 2 = 0) with
  | true =>
    have g3603 := q_rg_eqT h3602 (q_rg_lit (n := 0) (x := 0) rfl)
    refine q_E_T ?_
    have j3604 := dzj_M260_64 c d w (s) hI ((s.1 14) 0) (q_rg_le (L := 0) (U := 255) (q_n0z hI) (by decide) (by decide))
    refine q_E_L ?_
    generalize dz_M260_64 s ((s.1 14) 0) = r4 at j3604 ⊢
    exact q_E_x j3604.1
  | false =>
    have g3605 := (q_rg_neL (l := 0) (u := 1) (n := 0) (L := 1) h3602 (q_r15 hI 2) rfl (by decide) (by decide))
    refine q_E_F ?_
    have j3606 := dzj_M265_64 c d w (s) hI (v3) (v2) (v4)
    refine q_E_L ?_
    generalize dz_M265_64 s v3 v2 v4 = r5 at j3606 ⊢
    have j3607 := dzj_M260_64 c d w (r5) j3606 ((r5.1 14) 0) (q_rg_le (L := 0) (U := 255) (q_n0z j3606) (by decide) (by decide))
    refine q_E_L ?_
    generalize dz_M260_64 r5 ((r5.1 14) 0) = r6 at j3607 ⊢
    exact q_E_x j3607.1
set_option maxHeartbeats 4000000 in
theorem dzj_M266_64 (c d w : Int) (s : q_S) (hI : q_Iv c d w s) (a1 : Int32) (a2 : Int32) (ra2 : q_rgz 0 255 a2) : q_Ex (dz_M266_64 s a1 a2) (q_Iv c d w) := by
  unfold dz_M266_64
  obtain ⟨r2, e3609, j3608⟩ := dzj_M256_64 c d w 1 (s) hI (5) (1)  (q_rg_le (L := 0) (U := 7) (q_rg_lit (n := 5) (x := 5) rfl) (by decide) (by decide)) (q_rg_le (L := 0) (U := 1) (q_rg_lit (n := 1) (x := 1) rfl) (by decide) (by decide))
  rw [e3609]
  refine q_E_B ?_
  cases h3610 : decide (a1 = 0) with
  | true =>
    have g3611 := q_rg_eqT h3610 (q_rg_lit (n := 0) (x := 0) rfl)
    refine q_E_T ?_
    obtain ⟨r3, e3613, j3612⟩ := dzj_M263_64 c d w (s) hI ((255 : Int32) - a2) (q_rg_le (L := 0) (U := 255) (q_rg_sub (L := 0) (U := 255) (q_rg_lit (n := 255) (x := 255) rfl) ra2 (by decide) (by decide) (by decide) (by decide)) (by decide) (by decide))
    rw [e3613]
    refine q_E_B ?_
    cases h3614 : decide ((r3.1 15) 2 = 0) with
    | true =>
      have g3615 := q_rg_eqT h3614 (q_rg_lit (n := 0) (x := 0) rfl)
      refine q_E_T ?_
      exact dzj_M266_64_56 c d w (r3) j3612 (a2) ((s.1 14) 0) (r2) (q_rg_le (L := 0) (U := 255) ra2 (by decide) (by decide)) (q_rg_le (L := 0) (U := 255) (q_n0z hI) (by decide) (by decide)) (q_rg_le (L := 0) (U := 1) j3608 (by decide) (by decide))
    | false =>
      have g3616 := (q_rg_neL (l := 0) (u := 1) (n := 0) (L := 1) h3614 (q_r15 j3612 2) rfl (by decide) (by decide))
      refine q_E_F ?_
      exact dzj_M266_64_56 c d w (r3) j3612 (a2) ((s.1 14) 0) (r2) (q_rg_le (L := 0) (U := 255) ra2 (by decide) (by decide)) (q_rg_le (L := 0) (U := 255) (q_n0z hI) (by decide) (by decide)) (q_rg_le (L := 0) (U := 1) j3608 (by decide) (by decide))
  | false =>
    refine q_E_F ?_
    obtain ⟨r7, e3618, j3617⟩ := dzj_M263_64 c d w (s) hI (a2) (q_rg_le (L := 0) (U := 255) ra2 (by decide) (by decide))
    rw [e3618]
    refine q_E_B ?_
    cases h3619 : decide ((r7.1 15) 2 = 0) with
    | true =>
      have g3620 := q_rg_eqT h3619 (q_rg_lit (n := 0) (x := 0) rfl)
      refine q_E_T ?_
      exact dzj_M266_64_56 c d w (r7) j3617 (a2) ((s.1 14) 0) (r2) (q_rg_le (L := 0) (U := 255) ra2 (by decide) (by decide)) (q_rg_le (L := 0) (U := 255) (q_n0z hI) (by decide) (by decide)) (q_rg_le (L := 0) (U := 1) j3608 (by decide) (by decide))
    | false =>
      have g3621 := (q_rg_neL (l := 0) (u := 1) (n := 0) (L := 1) h3619 (q_r15 j3617 2) rfl (by decide) (by decide))
      refine q_E_F ?_
      have j3622 := dzj_M264_64 c d w (r7) j3617 ((s.1 14) 0) (a2) (r2)
      refine q_E_L ?_
      generalize dz_M264_64 r7 ((s.1 14) 0) a2 r2 = r8 at j3622 ⊢
      have j3623 := dzj_M260_64 c d w (r8) j3622 ((r8.1 14) 0) (q_rg_le (L := 0) (U := 255) (q_n0z j3622) (by decide) (by decide))
      refine q_E_L ?_
      generalize dz_M260_64 r8 ((r8.1 14) 0) = r9 at j3623 ⊢
      exact q_E_x j3623.1
set_option maxHeartbeats 4000000 in
theorem dzj_M278_64_90 (c d w : Int) (s : q_S) (hI : q_Iv c d w s) (v1 : Int32) (v2 : Int32) (v3 : Int32) (rv1 : q_rgz 0 4095 v1) (rv2 : q_rgz 0 255 v2) (rv3 : q_rgz 0 4095 v3) : q_Ex (dz_M278_64_90 s v1 v2 v3) (fun (x : q_S × Int32) => q_Iv c d w x.1) := by
  unfold dz_M278_64_90
  have j3719 := dzj_M245 c d w (s) hI (v2)
  refine q_E_L ?_
  generalize dz_M245 s v2 = r10 at j3719 ⊢
  cases h3720 : decide (2 < r10) with
  | true =>
    have g3721 := (q_rg_ltT2 (L := 3) (u2 := 3) h3720 (q_rg_lit (n := 2) (x := 2) rfl) j3719 (by decide))
    refine q_E_T ?_
    have j3722 := dzj_M212 c d w (s) hI (v1 + 2)
    refine q_E_L ?_
    generalize dz_M212 s (v1 + 2) = r11 at j3722 ⊢
    obtain ⟨r12, e3724, j3723⟩ := dzj_M214_64 c d w (s) hI (r11) (v3 / 256) (q_rg_le (L := 0) (U := 4095) j3722 (by decide) (by decide)) (q_rg_le (L := 0) (U := 255) (q_rg_div (c := 256) (U := 15) rv3 (by decide) rfl (by decide) (by decide)) (by decide) (by decide))
    rw [e3724]
    refine q_E_B ?_
    have j3725 := dzj_M204_64 c d w (r12) j3723
    refine q_E_L ?_
    generalize dz_M204_64 r12 = r13 at j3725 ⊢
    have j3726 := dzj_M245 c d w (r13) j3725 (v2)
    refine q_E_L ?_
    generalize dz_M245 r13 v2 = r14 at j3726 ⊢
    have j3727 := dzj_M212 c d w (r13) j3725 (v1 + r14)
    refine q_E_L ?_
    generalize dz_M212 r13 (v1 + r14) = r15 at j3727 ⊢
    exact q_E_x j3725
  | false =>
    have g3728 := (q_rg_ltF2 (l2 := 1) (u := 2) h3720 (q_rg_lit (n := 2) (x := 2) rfl) j3719)
    refine q_E_F ?_
    have j3729 := dzj_M204_64 c d w (s) hI
    refine q_E_L ?_
    generalize dz_M204_64 s = r16 at j3729 ⊢
    have j3730 := dzj_M245 c d w (r16) j3729 (v2)
    refine q_E_L ?_
    generalize dz_M245 r16 v2 = r17 at j3730 ⊢
    have j3731 := dzj_M212 c d w (r16) j3729 (v1 + r17)
    refine q_E_L ?_
    generalize dz_M212 r16 (v1 + r17) = r18 at j3731 ⊢
    exact q_E_x j3729
set_option maxHeartbeats 4000000 in
theorem dzj_M278_64 (c d w : Int) (s : q_S) (hI : q_Iv c d w s) (a1 : Int32) (a2 : Int32) (a3 : Int32) : q_Ex (dz_M278_64 s a1 a2 a3) (fun (x : q_S × Int32) => q_Iv c d w x.1) := by
  unfold dz_M278_64
  refine q_E_L ?_
  generalize p3732 : dz_M203 s a1 = r4
  cases r4 with
  | true =>
    refine q_E_T ?_
    have j3733 := q_fails (s) (1) hI
    refine q_E_L ?_
    generalize dz_M199_64 s 1 = r5 at j3733 ⊢
    cases h3734 : r5.2 with
    | true =>
      refine q_E_T ?_
      exact q_E_x j3733.1
    | false =>
      exact (q_failsF j3733 h3734 (q_rg_lit (n := 1) (x := 1) rfl) (by decide)).elim
  | false =>
    have g3735 : q_rgz 0 4095 (a1) := ⟨(q_p204 p3732).1, (q_p204 p3732).2⟩
    refine q_E_F ?_
    refine q_E_L ?_
    generalize p3736 : dz_M202 s a2 = r19
    cases r19 with
    | true =>
      refine q_E_T ?_
      have j3737 := q_fails (s) (2) hI
      refine q_E_L ?_
      generalize dz_M199_64 s 2 = r20 at j3737 ⊢
      cases h3738 : r20.2 with
      | true =>
        refine q_E_T ?_
        exact q_E_x j3737.1
      | false =>
        exact (q_failsF j3737 h3738 (q_rg_lit (n := 2) (x := 2) rfl) (by decide)).elim
    | false =>
      have g3739 : q_rgz 0 255 (a2) := ⟨(q_p203 p3736).1, (q_p203 p3736).2⟩
      refine q_E_F ?_
      have j3740 := dzj_M245 c d w (s) hI (a2 &&& 255)
      refine q_E_L ?_
      generalize dz_M245 s (a2 &&& 255) = r25 at j3740 ⊢
      cases h3741 : decide (r25 = 2) with
      | true =>
        have g3742 := q_rg_eqT h3741 (q_rg_lit (n := 2) (x := 2) rfl)
        refine q_E_T ?_
        refine q_E_L ?_
        generalize p3743 : dz_M201 s a3 0 255 = r26
        cases r26 with
        | true =>
          have g3744 : q_rgz 0 255 (a3) := ⟨(q_p202 p3743 (q_rg_lit (n := 0) (x := 0) rfl) (q_rg_lit (n := 255) (x := 255) rfl)).1, (q_p202 p3743 (q_rg_lit (n := 0) (x := 0) rfl) (q_rg_lit (n := 255) (x := 255) rfl)).2⟩
          refine q_E_T ?_
          have j3745 := q_fails (s) (0) hI
          refine q_E_L ?_
          generalize dz_M199_64 s 0 = r27 at j3745 ⊢
          cases h3746 : r27.2 with
          | true =>
            exact (q_failsT j3745 h3746 (q_rg_lit (n := 0) (x := 0) rfl) (by decide)).elim
          | false =>
            refine q_E_F ?_
            obtain ⟨r28, e3748, j3747⟩ := dzj_M214_64 c d w (r27.1) j3745.1 (a1) (a2) (q_rg_le (L := 0) (U := 4095) g3735 (by decide) (by decide)) (q_rg_le (L := 0) (U := 255) g3739 (by decide) (by decide))
            rw [e3748]
            refine q_E_B ?_
            have j3749 := dzj_M245 c d w (r28) j3747 (a2)
            refine q_E_L ?_
            generalize dz_M245 r28 a2 = r29 at j3749 ⊢
            cases h3750 : decide (1 < r29) with
            | true =>
              have g3751 := (q_rg_ltT2 (L := 2) (u2 := 3) h3750 (q_rg_lit (n := 1) (x := 1) rfl) j3749 (by decide))
              refine q_E_T ?_
              have j3752 := dzj_M212 c d w (r28) j3747 (a1 + 1)
              refine q_E_L ?_
              generalize dz_M212 r28 (a1 + 1) = r30 at j3752 ⊢
              obtain ⟨r31, e3754, j3753⟩ := dzj_M214_64 c d w (r28) j3747 (r30) (a3 - a3 / 256 * 256) (q_rg_le (L := 0) (U := 4095) j3752 (by decide) (by decide)) (q_rg_le (L := 0) (U := 255) (q_rg_rem2 (c := 256) g3744 (by decide) rfl (by decide)) (by decide) (by decide))
              rw [e3754]
              refine q_E_B ?_
              exact dzj_M278_64_90 c d w (r31) j3753 (a1) (a2) (a3) (q_rg_le (L := 0) (U := 4095) g3735 (by decide) (by decide)) (q_rg_le (L := 0) (U := 255) g3739 (by decide) (by decide)) (q_rg_le (L := 0) (U := 4095) g3744 (by decide) (by decide))
            | false =>
              have g3755 := (q_rg_ltF2 (l2 := 1) (u := 1) h3750 (q_rg_lit (n := 1) (x := 1) rfl) j3749)
              refine q_E_F ?_
              exact dzj_M278_64_90 c d w (r28) j3747 (a1) (a2) (a3) (q_rg_le (L := 0) (U := 4095) g3735 (by decide) (by decide)) (q_rg_le (L := 0) (U := 255) g3739 (by decide) (by decide)) (q_rg_le (L := 0) (U := 4095) g3744 (by decide) (by decide))
        | false =>
          refine q_E_F ?_
          have j3756 := q_fails (s) (2) hI
          refine q_E_L ?_
          generalize dz_M199_64 s 2 = r32 at j3756 ⊢
          cases h3757 : r32.2 with
          | true =>
            refine q_E_T ?_
            exact q_E_x j3756.1
          | false =>
            exact (q_failsF j3756 h3757 (q_rg_lit (n := 2) (x := 2) rfl) (by decide)).elim
      | false =>
        refine q_E_F ?_
        refine q_E_L ?_
        generalize p3758 : dz_M201 s a3 0 4095 = r37
        cases r37 with
        | true =>
          have g3759 : q_rgz 0 4095 (a3) := ⟨(q_p202 p3758 (q_rg_lit (n := 0) (x := 0) rfl) (q_rg_lit (n := 4095) (x := 4095) rfl)).1, (q_p202 p3758 (q_rg_lit (n := 0) (x := 0) rfl) (q_rg_lit (n := 4095) (x := 4095) rfl)).2⟩
          refine q_E_T ?_
          have j3760 := q_fails (s) (0) hI
          refine q_E_L ?_
          generalize dz_M199_64 s 0 = r38 at j3760 ⊢
          cases h3761 : r38.2 with
          | true =>
            exact (q_failsT j3760 h3761 (q_rg_lit (n := 0) (x := 0) rfl) (by decide)).elim
          | false =>
            refine q_E_F ?_
            obtain ⟨r39, e3763, j3762⟩ := dzj_M214_64 c d w (r38.1) j3760.1 (a1) (a2) (q_rg_le (L := 0) (U := 4095) g3735 (by decide) (by decide)) (q_rg_le (L := 0) (U := 255) g3739 (by decide) (by decide))
            rw [e3763]
            refine q_E_B ?_
            have j3764 := dzj_M245 c d w (r39) j3762 (a2)
            refine q_E_L ?_
            generalize dz_M245 r39 a2 = r40 at j3764 ⊢
            cases h3765 : decide (1 < r40) with
            | true =>
              have g3766 := (q_rg_ltT2 (L := 2) (u2 := 3) h3765 (q_rg_lit (n := 1) (x := 1) rfl) j3764 (by decide))
              refine q_E_T ?_
              have j3767 := dzj_M212 c d w (r39) j3762 (a1 + 1)
              refine q_E_L ?_
              generalize dz_M212 r39 (a1 + 1) = r41 at j3767 ⊢
              obtain ⟨r42, e3769, j3768⟩ := dzj_M214_64 c d w (r39) j3762 (r41) (a3 - a3 / 256 * 256) (q_rg_le (L := 0) (U := 4095) j3767 (by decide) (by decide)) (q_rg_le (L := 0) (U := 255) (q_rg_rem (c := 256) (U := 255) g3759 (by decide) rfl (by decide) (by decide)) (by decide) (by decide))
              rw [e3769]
              refine q_E_B ?_
              exact dzj_M278_64_90 c d w (r42) j3768 (a1) (a2) (a3) (q_rg_le (L := 0) (U := 4095) g3735 (by decide) (by decide)) (q_rg_le (L := 0) (U := 255) g3739 (by decide) (by decide)) (q_rg_le (L := 0) (U := 4095) g3759 (by decide) (by decide))
            | false =>
              have g3770 := (q_rg_ltF2 (l2 := 1) (u := 1) h3765 (q_rg_lit (n := 1) (x := 1) rfl) j3764)
              refine q_E_F ?_
              exact dzj_M278_64_90 c d w (r39) j3762 (a1) (a2) (a3) (q_rg_le (L := 0) (U := 4095) g3735 (by decide) (by decide)) (q_rg_le (L := 0) (U := 255) g3739 (by decide) (by decide)) (q_rg_le (L := 0) (U := 4095) g3759 (by decide) (by decide))
        | false =>
          refine q_E_F ?_
          have j3771 := q_fails (s) (2) hI
          refine q_E_L ?_
          generalize dz_M199_64 s 2 = r43 at j3771 ⊢
          cases h3772 : r43.2 with
          | true =>
            refine q_E_T ?_
            exact q_E_x j3771.1
          | false =>
            exact (q_failsF j3771 h3772 (q_rg_lit (n := 2) (x := 2) rfl) (by decide)).elim
theorem dzj_M279_64 (c d w : Int) (s : q_S) (hI : q_Iv c d w s) (a1 : Int32) (hw : w ≤ 39) : q_Ex (dz_M279_64 s a1) (q_Iv c d (w + 1)) := by
  unfold dz_M279_64
  have h : q_rgz 0 w (s.2.1 0 35) := hI.2.1 0 35
  refine q_E_A (q_in_rg h (by decide) (show w < ((40 : Nat) : Int) by omega)) (q_E_x ?_)
  refine q_Iv_w0 (q_Iv_A (i := 32) hI (q_hf_up (hI.1 32) (q_rg_nc _))) ?_
  exact q_rg_le (q_rg_add (L := 1) (U := w + 1) h (q_rg_lit (n := 1) (x := 1) rfl) (by decide) rfl (by decide) (by omega)) (by decide) (Int.le_refl _)

theorem dzj_M280_64_n : ∀ (k m : Nat) (c d w : Int) (s : q_S) (hI : q_Iv c d w s) (a1 : Int32) (r1 : q_rgz 0 ((10 : Int) ^ (k + 1) - 1) a1) (hw : w + k ≤ 39), k ≤ m → q_Ex (dzr_M280_64 (m + 1) s a1) (q_Iv c d (w + k + 1)) := by
  intro k
  induction k with
  | zero =>
    intro m c d w s hI a1 r1 hw hm
    rw [dzs_M280_64]
    dsimp only
    have z : (10 : Int32).toInt = 10 := rfl
    have b : a1.toInt ≤ 9 := r1.2
    have e : decide (a1 < 10) = true := decide_eq_true (Int32.lt_iff_toInt_lt.mpr (by omega))
    rw [e]
    refine q_E_T ?_
    obtain ⟨r, er, hr⟩ := dzj_M279_64 c d w s hI _ (by omega)
    rw [er]
    exact q_E_B (q_E_x (q_Iv_mono hr (Int.le_refl _) (Int.le_refl _) (by omega)))
  | succ k ih =>
    intro m c d w s hI a1 r1 hw hm
    rw [dzs_M280_64]
    dsimp only
    have hw2 : w + k + 1 ≤ 39 := by omega
    cases h : decide (a1 < 10) with
    | true =>
      refine q_E_T ?_
      obtain ⟨r, er, hr⟩ := dzj_M279_64 c d w s hI _ (by omega)
      rw [er]
      exact q_E_B (q_E_x (q_Iv_mono hr (Int.le_refl _) (Int.le_refl _) (by omega)))
    | false =>
      refine q_E_F ?_
      have a0 := r1.1
      have b := r1.2
      have p : (10 : Int) ^ (k + 1 + 1) = 10 ^ (k + 1) * 10 := Int.pow_succ _ _
      have q : q_rgz 0 ((10 : Int) ^ (k + 1) - 1) (a1 / 10) := by
        unfold q_rgz
        rw [q_toInt_div a0 (by decide), show (10 : Int32).toInt = 10 from rfl]
        omega
      obtain ⟨m', rfl⟩ : ∃ m', m = m' + 1 := ⟨m - 1, by omega⟩
      obtain ⟨r, er, hr⟩ := ih m' c d w s hI (a1 / 10) q (by omega) (by omega)
      rw [er]
      refine q_E_B ?_
      obtain ⟨r2, er2, hr2⟩ := dzj_M279_64 c d (w + k + 1) r hr ((((48 : Int32) + (a1 - a1 / 10 * 10)).toUInt32 % 65536).toInt32) hw2
      rw [er2]
      exact q_E_B (q_E_x (q_Iv_mono hr2 (Int.le_refl _) (Int.le_refl _) (by omega)))
theorem dzj_M280_64 (c d w : Int) (s : q_S) (hI : q_Iv c d w s) (a1 : Int32) (r1 : q_rgz 0 4095 a1) (hw : w ≤ 36) : q_Ex (dz_M280_64 s a1) (q_Iv c d (w + 4)) :=
  q_E_to (dzj_M280_64_n 3 13 c d w s hI a1 (q_rg_le r1 (by decide) (by decide)) (by omega) (by decide)) (fun x hx => q_Iv_mono hx (Int.le_refl _) (Int.le_refl _) (by omega))

theorem dzj_M281_64 (c d w : Int) (s : q_S) (hI : q_Iv c d w s) (a1 : Int32) (r1 : q_rgz 0 255 a1) (hj : dz_M284 s a1 = false) (hw : w ≤ 37) : q_Ex (dz_M281_64 s a1) (q_Iv c d (w + 3)) := by
  unfold dz_M281_64
  refine q_E_L ?_
  have key : (dz_M243 s a1 < 0 → q_rgz 128 167 a1) ∧ (¬ dz_M243 s a1 < 0 → q_rgz 0 20 (dz_M243 s a1)) := by
    have z : (0 : Int32).toInt = 0 := rfl
    constructor
    · intro hn
      have hj2 : cond (decide (dz_M243 s a1 < 0)) (cond (dz_M201 s a1 128 167) false true) false = false := hj
      rw [decide_eq_true hn] at hj2
      cases h2 : dz_M201 s a1 128 167 with
      | true => exact q_p202 h2 (q_rg_lit (n := 128) rfl) (q_rg_lit (n := 167) rfl)
      | false => rw [h2] at hj2; cases hj2
    · intro hn
      have e9 : dz_M243 s a1 = cond (decide (a1 < 128)) (a1 / 8) (cond (dz_M201 s a1 192 231) ((16 : Int32) + ((a1 - 192) / 8)) (-1)) := rfl
      rw [e9] at hn ⊢
      clear e9
      cases h1 : decide (a1 < 128) with
      | true =>
        rw [h1] at hn
        have g := q_rg_ltT1 (U := 127) h1 r1 (q_rg_lit (n := 128) (x := 128) rfl) (by decide)
        show q_rgz 0 20 (a1 / 8)
        exact q_rg_le (q_rg_div (c := 8) (U := 15) g (by decide) rfl (by decide) (by decide)) (by decide) (by decide)
      | false =>
        rw [h1] at hn
        cases h2 : dz_M201 s a1 192 231 with
        | true =>
          have g := q_p202 h2 (q_rg_lit (n := 192) rfl) (q_rg_lit (n := 231) rfl)
          have g2 := q_rg_sub (L := 0) (U := 39) g (q_rg_lit (n := 192) (x := 192) rfl) (by decide) (by decide) (by decide) (by decide)
          have g3 := q_rg_div (c := 8) (b := 8) (U := 4) g2 (by decide) rfl (by decide) (by decide)
          exact q_rg_le (q_rg_add (a := 16) (L := 16) (U := 20) (q_rg_lit (n := 16) rfl) g3 (by decide) (by decide) (by decide) (by decide)) (by decide) (by decide)
        | false =>
          rw [h2] at hn
          exact absurd (show (-1 : Int32) < 0 by decide) hn
  generalize dz_M243 s a1 = op at key ⊢
  have z : (0 : Int32).toInt = 0 := rfl
  have z3 : (3 : Int32).toInt = 3 := rfl
  have loop : ∀ (j m : Nat) (s : q_S) (v3 : Int32), j ≤ 3 → v3.toInt = 3 - (j : Int) → q_Iv c d (w + 3 - j) s → j ≤ m → q_Ex (dz_M281_64_7 (m + 1) s a1 op v3) (q_Iv c d (w + 3)) := by
    intro j
    induction j with
    | zero =>
      intro m s v3 hj h3 hs hm
      rw [dzs_M281_64_7]
      dsimp only
      have e : decide (v3 < 3) = false := decide_eq_false (fun q => by have := Int32.lt_iff_toInt_lt.mp q; omega)
      rw [e]
      exact q_E_F (q_E_x (q_Iv_mono hs (Int.le_refl _) (Int.le_refl _) (by omega)))
    | succ j ih =>
      intro m s v3 hj h3 hs hm
      obtain ⟨m', rfl⟩ : ∃ m', m = m' + 1 := ⟨m - 1, by omega⟩
      rw [dzs_M281_64_7]
      dsimp only
      have e : decide (v3 < 3) = true := decide_eq_true (Int32.lt_iff_toInt_lt.mpr (by omega))
      rw [e]
      refine q_E_T ?_
      have r3 : q_rgz 0 2 v3 := ⟨by omega, by omega⟩
      have e3 : (v3 + 1).toInt = v3.toInt + 1 := q_add9 (c := 1) (by show _ ≤ v3.toInt + 1; omega) (by show v3.toInt + 1 ≤ _; omega)
      cases h8 : decide (op < 0) with
      | true =>
        refine q_E_T ?_
        have g := key.1 (of_decide_eq_true h8)
        have g2 := q_rg_sub (L := 0) (U := 39) g (q_rg_lit (n := 128) (x := 128) rfl) (by decide) (by decide) (by decide) (by decide)
        have g3 := q_rg_mul (a := 3) (L := 0) (U := 117) (q_rg_lit (n := 3) rfl) g2 (by decide) (by decide) (by decide) (by decide) (by decide) (by decide)
        have g4 := q_rg_add (L := 0) (U := 119) g3 r3 (by decide) (by decide) (by decide) (by decide)
        refine q_E_A (q_in_rg g4 (by decide) (by decide)) ?_
        obtain ⟨r, er, hr⟩ := dzj_M279_64 c d _ s hs ((fun j => q_o5.getD j 0) (((3 * (a1 - 128)) + v3).toNatClampNeg)) (by omega)
        rw [er]
        exact q_E_B (ih m' r (v3 + 1) (by omega) (by omega) (q_Iv_mono hr (Int.le_refl _) (Int.le_refl _) (by omega)) (by omega))
      | false =>
        refine q_E_F ?_
        have g := key.2 (of_decide_eq_false h8)
        have g3 := q_rg_mul (a := 3) (L := 0) (U := 60) (q_rg_lit (n := 3) rfl) g (by decide) (by decide) (by decide) (by decide) (by decide) (by decide)
        have g4 := q_rg_add (L := 0) (U := 62) g3 r3 (by decide) (by decide) (by decide) (by decide)
        refine q_E_A (q_in_rg g4 (by decide) (by decide)) ?_
        obtain ⟨r, er, hr⟩ := dzj_M279_64 c d _ s hs ((fun j => q_o4.getD j 0) (((3 * op) + v3).toNatClampNeg)) (by omega)
        rw [er]
        exact q_E_B (ih m' r (v3 + 1) (by omega) (by omega) (q_Iv_mono hr (Int.le_refl _) (Int.le_refl _) (by omega)) (by omega))
  exact loop 3 4999 s 0 (by decide) (by decide) (q_Iv_mono hI (Int.le_refl _) (Int.le_refl _) (by omega)) (by decide)

set_option maxHeartbeats 4000000 in
theorem dzj_M282_64_107 (c d w : Int) (s : q_S) (hI : q_Iv c d w s) (v1 : Int32) (rv1 : q_rgz 0 7 v1) (hw : w + 2 ≤ 40) : q_Ex (dz_M282_64_107 s v1) (q_Iv c d (w + 2)) := by
  unfold dz_M282_64_107
  cases h4105 : decide (v1 = 5) with
  | true =>
    have g4106 := q_rg_eqT h4105 (q_rg_lit (n := 5) (x := 5) rfl)
    refine q_E_T ?_
    obtain ⟨r11, e4108, j4107⟩ := dzj_M279_64 c d w (s) hI (121) (by omega)
    rw [e4108]
    refine q_E_B ?_
    cases h4109 : decide (v1 = 7) with
    | true =>
      exact (q_rg_no (q_rg_le (L := 7) (U := 5) ⟨(q_rg_eqT h4109 (q_rg_lit (n := 7) (x := 7) rfl)).1, g4106.2⟩ (by decide) (by decide)) (by decide)).elim
    | false =>
      refine q_E_F ?_
      exact q_E_x (q_Iv_mono j4107 (by omega) (by omega) (by omega))
  | false =>
    refine q_E_F ?_
    cases h4110 : decide (v1 = 6) with
    | true =>
      have g4111 := q_rg_eqT h4110 (q_rg_lit (n := 6) (x := 6) rfl)
      refine q_E_T ?_
      obtain ⟨r13, e4113, j4112⟩ := dzj_M279_64 c d w (s) hI (121) (by omega)
      rw [e4113]
      refine q_E_B ?_
      cases h4114 : decide (v1 = 7) with
      | true =>
        exact (q_rg_no (q_rg_le (L := 7) (U := 6) ⟨(q_rg_eqT h4114 (q_rg_lit (n := 7) (x := 7) rfl)).1, g4111.2⟩ (by decide) (by decide)) (by decide)).elim
      | false =>
        refine q_E_F ?_
        exact q_E_x (q_Iv_mono j4112 (by omega) (by omega) (by omega))
    | false =>
      refine q_E_F ?_
      cases h4115 : decide (v1 = 7) with
      | true =>
        have g4116 := q_rg_eqT h4115 (q_rg_lit (n := 7) (x := 7) rfl)
        refine q_E_T ?_
        obtain ⟨r15, e4118, j4117⟩ := dzj_M279_64 c d w (s) hI (41) (by omega)
        rw [e4118]
        refine q_E_B ?_
        exact q_E_x (q_Iv_mono j4117 (by omega) (by omega) (by omega))
      | false =>
        have g4119 := (q_rg_neU (l := 0) (u := 7) (n := 7) (U := 6) h4115 rv1 rfl (by decide) (by decide))
        refine q_E_F ?_
        exact q_E_x (q_Iv_mono hI (by omega) (by omega) (by omega))
set_option maxHeartbeats 4000000 in
theorem dzj_M282_64_101 (c d w : Int) (s : q_S) (hI : q_Iv c d w s) (v1 : Int32) (rv1 : q_rgz 2 7 v1) (hw : w + 3 ≤ 40) : q_Ex (dz_M282_64_101 s v1) (q_Iv c d (w + 3)) := by
  unfold dz_M282_64_101
  obtain ⟨r10, e4121, j4120⟩ := dzj_M279_64 c d w (s) hI (120) (by omega)
  rw [e4121]
  refine q_E_B ?_
  exact q_E_to (dzj_M282_64_107 c d (w + 1) (r10) j4120 (v1) (q_rg_le (L := 0) (U := 7) rv1 (by decide) (by decide)) (by omega)) (fun x hx => (q_Iv_mono hx (by omega) (by omega) (by omega)))
set_option maxHeartbeats 4000000 in
theorem dzj_M282_64_85 (c d w : Int) (s : q_S) (hI : q_Iv c d w s) (v1 : Int32) (rv1 : q_rgz 0 7 v1) (hw : w + 3 ≤ 40) : q_Ex (dz_M282_64_85 s v1) (q_Iv c d (w + 3)) := by
  unfold dz_M282_64_85
  cases h4122 : decide (v1 = 2) with
  | true =>
    have g4123 := q_rg_eqT h4122 (q_rg_lit (n := 2) (x := 2) rfl)
    refine q_E_T ?_
    exact dzj_M282_64_101 c d w (s) hI (v1) (q_rg_le (L := 2) (U := 7) g4123 (by decide) (by decide)) (by omega)
  | false =>
    refine q_E_F ?_
    cases h4124 : decide (v1 = 4) with
    | true =>
      have g4125 := q_rg_eqT h4124 (q_rg_lit (n := 4) (x := 4) rfl)
      refine q_E_T ?_
      exact dzj_M282_64_101 c d w (s) hI (v1) (q_rg_le (L := 2) (U := 7) g4125 (by decide) (by decide)) (by omega)
    | false =>
      refine q_E_F ?_
      cases h4126 : decide (v1 = 7) with
      | true =>
        have g4127 := q_rg_eqT h4126 (q_rg_lit (n := 7) (x := 7) rfl)
        refine q_E_T ?_
        exact dzj_M282_64_101 c d w (s) hI (v1) (q_rg_le (L := 2) (U := 7) g4127 (by decide) (by decide)) (by omega)
      | false =>
        have g4128 := (q_rg_neU (l := 0) (u := 7) (n := 7) (U := 6) h4126 rv1 rfl (by decide) (by decide))
        refine q_E_F ?_
        exact q_E_to (dzj_M282_64_107 c d w (s) hI (v1) (q_rg_le (L := 0) (U := 7) g4128 (by decide) (by decide)) (by omega)) (fun x hx => (q_Iv_mono hx (by omega) (by omega) (by omega)))
set_option maxHeartbeats 4000000 in
theorem dzj_M282_64_79 (c d w : Int) (s : q_S) (hI : q_Iv c d w s) (v1 : Int32) (rv1 : q_rgz 2 7 v1) (hw : w + 4 ≤ 40) : q_Ex (dz_M282_64_79 s v1) (q_Iv c d (w + 4)) := by
  unfold dz_M282_64_79
  obtain ⟨r9, e4130, j4129⟩ := dzj_M279_64 c d w (s) hI (44) (by omega)
  rw [e4130]
  refine q_E_B ?_
  exact q_E_to (dzj_M282_64_85 c d (w + 1) (r9) j4129 (v1) (q_rg_le (L := 0) (U := 7) rv1 (by decide) (by decide)) (by omega)) (fun x hx => (q_Iv_mono hx (by omega) (by omega) (by omega)))
set_option maxHeartbeats 4000000 in
theorem dzj_M282_64_69 (c d w : Int) (s : q_S) (hI : q_Iv c d w s) (v1 : Int32) (rv1 : q_rgz 0 7 v1) (hw : w + 4 ≤ 40) : q_Ex (dz_M282_64_69 s v1) (q_Iv c d (w + 4)) := by
  unfold dz_M282_64_69
  cases h4131 : decide (v1 = 2) with
  | true =>
    have g4132 := q_rg_eqT h4131 (q_rg_lit (n := 2) (x := 2) rfl)
    refine q_E_T ?_
    exact dzj_M282_64_79 c d w (s) hI (v1) (q_rg_le (L := 2) (U := 7) g4132 (by decide) (by decide)) (by omega)
  | false =>
    refine q_E_F ?_
    cases h4133 : decide (3 < v1) with
    | true =>
      have g4134 := (q_rg_ltT2 (L := 4) (u2 := 7) h4133 (q_rg_lit (n := 3) (x := 3) rfl) rv1 (by decide))
      refine q_E_T ?_
      exact dzj_M282_64_79 c d w (s) hI (v1) (q_rg_le (L := 2) (U := 7) g4134 (by decide) (by decide)) (by omega)
    | false =>
      have g4135 := (q_rg_ltF2 (l2 := 0) (u := 3) h4133 (q_rg_lit (n := 3) (x := 3) rfl) rv1)
      refine q_E_F ?_
      exact q_E_to (dzj_M282_64_85 c d w (s) hI (v1) (q_rg_le (L := 0) (U := 7) g4135 (by decide) (by decide)) (by omega)) (fun x hx => (q_Iv_mono hx (by omega) (by omega) (by omega)))
set_option maxHeartbeats 4000000 in
theorem dzj_M282_64_27 (c d w : Int) (s : q_S) (hI : q_Iv c d w s) (v1 : Int32) (v2 : Int32) (rv1 : q_rgz 0 7 v1) (hw : w + 9 ≤ 40) : q_Ex (dz_M282_64_27 s v1 v2) (q_Iv c d (w + 9)) := by
  unfold dz_M282_64_27
  refine q_E_L ?_
  generalize p4136 : dz_M201 s v1 3 5 = r5
  cases r5 with
  | true =>
    have g4137 : q_rgz 3 5 (v1) := ⟨(q_p202 p4136 (q_rg_lit (n := 3) (x := 3) rfl) (q_rg_lit (n := 5) (x := 5) rfl)).1, (q_p202 p4136 (q_rg_lit (n := 3) (x := 3) rfl) (q_rg_lit (n := 5) (x := 5) rfl)).2⟩
    refine q_E_T ?_
    obtain ⟨r6, e4139, j4138⟩ := dzj_M247_64 c d w (s) hI (v2 + 1)
    rw [e4139]
    refine q_E_B ?_
    obtain ⟨r7, e4141, j4140⟩ := dzj_M280_64 c d w (r6.1) j4138.1 (r6.2) (q_rg_le (L := 0) (U := 4095) j4138.2 (by decide) (by decide)) (by omega)
    rw [e4141]
    refine q_E_B ?_
    cases h4142 : decide (v1 = 6) with
    | true =>
      exact (q_rg_no (q_rg_le (L := 6) (U := 5) ⟨(q_rg_eqT h4142 (q_rg_lit (n := 6) (x := 6) rfl)).1, g4137.2⟩ (by decide) (by decide)) (by decide)).elim
    | false =>
      refine q_E_F ?_
      exact q_E_to (dzj_M282_64_69 c d (w + 4) (r7) j4140 (v1) (q_rg_le (L := 0) (U := 7) g4137 (by decide) (by decide)) (by omega)) (fun x hx => (q_Iv_mono hx (by omega) (by omega) (by omega)))
  | false =>
    refine q_E_F ?_
    obtain ⟨r16, e4144, j4143⟩ := dzj_M246_64 c d w (s) hI (v2 + 1)
    rw [e4144]
    refine q_E_B ?_
    obtain ⟨r17, e4146, j4145⟩ := dzj_M280_64 c d w (r16.1) j4143.1 (r16.2) (q_rg_le (L := 0) (U := 4095) j4143.2 (by decide) (by decide)) (by omega)
    rw [e4146]
    refine q_E_B ?_
    cases h4147 : decide (v1 = 6) with
    | true =>
      have g4148 := q_rg_eqT h4147 (q_rg_lit (n := 6) (x := 6) rfl)
      refine q_E_T ?_
      obtain ⟨r18, e4150, j4149⟩ := dzj_M279_64 c d (w + 4) (r17) j4145 (41) (by omega)
      rw [e4150]
      refine q_E_B ?_
      exact q_E_to (dzj_M282_64_69 c d (w + 4 + 1) (r18) j4149 (v1) (q_rg_le (L := 0) (U := 7) g4148 (by decide) (by decide)) (by omega)) (fun x hx => (q_Iv_mono hx (by omega) (by omega) (by omega)))
    | false =>
      refine q_E_F ?_
      exact q_E_to (dzj_M282_64_69 c d (w + 4) (r17) j4145 (v1) (q_rg_le (L := 0) (U := 7) rv1 (by decide) (by decide)) (by omega)) (fun x hx => (q_Iv_mono hx (by omega) (by omega) (by omega)))
set_option maxHeartbeats 4000000 in
theorem dzj_M282_64_16 (c d w : Int) (s : q_S) (hI : q_Iv c d w s) (v1 : Int32) (v2 : Int32) (rv1 : q_rgz 0 7 v1) (hw : w + 10 ≤ 40) : q_Ex (dz_M282_64_16 s v1 v2) (q_Iv c d (w + 10)) := by
  unfold dz_M282_64_16
  cases h4151 : decide (5 < v1) with
  | true =>
    have g4152 := (q_rg_ltT2 (L := 6) (u2 := 7) h4151 (q_rg_lit (n := 5) (x := 5) rfl) rv1 (by decide))
    refine q_E_T ?_
    obtain ⟨r4, e4154, j4153⟩ := dzj_M279_64 c d w (s) hI (40) (by omega)
    rw [e4154]
    refine q_E_B ?_
    exact q_E_to (dzj_M282_64_27 c d (w + 1) (r4) j4153 (v1) (v2) (q_rg_le (L := 0) (U := 7) g4152 (by decide) (by decide)) (by omega)) (fun x hx => (q_Iv_mono hx (by omega) (by omega) (by omega)))
  | false =>
    have g4155 := (q_rg_ltF2 (l2 := 0) (u := 5) h4151 (q_rg_lit (n := 5) (x := 5) rfl) rv1)
    refine q_E_F ?_
    exact q_E_to (dzj_M282_64_27 c d w (s) hI (v1) (v2) (q_rg_le (L := 0) (U := 7) g4155 (by decide) (by decide)) (by omega)) (fun x hx => (q_Iv_mono hx (by omega) (by omega) (by omega)))
set_option maxHeartbeats 4000000 in
theorem dzj_M282_64 (c d w : Int) (s : q_S) (hI : q_Iv c d w s) (a1 : Int32) (a2 : Int32) (ra1 : q_rgz 0 7 a1) (hw : w + 12 ≤ 40) : q_Ex (dz_M282_64 s a1 a2) (q_Iv c d (w + 12)) := by
  unfold dz_M282_64
  obtain ⟨r2, e4157, j4156⟩ := dzj_M279_64 c d w (s) hI (32) (by omega)
  rw [e4157]
  refine q_E_B ?_
  cases h4158 : decide (a1 = 0) with
  | true =>
    have g4159 := q_rg_eqT h4158 (q_rg_lit (n := 0) (x := 0) rfl)
    refine q_E_T ?_
    obtain ⟨r3, e4161, j4160⟩ := dzj_M279_64 c d (w + 1) (r2) j4156 (35) (by omega)
    rw [e4161]
    refine q_E_B ?_
    exact q_E_to (dzj_M282_64_16 c d (w + 1 + 1) (r3) j4160 (a1) (a2) (q_rg_le (L := 0) (U := 7) g4159 (by decide) (by decide)) (by omega)) (fun x hx => (q_Iv_mono hx (by omega) (by omega) (by omega)))
  | false =>
    have g4162 := (q_rg_neL (l := 0) (u := 7) (n := 0) (L := 1) h4158 ra1 rfl (by decide) (by decide))
    refine q_E_F ?_
    exact q_E_to (dzj_M282_64_16 c d (w + 1) (r2) j4156 (a1) (a2) (q_rg_le (L := 0) (U := 7) g4162 (by decide) (by decide)) (by omega)) (fun x hx => (q_Iv_mono hx (by omega) (by omega) (by omega)))
set_option maxHeartbeats 4000000 in
theorem dzj_M283_64_28 (c d w : Int) (s : q_S) (hI : q_Iv c d w s) (v1 : Int32) (v2 : Int32) (hw : w + 5 ≤ 40) : q_Ex (dz_M283_64_28 s v1 v2) (q_Iv c d (w + 5)) := by
  unfold dz_M283_64_28
  have j4202 := dzj_M245 c d w (s) hI (v1)
  refine q_E_L ?_
  generalize dz_M245 s v1 = r6 at j4202 ⊢
  cases h4203 : decide (r6 = 2) with
  | true =>
    have g4204 := q_rg_eqT h4203 (q_rg_lit (n := 2) (x := 2) rfl)
    refine q_E_T ?_
    obtain ⟨r7, e4206, j4205⟩ := dzj_M252_64 c d w (s) hI (v2)
    rw [e4206]
    refine q_E_B ?_
    obtain ⟨r8, e4208, j4207⟩ := dzj_M280_64 c d w (r7.1) j4205.1 (r7.2) (q_rg_le (L := 0) (U := 4095) j4205.2 (by decide) (by decide)) (by omega)
    rw [e4208]
    refine q_E_B ?_
    cases h4209 : decide (v1 = 159) with
    | true =>
      have g4210 := q_rg_eqT h4209 (q_rg_lit (n := 159) (x := 159) rfl)
      refine q_E_T ?_
      obtain ⟨r9, e4212, j4211⟩ := dzj_M279_64 c d (w + 4) (r8) j4207 (41) (by omega)
      rw [e4212]
      refine q_E_B ?_
      exact q_E_x (q_Iv_mono j4211 (by omega) (by omega) (by omega))
    | false =>
      refine q_E_F ?_
      exact q_E_x (q_Iv_mono j4207 (by omega) (by omega) (by omega))
  | false =>
    refine q_E_F ?_
    obtain ⟨r10, e4214, j4213⟩ := dzj_M247_64 c d w (s) hI (v2 + 1)
    rw [e4214]
    refine q_E_B ?_
    obtain ⟨r11, e4216, j4215⟩ := dzj_M280_64 c d w (r10.1) j4213.1 (r10.2) (q_rg_le (L := 0) (U := 4095) j4213.2 (by decide) (by decide)) (by omega)
    rw [e4216]
    refine q_E_B ?_
    cases h4217 : decide (v1 = 159) with
    | true =>
      have g4218 := q_rg_eqT h4217 (q_rg_lit (n := 159) (x := 159) rfl)
      refine q_E_T ?_
      obtain ⟨r12, e4220, j4219⟩ := dzj_M279_64 c d (w + 4) (r11) j4215 (41) (by omega)
      rw [e4220]
      refine q_E_B ?_
      exact q_E_x (q_Iv_mono j4219 (by omega) (by omega) (by omega))
    | false =>
      refine q_E_F ?_
      exact q_E_x (q_Iv_mono j4215 (by omega) (by omega) (by omega))
set_option maxHeartbeats 4000000 in
theorem dzj_M283_64 (c d w : Int) (s : q_S) (hI : q_Iv c d w s) (a1 : Int32) (a2 : Int32) (hw : w + 7 ≤ 40) : q_Ex (dz_M283_64 s a1 a2) (q_Iv c d (w + 7)) := by
  unfold dz_M283_64
  have j4221 := dzj_M245 c d w (s) hI (a1)
  refine q_E_L ?_
  generalize dz_M245 s a1 = r3 at j4221 ⊢
  cases h4222 : decide (r3 = 1) with
  | true =>
    have g4223 := q_rg_eqT h4222 (q_rg_lit (n := 1) (x := 1) rfl)
    refine q_E_T ?_
    exact q_E_x (q_Iv_mono hI (by omega) (by omega) (by omega))
  | false =>
    have g4224 := (q_rg_neL (l := 1) (u := 3) (n := 1) (L := 2) h4222 j4221 rfl (by decide) (by decide))
    refine q_E_F ?_
    obtain ⟨r4, e4226, j4225⟩ := dzj_M279_64 c d w (s) hI (32) (by omega)
    rw [e4226]
    refine q_E_B ?_
    cases h4227 : decide (a1 = 159) with
    | true =>
      have g4228 := q_rg_eqT h4227 (q_rg_lit (n := 159) (x := 159) rfl)
      refine q_E_T ?_
      obtain ⟨r5, e4230, j4229⟩ := dzj_M279_64 c d (w + 1) (r4) j4225 (40) (by omega)
      rw [e4230]
      refine q_E_B ?_
      exact q_E_to (dzj_M283_64_28 c d (w + 1 + 1) (r5) j4229 (a1) (a2) (by omega)) (fun x hx => (q_Iv_mono hx (by omega) (by omega) (by omega)))
    | false =>
      refine q_E_F ?_
      exact q_E_to (dzj_M283_64_28 c d (w + 1) (r4) j4225 (a1) (a2) (by omega)) (fun x hx => (q_Iv_mono hx (by omega) (by omega) (by omega)))
set_option maxHeartbeats 4000000 in
theorem dzj_M285_64 (c d w : Int) (s : q_S) (hI : q_Iv c d 40 s) (a1 : Int32) : q_Ex (dz_M285_64 s a1) (fun (x : q_S × Int32) => q_Iv c d 40 x.1) := by
  unfold dz_M285_64
  refine q_E_L ?_
  generalize p4260 : dz_M203 s a1 = r4
  cases r4 with
  | true =>
    refine q_E_T ?_
    have j4261 := q_fails (s) (1) hI
    refine q_E_L ?_
    generalize dz_M199_64 s 1 = r5 at j4261 ⊢
    cases h4262 : r5.2 with
    | true =>
      refine q_E_T ?_
      exact q_E_x j4261.1
    | false =>
      exact (q_failsF j4261 h4262 (q_rg_lit (n := 1) (x := 1) rfl) (by decide)).elim
  | false =>
    have g4263 : q_rgz 0 4095 (a1) := ⟨(q_p204 p4260).1, (q_p204 p4260).2⟩
    refine q_E_F ?_
    have j4264 := q_fails (s) (0) hI
    refine q_E_L ?_
    generalize dz_M199_64 s 0 = r17 at j4264 ⊢
    cases h4265 : r17.2 with
    | true =>
      exact (q_failsT j4264 h4265 (q_rg_lit (n := 0) (x := 0) rfl) (by decide)).elim
    | false =>
      refine q_E_F ?_
      obtain ⟨r18, e4267, j4266⟩ := dzj_M246_64 c d 40 (r17.1) j4264.1 (a1)
      rw [e4267]
      refine q_E_B ?_
      obtain ⟨r19, e4269, j4268⟩ := dzj_M280_64 c d 0 (q_sI r18.1 0 35 0) (q_Iv_w0 j4266.1 (q_rg_le (L := 0) (U := 0) (q_rg_lit (n := 0) (x := 0) rfl) (by decide) (by decide))) (a1) (q_rg_le (L := 0) (U := 4095) g4263 (by decide) (by decide)) (by omega)
      rw [e4269]
      refine q_E_B ?_
      obtain ⟨r20, e4271, j4270⟩ := dzj_M279_64 c d (0 + 4) (r19) j4268 (32) (by omega)
      rw [e4271]
      refine q_E_B ?_
      refine q_E_L ?_
      generalize p4272 : dz_M284 r20 r18.2 = r21
      cases r21 with
      | true =>
        refine q_E_T ?_
        obtain ⟨r22, e4274, j4273⟩ := dzj_M279_64 c d (0 + 4 + 1) (r20) j4270 (106) (by omega)
        rw [e4274]
        refine q_E_B ?_
        obtain ⟨r23, e4276, j4275⟩ := dzj_M279_64 c d (0 + 4 + 1 + 1) (r22) j4273 (97) (by omega)
        rw [e4276]
        refine q_E_B ?_
        obtain ⟨r24, e4278, j4277⟩ := dzj_M279_64 c d (0 + 4 + 1 + 1 + 1) (r23) j4275 (109) (by omega)
        rw [e4278]
        refine q_E_B ?_
        exact q_E_x (q_Iv_mono j4277 (by omega) (by omega) (by omega))
      | false =>
        refine q_E_F ?_
        obtain ⟨r25, e4280, j4279⟩ := dzj_M281_64 c d (0 + 4 + 1) (r20) j4270 (r18.2) (q_rg_le (L := 0) (U := 255) j4266.2 (by decide) (by decide)) p4272 (by omega)
        rw [e4280]
        refine q_E_B ?_
        have j4281 := dzj_M243 c d (0 + 4 + 1 + 3) (r25) j4279 (r18.2)
        refine q_E_L ?_
        generalize dz_M243 r25 r18.2 = r26 at j4281 ⊢
        cases h4282 : decide (r26 < 0) with
        | true =>
          have g4283 := (q_rg_ltT1 (l := -2147483648) (U := -1) h4282 (q_rg_full _) (q_rg_lit (n := 0) (x := 0) rfl) (by decide))
          refine q_E_T ?_
          obtain ⟨r27, e4285, j4284⟩ := dzj_M283_64 c d (0 + 4 + 1 + 3) (r25) j4279 (r18.2) (a1) (by omega)
          rw [e4285]
          refine q_E_B ?_
          exact q_E_x (q_Iv_mono j4284 (by omega) (by omega) (by omega))
        | false =>
          have g4286 := (q_rg_ltF1 (l2 := 0) (u := 2147483647) h4282 (q_rg_full _) (q_rg_lit (n := 0) (x := 0) rfl))
          refine q_E_F ?_
          obtain ⟨r28, e4288, j4287⟩ := dzj_M282_64 c d (0 + 4 + 1 + 3) (r25) j4279 (r18.2 - r18.2 / 8 * 8) (a1) (q_rg_le (L := 0) (U := 7) (q_rg_rem (c := 8) (U := 7) j4266.2 (by decide) rfl (by decide) (by decide)) (by decide) (by decide)) (by omega)
          rw [e4288]
          refine q_E_B ?_
          exact q_E_x (q_Iv_mono j4287 (by omega) (by omega) (by omega))
set_option maxHeartbeats 4000000 in
theorem dzj_M286_64 (c d w : Int) (s : q_S) (hI : q_Iv c d 40 s) (a1 : Int32) : q_Ex (dz_M286_64 s a1) (fun (x : q_S × Int32) => q_Iv c d 40 x.1) := by
  unfold dz_M286_64
  refine q_E_L ?_
  generalize p4295 : dz_M201 s a1 0 ((s.2.1 0 35) - 1) = r3
  cases r3 with
  | true =>
    have g4296 : q_rgz 0 39 (a1) := ⟨(q_p202 p4295 (q_rg_lit (n := 0) (x := 0) rfl) (q_rg_sub (L := -1) (U := 39) (q_f35 hI) (q_rg_lit (n := 1) (x := 1) rfl) (by decide) (by decide) (by decide) (by decide))).1, (q_p202 p4295 (q_rg_lit (n := 0) (x := 0) rfl) (q_rg_sub (L := -1) (U := 39) (q_f35 hI) (q_rg_lit (n := 1) (x := 1) rfl) (by decide) (by decide) (by decide) (by decide))).2⟩
    refine q_E_T ?_
    have j4297 := q_fails (s) (0) hI
    refine q_E_L ?_
    generalize dz_M199_64 s 0 = r4 at j4297 ⊢
    cases h4298 : r4.2 with
    | true =>
      exact (q_failsT j4297 h4298 (q_rg_lit (n := 0) (x := 0) rfl) (by decide)).elim
    | false =>
      refine q_E_F ?_
      refine q_E_A (q_in_rg g4296 (by decide) (by decide)) ?_
      refine q_E_A (q_ch_rg (q_rg_le (q_r32 j4297.1 _) (by decide) (by decide))) ?_
      exact q_E_x j4297.1
  | false =>
    refine q_E_F ?_
    have j4299 := q_fails (s) (1) hI
    refine q_E_L ?_
    generalize dz_M199_64 s 1 = r5 at j4299 ⊢
    cases h4300 : r5.2 with
    | true =>
      refine q_E_T ?_
      exact q_E_x j4299.1
    | false =>
      exact (q_failsF j4299 h4300 (q_rg_lit (n := 1) (x := 1) rfl) (by decide)).elim
set_option maxHeartbeats 4000000 in
theorem dzj_M287_64 (c d w : Int) (s : q_S) (hI : q_Iv c d w s) (a1 : Int32) : q_Ex (dz_M287_64 s a1) (fun (x : q_S × Int32) => q_Iv c d w x.1) := by
  unfold dz_M287_64
  refine q_E_L ?_
  generalize p4307 : dz_M201 s a1 0 4 = r3
  cases r3 with
  | true =>
    have g4308 : q_rgz 0 4 (a1) := ⟨(q_p202 p4307 (q_rg_lit (n := 0) (x := 0) rfl) (q_rg_lit (n := 4) (x := 4) rfl)).1, (q_p202 p4307 (q_rg_lit (n := 0) (x := 0) rfl) (q_rg_lit (n := 4) (x := 4) rfl)).2⟩
    refine q_E_T ?_
    have j4309 := q_fails (s) (0) hI
    refine q_E_L ?_
    generalize dz_M199_64 s 0 = r4 at j4309 ⊢
    cases h4310 : r4.2 with
    | true =>
      exact (q_failsT j4309 h4310 (q_rg_lit (n := 0) (x := 0) rfl) (by decide)).elim
    | false =>
      refine q_E_F ?_
      refine q_E_A (q_in_rg g4308 (by decide) (by decide)) ?_
      exact q_E_x j4309.1
  | false =>
    refine q_E_F ?_
    have j4311 := q_fails (s) (1) hI
    refine q_E_L ?_
    generalize dz_M199_64 s 1 = r5 at j4311 ⊢
    cases h4312 : r5.2 with
    | true =>
      refine q_E_T ?_
      exact q_E_x j4311.1
    | false =>
      exact (q_failsF j4311 h4312 (q_rg_lit (n := 1) (x := 1) rfl) (by decide)).elim
set_option maxHeartbeats 4000000 in
theorem dzj_M288_64 (c d w : Int) (s : q_S) (hI : q_Iv c d w s) (a1 : Int32) (a2 : Int32) : q_Ex (dz_M288_64 s a1 a2) (fun (x : q_S × Int32) => q_Iv c d w x.1) := by
  unfold dz_M288_64
  refine q_E_L ?_
  generalize p4348 : dz_M201 s a1 0 4 = r4
  cases r4 with
  | true =>
    have g4349 : q_rgz 0 4 (a1) := ⟨(q_p202 p4348 (q_rg_lit (n := 0) (x := 0) rfl) (q_rg_lit (n := 4) (x := 4) rfl)).1, (q_p202 p4348 (q_rg_lit (n := 0) (x := 0) rfl) (q_rg_lit (n := 4) (x := 4) rfl)).2⟩
    refine q_E_T ?_
    cases h4350 : decide (a1 = 4) with
    | true =>
      have g4351 := q_rg_eqT h4350 (q_rg_lit (n := 4) (x := 4) rfl)
      refine q_E_T ?_
      refine q_E_L ?_
      generalize p4352 : dz_M201 s a2 0 4095 = r5
      cases r5 with
      | true =>
        have g4353 : q_rgz 0 4095 (a2) := ⟨(q_p202 p4352 (q_rg_lit (n := 0) (x := 0) rfl) (q_rg_lit (n := 4095) (x := 4095) rfl)).1, (q_p202 p4352 (q_rg_lit (n := 0) (x := 0) rfl) (q_rg_lit (n := 4095) (x := 4095) rfl)).2⟩
        refine q_E_T ?_
        cases h4354 : decide (0 < (s.1 14) 17) with
        | true =>
          have g4355 := (q_rg_ltT2 (L := 1) (u2 := 2147483647) h4354 (q_rg_lit (n := 0) (x := 0) rfl) (q_rg_full _) (by decide))
          refine q_E_T ?_
          have j4356 := q_fails (s) (3) hI
          refine q_E_L ?_
          generalize dz_M199_64 s 3 = r6 at j4356 ⊢
          have g4357 : q_rgz 1 2147483647 ((r6.1.1 14) 17) := by rw [j4356.2.2.1]; exact g4355
          cases h4358 : r6.2 with
          | true =>
            refine q_E_T ?_
            exact q_E_x j4356.1
          | false =>
            exact (q_failsF j4356 h4358 (q_rg_lit (n := 3) (x := 3) rfl) (by decide)).elim
        | false =>
          have g4359 := (q_rg_ltF2 (l2 := -2147483648) (u := 0) h4354 (q_rg_lit (n := 0) (x := 0) rfl) (q_rg_full _))
          refine q_E_F ?_
          have j4360 := q_fails (s) (0) hI
          refine q_E_L ?_
          generalize dz_M199_64 s 0 = r8 at j4360 ⊢
          have g4361 : q_rgz (-2147483648) 0 ((r8.1.1 14) 17) := by rw [j4360.2.2.1]; exact g4359
          cases h4362 : r8.2 with
          | true =>
            exact (q_failsT j4360 h4362 (q_rg_lit (n := 0) (x := 0) rfl) (by decide)).elim
          | false =>
            refine q_E_F ?_
            refine q_E_A (q_in_rg g4351 (by decide) (by decide)) ?_
            have j4363 := dzj_M204_64 c d w (q_sA r8.1 14 (upd (r8.1.1 14) (a1.toNatClampNeg) a2)) (q_Iv_A (i := 14) j4360.1 (q_hf_up ((j4360.1).1 14) (q_stv (i := 14) (a := 4) (n := 1) (L := 0) (U := 4095) j4360.1 (q_rg_le g4351 (by decide) (by decide)) (by decide) g4353)))
            refine q_E_L ?_
            generalize dz_M204_64 (q_sA r8.1 14 (upd (r8.1.1 14) (a1.toNatClampNeg) a2)) = r9 at j4363 ⊢
            exact q_E_x j4363
      | false =>
        refine q_E_F ?_
        have j4364 := q_fails (s) (2) hI
        refine q_E_L ?_
        generalize dz_M199_64 s 2 = r10 at j4364 ⊢
        cases h4365 : r10.2 with
        | true =>
          refine q_E_T ?_
          exact q_E_x j4364.1
        | false =>
          exact (q_failsF j4364 h4365 (q_rg_lit (n := 2) (x := 2) rfl) (by decide)).elim
    | false =>
      have g4366 := (q_rg_neU (l := 0) (u := 4) (n := 4) (U := 3) h4350 g4349 rfl (by decide) (by decide))
      refine q_E_F ?_
      refine q_E_L ?_
      generalize p4367 : dz_M201 s a2 0 255 = r12
      cases r12 with
      | true =>
        have g4368 : q_rgz 0 255 (a2) := ⟨(q_p202 p4367 (q_rg_lit (n := 0) (x := 0) rfl) (q_rg_lit (n := 255) (x := 255) rfl)).1, (q_p202 p4367 (q_rg_lit (n := 0) (x := 0) rfl) (q_rg_lit (n := 255) (x := 255) rfl)).2⟩
        refine q_E_T ?_
        cases h4369 : decide (0 < (s.1 14) 17) with
        | true =>
          have g4370 := (q_rg_ltT2 (L := 1) (u2 := 2147483647) h4369 (q_rg_lit (n := 0) (x := 0) rfl) (q_rg_full _) (by decide))
          refine q_E_T ?_
          have j4371 := q_fails (s) (3) hI
          refine q_E_L ?_
          generalize dz_M199_64 s 3 = r13 at j4371 ⊢
          have g4372 : q_rgz 1 2147483647 ((r13.1.1 14) 17) := by rw [j4371.2.2.1]; exact g4370
          cases h4373 : r13.2 with
          | true =>
            refine q_E_T ?_
            exact q_E_x j4371.1
          | false =>
            exact (q_failsF j4371 h4373 (q_rg_lit (n := 3) (x := 3) rfl) (by decide)).elim
        | false =>
          have g4374 := (q_rg_ltF2 (l2 := -2147483648) (u := 0) h4369 (q_rg_lit (n := 0) (x := 0) rfl) (q_rg_full _))
          refine q_E_F ?_
          have j4375 := q_fails (s) (0) hI
          refine q_E_L ?_
          generalize dz_M199_64 s 0 = r15 at j4375 ⊢
          have g4376 : q_rgz (-2147483648) 0 ((r15.1.1 14) 17) := by rw [j4375.2.2.1]; exact g4374
          cases h4377 : r15.2 with
          | true =>
            exact (q_failsT j4375 h4377 (q_rg_lit (n := 0) (x := 0) rfl) (by decide)).elim
          | false =>
            refine q_E_F ?_
            refine q_E_A (q_in_rg g4366 (by decide) (by decide)) ?_
            have j4378 := dzj_M204_64 c d w (q_sA r15.1 14 (upd (r15.1.1 14) (a1.toNatClampNeg) a2)) (q_Iv_A (i := 14) j4375.1 (q_hf_up ((j4375.1).1 14) (q_stv (i := 14) (a := 0) (n := 4) (L := 0) (U := 255) j4375.1 (q_rg_le g4366 (by decide) (by decide)) (by decide) g4368)))
            refine q_E_L ?_
            generalize dz_M204_64 (q_sA r15.1 14 (upd (r15.1.1 14) (a1.toNatClampNeg) a2)) = r16 at j4378 ⊢
            exact q_E_x j4378
      | false =>
        refine q_E_F ?_
        have j4379 := q_fails (s) (2) hI
        refine q_E_L ?_
        generalize dz_M199_64 s 2 = r17 at j4379 ⊢
        cases h4380 : r17.2 with
        | true =>
          refine q_E_T ?_
          exact q_E_x j4379.1
        | false =>
          exact (q_failsF j4379 h4380 (q_rg_lit (n := 2) (x := 2) rfl) (by decide)).elim
  | false =>
    refine q_E_F ?_
    have j4381 := q_fails (s) (1) hI
    refine q_E_L ?_
    generalize dz_M199_64 s 1 = r19 at j4381 ⊢
    cases h4382 : r19.2 with
    | true =>
      refine q_E_T ?_
      exact q_E_x j4381.1
    | false =>
      exact (q_failsF j4381 h4382 (q_rg_lit (n := 1) (x := 1) rfl) (by decide)).elim
set_option maxHeartbeats 4000000 in
theorem dzj_M289_64 (c d w : Int) (s : q_S) (hI : q_Iv c d w s) : q_Ex (dz_M289_64 s) (fun (x : q_S × Int32) => q_Iv c d w x.1) := by
  unfold dz_M289_64
  obtain ⟨r2, e4387, j4386⟩ := dzj_M257_64 c d w (s) hI (16) (q_rg_le (L := 0) (U := 16) (q_rg_lit (n := 16) (x := 16) rfl) (by decide) (by decide))
  rw [e4387]
  refine q_E_B ?_
  have j4388 := dzj_M200_64 c d w (s) hI (r2)
  refine q_E_L ?_
  generalize dz_M200_64 s r2 = r3 at j4388 ⊢
  exact q_E_x j4388
set_option maxHeartbeats 4000000 in
theorem dzjb_M290_64_66 (c d w : Int) (k66 : q_S → Int32 → Option (q_S × Int32)) (M66 : Int) (tk66 : ∀ (s : q_S), q_Iv c d w s → ∀ (v1 : Int32), q_rgz 0 8 v1 → ((8 - v1.toInt).toNat : Int) ≤ M66 → q_Ex (k66 s v1) (fun (x : q_S × Int32) => q_Iv c d w x.1)) (s : q_S) (hI : q_Iv c d w s) (v1 : Int32) (rv1 : q_rgz 0 8 v1) (m66 : ((8 - v1.toInt).toNat : Int) ≤ M66 + 1) : q_Ex (cond (decide (v1 < 8)) (cond (decide (v1 = 3)) (cond (q_in v1 8) (k66 (q_sA s 15 (upd (s.1 15) (v1.toNatClampNeg) (vp_nar .boolean 1))) (v1 + 1)) none) (cond (q_in v1 8) (k66 (q_sA s 15 (upd (s.1 15) (v1.toNatClampNeg) (vp_nar .boolean 0))) (v1 + 1)) none)) ((dz_M247_64 s 3836).bind fun r2 => q_let (dz_M204_64 (q_sA r2.1 14 (upd (r2.1.1 14) 4 r2.2))) fun r3 => some (r3, ((r3.1 14) 4)))) (fun (x : q_S × Int32) => q_Iv c d w x.1) := by
  cases h4404 : decide (v1 < 8) with
  | true =>
    have g4405 := (q_rg_ltT1 (l := 0) (U := 7) h4404 rv1 (q_rg_lit (n := 8) (x := 8) rfl) (by decide))
    refine q_E_T ?_
    cases h4406 : decide (v1 = 3) with
    | true =>
      have g4407 := q_rg_eqT h4406 (q_rg_lit (n := 3) (x := 3) rfl)
      refine q_E_T ?_
      refine q_E_A (q_in_rg g4407 (by decide) (by decide)) ?_
      exact tk66 (q_sA s 15 (upd (s.1 15) (v1.toNatClampNeg) (vp_nar .boolean 1))) (q_Iv_A (i := 15) hI (q_hf_up ((hI).1 15) (q_s15 (q_rg_le (L := 0) (U := 1) (q_rg_nb _) (by decide) (by decide))))) (v1 + 1) (q_rg_le (L := 0) (U := 8) (q_rg_add (L := 4) (U := 4) g4407 (q_rg_lit (n := 1) (x := 1) rfl) (by decide) (by decide) (by decide) (by decide)) (by decide) (by decide)) (q_meu g4407 m66 (by decide) (by decide))
    | false =>
      refine q_E_F ?_
      refine q_E_A (q_in_rg g4405 (by decide) (by decide)) ?_
      exact tk66 (q_sA s 15 (upd (s.1 15) (v1.toNatClampNeg) (vp_nar .boolean 0))) (q_Iv_A (i := 15) hI (q_hf_up ((hI).1 15) (q_s15 (q_rg_le (L := 0) (U := 1) (q_rg_nb _) (by decide) (by decide))))) (v1 + 1) (q_rg_le (L := 0) (U := 8) (q_rg_add (L := 1) (U := 8) g4405 (q_rg_lit (n := 1) (x := 1) rfl) (by decide) (by decide) (by decide) (by decide)) (by decide) (by decide)) (q_meu g4405 m66 (by decide) (by decide))
  | false =>
    have g4408 := (q_rg_ltF1 (l2 := 8) (u := 8) h4404 rv1 (q_rg_lit (n := 8) (x := 8) rfl))
    refine q_E_F ?_
    obtain ⟨r2, e4410, j4409⟩ := dzj_M247_64 c d w (s) hI (3836)
    rw [e4410]
    refine q_E_B ?_
    have j4411 := dzj_M204_64 c d w (q_sA r2.1 14 (upd (r2.1.1 14) 4 r2.2)) (q_Iv_A (i := 14) j4409.1 (q_hf_up ((j4409.1).1 14) (q_sn4 (q_rg_le (L := 0) (U := 4095) j4409.2 (by decide) (by decide)))))
    refine q_E_L ?_
    generalize dz_M204_64 (q_sA r2.1 14 (upd (r2.1.1 14) 4 r2.2)) = r3 at j4411 ⊢
    exact q_E_x j4411
theorem dzj_M290_64_66 (c d w : Int) : ∀ (m : Nat) (s : q_S) (hI : q_Iv c d w s) (v1 : Int32) (rv1 : q_rgz 0 8 v1), ((8 - v1.toInt).toNat : Int) ≤ (m : Int) → q_Ex (dz_M290_64_66 (m + 1) s v1) (fun (x : q_S × Int32) => q_Iv c d w x.1) := by
  intro m
  induction m with
  | zero => intro s hI v1 rv1 hm; rw [dzs_M290_64_66]; exact dzjb_M290_64_66 c d w (dz_M290_64_66 0) (-1) (fun s hI v1 rv1 hm => absurd hm (by omega)) s hI v1 rv1 (by omega)
  | succ m ih => intro s hI v1 rv1 hm; rw [dzs_M290_64_66]; exact dzjb_M290_64_66 c d w (dz_M290_64_66 (m + 1)) (m : Int) (fun s hI v1 rv1 hm => ih s hI v1 rv1 hm) s hI v1 rv1 (by omega)
set_option maxHeartbeats 4000000 in
theorem dzjb_M290_64_28 (c d w : Int) (k28 : q_S → Int32 → Option (q_S × Int32)) (M28 : Int) (tk28 : ∀ (s : q_S), q_Iv c d w s → ∀ (v1 : Int32), q_rgz 0 12 v1 → ((12 - v1.toInt).toNat : Int) ≤ M28 → q_Ex (k28 s v1) (fun (x : q_S × Int32) => q_Iv c d w x.1)) (s : q_S) (hI : q_Iv c d w s) (v1 : Int32) (rv1 : q_rgz 0 12 v1) (m28 : ((12 - v1.toInt).toNat : Int) ≤ M28 + 1) : q_Ex (cond (decide (v1 < 12)) (cond (q_in v1 24) (k28 (q_sA s 14 (upd (s.1 14) (v1.toNatClampNeg) 0)) (v1 + 1)) none) (q_let ((q_sA s 14 (upd (s.1 14) 3 255))) fun r1 => dz_M290_64_66 5000 (q_sA r1 14 (upd (r1.1 14) 17 0)) 0)) (fun (x : q_S × Int32) => q_Iv c d w x.1) := by
  cases h4412 : decide (v1 < 12) with
  | true =>
    have g4413 := (q_rg_ltT1 (l := 0) (U := 11) h4412 rv1 (q_rg_lit (n := 12) (x := 12) rfl) (by decide))
    refine q_E_T ?_
    refine q_E_A (q_in_rg g4413 (by decide) (by decide)) ?_
    exact tk28 (q_sA s 14 (upd (s.1 14) (v1.toNatClampNeg) 0)) (q_Iv_A (i := 14) hI (q_hf_up ((hI).1 14) (q_stv (i := 14) (a := 0) (n := 12) (L := 0) (U := 0) hI (q_rg_le g4413 (by decide) (by decide)) (by decide) (q_rg_lit (n := 0) (x := 0) rfl)))) (v1 + 1) (q_rg_le (L := 0) (U := 12) (q_rg_add (L := 1) (U := 12) g4413 (q_rg_lit (n := 1) (x := 1) rfl) (by decide) (by decide) (by decide) (by decide)) (by decide) (by decide)) (q_meu g4413 m28 (by decide) (by decide))
  | false =>
    have g4414 := (q_rg_ltF1 (l2 := 12) (u := 12) h4412 rv1 (q_rg_lit (n := 12) (x := 12) rfl))
    refine q_E_F ?_
    have j4415 : q_Iv c d w (q_sA s 14 (upd (s.1 14) 3 255)) := (q_Iv_A (i := 14) hI (q_hf_up ((hI).1 14) (q_sn3 (q_rg_le (L := 0) (U := 255) (q_rg_lit (n := 255) (x := 255) rfl) (by decide) (by decide)))))
    refine q_E_L ?_
    generalize (q_sA s 14 (upd (s.1 14) 3 255)) = r1 at j4415 ⊢
    exact dzj_M290_64_66 c d w 4999 (q_sA r1 14 (upd (r1.1 14) 17 0)) (q_Iv_A (i := 14) j4415 (q_hf_up ((j4415).1 14) (q_sn17 (q_rg_full _)))) (0) (q_rg_le (L := 0) (U := 8) (q_rg_lit (n := 0) (x := 0) rfl) (by decide) (by decide)) (q_meu0 (q_rg_lit (n := 0) (x := 0) rfl) (by decide) (by decide))
theorem dzj_M290_64_28 (c d w : Int) : ∀ (m : Nat) (s : q_S) (hI : q_Iv c d w s) (v1 : Int32) (rv1 : q_rgz 0 12 v1), ((12 - v1.toInt).toNat : Int) ≤ (m : Int) → q_Ex (dz_M290_64_28 (m + 1) s v1) (fun (x : q_S × Int32) => q_Iv c d w x.1) := by
  intro m
  induction m with
  | zero => intro s hI v1 rv1 hm; rw [dzs_M290_64_28]; exact dzjb_M290_64_28 c d w (dz_M290_64_28 0) (-1) (fun s hI v1 rv1 hm => absurd hm (by omega)) s hI v1 rv1 (by omega)
  | succ m ih => intro s hI v1 rv1 hm; rw [dzs_M290_64_28]; exact dzjb_M290_64_28 c d w (dz_M290_64_28 (m + 1)) (m : Int) (fun s hI v1 rv1 hm => ih s hI v1 rv1 hm) s hI v1 rv1 (by omega)
set_option maxHeartbeats 4000000 in
theorem dzjb_M290_64_7 (c d w : Int) (k7 : q_S → Int32 → Option (q_S × Int32)) (M7 : Int) (tk7 : ∀ (s : q_S), q_Iv c d w s → ∀ (v1 : Int32), q_rgz 0 48 v1 → ((48 - v1.toInt).toNat : Int) ≤ M7 → q_Ex (k7 s v1) (fun (x : q_S × Int32) => q_Iv c d w x.1)) (s : q_S) (hI : q_Iv c d w s) (v1 : Int32) (rv1 : q_rgz 0 48 v1) (m7 : ((48 - v1.toInt).toNat : Int) ≤ M7 + 1) : q_Ex (cond (decide (v1 < 48)) (cond (q_in v1 48) (k7 (q_sA s 4 (upd (s.1 4) (v1.toNatClampNeg) 0)) (v1 + 1)) none) (dz_M290_64_28 5000 s 0)) (fun (x : q_S × Int32) => q_Iv c d w x.1) := by
  cases h4416 : decide (v1 < 48) with
  | true =>
    have g4417 := (q_rg_ltT1 (l := 0) (U := 47) h4416 rv1 (q_rg_lit (n := 48) (x := 48) rfl) (by decide))
    refine q_E_T ?_
    refine q_E_A (q_in_rg g4417 (by decide) (by decide)) ?_
    exact tk7 (q_sA s 4 (upd (s.1 4) (v1.toNatClampNeg) 0)) (q_Iv_A (i := 4) hI (q_hf_up ((hI).1 4) (q_stv (i := 4) (a := 0) (n := 48) (L := 0) (U := 0) hI (q_rg_le g4417 (by decide) (by decide)) (by decide) (q_rg_lit (n := 0) (x := 0) rfl)))) (v1 + 1) (q_rg_le (L := 0) (U := 48) (q_rg_add (L := 1) (U := 48) g4417 (q_rg_lit (n := 1) (x := 1) rfl) (by decide) (by decide) (by decide) (by decide)) (by decide) (by decide)) (q_meu g4417 m7 (by decide) (by decide))
  | false =>
    have g4418 := (q_rg_ltF1 (l2 := 48) (u := 48) h4416 rv1 (q_rg_lit (n := 48) (x := 48) rfl))
    refine q_E_F ?_
    exact dzj_M290_64_28 c d w 4999 (s) hI (0) (q_rg_le (L := 0) (U := 12) (q_rg_lit (n := 0) (x := 0) rfl) (by decide) (by decide)) (q_meu0 (q_rg_lit (n := 0) (x := 0) rfl) (by decide) (by decide))
theorem dzj_M290_64_7 (c d w : Int) : ∀ (m : Nat) (s : q_S) (hI : q_Iv c d w s) (v1 : Int32) (rv1 : q_rgz 0 48 v1), ((48 - v1.toInt).toNat : Int) ≤ (m : Int) → q_Ex (dz_M290_64_7 (m + 1) s v1) (fun (x : q_S × Int32) => q_Iv c d w x.1) := by
  intro m
  induction m with
  | zero => intro s hI v1 rv1 hm; rw [dzs_M290_64_7]; exact dzjb_M290_64_7 c d w (dz_M290_64_7 0) (-1) (fun s hI v1 rv1 hm => absurd hm (by omega)) s hI v1 rv1 (by omega)
  | succ m ih => intro s hI v1 rv1 hm; rw [dzs_M290_64_7]; exact dzjb_M290_64_7 c d w (dz_M290_64_7 (m + 1)) (m : Int) (fun s hI v1 rv1 hm => ih s hI v1 rv1 hm) s hI v1 rv1 (by omega)
set_option maxHeartbeats 4000000 in
theorem dzj_M290_64 (c d w : Int) (s : q_S) (hI : q_Iv c d w s) : q_Ex (dz_M290_64 s) (fun (x : q_S × Int32) => q_Iv c d w x.1) := by
  unfold dz_M290_64
  exact dzj_M290_64_7 c d w 4999 (q_sI s 0 39 0) (q_Iv_I (i := 0) (m := 39) hI (q_rg_full _)) (0) (q_rg_le (L := 0) (U := 48) (q_rg_lit (n := 0) (x := 0) rfl) (by decide) (by decide)) (q_meu0 (q_rg_lit (n := 0) (x := 0) rfl) (by decide) (by decide))
set_option maxHeartbeats 4000000 in
theorem dzj_M291_64 (c d w : Int) (s : q_S) (hI : q_Iv c d w s) : (fun (x : q_S × Int32) => q_Iv c d w x.1) (dz_M291_64 s) := by
  refine q_S_of (P := (fun (x : q_S × Int32) => q_Iv c d w x.1)) ?_
  unfold dz_M291_64
  have j4420 := dzj_M204_64 c d w (q_sA (q_sA (q_sI s 0 39 0) 15 (upd (s.1 15) 6 (vp_nar .boolean 1))) 4 (upd (s.1 4) 0 (((s.1 4) 0) ||| 14))) (q_Iv_A (i := 4) (q_Iv_A (i := 15) (q_Iv_I (i := 0) (m := 39) hI (q_rg_full _)) (q_hf_up ((hI).1 15) (q_s15 (q_rg_le (L := 0) (U := 1) (q_rg_nb _) (by decide) (by decide))))) (q_hf_up ((hI).1 4) (q_sg0 (q_rg_le (L := 0) (U := 15) (q_rg_or (n := 4) (W := 15) (q_g0 hI) (q_rg_lit (n := 14) (x := 14) rfl) (by decide) (by decide) (by decide) (by decide) (by decide)) (by decide) (by decide)))))
  refine q_S_L ?_
  generalize dz_M204_64 (q_sA (q_sA (q_sI s 0 39 0) 15 (upd (s.1 15) 6 (vp_nar .boolean 1))) 4 (upd (s.1 4) 0 (((s.1 4) 0) ||| 14))) = r1 at j4420 ⊢
  exact q_E_x j4420
set_option maxHeartbeats 4000000 in
theorem dzj_M292_64 (c d w : Int) (s : q_S) (hI : q_Iv c d w s) (a1 : Int32) (a2 : Int32) : q_Ex (dz_M292_64 s a1 a2) (fun (x : q_S × Int32) => q_Iv c d w x.1) := by
  unfold dz_M292_64
  refine q_E_L ?_
  generalize p4431 : dz_M201 s a1 0 31 = r4
  cases r4 with
  | true =>
    have g4432 : q_rgz 0 31 (a1) := ⟨(q_p202 p4431 (q_rg_lit (n := 0) (x := 0) rfl) (q_rg_lit (n := 31) (x := 31) rfl)).1, (q_p202 p4431 (q_rg_lit (n := 0) (x := 0) rfl) (q_rg_lit (n := 31) (x := 31) rfl)).2⟩
    refine q_E_T ?_
    refine q_E_L ?_
    generalize p4433 : dz_M201 s a2 0 31 = r5
    cases r5 with
    | true =>
      have g4434 : q_rgz 0 31 (a2) := ⟨(q_p202 p4433 (q_rg_lit (n := 0) (x := 0) rfl) (q_rg_lit (n := 31) (x := 31) rfl)).1, (q_p202 p4433 (q_rg_lit (n := 0) (x := 0) rfl) (q_rg_lit (n := 31) (x := 31) rfl)).2⟩
      refine q_E_T ?_
      have j4435 := q_fails (s) (0) hI
      refine q_E_L ?_
      generalize dz_M199_64 s 0 = r6 at j4435 ⊢
      cases h4436 : r6.2 with
      | true =>
        exact (q_failsT j4435 h4436 (q_rg_lit (n := 0) (x := 0) rfl) (by decide)).elim
      | false =>
        refine q_E_F ?_
        refine q_E_A (q_in_rg (q_rg_add (L := 0) (U := 1023) (q_rg_mul (L := 0) (U := 992) (q_rg_lit (n := 32) (x := 32) rfl) g4434 (by decide) (by decide) (by decide) (by decide) (by decide) (by decide)) g4432 (by decide) (by decide) (by decide) (by decide)) (by decide) (by decide)) ?_
        exact q_E_x j4435.1
    | false =>
      refine q_E_F ?_
      have j4437 := q_fails (s) (1) hI
      refine q_E_L ?_
      generalize dz_M199_64 s 1 = r7 at j4437 ⊢
      cases h4438 : r7.2 with
      | true =>
        refine q_E_T ?_
        exact q_E_x j4437.1
      | false =>
        exact (q_failsF j4437 h4438 (q_rg_lit (n := 1) (x := 1) rfl) (by decide)).elim
  | false =>
    refine q_E_F ?_
    have j4439 := q_fails (s) (1) hI
    refine q_E_L ?_
    generalize dz_M199_64 s 1 = r8 at j4439 ⊢
    cases h4440 : r8.2 with
    | true =>
      refine q_E_T ?_
      exact q_E_x j4439.1
    | false =>
      exact (q_failsF j4439 h4440 (q_rg_lit (n := 1) (x := 1) rfl) (by decide)).elim
set_option maxHeartbeats 4000000 in
theorem dzj_M293_64 (c d w : Int) (s : q_S) (hI : q_Iv c d w s) (a1 : Int32) (a2 : Int32) : q_Ex (dz_M293_64 s a1 a2) (fun (x : q_S × Int32) => q_Iv c d w x.1) := by
  unfold dz_M293_64
  obtain ⟨r2, e4444, j4443⟩ := dzj_M292_64 c d w (s) hI (a1) (a2)
  rw [e4444]
  refine q_E_B ?_
  exact q_E_x j4443
set_option maxHeartbeats 4000000 in
theorem dzj_M294_64 (c d w : Int) (s : q_S) (hI : q_Iv c d w s) (a1 : Int32) (a2 : Int32) : q_Ex (dz_M294_64 s a1 a2) (fun (x : q_S × Int32) => q_Iv c d w x.1) := by
  unfold dz_M294_64
  obtain ⟨r2, e4448, j4447⟩ := dzj_M292_64 c d w (s) hI (a1) (a2)
  rw [e4448]
  refine q_E_B ?_
  exact q_E_x j4447
set_option maxHeartbeats 4000000 in
theorem dzj_M295_64 (c d w : Int) (s : q_S) (hI : q_Iv c d w s) (a1 : Int32) : q_Ex (dz_M295_64 s a1) (fun (x : q_S × Int32) => q_Iv c d w x.1) := by
  unfold dz_M295_64
  refine q_E_L ?_
  generalize p4455 : dz_M201 s a1 0 39 = r3
  cases r3 with
  | true =>
    have g4456 : q_rgz 0 39 (a1) := ⟨(q_p202 p4455 (q_rg_lit (n := 0) (x := 0) rfl) (q_rg_lit (n := 39) (x := 39) rfl)).1, (q_p202 p4455 (q_rg_lit (n := 0) (x := 0) rfl) (q_rg_lit (n := 39) (x := 39) rfl)).2⟩
    refine q_E_T ?_
    have j4457 := q_fails (s) (0) hI
    refine q_E_L ?_
    generalize dz_M199_64 s 0 = r4 at j4457 ⊢
    cases h4458 : r4.2 with
    | true =>
      exact (q_failsT j4457 h4458 (q_rg_lit (n := 0) (x := 0) rfl) (by decide)).elim
    | false =>
      refine q_E_F ?_
      refine q_E_A (q_in_rg g4456 (by decide) (by decide)) ?_
      exact q_E_x j4457.1
  | false =>
    refine q_E_F ?_
    have j4459 := q_fails (s) (1) hI
    refine q_E_L ?_
    generalize dz_M199_64 s 1 = r5 at j4459 ⊢
    cases h4460 : r5.2 with
    | true =>
      refine q_E_T ?_
      exact q_E_x j4459.1
    | false =>
      exact (q_failsF j4459 h4460 (q_rg_lit (n := 1) (x := 1) rfl) (by decide)).elim
set_option maxHeartbeats 4000000 in
theorem dzj_M296_64 (c d w : Int) (s : q_S) (hI : q_Iv c d w s) (a1 : Int32) : q_Ex (dz_M296_64 s a1) (fun (x : q_S × Int32) => q_Iv c d w x.1) := by
  unfold dz_M296_64
  refine q_E_L ?_
  generalize p4467 : dz_M201 s a1 0 2 = r3
  cases r3 with
  | true =>
    have g4468 : q_rgz 0 2 (a1) := ⟨(q_p202 p4467 (q_rg_lit (n := 0) (x := 0) rfl) (q_rg_lit (n := 2) (x := 2) rfl)).1, (q_p202 p4467 (q_rg_lit (n := 0) (x := 0) rfl) (q_rg_lit (n := 2) (x := 2) rfl)).2⟩
    refine q_E_T ?_
    have j4469 := q_fails (s) (0) hI
    refine q_E_L ?_
    generalize dz_M199_64 s 0 = r4 at j4469 ⊢
    cases h4470 : r4.2 with
    | true =>
      exact (q_failsT j4469 h4470 (q_rg_lit (n := 0) (x := 0) rfl) (by decide)).elim
    | false =>
      refine q_E_F ?_
      refine q_E_A (q_in_rg g4468 (by decide) (by decide)) ?_
      exact q_E_x j4469.1
  | false =>
    refine q_E_F ?_
    have j4471 := q_fails (s) (1) hI
    refine q_E_L ?_
    generalize dz_M199_64 s 1 = r5 at j4471 ⊢
    cases h4472 : r5.2 with
    | true =>
      refine q_E_T ?_
      exact q_E_x j4471.1
    | false =>
      exact (q_failsF j4471 h4472 (q_rg_lit (n := 1) (x := 1) rfl) (by decide)).elim
