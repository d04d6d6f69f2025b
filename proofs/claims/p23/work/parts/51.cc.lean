section
-- 51.cc
set_option maxHeartbeats 4000000 in
theorem dzj_M269_64 (c d w : Int) (s : q_S) (hI : q_Iv c d w s) (a1 : Int32) (a2 : Int32) (ra2 : q_rgz 0 255 a2) : q_Ex (dz_M269_64 s a1 a2) (q_Iv c d w) := by
  unfold dz_M269_64
  cases h2961 : decide (a1 < 0) with
  | true =>
    have g2962 := (q_rg_ltT1 (l := -2147483648) (U := -1) h2961 (q_rg_full _) (q_rg_lit (n := 0) (x := 0) rfl) (by decide))
    refine q_E_T ?_
    cases h2963 : decide (((s.1 14) 0) &&& a2 = 0) with
    | true =>
      have g2964 := q_rg_eqT h2963 (q_rg_lit (n := 0) (x := 0) rfl)
      refine q_E_T ?_
      refine q_E_L ?_
      generalize p2965 : dz_M206 (q_sA s 15 (upd (s.1 15) 4 (vp_nar .boolean 1))) a2 7 = r38
      cases r38 with
      | true =>
        refine q_E_T ?_
        have j2966 : q_Iv c d w (q_sA s 15 (upd (s.1 15) 4 (vp_nar .boolean 1))) := (q_Iv_A (i := 15) hI (q_hf_up ((hI).1 15) (q_s15 (q_rg_le (L := 0) (U := 1) (q_rg_nb _) (by decide) (by decide)))))
        refine q_E_L ?_
        generalize (q_sA s 15 (upd (s.1 15) 4 (vp_nar .boolean 1))) = r39 at j2966 ⊢
        refine q_E_L ?_
        generalize p2967 : dz_M206 (q_sA r39 15 (upd (r39.1 15) 0 (vp_nar .boolean 1))) a2 6 = r40
        cases r40 with
        | true =>
          refine q_E_T ?_
          have j2968 : q_Iv c d w (q_sA r39 15 (upd (r39.1 15) 0 (vp_nar .boolean 1))) := (q_Iv_A (i := 15) j2966 (q_hf_up ((j2966).1 15) (q_s15 (q_rg_le (L := 0) (U := 1) (q_rg_nb _) (by decide) (by decide)))))
          refine q_E_L ?_
          generalize (q_sA r39 15 (upd (r39.1 15) 0 (vp_nar .boolean 1))) = r41 at j2968 ⊢
          exact q_E_x (q_Iv_A (i := 15) j2968 (q_hf_up ((j2968).1 15) (q_s15 (q_rg_le (L := 0) (U := 1) (q_rg_nb _) (by decide) (by decide)))))
        | false =>
          refine q_E_F ?_
          have j2969 : q_Iv c d w (q_sA r39 15 (upd (r39.1 15) 0 (vp_nar .boolean 1))) := (q_Iv_A (i := 15) j2966 (q_hf_up ((j2966).1 15) (q_s15 (q_rg_le (L := 0) (U := 1) (q_rg_nb _) (by decide) (by decide)))))
          refine q_E_L ?_
          generalize (q_sA r39 15 (upd (r39.1 15) 0 (vp_nar .boolean 1))) = r42 at j2969 ⊢
          exact q_E_x (q_Iv_A (i := 15) j2969 (q_hf_up ((j2969).1 15) (q_s15 (q_rg_le (L := 0) (U := 1) (q_rg_nb _) (by decide) (by decide)))))
      | false =>
        refine q_E_F ?_
        have j2970 : q_Iv c d w (q_sA s 15 (upd (s.1 15) 4 (vp_nar .boolean 1))) := (q_Iv_A (i := 15) hI (q_hf_up ((hI).1 15) (q_s15 (q_rg_le (L := 0) (U := 1) (q_rg_nb _) (by decide) (by decide)))))
        refine q_E_L ?_
        generalize (q_sA s 15 (upd (s.1 15) 4 (vp_nar .boolean 1))) = r43 at j2970 ⊢
        refine q_E_L ?_
        generalize p2971 : dz_M206 (q_sA r43 15 (upd (r43.1 15) 0 (vp_nar .boolean 0))) a2 6 = r44
        cases r44 with
        | true =>
          refine q_E_T ?_
          have j2972 : q_Iv c d w (q_sA r43 15 (upd (r43.1 15) 0 (vp_nar .boolean 0))) := (q_Iv_A (i := 15) j2970 (q_hf_up ((j2970).1 15) (q_s15 (q_rg_le (L := 0) (U := 1) (q_rg_nb _) (by decide) (by decide)))))
          refine q_E_L ?_
          generalize (q_sA r43 15 (upd (r43.1 15) 0 (vp_nar .boolean 0))) = r45 at j2972 ⊢
          exact q_E_x (q_Iv_A (i := 15) j2972 (q_hf_up ((j2972).1 15) (q_s15 (q_rg_le (L := 0) (U := 1) (q_rg_nb _) (by decide) (by decide)))))
        | false =>
          refine q_E_F ?_
          have j2973 : q_Iv c d w (q_sA r43 15 (upd (r43.1 15) 0 (vp_nar .boolean 0))) := (q_Iv_A (i := 15) j2970 (q_hf_up ((j2970).1 15) (q_s15 (q_rg_le (L := 0) (U := 1) (q_rg_nb _) (by decide) (by decide)))))
          refine q_E_L ?_
          generalize (q_sA r43 15 (upd (r43.1 15) 0 (vp_nar .boolean 0))) = r46 at j2973 ⊢
          exact q_E_x (q_Iv_A (i := 15) j2973 (q_hf_up ((j2973).1 15) (q_s15 (q_rg_le (L := 0) (U := 1) (q_rg_nb _) (by decide) (by decide)))))
    | false =>
      have g2974 := (q_rg_neL (l := 0) (u := 255) (n := 0) (L := 1) h2963 (q_rg_and1 (q_n0z hI) (by decide)) rfl (by decide) (by decide))
      refine q_E_F ?_
      refine q_E_L ?_
      generalize p2975 : dz_M206 (q_sA s 15 (upd (s.1 15) 4 (vp_nar .boolean 0))) a2 7 = r47
      cases r47 with
      | true =>
        refine q_E_T ?_
        have j2976 : q_Iv c d w (q_sA s 15 (upd (s.1 15) 4 (vp_nar .boolean 0))) := (q_Iv_A (i := 15) hI (q_hf_up ((hI).1 15) (q_s15 (q_rg_le (L := 0) (U := 1) (q_rg_nb _) (by decide) (by decide)))))
        refine q_E_L ?_
        generalize (q_sA s 15 (upd (s.1 15) 4 (vp_nar .boolean 0))) = r48 at j2976 ⊢
        refine q_E_L ?_
        generalize p2977 : dz_M206 (q_sA r48 15 (upd (r48.1 15) 0 (vp_nar .boolean 1))) a2 6 = r49
        cases r49 with
        | true =>
          refine q_E_T ?_
          have j2978 : q_Iv c d w (q_sA r48 15 (upd (r48.1 15) 0 (vp_nar .boolean 1))) := (q_Iv_A (i := 15) j2976 (q_hf_up ((j2976).1 15) (q_s15 (q_rg_le (L := 0) (U := 1) (q_rg_nb _) (by decide) (by decide)))))
          refine q_E_L ?_
          generalize (q_sA r48 15 (upd (r48.1 15) 0 (vp_nar .boolean 1))) = r50 at j2978 ⊢
          exact q_E_x (q_Iv_A (i := 15) j2978 (q_hf_up ((j2978).1 15) (q_s15 (q_rg_le (L := 0) (U := 1) (q_rg_nb _) (by decide) (by decide)))))
        | false =>
          refine q_E_F ?_
          have j2979 : q_Iv c d w (q_sA r48 15 (upd (r48.1 15) 0 (vp_nar .boolean 1))) := (q_Iv_A (i := 15) j2976 (q_hf_up ((j2976).1 15) (q_s15 (q_rg_le (L := 0) (U := 1) (q_rg_nb _) (by decide) (by decide)))))
          refine q_E_L ?_
          generalize (q_sA r48 15 (upd (r48.1 15) 0 (vp_nar .boolean 1))) = r51 at j2979 ⊢
          exact q_E_x (q_Iv_A (i := 15) j2979 (q_hf_up ((j2979).1 15) (q_s15 (q_rg_le (L := 0) (U := 1) (q_rg_nb _) (by decide) (by decide)))))
      | false =>
        refine q_E_F ?_
        have j2980 : q_Iv c d w (q_sA s 15 (upd (s.1 15) 4 (vp_nar .boolean 0))) := (q_Iv_A (i := 15) hI (q_hf_up ((hI).1 15) (q_s15 (q_rg_le (L := 0) (U := 1) (q_rg_nb _) (by decide) (by decide)))))
        refine q_E_L ?_
        generalize (q_sA s 15 (upd (s.1 15) 4 (vp_nar .boolean 0))) = r52 at j2980 ⊢
        refine q_E_L ?_
        generalize p2981 : dz_M206 (q_sA r52 15 (upd (r52.1 15) 0 (vp_nar .boolean 0))) a2 6 = r53
        cases r53 with
        | true =>
          refine q_E_T ?_
          have j2982 : q_Iv c d w (q_sA r52 15 (upd (r52.1 15) 0 (vp_nar .boolean 0))) := (q_Iv_A (i := 15) j2980 (q_hf_up ((j2980).1 15) (q_s15 (q_rg_le (L := 0) (U := 1) (q_rg_nb _) (by decide) (by decide)))))
          refine q_E_L ?_
          generalize (q_sA r52 15 (upd (r52.1 15) 0 (vp_nar .boolean 0))) = r54 at j2982 ⊢
          exact q_E_x (q_Iv_A (i := 15) j2982 (q_hf_up ((j2982).1 15) (q_s15 (q_rg_le (L := 0) (U := 1) (q_rg_nb _) (by decide) (by decide)))))
        | false =>
          refine q_E_F ?_
          have j2983 : q_Iv c d w (q_sA r52 15 (upd (r52.1 15) 0 (vp_nar .boolean 0))) := (q_Iv_A (i := 15) j2980 (q_hf_up ((j2980).1 15) (q_s15 (q_rg_le (L := 0) (U := 1) (q_rg_nb _) (by decide) (by decide)))))
          refine q_E_L ?_
          generalize (q_sA r52 15 (upd (r52.1 15) 0 (vp_nar .boolean 0))) = r55 at j2983 ⊢
          exact q_E_x (q_Iv_A (i := 15) j2983 (q_hf_up ((j2983).1 15) (q_s15 (q_rg_le (L := 0) (U := 1) (q_rg_nb _) (by decide) (by decide)))))
  | false =>
    have g2984 := (q_rg_ltF1 (l2 := 0) (u := 2147483647) h2961 (q_rg_full _) (q_rg_lit (n := 0) (x := 0) rfl))
    refine q_E_F ?_
    cases h2985 : decide (16 < a1) with
    | true =>
      have g2986 := (q_rg_ltT2 (L := 17) (u2 := 2147483647) h2985 (q_rg_lit (n := 16) (x := 16) rfl) g2984 (by decide))
      refine q_E_T ?_
      cases h2987 : decide (((s.1 14) 0) &&& a2 = 0) with
      | true =>
        have g2988 := q_rg_eqT h2987 (q_rg_lit (n := 0) (x := 0) rfl)
        refine q_E_T ?_
        refine q_E_L ?_
        generalize p2989 : dz_M206 (q_sA s 15 (upd (s.1 15) 4 (vp_nar .boolean 1))) a2 7 = r56
        cases r56 with
        | true =>
          refine q_E_T ?_
          have j2990 : q_Iv c d w (q_sA s 15 (upd (s.1 15) 4 (vp_nar .boolean 1))) := (q_Iv_A (i := 15) hI (q_hf_up ((hI).1 15) (q_s15 (q_rg_le (L := 0) (U := 1) (q_rg_nb _) (by decide) (by decide)))))
          refine q_E_L ?_
          generalize (q_sA s 15 (upd (s.1 15) 4 (vp_nar .boolean 1))) = r57 at j2990 ⊢
          refine q_E_L ?_
          generalize p2991 : dz_M206 (q_sA r57 15 (upd (r57.1 15) 0 (vp_nar .boolean 1))) a2 6 = r58
          cases r58 with
          | true =>
            refine q_E_T ?_
            have j2992 : q_Iv c d w (q_sA r57 15 (upd (r57.1 15) 0 (vp_nar .boolean 1))) := (q_Iv_A (i := 15) j2990 (q_hf_up ((j2990).1 15) (q_s15 (q_rg_le (L := 0) (U := 1) (q_rg_nb _) (by decide) (by decide)))))
            refine q_E_L ?_
            generalize (q_sA r57 15 (upd (r57.1 15) 0 (vp_nar .boolean 1))) = r59 at j2992 ⊢
            exact q_E_x (q_Iv_A (i := 15) j2992 (q_hf_up ((j2992).1 15) (q_s15 (q_rg_le (L := 0) (U := 1) (q_rg_nb _) (by decide) (by decide)))))
          | false =>
            refine q_E_F ?_
            have j2993 : q_Iv c d w (q_sA r57 15 (upd (r57.1 15) 0 (vp_nar .boolean 1))) := (q_Iv_A (i := 15) j2990 (q_hf_up ((j2990).1 15) (q_s15 (q_rg_le (L := 0) (U := 1) (q_rg_nb _) (by decide) (by decide)))))
            refine q_E_L ?_
            generalize (q_sA r57 15 (upd (r57.1 15) 0 (vp_nar .boolean 1))) = r60 at j2993 ⊢
            exact q_E_x (q_Iv_A (i := 15) j2993 (q_hf_up ((j2993).1 15) (q_s15 (q_rg_le (L := 0) (U := 1) (q_rg_nb _) (by decide) (by decide)))))
        | false =>
          refine q_E_F ?_
          have j2994 : q_Iv c d w (q_sA s 15 (upd (s.1 15) 4 (vp_nar .boolean 1))) := (q_Iv_A (i := 15) hI (q_hf_up ((hI).1 15) (q_s15 (q_rg_le (L := 0) (U := 1) (q_rg_nb _) (by decide) (by decide)))))
          refine q_E_L ?_
          generalize (q_sA s 15 (upd (s.1 15) 4 (vp_nar .boolean 1))) = r61 at j2994 ⊢
          refine q_E_L ?_
          generalize p2995 : dz_M206 (q_sA r61 15 (upd (r61.1 15) 0 (vp_nar .boolean 0))) a2 6 = r62
          cases r62 with
          | true =>
            refine q_E_T ?_
            have j2996 : q_Iv c d w (q_sA r61 15 (upd (r61.1 15) 0 (vp_nar .boolean 0))) := (q_Iv_A (i := 15) j2994 (q_hf_up ((j2994).1 15) (q_s15 (q_rg_le (L := 0) (U := 1) (q_rg_nb _) (by decide) (by decide)))))
            refine q_E_L ?_
            generalize (q_sA r61 15 (upd (r61.1 15) 0 (vp_nar .boolean 0))) = r63 at j2996 ⊢
            exact q_E_x (q_Iv_A (i := 15) j2996 (q_hf_up ((j2996).1 15) (q_s15 (q_rg_le (L := 0) (U := 1) (q_rg_nb _) (by decide) (by decide)))))
          | false =>
            refine q_E_F ?_
            have j2997 : q_Iv c d w (q_sA r61 15 (upd (r61.1 15) 0 (vp_nar .boolean 0))) := (q_Iv_A (i := 15) j2994 (q_hf_up ((j2994).1 15) (q_s15 (q_rg_le (L := 0) (U := 1) (q_rg_nb _) (by decide) (by decide)))))
            refine q_E_L ?_
            generalize (q_sA r61 15 (upd (r61.1 15) 0 (vp_nar .boolean 0))) = r64 at j2997 ⊢
            exact q_E_x (q_Iv_A (i := 15) j2997 (q_hf_up ((j2997).1 15) (q_s15 (q_rg_le (L := 0) (U := 1) (q_rg_nb _) (by decide) (by decide)))))
      | false =>
        have g2998 := (q_rg_neL (l := 0) (u := 255) (n := 0) (L := 1) h2987 (q_rg_and1 (q_n0z hI) (by decide)) rfl (by decide) (by decide))
        refine q_E_F ?_
        refine q_E_L ?_
        generalize p2999 : dz_M206 (q_sA s 15 (upd (s.1 15) 4 (vp_nar .boolean 0))) a2 7 = r65
        cases r65 with
        | true =>
          refine q_E_T ?_
          have j3000 : q_Iv c d w (q_sA s 15 (upd (s.1 15) 4 (vp_nar .boolean 0))) := (q_Iv_A (i := 15) hI (q_hf_up ((hI).1 15) (q_s15 (q_rg_le (L := 0) (U := 1) (q_rg_nb _) (by decide) (by decide)))))
          refine q_E_L ?_
          generalize (q_sA s 15 (upd (s.1 15) 4 (vp_nar .boolean 0))) = r66 at j3000 ⊢
          refine q_E_L ?_
          generalize p3001 : dz_M206 (q_sA r66 15 (upd (r66.1 15) 0 (vp_nar .boolean 1))) a2 6 = r67
          cases r67 with
          | true =>
            refine q_E_T ?_
            have j3002 : q_Iv c d w (q_sA r66 15 (upd (r66.1 15) 0 (vp_nar .boolean 1))) := (q_Iv_A (i := 15) j3000 (q_hf_up ((j3000).1 15) (q_s15 (q_rg_le (L := 0) (U := 1) (q_rg_nb _) (by decide) (by decide)))))
            refine q_E_L ?_
            generalize (q_sA r66 15 (upd (r66.1 15) 0 (vp_nar .boolean 1))) = r68 at j3002 ⊢
            exact q_E_x (q_Iv_A (i := 15) j3002 (q_hf_up ((j3002).1 15) (q_s15 (q_rg_le (L := 0) (U := 1) (q_rg_nb _) (by decide) (by decide)))))
          | false =>
            refine q_E_F ?_
            have j3003 : q_Iv c d w (q_sA r66 15 (upd (r66.1 15) 0 (vp_nar .boolean 1))) := (q_Iv_A (i := 15) j3000 (q_hf_up ((j3000).1 15) (q_s15 (q_rg_le (L := 0) (U := 1) (q_rg_nb _) (by decide) (by decide)))))
            refine q_E_L ?_
            generalize (q_sA r66 15 (upd (r66.1 15) 0 (vp_nar .boolean 1))) = r69 at j3003 ⊢
            exact q_E_x (q_Iv_A (i := 15) j3003 (q_hf_up ((j3003).1 15) (q_s15 (q_rg_le (L := 0) (U := 1) (q_rg_nb _) (by decide) (by decide)))))
        | false =>
          refine q_E_F ?_
          have j3004 : q_Iv c d w (q_sA s 15 (upd (s.1 15) 4 (vp_nar .boolean 0))) := (q_Iv_A (i := 15) hI (q_hf_up ((hI).1 15) (q_s15 (q_rg_le (L := 0) (U := 1) (q_rg_nb _) (by decide) (by decide)))))
          refine q_E_L ?_
          generalize (q_sA s 15 (upd (s.1 15) 4 (vp_nar .boolean 0))) = r70 at j3004 ⊢
          refine q_E_L ?_
          generalize p3005 : dz_M206 (q_sA r70 15 (upd (r70.1 15) 0 (vp_nar .boolean 0))) a2 6 = r71
          cases r71 with
          | true =>
            refine q_E_T ?_
            have j3006 : q_Iv c d w (q_sA r70 15 (upd (r70.1 15) 0 (vp_nar .boolean 0))) := (q_Iv_A (i := 15) j3004 (q_hf_up ((j3004).1 15) (q_s15 (q_rg_le (L := 0) (U := 1) (q_rg_nb _) (by decide) (by decide)))))
            refine q_E_L ?_
            generalize (q_sA r70 15 (upd (r70.1 15) 0 (vp_nar .boolean 0))) = r72 at j3006 ⊢
            exact q_E_x (q_Iv_A (i := 15) j3006 (q_hf_up ((j3006).1 15) (q_s15 (q_rg_le (L := 0) (U := 1) (q_rg_nb _) (by decide) (by decide)))))
          | false =>
            refine q_E_F ?_
            have j3007 : q_Iv c d w (q_sA r70 15 (upd (r70.1 15) 0 (vp_nar .boolean 0))) := (q_Iv_A (i := 15) j3004 (q_hf_up ((j3004).1 15) (q_s15 (q_rg_le (L := 0) (U := 1) (q_rg_nb _) (by decide) (by decide)))))
            refine q_E_L ?_
            generalize (q_sA r70 15 (upd (r70.1 15) 0 (vp_nar .boolean 0))) = r73 at j3007 ⊢
            exact q_E_x (q_Iv_A (i := 15) j3007 (q_hf_up ((j3007).1 15) (q_s15 (q_rg_le (L := 0) (U := 1) (q_rg_nb _) (by decide) (by decide)))))
    | false =>
      have g3008 := (q_rg_ltF2 (l2 := 0) (u := 16) h2985 (q_rg_lit (n := 16) (x := 16) rfl) g2984)
      refine q_E_F ?_
      cases h3009 : decide (a1 = 0) with
      | true =>
        have g3010 := q_rg_eqT h3009 (q_rg_lit (n := 0) (x := 0) rfl)
        refine q_E_T ?_
        obtain ⟨r74, e3012, j3011⟩ := dzj_M262_64 c d w (s) hI (0) (a2) (q_rg_le (L := 0) (U := 2) (q_rg_lit (n := 0) (x := 0) rfl) (by decide) (by decide)) (q_rg_le (L := 0) (U := 255) ra2 (by decide) (by decide))
        rw [e3012]
        refine q_E_B ?_
        exact q_E_x j3011
      | false =>
        have g3013 := (q_rg_neL (l := 0) (u := 16) (n := 0) (L := 1) h3009 g3008 rfl (by decide) (by decide))
        refine q_E_F ?_
        cases h3014 : decide (a1 = 1) with
        | true =>
          have g3015 := q_rg_eqT h3014 (q_rg_lit (n := 1) (x := 1) rfl)
          refine q_E_T ?_
          obtain ⟨r75, e3017, j3016⟩ := dzj_M262_64 c d w (s) hI (1) (a2) (q_rg_le (L := 0) (U := 2) (q_rg_lit (n := 1) (x := 1) rfl) (by decide) (by decide)) (q_rg_le (L := 0) (U := 255) ra2 (by decide) (by decide))
          rw [e3017]
          refine q_E_B ?_
          exact q_E_x j3016
        | false =>
          have g3018 := (q_rg_neL (l := 1) (u := 16) (n := 1) (L := 2) h3014 g3013 rfl (by decide) (by decide))
          refine q_E_F ?_
          cases h3019 : decide (a1 = 2) with
          | true =>
            have g3020 := q_rg_eqT h3019 (q_rg_lit (n := 2) (x := 2) rfl)
            refine q_E_T ?_
            obtain ⟨r76, e3022, j3021⟩ := dzj_M262_64 c d w (s) hI (2) (a2) (q_rg_le (L := 0) (U := 2) (q_rg_lit (n := 2) (x := 2) rfl) (by decide) (by decide)) (q_rg_le (L := 0) (U := 255) ra2 (by decide) (by decide))
            rw [e3022]
            refine q_E_B ?_
            exact q_E_x j3021
          | false =>
            have g3023 := (q_rg_neL (l := 2) (u := 16) (n := 2) (L := 3) h3019 g3018 rfl (by decide) (by decide))
            refine q_E_F ?_
            cases h3024 : decide (a1 = 3) with
            | true =>
              have g3025 := q_rg_eqT h3024 (q_rg_lit (n := 3) (x := 3) rfl)
              refine q_E_T ?_
              cases h3026 : decide (((s.1 14) 0) &&& a2 = 0) with
              | true =>
                have g3027 := q_rg_eqT h3026 (q_rg_lit (n := 0) (x := 0) rfl)
                refine q_E_T ?_
                refine q_E_L ?_
                generalize p3028 : dz_M206 (q_sA s 15 (upd (s.1 15) 4 (vp_nar .boolean 1))) a2 7 = r77
                cases r77 with
                | true =>
                  refine q_E_T ?_
                  have j3029 : q_Iv c d w (q_sA s 15 (upd (s.1 15) 4 (vp_nar .boolean 1))) := (q_Iv_A (i := 15) hI (q_hf_up ((hI).1 15) (q_s15 (q_rg_le (L := 0) (U := 1) (q_rg_nb _) (by decide) (by decide)))))
                  refine q_E_L ?_
                  generalize (q_sA s 15 (upd (s.1 15) 4 (vp_nar .boolean 1))) = r78 at j3029 ⊢
                  refine q_E_L ?_
                  generalize p3030 : dz_M206 (q_sA r78 15 (upd (r78.1 15) 0 (vp_nar .boolean 1))) a2 6 = r79
                  cases r79 with
                  | true =>
                    refine q_E_T ?_
                    have j3031 : q_Iv c d w (q_sA r78 15 (upd (r78.1 15) 0 (vp_nar .boolean 1))) := (q_Iv_A (i := 15) j3029 (q_hf_up ((j3029).1 15) (q_s15 (q_rg_le (L := 0) (U := 1) (q_rg_nb _) (by decide) (by decide)))))
                    refine q_E_L ?_
                    generalize (q_sA r78 15 (upd (r78.1 15) 0 (vp_nar .boolean 1))) = r80 at j3031 ⊢
                    exact q_E_x (q_Iv_A (i := 15) j3031 (q_hf_up ((j3031).1 15) (q_s15 (q_rg_le (L := 0) (U := 1) (q_rg_nb _) (by decide) (by decide)))))
                  | false =>
                    refine q_E_F ?_
                    have j3032 : q_Iv c d w (q_sA r78 15 (upd (r78.1 15) 0 (vp_nar .boolean 1))) := (q_Iv_A (i := 15) j3029 (q_hf_up ((j3029).1 15) (q_s15 (q_rg_le (L := 0) (U := 1) (q_rg_nb _) (by decide) (by decide)))))
                    refine q_E_L ?_
                    generalize (q_sA r78 15 (upd (r78.1 15) 0 (vp_nar .boolean 1))) = r81 at j3032 ⊢
                    exact q_E_x (q_Iv_A (i := 15) j3032 (q_hf_up ((j3032).1 15) (q_s15 (q_rg_le (L := 0) (U := 1) (q_rg_nb _) (by decide) (by decide)))))
                | false =>
                  refine q_E_F ?_
                  have j3033 : q_Iv c d w (q_sA s 15 (upd (s.1 15) 4 (vp_nar .boolean 1))) := (q_Iv_A (i := 15) hI (q_hf_up ((hI).1 15) (q_s15 (q_rg_le (L := 0) (U := 1) (q_rg_nb _) (by decide) (by decide)))))
                  refine q_E_L ?_
                  generalize (q_sA s 15 (upd (s.1 15) 4 (vp_nar .boolean 1))) = r82 at j3033 ⊢
                  refine q_E_L ?_
                  generalize p3034 : dz_M206 (q_sA r82 15 (upd (r82.1 15) 0 (vp_nar .boolean 0))) a2 6 = r83
                  cases r83 with
                  | true =>
                    refine q_E_T ?_
                    have j3035 : q_Iv c d w (q_sA r82 15 (upd (r82.1 15) 0 (vp_nar .boolean 0))) := (q_Iv_A (i := 15) j3033 (q_hf_up ((j3033).1 15) (q_s15 (q_rg_le (L := 0) (U := 1) (q_rg_nb _) (by decide) (by decide)))))
                    refine q_E_L ?_
                    generalize (q_sA r82 15 (upd (r82.1 15) 0 (vp_nar .boolean 0))) = r84 at j3035 ⊢
                    exact q_E_x (q_Iv_A (i := 15) j3035 (q_hf_up ((j3035).1 15) (q_s15 (q_rg_le (L := 0) (U := 1) (q_rg_nb _) (by decide) (by decide)))))
                  | false =>
                    refine q_E_F ?_
                    have j3036 : q_Iv c d w (q_sA r82 15 (upd (r82.1 15) 0 (vp_nar .boolean 0))) := (q_Iv_A (i := 15) j3033 (q_hf_up ((j3033).1 15) (q_s15 (q_rg_le (L := 0) (U := 1) (q_rg_nb _) (by decide) (by decide)))))
                    refine q_E_L ?_
                    generalize (q_sA r82 15 (upd (r82.1 15) 0 (vp_nar .boolean 0))) = r85 at j3036 ⊢
                    exact q_E_x (q_Iv_A (i := 15) j3036 (q_hf_up ((j3036).1 15) (q_s15 (q_rg_le (L := 0) (U := 1) (q_rg_nb _) (by decide) (by decide)))))
              | false =>
                have g3037 := (q_rg_neL (l := 0) (u := 255) (n := 0) (L := 1) h3026 (q_rg_and1 (q_n0z hI) (by decide)) rfl (by decide) (by decide))
                refine q_E_F ?_
                refine q_E_L ?_
                generalize p3038 : dz_M206 (q_sA s 15 (upd (s.1 15) 4 (vp_nar .boolean 0))) a2 7 = r86
                cases r86 with
                | true =>
                  refine q_E_T ?_
                  have j3039 : q_Iv c d w (q_sA s 15 (upd (s.1 15) 4 (vp_nar .boolean 0))) := (q_Iv_A (i := 15) hI (q_hf_up ((hI).1 15) (q_s15 (q_rg_le (L := 0) (U := 1) (q_rg_nb _) (by decide) (by decide)))))
                  refine q_E_L ?_
                  generalize (q_sA s 15 (upd (s.1 15) 4 (vp_nar .boolean 0))) = r87 at j3039 ⊢
                  refine q_E_L ?_
                  generalize p3040 : dz_M206 (q_sA r87 15 (upd (r87.1 15) 0 (vp_nar .boolean 1))) a2 6 = r88
                  cases r88 with
                  | true =>
                    refine q_E_T ?_
                    have j3041 : q_Iv c d w (q_sA r87 15 (upd (r87.1 15) 0 (vp_nar .boolean 1))) := (q_Iv_A (i := 15) j3039 (q_hf_up ((j3039).1 15) (q_s15 (q_rg_le (L := 0) (U := 1) (q_rg_nb _) (by decide) (by decide)))))
                    refine q_E_L ?_
                    generalize (q_sA r87 15 (upd (r87.1 15) 0 (vp_nar .boolean 1))) = r89 at j3041 ⊢
                    exact q_E_x (q_Iv_A (i := 15) j3041 (q_hf_up ((j3041).1 15) (q_s15 (q_rg_le (L := 0) (U := 1) (q_rg_nb _) (by decide) (by decide)))))
                  | false =>
                    refine q_E_F ?_
                    have j3042 : q_Iv c d w (q_sA r87 15 (upd (r87.1 15) 0 (vp_nar .boolean 1))) := (q_Iv_A (i := 15) j3039 (q_hf_up ((j3039).1 15) (q_s15 (q_rg_le (L := 0) (U := 1) (q_rg_nb _) (by decide) (by decide)))))
                    refine q_E_L ?_
                    generalize (q_sA r87 15 (upd (r87.1 15) 0 (vp_nar .boolean 1))) = r90 at j3042 ⊢
                    exact q_E_x (q_Iv_A (i := 15) j3042 (q_hf_up ((j3042).1 15) (q_s15 (q_rg_le (L := 0) (U := 1) (q_rg_nb _) (by decide) (by decide)))))
                | false =>
                  refine q_E_F ?_
                  have j3043 : q_Iv c d w (q_sA s 15 (upd (s.1 15) 4 (vp_nar .boolean 0))) := (q_Iv_A (i := 15) hI (q_hf_up ((hI).1 15) (q_s15 (q_rg_le (L := 0) (U := 1) (q_rg_nb _) (by decide) (by decide)))))
                  refine q_E_L ?_
                  generalize (q_sA s 15 (upd (s.1 15) 4 (vp_nar .boolean 0))) = r91 at j3043 ⊢
                  refine q_E_L ?_
                  generalize p3044 : dz_M206 (q_sA r91 15 (upd (r91.1 15) 0 (vp_nar .boolean 0))) a2 6 = r92
                  cases r92 with
                  | true =>
                    refine q_E_T ?_
                    have j3045 : q_Iv c d w (q_sA r91 15 (upd (r91.1 15) 0 (vp_nar .boolean 0))) := (q_Iv_A (i := 15) j3043 (q_hf_up ((j3043).1 15) (q_s15 (q_rg_le (L := 0) (U := 1) (q_rg_nb _) (by decide) (by decide)))))
                    refine q_E_L ?_
                    generalize (q_sA r91 15 (upd (r91.1 15) 0 (vp_nar .boolean 0))) = r93 at j3045 ⊢
                    exact q_E_x (q_Iv_A (i := 15) j3045 (q_hf_up ((j3045).1 15) (q_s15 (q_rg_le (L := 0) (U := 1) (q_rg_nb _) (by decide) (by decide)))))
                  | false =>
                    refine q_E_F ?_
                    have j3046 : q_Iv c d w (q_sA r91 15 (upd (r91.1 15) 0 (vp_nar .boolean 0))) := (q_Iv_A (i := 15) j3043 (q_hf_up ((j3043).1 15) (q_s15 (q_rg_le (L := 0) (U := 1) (q_rg_nb _) (by decide) (by decide)))))
                    refine q_E_L ?_
                    generalize (q_sA r91 15 (upd (r91.1 15) 0 (vp_nar .boolean 0))) = r94 at j3046 ⊢
                    exact q_E_x (q_Iv_A (i := 15) j3046 (q_hf_up ((j3046).1 15) (q_s15 (q_rg_le (L := 0) (U := 1) (q_rg_nb _) (by decide) (by decide)))))
            | false =>
              have g3047 := (q_rg_neL (l := 3) (u := 16) (n := 3) (L := 4) h3024 g3023 rfl (by decide) (by decide))
              refine q_E_F ?_
              cases h3048 : decide (a1 = 4) with
              | true =>
                have g3049 := q_rg_eqT h3048 (q_rg_lit (n := 4) (x := 4) rfl)
                refine q_E_T ?_
                cases h3050 : decide (((s.1 14) 0) &&& a2 = 0) with
                | true =>
                  have g3051 := q_rg_eqT h3050 (q_rg_lit (n := 0) (x := 0) rfl)
                  refine q_E_T ?_
                  refine q_E_L ?_
                  generalize p3052 : dz_M206 (q_sA s 15 (upd (s.1 15) 4 (vp_nar .boolean 1))) a2 7 = r95
                  cases r95 with
                  | true =>
                    refine q_E_T ?_
                    have j3053 : q_Iv c d w (q_sA s 15 (upd (s.1 15) 4 (vp_nar .boolean 1))) := (q_Iv_A (i := 15) hI (q_hf_up ((hI).1 15) (q_s15 (q_rg_le (L := 0) (U := 1) (q_rg_nb _) (by decide) (by decide)))))
                    refine q_E_L ?_
                    generalize (q_sA s 15 (upd (s.1 15) 4 (vp_nar .boolean 1))) = r96 at j3053 ⊢
                    refine q_E_L ?_
                    generalize p3054 : dz_M206 (q_sA r96 15 (upd (r96.1 15) 0 (vp_nar .boolean 1))) a2 6 = r97
                    cases r97 with
                    | true =>
                      refine q_E_T ?_
                      have j3055 : q_Iv c d w (q_sA r96 15 (upd (r96.1 15) 0 (vp_nar .boolean 1))) := (q_Iv_A (i := 15) j3053 (q_hf_up ((j3053).1 15) (q_s15 (q_rg_le (L := 0) (U := 1) (q_rg_nb _) (by decide) (by decide)))))
                      refine q_E_L ?_
                      generalize (q_sA r96 15 (upd (r96.1 15) 0 (vp_nar .boolean 1))) = r98 at j3055 ⊢
                      exact q_E_x (q_Iv_A (i := 15) j3055 (q_hf_up ((j3055).1 15) (q_s15 (q_rg_le (L := 0) (U := 1) (q_rg_nb _) (by decide) (by decide)))))
                    | false =>
                      refine q_E_F ?_
                      have j3056 : q_Iv c d w (q_sA r96 15 (upd (r96.1 15) 0 (vp_nar .boolean 1))) := (q_Iv_A (i := 15) j3053 (q_hf_up ((j3053).1 15) (q_s15 (q_rg_le (L := 0) (U := 1) (q_rg_nb _) (by decide) (by decide)))))
                      refine q_E_L ?_
                      generalize (q_sA r96 15 (upd (r96.1 15) 0 (vp_nar .boolean 1))) = r99 at j3056 ⊢
                      exact q_E_x (q_Iv_A (i := 15) j3056 (q_hf_up ((j3056).1 15) (q_s15 (q_rg_le (L := 0) (U := 1) (q_rg_nb _) (by decide) (by decide)))))
                  | false =>
                    refine q_E_F ?_
                    have j3057 : q_Iv c d w (q_sA s 15 (upd (s.1 15) 4 (vp_nar .boolean 1))) := (q_Iv_A (i := 15) hI (q_hf_up ((hI).1 15) (q_s15 (q_rg_le (L := 0) (U := 1) (q_rg_nb _) (by decide) (by decide)))))
                    refine q_E_L ?_
                    generalize (q_sA s 15 (upd (s.1 15) 4 (vp_nar .boolean 1))) = r100 at j3057 ⊢
                    refine q_E_L ?_
                    generalize p3058 : dz_M206 (q_sA r100 15 (upd (r100.1 15) 0 (vp_nar .boolean 0))) a2 6 = r101
                    cases r101 with
                    | true =>
                      refine q_E_T ?_
                      have j3059 : q_Iv c d w (q_sA r100 15 (upd (r100.1 15) 0 (vp_nar .boolean 0))) := (q_Iv_A (i := 15) j3057 (q_hf_up ((j3057).1 15) (q_s15 (q_rg_le (L := 0) (U := 1) (q_rg_nb _) (by decide) (by decide)))))
                      refine q_E_L ?_
                      generalize (q_sA r100 15 (upd (r100.1 15) 0 (vp_nar .boolean 0))) = r102 at j3059 ⊢
                      exact q_E_x (q_Iv_A (i := 15) j3059 (q_hf_up ((j3059).1 15) (q_s15 (q_rg_le (L := 0) (U := 1) (q_rg_nb _) (by decide) (by decide)))))
                    | false =>
                      refine q_E_F ?_
                      have j3060 : q_Iv c d w (q_sA r100 15 (upd (r100.1 15) 0 (vp_nar .boolean 0))) := (q_Iv_A (i := 15) j3057 (q_hf_up ((j3057).1 15) (q_s15 (q_rg_le (L := 0) (U := 1) (q_rg_nb _) (by decide) (by decide)))))
                      refine q_E_L ?_
                      generalize (q_sA r100 15 (upd (r100.1 15) 0 (vp_nar .boolean 0))) = r103 at j3060 ⊢
                      exact q_E_x (q_Iv_A (i := 15) j3060 (q_hf_up ((j3060).1 15) (q_s15 (q_rg_le (L := 0) (U := 1) (q_rg_nb _) (by decide) (by decide)))))
                | false =>
                  have g3061 := (q_rg_neL (l := 0) (u := 255) (n := 0) (L := 1) h3050 (q_rg_and1 (q_n0z hI) (by decide)) rfl (by decide) (by decide))
                  refine q_E_F ?_
                  refine q_E_L ?_
                  generalize p3062 : dz_M206 (q_sA s 15 (upd (s.1 15) 4 (vp_nar .boolean 0))) a2 7 = r104
                  cases r104 with
                  | true =>
                    refine q_E_T ?_
                    have j3063 : q_Iv c d w (q_sA s 15 (upd (s.1 15) 4 (vp_nar .boolean 0))) := (q_Iv_A (i := 15) hI (q_hf_up ((hI).1 15) (q_s15 (q_rg_le (L := 0) (U := 1) (q_rg_nb _) (by decide) (by decide)))))
                    refine q_E_L ?_
                    generalize (q_sA s 15 (upd (s.1 15) 4 (vp_nar .boolean 0))) = r105 at j3063 ⊢
                    refine q_E_L ?_
                    generalize p3064 : dz_M206 (q_sA r105 15 (upd (r105.1 15) 0 (vp_nar .boolean 1))) a2 6 = r106
                    cases r106 with
                    | true =>
                      refine q_E_T ?_
                      have j3065 : q_Iv c d w (q_sA r105 15 (upd (r105.1 15) 0 (vp_nar .boolean 1))) := (q_Iv_A (i := 15) j3063 (q_hf_up ((j3063).1 15) (q_s15 (q_rg_le (L := 0) (U := 1) (q_rg_nb _) (by decide) (by decide)))))
                      refine q_E_L ?_
                      generalize (q_sA r105 15 (upd (r105.1 15) 0 (vp_nar .boolean 1))) = r107 at j3065 ⊢
                      exact q_E_x (q_Iv_A (i := 15) j3065 (q_hf_up ((j3065).1 15) (q_s15 (q_rg_le (L := 0) (U := 1) (q_rg_nb _) (by decide) (by decide)))))
                    | false =>
                      refine q_E_F ?_
                      have j3066 : q_Iv c d w (q_sA r105 15 (upd (r105.1 15) 0 (vp_nar .boolean 1))) := (q_Iv_A (i := 15) j3063 (q_hf_up ((j3063).1 15) (q_s15 (q_rg_le (L := 0) (U := 1) (q_rg_nb _) (by decide) (by decide)))))
                      refine q_E_L ?_
                      generalize (q_sA r105 15 (upd (r105.1 15) 0 (vp_nar .boolean 1))) = r108 at j3066 ⊢
                      exact q_E_x (q_Iv_A (i := 15) j3066 (q_hf_up ((j3066).1 15) (q_s15 (q_rg_le (L := 0) (U := 1) (q_rg_nb _) (by decide) (by decide)))))
                  | false =>
                    refine q_E_F ?_
                    have j3067 : q_Iv c d w (q_sA s 15 (upd (s.1 15) 4 (vp_nar .boolean 0))) := (q_Iv_A (i := 15) hI (q_hf_up ((hI).1 15) (q_s15 (q_rg_le (L := 0) (U := 1) (q_rg_nb _) (by decide) (by decide)))))
                    refine q_E_L ?_
                    generalize (q_sA s 15 (upd (s.1 15) 4 (vp_nar .boolean 0))) = r109 at j3067 ⊢
                    refine q_E_L ?_
                    generalize p3068 : dz_M206 (q_sA r109 15 (upd (r109.1 15) 0 (vp_nar .boolean 0))) a2 6 = r110
                    cases r110 with
                    | true =>
                      refine q_E_T ?_
                      have j3069 : q_Iv c d w (q_sA r109 15 (upd (r109.1 15) 0 (vp_nar .boolean 0))) := (q_Iv_A (i := 15) j3067 (q_hf_up ((j3067).1 15) (q_s15 (q_rg_le (L := 0) (U := 1) (q_rg_nb _) (by decide) (by decide)))))
                      refine q_E_L ?_
                      generalize (q_sA r109 15 (upd (r109.1 15) 0 (vp_nar .boolean 0))) = r111 at j3069 ⊢
                      exact q_E_x (q_Iv_A (i := 15) j3069 (q_hf_up ((j3069).1 15) (q_s15 (q_rg_le (L := 0) (U := 1) (q_rg_nb _) (by decide) (by decide)))))
                    | false =>
                      refine q_E_F ?_
                      have j3070 : q_Iv c d w (q_sA r109 15 (upd (r109.1 15) 0 (vp_nar .boolean 0))) := (q_Iv_A (i := 15) j3067 (q_hf_up ((j3067).1 15) (q_s15 (q_rg_le (L := 0) (U := 1) (q_rg_nb _) (by decide) (by decide)))))
                      refine q_E_L ?_
                      generalize (q_sA r109 15 (upd (r109.1 15) 0 (vp_nar .boolean 0))) = r112 at j3070 ⊢
                      exact q_E_x (q_Iv_A (i := 15) j3070 (q_hf_up ((j3070).1 15) (q_s15 (q_rg_le (L := 0) (U := 1) (q_rg_nb _) (by decide) (by decide)))))
              | false =>
                have g3071 := (q_rg_neL (l := 4) (u := 16) (n := 4) (L := 5) h3048 g3047 rfl (by decide) (by decide))
                refine q_E_F ?_
                cases h3072 : decide (a1 = 5) with
                | true =>
                  have g3073 := q_rg_eqT h3072 (q_rg_lit (n := 5) (x := 5) rfl)
                  refine q_E_T ?_
                  cases h3074 : decide (((s.1 14) 0) &&& a2 = 0) with
                  | true =>
                    have g3075 := q_rg_eqT h3074 (q_rg_lit (n := 0) (x := 0) rfl)
                    refine q_E_T ?_
                    refine q_E_L ?_
                    generalize p3076 : dz_M206 (q_sA s 15 (upd (s.1 15) 4 (vp_nar .boolean 1))) a2 7 = r113
                    cases r113 with
                    | true =>
                      refine q_E_T ?_
                      have j3077 : q_Iv c d w (q_sA s 15 (upd (s.1 15) 4 (vp_nar .boolean 1))) := (q_Iv_A (i := 15) hI (q_hf_up ((hI).1 15) (q_s15 (q_rg_le (L := 0) (U := 1) (q_rg_nb _) (by decide) (by decide)))))
                      refine q_E_L ?_
                      generalize (q_sA s 15 (upd (s.1 15) 4 (vp_nar .boolean 1))) = r114 at j3077 ⊢
                      refine q_E_L ?_
                      generalize p3078 : dz_M206 (q_sA r114 15 (upd (r114.1 15) 0 (vp_nar .boolean 1))) a2 6 = r115
                      cases r115 with
                      | true =>
                        refine q_E_T ?_
                        have j3079 : q_Iv c d w (q_sA r114 15 (upd (r114.1 15) 0 (vp_nar .boolean 1))) := (q_Iv_A (i := 15) j3077 (q_hf_up ((j3077).1 15) (q_s15 (q_rg_le (L := 0) (U := 1) (q_rg_nb _) (by decide) (by decide)))))
                        refine q_E_L ?_
                        generalize (q_sA r114 15 (upd (r114.1 15) 0 (vp_nar .boolean 1))) = r116 at j3079 ⊢
                        exact q_E_x (q_Iv_A (i := 15) j3079 (q_hf_up ((j3079).1 15) (q_s15 (q_rg_le (L := 0) (U := 1) (q_rg_nb _) (by decide) (by decide)))))
                      | false =>
                        refine q_E_F ?_
                        have j3080 : q_Iv c d w (q_sA r114 15 (upd (r114.1 15) 0 (vp_nar .boolean 1))) := (q_Iv_A (i := 15) j3077 (q_hf_up ((j3077).1 15) (q_s15 (q_rg_le (L := 0) (U := 1) (q_rg_nb _) (by decide) (by decide)))))
                        refine q_E_L ?_
                        generalize (q_sA r114 15 (upd (r114.1 15) 0 (vp_nar .boolean 1))) = r117 at j3080 ⊢
                        exact q_E_x (q_Iv_A (i := 15) j3080 (q_hf_up ((j3080).1 15) (q_s15 (q_rg_le (L := 0) (U := 1) (q_rg_nb _) (by decide) (by decide)))))
                    | false =>
                      refine q_E_F ?_
                      have j3081 : q_Iv c d w (q_sA s 15 (upd (s.1 15) 4 (vp_nar .boolean 1))) := (q_Iv_A (i := 15) hI (q_hf_up ((hI).1 15) (q_s15 (q_rg_le (L := 0) (U := 1) (q_rg_nb _) (by decide) (by decide)))))
                      refine q_E_L ?_
                      generalize (q_sA s 15 (upd (s.1 15) 4 (vp_nar .boolean 1))) = r118 at j3081 ⊢
                      refine q_E_L ?_
                      generalize p3082 : dz_M206 (q_sA r118 15 (upd (r118.1 15) 0 (vp_nar .boolean 0))) a2 6 = r119
                      cases r119 with
                      | true =>
                        refine q_E_T ?_
                        have j3083 : q_Iv c d w (q_sA r118 15 (upd (r118.1 15) 0 (vp_nar .boolean 0))) := (q_Iv_A (i := 15) j3081 (q_hf_up ((j3081).1 15) (q_s15 (q_rg_le (L := 0) (U := 1) (q_rg_nb _) (by decide) (by decide)))))
                        refine q_E_L ?_
                        generalize (q_sA r118 15 (upd (r118.1 15) 0 (vp_nar .boolean 0))) = r120 at j3083 ⊢
                        exact q_E_x (q_Iv_A (i := 15) j3083 (q_hf_up ((j3083).1 15) (q_s15 (q_rg_le (L := 0) (U := 1) (q_rg_nb _) (by decide) (by decide)))))
                      | false =>
                        refine q_E_F ?_
                        have j3084 : q_Iv c d w (q_sA r118 15 (upd (r118.1 15) 0 (vp_nar .boolean 0))) := (q_Iv_A (i := 15) j3081 (q_hf_up ((j3081).1 15) (q_s15 (q_rg_le (L := 0) (U := 1) (q_rg_nb _) (by decide) (by decide)))))
                        refine q_E_L ?_
                        generalize (q_sA r118 15 (upd (r118.1 15) 0 (vp_nar .boolean 0))) = r121 at j3084 ⊢
                        exact q_E_x (q_Iv_A (i := 15) j3084 (q_hf_up ((j3084).1 15) (q_s15 (q_rg_le (L := 0) (U := 1) (q_rg_nb _) (by decide) (by decide)))))
                  | false =>
                    have g3085 := (q_rg_neL (l := 0) (u := 255) (n := 0) (L := 1) h3074 (q_rg_and1 (q_n0z hI) (by decide)) rfl (by decide) (by decide))
                    refine q_E_F ?_
                    refine q_E_L ?_
                    generalize p3086 : dz_M206 (q_sA s 15 (upd (s.1 15) 4 (vp_nar .boolean 0))) a2 7 = r122
                    cases r122 with
                    | true =>
                      refine q_E_T ?_
                      have j3087 : q_Iv c d w (q_sA s 15 (upd (s.1 15) 4 (vp_nar .boolean 0))) := (q_Iv_A (i := 15) hI (q_hf_up ((hI).1 15) (q_s15 (q_rg_le (L := 0) (U := 1) (q_rg_nb _) (by decide) (by decide)))))
                      refine q_E_L ?_
                      generalize (q_sA s 15 (upd (s.1 15) 4 (vp_nar .boolean 0))) = r123 at j3087 ⊢
                      refine q_E_L ?_
                      generalize p3088 : dz_M206 (q_sA r123 15 (upd (r123.1 15) 0 (vp_nar .boolean 1))) a2 6 = r124
                      cases r124 with
                      | true =>
                        refine q_E_T ?_
                        have j3089 : q_Iv c d w (q_sA r123 15 (upd (r123.1 15) 0 (vp_nar .boolean 1))) := (q_Iv_A (i := 15) j3087 (q_hf_up ((j3087).1 15) (q_s15 (q_rg_le (L := 0) (U := 1) (q_rg_nb _) (by decide) (by decide)))))
                        refine q_E_L ?_
                        generalize (q_sA r123 15 (upd (r123.1 15) 0 (vp_nar .boolean 1))) = r125 at j3089 ⊢
                        exact q_E_x (q_Iv_A (i := 15) j3089 (q_hf_up ((j3089).1 15) (q_s15 (q_rg_le (L := 0) (U := 1) (q_rg_nb _) (by decide) (by decide)))))
                      | false =>
                        refine q_E_F ?_
                        have j3090 : q_Iv c d w (q_sA r123 15 (upd (r123.1 15) 0 (vp_nar .boolean 1))) := (q_Iv_A (i := 15) j3087 (q_hf_up ((j3087).1 15) (q_s15 (q_rg_le (L := 0) (U := 1) (q_rg_nb _) (by decide) (by decide)))))
                        refine q_E_L ?_
                        generalize (q_sA r123 15 (upd (r123.1 15) 0 (vp_nar .boolean 1))) = r126 at j3090 ⊢
                        exact q_E_x (q_Iv_A (i := 15) j3090 (q_hf_up ((j3090).1 15) (q_s15 (q_rg_le (L := 0) (U := 1) (q_rg_nb _) (by decide) (by decide)))))
                    | false =>
                      refine q_E_F ?_
                      have j3091 : q_Iv c d w (q_sA s 15 (upd (s.1 15) 4 (vp_nar .boolean 0))) := (q_Iv_A (i := 15) hI (q_hf_up ((hI).1 15) (q_s15 (q_rg_le (L := 0) (U := 1) (q_rg_nb _) (by decide) (by decide)))))
                      refine q_E_L ?_
                      generalize (q_sA s 15 (upd (s.1 15) 4 (vp_nar .boolean 0))) = r127 at j3091 ⊢
                      refine q_E_L ?_
                      generalize p3092 : dz_M206 (q_sA r127 15 (upd (r127.1 15) 0 (vp_nar .boolean 0))) a2 6 = r128
                      cases r128 with
                      | true =>
                        refine q_E_T ?_
                        have j3093 : q_Iv c d w (q_sA r127 15 (upd (r127.1 15) 0 (vp_nar .boolean 0))) := (q_Iv_A (i := 15) j3091 (q_hf_up ((j3091).1 15) (q_s15 (q_rg_le (L := 0) (U := 1) (q_rg_nb _) (by decide) (by decide)))))
                        refine q_E_L ?_
                        generalize (q_sA r127 15 (upd (r127.1 15) 0 (vp_nar .boolean 0))) = r129 at j3093 ⊢
                        exact q_E_x (q_Iv_A (i := 15) j3093 (q_hf_up ((j3093).1 15) (q_s15 (q_rg_le (L := 0) (U := 1) (q_rg_nb _) (by decide) (by decide)))))
                      | false =>
                        refine q_E_F ?_
                        have j3094 : q_Iv c d w (q_sA r127 15 (upd (r127.1 15) 0 (vp_nar .boolean 0))) := (q_Iv_A (i := 15) j3091 (q_hf_up ((j3091).1 15) (q_s15 (q_rg_le (L := 0) (U := 1) (q_rg_nb _) (by decide) (by decide)))))
                        refine q_E_L ?_
                        generalize (q_sA r127 15 (upd (r127.1 15) 0 (vp_nar .boolean 0))) = r130 at j3094 ⊢
                        exact q_E_x (q_Iv_A (i := 15) j3094 (q_hf_up ((j3094).1 15) (q_s15 (q_rg_le (L := 0) (U := 1) (q_rg_nb _) (by decide) (by decide)))))
                | false =>
                  have g3095 := (q_rg_neL (l := 5) (u := 16) (n := 5) (L := 6) h3072 g3071 rfl (by decide) (by decide))
                  refine q_E_F ?_
                  cases h3096 : decide (a1 = 6) with
                  | true =>
                    have g3097 := q_rg_eqT h3096 (q_rg_lit (n := 6) (x := 6) rfl)
                    refine q_E_T ?_
                    obtain ⟨r131, e3099, j3098⟩ := dzj_M267_64_t c d w (s) hI (a2) (q_rg_le (L := 0) (U := 255) ra2 (by decide) (by decide))
                    rw [e3099]
                    refine q_E_B ?_
                    exact q_E_x j3098
                  | false =>
                    have g3100 := (q_rg_neL (l := 6) (u := 16) (n := 6) (L := 7) h3096 g3095 rfl (by decide) (by decide))
                    refine q_E_F ?_
                    cases h3101 : decide (a1 = 7) with
                    | true =>
                      have g3102 := q_rg_eqT h3101 (q_rg_lit (n := 7) (x := 7) rfl)
                      refine q_E_T ?_
                      obtain ⟨r132, e3104, j3103⟩ := dzj_M267_64_f c d w (s) hI (a2) (q_rg_le (L := 0) (U := 255) ra2 (by decide) (by decide))
                      rw [e3104]
                      refine q_E_B ?_
                      exact q_E_x j3103
                    | false =>
                      have g3105 := (q_rg_neL (l := 7) (u := 16) (n := 7) (L := 8) h3101 g3100 rfl (by decide) (by decide))
                      refine q_E_F ?_
                      cases h3106 : decide (a1 = 8) with
                      | true =>
                        have g3107 := q_rg_eqT h3106 (q_rg_lit (n := 8) (x := 8) rfl)
                        refine q_E_T ?_
                        obtain ⟨r133, e3109, j3108⟩ := dzj_M262_64 c d w (s) hI (0) (((s.1 14) 0) &&& a2) (q_rg_le (L := 0) (U := 2) (q_rg_lit (n := 0) (x := 0) rfl) (by decide) (by decide)) (q_rg_le (L := 0) (U := 255) (q_rg_and1 (q_n0z hI) (by decide)) (by decide) (by decide))
                        rw [e3109]
                        refine q_E_B ?_
                        exact q_E_x j3108
                      | false =>
                        have g3110 := (q_rg_neL (l := 8) (u := 16) (n := 8) (L := 9) h3106 g3105 rfl (by decide) (by decide))
                        refine q_E_F ?_
                        cases h3111 : decide (a1 = 9) with
                        | true =>
                          have g3112 := q_rg_eqT h3111 (q_rg_lit (n := 9) (x := 9) rfl)
                          refine q_E_T ?_
                          obtain ⟨r134, e3114, j3113⟩ := dzj_M262_64 c d w (s) hI (0) (((s.1 14) 0) ||| a2) (q_rg_le (L := 0) (U := 2) (q_rg_lit (n := 0) (x := 0) rfl) (by decide) (by decide)) (q_rg_le (L := 0) (U := 255) (q_rg_or (n := 8) (W := 255) (q_n0z hI) ra2 (by decide) (by decide) (by decide) (by decide) (by decide)) (by decide) (by decide))
                          rw [e3114]
                          refine q_E_B ?_
                          exact q_E_x j3113
                        | false =>
                          have g3115 := (q_rg_neL (l := 9) (u := 16) (n := 9) (L := 10) h3111 g3110 rfl (by decide) (by decide))
                          refine q_E_F ?_
                          cases h3116 : decide (a1 = 10) with
                          | true =>
                            have g3117 := q_rg_eqT h3116 (q_rg_lit (n := 10) (x := 10) rfl)
                            refine q_E_T ?_
                            obtain ⟨r135, e3119, j3118⟩ := dzj_M262_64 c d w (s) hI (0) (((s.1 14) 0) ^^^ a2) (q_rg_le (L := 0) (U := 2) (q_rg_lit (n := 0) (x := 0) rfl) (by decide) (by decide)) (q_rg_le (L := 0) (U := 255) (q_rg_xor (n := 8) (W := 255) (q_n0z hI) ra2 (by decide) (by decide) (by decide) (by decide) (by decide)) (by decide) (by decide))
                            rw [e3119]
                            refine q_E_B ?_
                            exact q_E_x j3118
                          | false =>
                            have g3120 := (q_rg_neL (l := 10) (u := 16) (n := 10) (L := 11) h3116 g3115 rfl (by decide) (by decide))
                            refine q_E_F ?_
                            cases h3121 : decide (a1 = 11) with
                            | true =>
                              have g3122 := q_rg_eqT h3121 (q_rg_lit (n := 11) (x := 11) rfl)
                              refine q_E_T ?_
                              obtain ⟨r136, e3124, j3123⟩ := dzj_M263_64 c d w (s) hI (0) (a2) (q_rg_le (L := 0) (U := 2) (q_rg_lit (n := 0) (x := 0) rfl) (by decide) (by decide)) (q_rg_le (L := 0) (U := 255) ra2 (by decide) (by decide))
                              rw [e3124]
                              refine q_E_B ?_
                              exact q_E_x j3123
                            | false =>
                              have g3125 := (q_rg_neL (l := 11) (u := 16) (n := 11) (L := 12) h3121 g3120 rfl (by decide) (by decide))
                              refine q_E_F ?_
                              cases h3126 : decide (a1 = 12) with
                              | true =>
                                have g3127 := q_rg_eqT h3126 (q_rg_lit (n := 12) (x := 12) rfl)
                                refine q_E_T ?_
                                obtain ⟨r137, e3129, j3128⟩ := dzj_M263_64 c d w (s) hI (1) (a2) (q_rg_le (L := 0) (U := 2) (q_rg_lit (n := 1) (x := 1) rfl) (by decide) (by decide)) (q_rg_le (L := 0) (U := 255) ra2 (by decide) (by decide))
                                rw [e3129]
                                refine q_E_B ?_
                                exact q_E_x j3128
                              | false =>
                                have g3130 := (q_rg_neL (l := 12) (u := 16) (n := 12) (L := 13) h3126 g3125 rfl (by decide) (by decide))
                                refine q_E_F ?_
                                cases h3131 : decide (a1 = 13) with
                                | true =>
                                  have g3132 := q_rg_eqT h3131 (q_rg_lit (n := 13) (x := 13) rfl)
                                  refine q_E_T ?_
                                  obtain ⟨r138, e3134, j3133⟩ := dzj_M263_64 c d w (s) hI (2) (a2) (q_rg_le (L := 0) (U := 2) (q_rg_lit (n := 2) (x := 2) rfl) (by decide) (by decide)) (q_rg_le (L := 0) (U := 255) ra2 (by decide) (by decide))
                                  rw [e3134]
                                  refine q_E_B ?_
                                  exact q_E_x j3133
                                | false =>
                                  have g3135 := (q_rg_neL (l := 13) (u := 16) (n := 13) (L := 14) h3131 g3130 rfl (by decide) (by decide))
                                  refine q_E_F ?_
                                  cases h3136 : decide (a1 = 14) with
                                  | true =>
                                    have g3137 := q_rg_eqT h3136 (q_rg_lit (n := 14) (x := 14) rfl)
                                    refine q_E_T ?_
                                    cases h3138 : decide (((s.1 14) 0) &&& a2 = 0) with
                                    | true =>
                                      have g3139 := q_rg_eqT h3138 (q_rg_lit (n := 0) (x := 0) rfl)
                                      refine q_E_T ?_
                                      refine q_E_L ?_
                                      generalize p3140 : dz_M206 (q_sA s 15 (upd (s.1 15) 4 (vp_nar .boolean 1))) a2 7 = r139
                                      cases r139 with
                                      | true =>
                                        refine q_E_T ?_
                                        have j3141 : q_Iv c d w (q_sA s 15 (upd (s.1 15) 4 (vp_nar .boolean 1))) := (q_Iv_A (i := 15) hI (q_hf_up ((hI).1 15) (q_s15 (q_rg_le (L := 0) (U := 1) (q_rg_nb _) (by decide) (by decide)))))
                                        refine q_E_L ?_
                                        generalize (q_sA s 15 (upd (s.1 15) 4 (vp_nar .boolean 1))) = r140 at j3141 ⊢
                                        refine q_E_L ?_
                                        generalize p3142 : dz_M206 (q_sA r140 15 (upd (r140.1 15) 0 (vp_nar .boolean 1))) a2 6 = r141
                                        cases r141 with
                                        | true =>
                                          refine q_E_T ?_
                                          have j3143 : q_Iv c d w (q_sA r140 15 (upd (r140.1 15) 0 (vp_nar .boolean 1))) := (q_Iv_A (i := 15) j3141 (q_hf_up ((j3141).1 15) (q_s15 (q_rg_le (L := 0) (U := 1) (q_rg_nb _) (by decide) (by decide)))))
                                          refine q_E_L ?_
                                          generalize (q_sA r140 15 (upd (r140.1 15) 0 (vp_nar .boolean 1))) = r142 at j3143 ⊢
                                          exact q_E_x (q_Iv_A (i := 15) j3143 (q_hf_up ((j3143).1 15) (q_s15 (q_rg_le (L := 0) (U := 1) (q_rg_nb _) (by decide) (by decide)))))
                                        | false =>
                                          refine q_E_F ?_
                                          have j3144 : q_Iv c d w (q_sA r140 15 (upd (r140.1 15) 0 (vp_nar .boolean 1))) := (q_Iv_A (i := 15) j3141 (q_hf_up ((j3141).1 15) (q_s15 (q_rg_le (L := 0) (U := 1) (q_rg_nb _) (by decide) (by decide)))))
                                          refine q_E_L ?_
                                          generalize (q_sA r140 15 (upd (r140.1 15) 0 (vp_nar .boolean 1))) = r143 at j3144 ⊢
                                          exact q_E_x (q_Iv_A (i := 15) j3144 (q_hf_up ((j3144).1 15) (q_s15 (q_rg_le (L := 0) (U := 1) (q_rg_nb _) (by decide) (by decide)))))
                                      | false =>
                                        refine q_E_F ?_
                                        have j3145 : q_Iv c d w (q_sA s 15 (upd (s.1 15) 4 (vp_nar .boolean 1))) := (q_Iv_A (i := 15) hI (q_hf_up ((hI).1 15) (q_s15 (q_rg_le (L := 0) (U := 1) (q_rg_nb _) (by decide) (by decide)))))
                                        refine q_E_L ?_
                                        generalize (q_sA s 15 (upd (s.1 15) 4 (vp_nar .boolean 1))) = r144 at j3145 ⊢
                                        refine q_E_L ?_
                                        generalize p3146 : dz_M206 (q_sA r144 15 (upd (r144.1 15) 0 (vp_nar .boolean 0))) a2 6 = r145
                                        cases r145 with
                                        | true =>
                                          refine q_E_T ?_
                                          have j3147 : q_Iv c d w (q_sA r144 15 (upd (r144.1 15) 0 (vp_nar .boolean 0))) := (q_Iv_A (i := 15) j3145 (q_hf_up ((j3145).1 15) (q_s15 (q_rg_le (L := 0) (U := 1) (q_rg_nb _) (by decide) (by decide)))))
                                          refine q_E_L ?_
                                          generalize (q_sA r144 15 (upd (r144.1 15) 0 (vp_nar .boolean 0))) = r146 at j3147 ⊢
                                          exact q_E_x (q_Iv_A (i := 15) j3147 (q_hf_up ((j3147).1 15) (q_s15 (q_rg_le (L := 0) (U := 1) (q_rg_nb _) (by decide) (by decide)))))
                                        | false =>
                                          refine q_E_F ?_
                                          have j3148 : q_Iv c d w (q_sA r144 15 (upd (r144.1 15) 0 (vp_nar .boolean 0))) := (q_Iv_A (i := 15) j3145 (q_hf_up ((j3145).1 15) (q_s15 (q_rg_le (L := 0) (U := 1) (q_rg_nb _) (by decide) (by decide)))))
                                          refine q_E_L ?_
                                          generalize (q_sA r144 15 (upd (r144.1 15) 0 (vp_nar .boolean 0))) = r147 at j3148 ⊢
                                          exact q_E_x (q_Iv_A (i := 15) j3148 (q_hf_up ((j3148).1 15) (q_s15 (q_rg_le (L := 0) (U := 1) (q_rg_nb _) (by decide) (by decide)))))
                                    | false =>
                                      have g3149 := (q_rg_neL (l := 0) (u := 255) (n := 0) (L := 1) h3138 (q_rg_and1 (q_n0z hI) (by decide)) rfl (by decide) (by decide))
                                      refine q_E_F ?_
                                      refine q_E_L ?_
                                      generalize p3150 : dz_M206 (q_sA s 15 (upd (s.1 15) 4 (vp_nar .boolean 0))) a2 7 = r148
                                      cases r148 with
                                      | true =>
                                        refine q_E_T ?_
                                        have j3151 : q_Iv c d w (q_sA s 15 (upd (s.1 15) 4 (vp_nar .boolean 0))) := (q_Iv_A (i := 15) hI (q_hf_up ((hI).1 15) (q_s15 (q_rg_le (L := 0) (U := 1) (q_rg_nb _) (by decide) (by decide)))))
                                        refine q_E_L ?_
                                        generalize (q_sA s 15 (upd (s.1 15) 4 (vp_nar .boolean 0))) = r149 at j3151 ⊢
                                        refine q_E_L ?_
                                        generalize p3152 : dz_M206 (q_sA r149 15 (upd (r149.1 15) 0 (vp_nar .boolean 1))) a2 6 = r150
                                        cases r150 with
                                        | true =>
                                          refine q_E_T ?_
                                          have j3153 : q_Iv c d w (q_sA r149 15 (upd (r149.1 15) 0 (vp_nar .boolean 1))) := (q_Iv_A (i := 15) j3151 (q_hf_up ((j3151).1 15) (q_s15 (q_rg_le (L := 0) (U := 1) (q_rg_nb _) (by decide) (by decide)))))
                                          refine q_E_L ?_
                                          generalize (q_sA r149 15 (upd (r149.1 15) 0 (vp_nar .boolean 1))) = r151 at j3153 ⊢
                                          exact q_E_x (q_Iv_A (i := 15) j3153 (q_hf_up ((j3153).1 15) (q_s15 (q_rg_le (L := 0) (U := 1) (q_rg_nb _) (by decide) (by decide)))))
                                        | false =>
                                          refine q_E_F ?_
                                          have j3154 : q_Iv c d w (q_sA r149 15 (upd (r149.1 15) 0 (vp_nar .boolean 1))) := (q_Iv_A (i := 15) j3151 (q_hf_up ((j3151).1 15) (q_s15 (q_rg_le (L := 0) (U := 1) (q_rg_nb _) (by decide) (by decide)))))
                                          refine q_E_L ?_
                                          generalize (q_sA r149 15 (upd (r149.1 15) 0 (vp_nar .boolean 1))) = r152 at j3154 ⊢
                                          exact q_E_x (q_Iv_A (i := 15) j3154 (q_hf_up ((j3154).1 15) (q_s15 (q_rg_le (L := 0) (U := 1) (q_rg_nb _) (by decide) (by decide)))))
                                      | false =>
                                        refine q_E_F ?_
                                        have j3155 : q_Iv c d w (q_sA s 15 (upd (s.1 15) 4 (vp_nar .boolean 0))) := (q_Iv_A (i := 15) hI (q_hf_up ((hI).1 15) (q_s15 (q_rg_le (L := 0) (U := 1) (q_rg_nb _) (by decide) (by decide)))))
                                        refine q_E_L ?_
                                        generalize (q_sA s 15 (upd (s.1 15) 4 (vp_nar .boolean 0))) = r153 at j3155 ⊢
                                        refine q_E_L ?_
                                        generalize p3156 : dz_M206 (q_sA r153 15 (upd (r153.1 15) 0 (vp_nar .boolean 0))) a2 6 = r154
                                        cases r154 with
                                        | true =>
                                          refine q_E_T ?_
                                          have j3157 : q_Iv c d w (q_sA r153 15 (upd (r153.1 15) 0 (vp_nar .boolean 0))) := (q_Iv_A (i := 15) j3155 (q_hf_up ((j3155).1 15) (q_s15 (q_rg_le (L := 0) (U := 1) (q_rg_nb _) (by decide) (by decide)))))
                                          refine q_E_L ?_
                                          generalize (q_sA r153 15 (upd (r153.1 15) 0 (vp_nar .boolean 0))) = r155 at j3157 ⊢
                                          exact q_E_x (q_Iv_A (i := 15) j3157 (q_hf_up ((j3157).1 15) (q_s15 (q_rg_le (L := 0) (U := 1) (q_rg_nb _) (by decide) (by decide)))))
                                        | false =>
                                          refine q_E_F ?_
                                          have j3158 : q_Iv c d w (q_sA r153 15 (upd (r153.1 15) 0 (vp_nar .boolean 0))) := (q_Iv_A (i := 15) j3155 (q_hf_up ((j3155).1 15) (q_s15 (q_rg_le (L := 0) (U := 1) (q_rg_nb _) (by decide) (by decide)))))
                                          refine q_E_L ?_
                                          generalize (q_sA r153 15 (upd (r153.1 15) 0 (vp_nar .boolean 0))) = r156 at j3158 ⊢
                                          exact q_E_x (q_Iv_A (i := 15) j3158 (q_hf_up ((j3158).1 15) (q_s15 (q_rg_le (L := 0) (U := 1) (q_rg_nb _) (by decide) (by decide)))))
                                  | false =>
                                    have g3159 := (q_rg_neL (l := 14) (u := 16) (n := 14) (L := 15) h3136 g3135 rfl (by decide) (by decide))
                                    refine q_E_F ?_
                                    cases h3160 : decide (a1 = 15) with
                                    | true =>
                                      have g3161 := q_rg_eqT h3160 (q_rg_lit (n := 15) (x := 15) rfl)
                                      refine q_E_T ?_
                                      cases h3162 : decide (((s.1 14) 0) &&& a2 = 0) with
                                      | true =>
                                        have g3163 := q_rg_eqT h3162 (q_rg_lit (n := 0) (x := 0) rfl)
                                        refine q_E_T ?_
                                        refine q_E_L ?_
                                        generalize p3164 : dz_M206 (q_sA s 15 (upd (s.1 15) 4 (vp_nar .boolean 1))) a2 7 = r157
                                        cases r157 with
                                        | true =>
                                          refine q_E_T ?_
                                          have j3165 : q_Iv c d w (q_sA s 15 (upd (s.1 15) 4 (vp_nar .boolean 1))) := (q_Iv_A (i := 15) hI (q_hf_up ((hI).1 15) (q_s15 (q_rg_le (L := 0) (U := 1) (q_rg_nb _) (by decide) (by decide)))))
                                          refine q_E_L ?_
                                          generalize (q_sA s 15 (upd (s.1 15) 4 (vp_nar .boolean 1))) = r158 at j3165 ⊢
                                          refine q_E_L ?_
                                          generalize p3166 : dz_M206 (q_sA r158 15 (upd (r158.1 15) 0 (vp_nar .boolean 1))) a2 6 = r159
                                          cases r159 with
                                          | true =>
                                            refine q_E_T ?_
                                            have j3167 : q_Iv c d w (q_sA r158 15 (upd (r158.1 15) 0 (vp_nar .boolean 1))) := (q_Iv_A (i := 15) j3165 (q_hf_up ((j3165).1 15) (q_s15 (q_rg_le (L := 0) (U := 1) (q_rg_nb _) (by decide) (by decide)))))
                                            refine q_E_L ?_
                                            generalize (q_sA r158 15 (upd (r158.1 15) 0 (vp_nar .boolean 1))) = r160 at j3167 ⊢
                                            exact q_E_x (q_Iv_A (i := 15) j3167 (q_hf_up ((j3167).1 15) (q_s15 (q_rg_le (L := 0) (U := 1) (q_rg_nb _) (by decide) (by decide)))))
                                          | false =>
                                            refine q_E_F ?_
                                            have j3168 : q_Iv c d w (q_sA r158 15 (upd (r158.1 15) 0 (vp_nar .boolean 1))) := (q_Iv_A (i := 15) j3165 (q_hf_up ((j3165).1 15) (q_s15 (q_rg_le (L := 0) (U := 1) (q_rg_nb _) (by decide) (by decide)))))
                                            refine q_E_L ?_
                                            generalize (q_sA r158 15 (upd (r158.1 15) 0 (vp_nar .boolean 1))) = r161 at j3168 ⊢
                                            exact q_E_x (q_Iv_A (i := 15) j3168 (q_hf_up ((j3168).1 15) (q_s15 (q_rg_le (L := 0) (U := 1) (q_rg_nb _) (by decide) (by decide)))))
                                        | false =>
                                          refine q_E_F ?_
                                          have j3169 : q_Iv c d w (q_sA s 15 (upd (s.1 15) 4 (vp_nar .boolean 1))) := (q_Iv_A (i := 15) hI (q_hf_up ((hI).1 15) (q_s15 (q_rg_le (L := 0) (U := 1) (q_rg_nb _) (by decide) (by decide)))))
                                          refine q_E_L ?_
                                          generalize (q_sA s 15 (upd (s.1 15) 4 (vp_nar .boolean 1))) = r162 at j3169 ⊢
                                          refine q_E_L ?_
                                          generalize p3170 : dz_M206 (q_sA r162 15 (upd (r162.1 15) 0 (vp_nar .boolean 0))) a2 6 = r163
                                          cases r163 with
                                          | true =>
                                            refine q_E_T ?_
                                            have j3171 : q_Iv c d w (q_sA r162 15 (upd (r162.1 15) 0 (vp_nar .boolean 0))) := (q_Iv_A (i := 15) j3169 (q_hf_up ((j3169).1 15) (q_s15 (q_rg_le (L := 0) (U := 1) (q_rg_nb _) (by decide) (by decide)))))
                                            refine q_E_L ?_
                                            generalize (q_sA r162 15 (upd (r162.1 15) 0 (vp_nar .boolean 0))) = r164 at j3171 ⊢
                                            exact q_E_x (q_Iv_A (i := 15) j3171 (q_hf_up ((j3171).1 15) (q_s15 (q_rg_le (L := 0) (U := 1) (q_rg_nb _) (by decide) (by decide)))))
                                          | false =>
                                            refine q_E_F ?_
                                            have j3172 : q_Iv c d w (q_sA r162 15 (upd (r162.1 15) 0 (vp_nar .boolean 0))) := (q_Iv_A (i := 15) j3169 (q_hf_up ((j3169).1 15) (q_s15 (q_rg_le (L := 0) (U := 1) (q_rg_nb _) (by decide) (by decide)))))
                                            refine q_E_L ?_
                                            generalize (q_sA r162 15 (upd (r162.1 15) 0 (vp_nar .boolean 0))) = r165 at j3172 ⊢
                                            exact q_E_x (q_Iv_A (i := 15) j3172 (q_hf_up ((j3172).1 15) (q_s15 (q_rg_le (L := 0) (U := 1) (q_rg_nb _) (by decide) (by decide)))))
                                      | false =>
                                        have g3173 := (q_rg_neL (l := 0) (u := 255) (n := 0) (L := 1) h3162 (q_rg_and1 (q_n0z hI) (by decide)) rfl (by decide) (by decide))
                                        refine q_E_F ?_
                                        refine q_E_L ?_
                                        generalize p3174 : dz_M206 (q_sA s 15 (upd (s.1 15) 4 (vp_nar .boolean 0))) a2 7 = r166
                                        cases r166 with
                                        | true =>
                                          refine q_E_T ?_
                                          have j3175 : q_Iv c d w (q_sA s 15 (upd (s.1 15) 4 (vp_nar .boolean 0))) := (q_Iv_A (i := 15) hI (q_hf_up ((hI).1 15) (q_s15 (q_rg_le (L := 0) (U := 1) (q_rg_nb _) (by decide) (by decide)))))
                                          refine q_E_L ?_
                                          generalize (q_sA s 15 (upd (s.1 15) 4 (vp_nar .boolean 0))) = r167 at j3175 ⊢
                                          refine q_E_L ?_
                                          generalize p3176 : dz_M206 (q_sA r167 15 (upd (r167.1 15) 0 (vp_nar .boolean 1))) a2 6 = r168
                                          cases r168 with
                                          | true =>
                                            refine q_E_T ?_
                                            have j3177 : q_Iv c d w (q_sA r167 15 (upd (r167.1 15) 0 (vp_nar .boolean 1))) := (q_Iv_A (i := 15) j3175 (q_hf_up ((j3175).1 15) (q_s15 (q_rg_le (L := 0) (U := 1) (q_rg_nb _) (by decide) (by decide)))))
                                            refine q_E_L ?_
                                            generalize (q_sA r167 15 (upd (r167.1 15) 0 (vp_nar .boolean 1))) = r169 at j3177 ⊢
                                            exact q_E_x (q_Iv_A (i := 15) j3177 (q_hf_up ((j3177).1 15) (q_s15 (q_rg_le (L := 0) (U := 1) (q_rg_nb _) (by decide) (by decide)))))
                                          | false =>
                                            refine q_E_F ?_
                                            have j3178 : q_Iv c d w (q_sA r167 15 (upd (r167.1 15) 0 (vp_nar .boolean 1))) := (q_Iv_A (i := 15) j3175 (q_hf_up ((j3175).1 15) (q_s15 (q_rg_le (L := 0) (U := 1) (q_rg_nb _) (by decide) (by decide)))))
                                            refine q_E_L ?_
                                            generalize (q_sA r167 15 (upd (r167.1 15) 0 (vp_nar .boolean 1))) = r170 at j3178 ⊢
                                            exact q_E_x (q_Iv_A (i := 15) j3178 (q_hf_up ((j3178).1 15) (q_s15 (q_rg_le (L := 0) (U := 1) (q_rg_nb _) (by decide) (by decide)))))
                                        | false =>
                                          refine q_E_F ?_
                                          have j3179 : q_Iv c d w (q_sA s 15 (upd (s.1 15) 4 (vp_nar .boolean 0))) := (q_Iv_A (i := 15) hI (q_hf_up ((hI).1 15) (q_s15 (q_rg_le (L := 0) (U := 1) (q_rg_nb _) (by decide) (by decide)))))
                                          refine q_E_L ?_
                                          generalize (q_sA s 15 (upd (s.1 15) 4 (vp_nar .boolean 0))) = r171 at j3179 ⊢
                                          refine q_E_L ?_
                                          generalize p3180 : dz_M206 (q_sA r171 15 (upd (r171.1 15) 0 (vp_nar .boolean 0))) a2 6 = r172
                                          cases r172 with
                                          | true =>
                                            refine q_E_T ?_
                                            have j3181 : q_Iv c d w (q_sA r171 15 (upd (r171.1 15) 0 (vp_nar .boolean 0))) := (q_Iv_A (i := 15) j3179 (q_hf_up ((j3179).1 15) (q_s15 (q_rg_le (L := 0) (U := 1) (q_rg_nb _) (by decide) (by decide)))))
                                            refine q_E_L ?_
                                            generalize (q_sA r171 15 (upd (r171.1 15) 0 (vp_nar .boolean 0))) = r173 at j3181 ⊢
                                            exact q_E_x (q_Iv_A (i := 15) j3181 (q_hf_up ((j3181).1 15) (q_s15 (q_rg_le (L := 0) (U := 1) (q_rg_nb _) (by decide) (by decide)))))
                                          | false =>
                                            refine q_E_F ?_
                                            have j3182 : q_Iv c d w (q_sA r171 15 (upd (r171.1 15) 0 (vp_nar .boolean 0))) := (q_Iv_A (i := 15) j3179 (q_hf_up ((j3179).1 15) (q_s15 (q_rg_le (L := 0) (U := 1) (q_rg_nb _) (by decide) (by decide)))))
                                            refine q_E_L ?_
                                            generalize (q_sA r171 15 (upd (r171.1 15) 0 (vp_nar .boolean 0))) = r174 at j3182 ⊢
                                            exact q_E_x (q_Iv_A (i := 15) j3182 (q_hf_up ((j3182).1 15) (q_s15 (q_rg_le (L := 0) (U := 1) (q_rg_nb _) (by decide) (by decide)))))
                                    | false =>
                                      have g3183 := (q_rg_neL (l := 15) (u := 16) (n := 15) (L := 16) h3160 g3159 rfl (by decide) (by decide))
                                      refine q_E_F ?_
                                      obtain ⟨r175, e3185, j3184⟩ := dzj_M262_64 c d w (s) hI (0) (a2) (q_rg_le (L := 0) (U := 2) (q_rg_lit (n := 0) (x := 0) rfl) (by decide) (by decide)) (q_rg_le (L := 0) (U := 255) ra2 (by decide) (by decide))
                                      rw [e3185]
                                      refine q_E_B ?_
                                      exact q_E_x (q_Iv_A (i := 14) j3184 (q_hf_up ((j3184).1 14) (q_sn1 (q_rg_le (L := 0) (U := 255) ra2 (by decide) (by decide)))))
set_option maxHeartbeats 4000000 in
theorem dzj_M271_64 (c d w : Int) (s : q_S) (hI : q_Iv c d w s) (a1 : Int32) (a2 : Int32) (a3 : Int32) : q_Ex (dz_M271_64 s a1 a2 a3) (q_Iv c d w) := by
  unfold dz_M271_64
  refine q_E_L ?_
  generalize p3206 : dz_M245 s a1 = r3
  cases r3 with
  | true =>
    refine q_E_T ?_
    cases h3207 : decide (0 < a2) with
    | true =>
      have g3208 := (q_rg_ltT2 (L := 1) (u2 := 2147483647) h3207 (q_rg_lit (n := 0) (x := 0) rfl) (q_rg_full _) (by decide))
      refine q_E_T ?_
      obtain ⟨r4, e3210, j3209⟩ := dzj_M250_64 c d w (s) hI (a2) (a3)
      rw [e3210]
      refine q_E_B ?_
      obtain ⟨r5, e3212, j3211⟩ := dzj_M270_64 c d w (r4.1) j3209.1 (a1) (r4.2) (q_rg_le (L := 0) (U := 4095) j3209.2 (by decide) (by decide))
      rw [e3212]
      refine q_E_B ?_
      exact q_E_x j3211
    | false =>
      have g3213 := (q_rg_ltF2 (l2 := -2147483648) (u := 0) h3207 (q_rg_lit (n := 0) (x := 0) rfl) (q_rg_full _))
      refine q_E_F ?_
      exact q_E_x hI
  | false =>
    refine q_E_F ?_
    cases h3214 : decide (a2 = 0) with
    | true =>
      have g3215 := q_rg_eqT h3214 (q_rg_lit (n := 0) (x := 0) rfl)
      refine q_E_T ?_
      obtain ⟨r6, e3217, j3216⟩ := dzj_M247_64 c d w (s) hI (a3 + 1)
      rw [e3217]
      refine q_E_B ?_
      obtain ⟨r7, e3219, j3218⟩ := dzj_M269_64 c d w (r6.1) j3216.1 (a1) (r6.2) (q_rg_le (L := 0) (U := 255) j3216.2 (by decide) (by decide))
      rw [e3219]
      refine q_E_B ?_
      exact q_E_x j3218
    | false =>
      refine q_E_F ?_
      obtain ⟨r8, e3221, j3220⟩ := dzj_M250_64 c d w (s) hI (a2) (a3)
      rw [e3221]
      refine q_E_B ?_
      obtain ⟨r9, e3223, j3222⟩ := dzj_M268_64 c d w (r8.1) j3220.1 (r8.2) (q_rg_le (L := 0) (U := 4095) j3220.2 (by decide) (by decide))
      rw [e3223]
      refine q_E_B ?_
      obtain ⟨r10, e3225, j3224⟩ := dzj_M269_64 c d w (r9.1) j3222.1 (a1) (r9.2) (q_rg_le (L := 0) (U := 255) j3222.2 (by decide) (by decide))
      rw [e3225]
      refine q_E_B ?_
      exact q_E_x j3224
theorem dzj_M276_64_194 (c d w : Int) (s : q_S) (hI : q_Iv c d w s) (v1 : Int32) (hd : c ≤ 1000000 ∧ d ≤ 1000000) : q_Ex (dz_M276_64_194 s v1) (q_Iv c (d + 1) w) := by
  unfold dz_M276_64_194
  have h : q_rgz 0 d ((s.1 14) 20) := hI.1 14 20
  have h2 := q_rg_rem (c := 16) (U := 15) (b := 16) h (by decide) rfl (by decide) (by decide)
  refine q_E_A (q_in_rg h2 (by decide) (by decide)) (q_E_x ?_)
  have I2 : q_Iv c (d + 1) w s := q_Iv_mono hI (Int.le_refl _) (by omega) (Int.le_refl _)
  refine q_Iv_A (i := 14) (q_Iv_A (i := 9) I2 (q_hf_up (I2.1 9) (q_rg_full _))) (q_hf_up (I2.1 14) ?_)
  show q_rgz 0 (d + 1) (((s.1 14) 20) + 1)
  exact q_rg_le (q_rg_add (L := 1) (U := d + 1) h (q_rg_lit (n := 1) (x := 1) rfl) (by decide) rfl (by decide) (by omega)) (by decide) (Int.le_refl _)

set_option maxHeartbeats 4000000 in
theorem dzj_M276_64 (c d w : Int) (s : q_S) (hI : q_Iv c d w s) (a1 : Int32) (hd : c ≤ 1000000 ∧ d ≤ 1000000) : q_Ex (dz_M276_64 s a1) (q_Iv c (d + 1) w) := by
  unfold dz_M276_64
  obtain ⟨r2, e3303, j3302⟩ := dzj_M247_64 c d w (s) hI (a1)
  rw [e3303]
  refine q_E_B ?_
  have j3304 := dzj_M244 c d w (r2.1) j3302.1 (r2.2)
  refine q_E_L ?_
  generalize dz_M244 r2.1 r2.2 = r3 at j3304 ⊢
  cases h3305 : decide (r3 < 0) with
  | true =>
    have g3306 := (q_rg_ltT1 (l := -2147483648) (U := -1) h3305 (q_rg_full _) (q_rg_lit (n := 0) (x := 0) rfl) (by decide))
    refine q_E_T ?_
    cases h3307 : decide (r2.2 = 154) with
    | true =>
      have g3308 := q_rg_eqT h3307 (q_rg_lit (n := 154) (x := 154) rfl)
      refine q_E_T ?_
      have j3309 := dzj_M213 c d w (r2.1) j3302.1 (a1 + 1)
      refine q_E_L ?_
      generalize dz_M213 r2.1 (a1 + 1) = r4 at j3309 ⊢
      obtain ⟨r5, e3311, j3310⟩ := dzj_M260_64 c d w (r2.1) j3302.1 (3838) (r4) (16) (q_rg_le (L := 0) (U := 4095) j3309 (by decide) (by decide)) (q_rg_le (L := 0) (U := 16) (q_rg_lit (n := 16) (x := 16) rfl) (by decide) (by decide))
      rw [e3311]
      refine q_E_B ?_
      exact dzj_M276_64_194 c d w (r5) j3310 (a1) (by omega)
    | false =>
      refine q_E_F ?_
      cases h3312 : decide (r2.2 = 155) with
      | true =>
        have g3313 := q_rg_eqT h3312 (q_rg_lit (n := 155) (x := 155) rfl)
        refine q_E_T ?_
        obtain ⟨r6, e3315, j3314⟩ := dzj_M256_64 c d w (r2.1) j3302.1
        rw [e3315]
        refine q_E_B ?_
        have j3316 := dzj_M259_64 c d w (r6.1) j3314.1 (r6.2)
        refine q_E_L ?_
        generalize dz_M259_64 r6.1 r6.2 = r7 at j3316 ⊢
        obtain ⟨r8, e3318, j3317⟩ := dzj_M274_64 c d w (r7) j3316 (0)
        rw [e3318]
        refine q_E_B ?_
        exact dzj_M276_64_194 c d w (q_sA r8.1 14 (upd (r8.1.1 14) 4 r8.2)) (q_Iv_A (i := 14) j3317.1 (q_hf_up ((j3317.1).1 14) (q_sn4 (q_rg_le (L := 0) (U := 4095) j3317.2 (by decide) (by decide))))) (a1) (by omega)
      | false =>
        refine q_E_F ?_
        cases h3319 : decide (r2.2 = 156) with
        | true =>
          have g3320 := q_rg_eqT h3319 (q_rg_lit (n := 156) (x := 156) rfl)
          refine q_E_T ?_
          obtain ⟨r9, e3322, j3321⟩ := dzj_M274_64 c d w (r2.1) j3302.1 (1)
          rw [e3322]
          refine q_E_B ?_
          exact dzj_M276_64_194 c d w (q_sA r9.1 14 (upd (r9.1.1 14) 4 r9.2)) (q_Iv_A (i := 14) j3321.1 (q_hf_up ((j3321.1).1 14) (q_sn4 (q_rg_le (L := 0) (U := 4095) j3321.2 (by decide) (by decide))))) (a1) (by omega)
        | false =>
          refine q_E_F ?_
          refine q_E_L ?_
          generalize p3323 : dz_M202 r2.1 r2.2 157 159 = r10
          cases r10 with
          | true =>
            have g3324 : q_rgz 157 159 (r2.2) := ⟨(q_p202 p3323 (q_rg_lit (n := 157) (x := 157) rfl) (q_rg_lit (n := 159) (x := 159) rfl)).1, (q_p202 p3323 (q_rg_lit (n := 157) (x := 157) rfl) (q_rg_lit (n := 159) (x := 159) rfl)).2⟩
            refine q_E_T ?_
            obtain ⟨r11, e3326, j3325⟩ := dzj_M275_64 c d w (r2.1) j3302.1 (r2.2) (a1)
            rw [e3326]
            refine q_E_B ?_
            exact dzj_M276_64_194 c d w (r11) j3325 (a1) (by omega)
          | false =>
            refine q_E_F ?_
            refine q_E_L ?_
            generalize p3327 : dz_M202 r2.1 r2.2 160 167 = r12
            cases r12 with
            | true =>
              have g3328 : q_rgz 160 167 (r2.2) := ⟨(q_p202 p3327 (q_rg_lit (n := 160) (x := 160) rfl) (q_rg_lit (n := 167) (x := 167) rfl)).1, (q_p202 p3327 (q_rg_lit (n := 160) (x := 160) rfl) (q_rg_lit (n := 167) (x := 167) rfl)).2⟩
              refine q_E_T ?_
              refine q_E_L ?_
              generalize p3329 : dz_M252_64 r2.1 r2.2 = r13
              cases r13 with
              | true =>
                refine q_E_T ?_
                obtain ⟨r14, e3331, j3330⟩ := dzj_M253_64 c d w (r2.1) j3302.1 (a1)
                rw [e3331]
                refine q_E_B ?_
                exact dzj_M276_64_194 c d w (q_sA r14.1 14 (upd (r14.1.1 14) 4 r14.2)) (q_Iv_A (i := 14) j3330.1 (q_hf_up ((j3330.1).1 14) (q_sn4 (q_rg_le (L := 0) (U := 4095) j3330.2 (by decide) (by decide))))) (a1) (by omega)
              | false =>
                refine q_E_F ?_
                have j3332 := dzj_M213 c d w (r2.1) j3302.1 (a1 + 2)
                refine q_E_L ?_
                generalize dz_M213 r2.1 (a1 + 2) = r15 at j3332 ⊢
                exact dzj_M276_64_194 c d w (q_sA r2.1 14 (upd (r2.1.1 14) 4 r15)) (q_Iv_A (i := 14) j3302.1 (q_hf_up ((j3302.1).1 14) (q_sn4 (q_rg_le (L := 0) (U := 4095) j3332 (by decide) (by decide))))) (a1) (by omega)
            | false =>
              refine q_E_F ?_
              obtain ⟨r16, e3334, j3333⟩ := dzj_M273_64 c d w (r2.1) j3302.1 (r2.2) (a1)
              rw [e3334]
              refine q_E_B ?_
              exact dzj_M276_64_194 c d w (r16) j3333 (a1) (by omega)
  | false =>
    have g3335 := (q_rg_ltF1 (l2 := 0) (u := 2147483647) h3305 (q_rg_full _) (q_rg_lit (n := 0) (x := 0) rfl))
    refine q_E_F ?_
    have j3336 := dzj_M246 c d w (r2.1) j3302.1 (r2.2)
    refine q_E_L ?_
    generalize dz_M246 r2.1 r2.2 = r17 at j3336 ⊢
    obtain ⟨r18, e3338, j3337⟩ := dzj_M271_64 c d w (r2.1) j3302.1 (r3) (r2.2 - r2.2 / 8 * 8) (a1)
    rw [e3338]
    refine q_E_B ?_
    have j3339 := dzj_M213 c d w (r18) j3337 (a1 + r17)
    refine q_E_L ?_
    generalize dz_M213 r18 (a1 + r17) = r19 at j3339 ⊢
    exact dzj_M276_64_194 c d w (q_sA r18 14 (upd (r18.1 14) 4 r19)) (q_Iv_A (i := 14) j3337 (q_hf_up ((j3337).1 14) (q_sn4 (q_rg_le (L := 0) (U := 4095) j3339 (by decide) (by decide))))) (a1) (by omega)
set_option maxHeartbeats 4000000 in
theorem dzj_M278_64_25 (c d w : Int) (s : q_S) (hI : q_Iv c d w s) (hd : c ≤ 1000000 ∧ d ≤ 1000000) : q_Ex (dz_M278_64_25 s) (q_Iv c (d + 1) w) := by
  unfold dz_M278_64_25
  cases h3347 : decide (0 < (upd (s.1 14) 17 (((s.1 14) 17) - 1)) 17) with
  | true =>
    have g3348 := (q_rg_ltT2 (L := 1) (u2 := 2147483647) h3347 (q_rg_lit (n := 0) (x := 0) rfl) (q_rg_full _) (by decide))
    refine q_E_T ?_
    exact q_E_x (q_Iv_mono (q_Iv_A (i := 14) hI (q_hf_up ((hI).1 14) (q_sn17 (q_rg_full _)))) (by omega) (by omega) (by omega))
  | false =>
    have g3349 := (q_rg_ltF2 (l2 := -2147483648) (u := 0) h3347 (q_rg_lit (n := 0) (x := 0) rfl) (q_rg_full _))
    refine q_E_F ?_
    have j3350 : q_Iv c d w (q_sA s 14 (upd (s.1 14) 17 (((s.1 14) 17) - 1))) := (q_Iv_A (i := 14) hI (q_hf_up ((hI).1 14) (q_sn17 (q_rg_full _))))
    refine q_E_L ?_
    generalize (q_sA s 14 (upd (s.1 14) 17 (((s.1 14) 17) - 1))) = r3 at j3350 ⊢
    cases h3351 : decide (0 < (upd (r3.1 14) 19 (((upd (s.1 14) 17 (((s.1 14) 17) - 1)) 19) + 1)) 18) with
    | true =>
      have g3352 := (q_rg_ltT2 (L := 1) (u2 := 4095) h3351 (q_rg_lit (n := 0) (x := 0) rfl) (q_up_ne (i := 19) (j := 18) (by decide) (q_n18 j3350)) (by decide))
      refine q_E_T ?_
      obtain ⟨r4, e3354, j3353⟩ := dzj_M260_64 c d w (q_sA r3 14 (upd (r3.1 14) 19 (((upd (s.1 14) 17 (((s.1 14) 17) - 1)) 19) + 1))) (q_Iv_A (i := 14) j3350 (q_hf_up ((j3350).1 14) (q_sn19 (q_rg_full _)))) ((upd (r3.1 14) 19 (((upd (s.1 14) 17 (((s.1 14) 17) - 1)) 19) + 1)) 18) ((upd (r3.1 14) 19 (((upd (s.1 14) 17 (((s.1 14) 17) - 1)) 19) + 1)) 4) (0) (q_rg_le (L := 0) (U := 4095) (q_up_ne (i := 19) (j := 4) (by decide) (q_n4 j3350)) (by decide) (by decide)) (q_rg_le (L := 0) (U := 16) (q_rg_lit (n := 0) (x := 0) rfl) (by decide) (by decide))
      rw [e3354]
      refine q_E_B ?_
      exact q_E_x (q_Iv_mono j3353 (by omega) (by omega) (by omega))
    | false =>
      have g3355 := (q_rg_ltF2 (l2 := 0) (u := 0) h3351 (q_rg_lit (n := 0) (x := 0) rfl) (q_up_ne (i := 19) (j := 18) (by decide) (q_n18 j3350)))
      refine q_E_F ?_
      obtain ⟨r5, e3357, j3356⟩ := dzj_M276_64 c d w (q_sA r3 14 (upd (r3.1 14) 19 (((upd (s.1 14) 17 (((s.1 14) 17) - 1)) 19) + 1))) (q_Iv_A (i := 14) j3350 (q_hf_up ((j3350).1 14) (q_sn19 (q_rg_full _)))) ((upd (r3.1 14) 19 (((upd (s.1 14) 17 (((s.1 14) 17) - 1)) 19) + 1)) 4) (by omega)
      rw [e3357]
      refine q_E_B ?_
      exact q_E_x j3356
set_option maxHeartbeats 4000000 in
theorem dzj_M278_64 (c d w : Int) (s : q_S) (hI : q_Iv c d w s) (hd : c ≤ 1000000 ∧ d ≤ 1000000) : q_Ex (dz_M278_64 s) (q_Iv c (d + 1) w) := by
  unfold dz_M278_64
  cases h3358 : decide ((s.1 15) 7 = 0) with
  | true =>
    have g3359 := q_rg_eqT h3358 (q_rg_lit (n := 0) (x := 0) rfl)
    refine q_E_T ?_
    cases h3360 : decide ((s.1 14) 17 = 0) with
    | true =>
      have g3361 := q_rg_eqT h3360 (q_rg_lit (n := 0) (x := 0) rfl)
      refine q_E_T ?_
      obtain ⟨r2, e3363, j3362⟩ := dzj_M277_64 c d w (s) hI
      rw [e3363]
      refine q_E_B ?_
      exact dzj_M278_64_25 c d w (r2) j3362 (by omega)
    | false =>
      refine q_E_F ?_
      exact dzj_M278_64_25 c d w (s) hI (by omega)
  | false =>
    have g3364 := (q_rg_neL (l := 0) (u := 1) (n := 0) (L := 1) h3358 (q_r15 hI 7) rfl (by decide) (by decide))
    refine q_E_F ?_
    exact q_E_x (q_Iv_mono hI (by omega) (by omega) (by omega))
theorem q_J1 {c d w : Int} {s : q_S} {v : Int64} (hI : q_Iv c d w s) (hc : c ≤ 1000000) (hv : v.toInt = 0 ∨ v.toInt = 1) : q_Iv (c + 1) d w (q_sJ (q_sJ s 0 16 ((s.2.2 0 16) + v)) 0 15 ((s.2.2 0 15) + 1)) := by
  have I2 : q_Iv (c + 1) d w s := q_Iv_mono hI (by omega) (Int.le_refl _) (Int.le_refl _)
  have k (x u : Int64) (hx : q_rgL 0 c x) (hu : u.toInt = 0 ∨ u.toInt = 1) : q_rgL 0 (c + 1) (x + u) := by
    have a := hx.1
    have b := hx.2
    have e : (x + u).toInt = x.toInt + u.toInt := by
      rw [Int64.toInt_add]
      exact Int.bmod_eq_of_le (by omega) (by omega)
    unfold q_rgL
    rw [e]
    omega
  exact q_Iv_J (q_Iv_J I2 (k _ _ (hI.2.2 0 16 rfl) hv)) (k _ _ (hI.2.2 0 15 rfl) (Or.inr rfl))
theorem dzj_M235_64_117 (c d w : Int) (s : q_S) (hI : q_Iv c d w s) (v2 : Int32) (rv2 : q_rgz 0 1 v2) (hd : c ≤ 1000000 ∧ d ≤ 1000001) : q_Ex (dz_M235_64_117 s v2) (fun x => q_Iv (c + 1) d w x.1) := by
  unfold dz_M235_64_117
  have z := q_z1_rg rv2
  cases decide (v2 = 0) with
  | true => exact q_E_T (q_E_A z (q_E_x (q_J1 hI hd.1 (Or.inl rfl))))
  | false => exact q_E_F (q_E_A z (q_E_x (q_J1 hI hd.1 (Or.inr rfl))))

set_option maxHeartbeats 4000000 in
theorem dzj_M235_64_109 (c d w : Int) (s : q_S) (hI : q_Iv c d w s) (v2 : Int32) (rv2 : q_rgz 0 1 v2) (hd : c ≤ 1000000 ∧ d ≤ 1000000) : q_Ex (dz_M235_64_109 s v2) (fun (x : q_S × Bool) => q_Iv (c + 1) (d + 1) w x.1) := by
  unfold dz_M235_64_109
  cases h3514 : decide (v2 = 0) with
  | true =>
    have g3515 := q_rg_eqT h3514 (q_rg_lit (n := 0) (x := 0) rfl)
    refine q_E_T ?_
    obtain ⟨r13, e3517, j3516⟩ := dzj_M278_64 c d w (s) hI (by omega)
    rw [e3517]
    refine q_E_B ?_
    exact dzj_M235_64_117 c (d + 1) w (r13) j3516 (v2) (q_rg_le (L := 0) (U := 1) g3515 (by decide) (by decide)) (by omega)
  | false =>
    have g3518 := (q_rg_neL (l := 0) (u := 1) (n := 0) (L := 1) h3514 rv2 rfl (by decide) (by decide))
    refine q_E_F ?_
    exact q_E_to (dzj_M235_64_117 c d w (s) hI (v2) (q_rg_le (L := 0) (U := 1) g3518 (by decide) (by decide)) (by omega)) (fun x hx => (q_Iv_mono hx (by omega) (by omega) (by omega)))
set_option maxHeartbeats 4000000 in
theorem dzj_M235_64_91 (c d w : Int) (s : q_S) (hI : q_Iv c d w s) (v1 : Int32) (v2 : Int32) (rv1 : q_rgz 0 23 v1) (rv2 : q_rgz 0 1 v2) (hd : c ≤ 1000000 ∧ d ≤ 1000000) : q_Ex (dz_M235_64_91 s v1 v2) (fun (x : q_S × Bool) => q_Iv (c + 1) (d + 1) w x.1) := by
  unfold dz_M235_64_91
  obtain ⟨r10, e3520, j3519⟩ := dzj_M230_64 c d w (s) hI
  rw [e3520]
  refine q_E_B ?_
  obtain ⟨r11, e3522, j3521⟩ := dzj_M231_64 c d w (r10) j3519
  rw [e3522]
  refine q_E_B ?_
  cases h3523 : decide (v1 = 23) with
  | true =>
    have g3524 := q_rg_eqT h3523 (q_rg_lit (n := 23) (x := 23) rfl)
    refine q_E_T ?_
    obtain ⟨r12, e3526, j3525⟩ := dzj_M234_64 c d w (r11) j3521
    rw [e3526]
    refine q_E_B ?_
    exact dzj_M235_64_109 c d w (r12) j3525 (v2) (q_rg_le (L := 0) (U := 1) rv2 (by decide) (by decide)) (by omega)
  | false =>
    have g3527 := (q_rg_neU (l := 0) (u := 23) (n := 23) (U := 22) h3523 rv1 rfl (by decide) (by decide))
    refine q_E_F ?_
    exact dzj_M235_64_109 c d w (r11) j3521 (v2) (q_rg_le (L := 0) (U := 1) rv2 (by decide) (by decide)) (by omega)
set_option maxHeartbeats 4000000 in
theorem dzj_M235_64_39 (c d w : Int) (s : q_S) (hI : q_Iv c d w s) (v1 : Int32) (rv1 : q_rgz 0 23 v1) (hd : c ≤ 1000000 ∧ d ≤ 1000000) : q_Ex (dz_M235_64_39 s v1) (fun (x : q_S × Bool) => q_Iv (c + 1) (d + 1) w x.1) := by
  unfold dz_M235_64_39
  obtain ⟨r4, e3529, j3528⟩ := dzj_M225_64 c d w (s) hI
  rw [e3529]
  refine q_E_B ?_
  cases h3530 : r4 with
  | true =>
    refine q_E_T ?_
    have j3531 := dzj_M222_64 c d w (s) hI
    refine q_E_L ?_
    generalize dz_M222_64 s = r5 at j3531 ⊢
    refine q_E_L ?_
    generalize p3532 : dz_M202 s r5 0 31 = r6
    cases r6 with
    | true =>
      have g3533 : q_rgz 0 31 (r5) := ⟨(q_p202 p3532 (q_rg_lit (n := 0) (x := 0) rfl) (q_rg_lit (n := 31) (x := 31) rfl)).1, (q_p202 p3532 (q_rg_lit (n := 0) (x := 0) rfl) (q_rg_lit (n := 31) (x := 31) rfl)).2⟩
      refine q_E_T ?_
      refine q_E_L ?_
      generalize p3534 : dz_M202 s v1 4 19 = r7
      cases r7 with
      | true =>
        have g3535 : q_rgz 4 19 (v1) := ⟨(q_p202 p3534 (q_rg_lit (n := 4) (x := 4) rfl) (q_rg_lit (n := 19) (x := 19) rfl)).1, (q_p202 p3534 (q_rg_lit (n := 4) (x := 4) rfl) (q_rg_lit (n := 19) (x := 19) rfl)).2⟩
        refine q_E_T ?_
        obtain ⟨r8, e3537, j3536⟩ := dzj_M228_64 c d w (s) hI ((2 * v1) - 8) (r5) (q_rg_le (L := 0) (U := 31) (q_rg_sub (L := 0) (U := 30) (q_rg_mul (L := 8) (U := 38) (q_rg_lit (n := 2) (x := 2) rfl) g3535 (by decide) (by decide) (by decide) (by decide) (by decide) (by decide)) (q_rg_lit (n := 8) (x := 8) rfl) (by decide) (by decide) (by decide) (by decide)) (by decide) (by decide)) (q_rg_le (L := 0) (U := 31) g3533 (by decide) (by decide))
        rw [e3537]
        refine q_E_B ?_
        obtain ⟨r9, e3539, j3538⟩ := dzj_M228_64 c d w (r8) j3536 ((2 * v1) - 7) (r5) (q_rg_le (L := 0) (U := 31) (q_rg_sub (L := 1) (U := 31) (q_rg_mul (L := 8) (U := 38) (q_rg_lit (n := 2) (x := 2) rfl) g3535 (by decide) (by decide) (by decide) (by decide) (by decide) (by decide)) (q_rg_lit (n := 7) (x := 7) rfl) (by decide) (by decide) (by decide) (by decide)) (by decide) (by decide)) (q_rg_le (L := 0) (U := 31) g3533 (by decide) (by decide))
        rw [e3539]
        refine q_E_B ?_
        exact dzj_M235_64_91 c d w (r9) j3538 (v1) (1) (q_rg_le (L := 0) (U := 23) g3535 (by decide) (by decide)) (q_rg_le (L := 0) (U := 1) (q_rg_lit (n := 1) (x := 1) rfl) (by decide) (by decide)) (by omega)
      | false =>
        refine q_E_F ?_
        exact dzj_M235_64_91 c d w (s) hI (v1) (1) (q_rg_le (L := 0) (U := 23) rv1 (by decide) (by decide)) (q_rg_le (L := 0) (U := 1) (q_rg_lit (n := 1) (x := 1) rfl) (by decide) (by decide)) (by omega)
    | false =>
      refine q_E_F ?_
      exact dzj_M235_64_91 c d w (s) hI (v1) (1) (q_rg_le (L := 0) (U := 23) rv1 (by decide) (by decide)) (q_rg_le (L := 0) (U := 1) (q_rg_lit (n := 1) (x := 1) rfl) (by decide) (by decide)) (by omega)
  | false =>
    refine q_E_F ?_
    have j3540 := dzj_M222_64 c d w (s) hI
    refine q_E_L ?_
    generalize dz_M222_64 s = r14 at j3540 ⊢
    refine q_E_L ?_
    generalize p3541 : dz_M202 s r14 0 31 = r15
    cases r15 with
    | true =>
      have g3542 : q_rgz 0 31 (r14) := ⟨(q_p202 p3541 (q_rg_lit (n := 0) (x := 0) rfl) (q_rg_lit (n := 31) (x := 31) rfl)).1, (q_p202 p3541 (q_rg_lit (n := 0) (x := 0) rfl) (q_rg_lit (n := 31) (x := 31) rfl)).2⟩
      refine q_E_T ?_
      refine q_E_L ?_
      generalize p3543 : dz_M202 s v1 4 19 = r16
      cases r16 with
      | true =>
        have g3544 : q_rgz 4 19 (v1) := ⟨(q_p202 p3543 (q_rg_lit (n := 4) (x := 4) rfl) (q_rg_lit (n := 19) (x := 19) rfl)).1, (q_p202 p3543 (q_rg_lit (n := 4) (x := 4) rfl) (q_rg_lit (n := 19) (x := 19) rfl)).2⟩
        refine q_E_T ?_
        obtain ⟨r17, e3546, j3545⟩ := dzj_M228_64 c d w (s) hI ((2 * v1) - 8) (r14) (q_rg_le (L := 0) (U := 31) (q_rg_sub (L := 0) (U := 30) (q_rg_mul (L := 8) (U := 38) (q_rg_lit (n := 2) (x := 2) rfl) g3544 (by decide) (by decide) (by decide) (by decide) (by decide) (by decide)) (q_rg_lit (n := 8) (x := 8) rfl) (by decide) (by decide) (by decide) (by decide)) (by decide) (by decide)) (q_rg_le (L := 0) (U := 31) g3542 (by decide) (by decide))
        rw [e3546]
        refine q_E_B ?_
        obtain ⟨r18, e3548, j3547⟩ := dzj_M228_64 c d w (r17) j3545 ((2 * v1) - 7) (r14) (q_rg_le (L := 0) (U := 31) (q_rg_sub (L := 1) (U := 31) (q_rg_mul (L := 8) (U := 38) (q_rg_lit (n := 2) (x := 2) rfl) g3544 (by decide) (by decide) (by decide) (by decide) (by decide) (by decide)) (q_rg_lit (n := 7) (x := 7) rfl) (by decide) (by decide) (by decide) (by decide)) (by decide) (by decide)) (q_rg_le (L := 0) (U := 31) g3542 (by decide) (by decide))
        rw [e3548]
        refine q_E_B ?_
        exact dzj_M235_64_91 c d w (r18) j3547 (v1) (0) (q_rg_le (L := 0) (U := 23) g3544 (by decide) (by decide)) (q_rg_le (L := 0) (U := 1) (q_rg_lit (n := 0) (x := 0) rfl) (by decide) (by decide)) (by omega)
      | false =>
        refine q_E_F ?_
        exact dzj_M235_64_91 c d w (s) hI (v1) (0) (q_rg_le (L := 0) (U := 23) rv1 (by decide) (by decide)) (q_rg_le (L := 0) (U := 1) (q_rg_lit (n := 0) (x := 0) rfl) (by decide) (by decide)) (by omega)
    | false =>
      refine q_E_F ?_
      exact dzj_M235_64_91 c d w (s) hI (v1) (0) (q_rg_le (L := 0) (U := 23) rv1 (by decide) (by decide)) (q_rg_le (L := 0) (U := 1) (q_rg_lit (n := 0) (x := 0) rfl) (by decide) (by decide)) (by omega)
set_option maxHeartbeats 4000000 in
theorem dzj_M235_64 (c d w : Int) (s : q_S) (hI : q_Iv c d w s) (hd : c ≤ 1000000 ∧ d ≤ 1000000) : q_Ex (dz_M235_64 s) (fun (x : q_S × Bool) => q_Iv (c + 1) (d + 1) w x.1) := by
  unfold dz_M235_64
  cases h3549 : decide (((s.2.2 0 15) - (s.2.2 0 15) / 24 * 24).toInt32 = 0) with
  | true =>
    have g3550 := q_rg_eqT h3549 (q_rg_lit (n := 0) (x := 0) rfl)
    refine q_E_T ?_
    have j3551 := dzj_M207_64 c d w (s) hI
    refine q_E_L ?_
    generalize dz_M207_64 s = r3 at j3551 ⊢
    cases h3552 : decide (r3 = (s.1 4) 9) with
    | true =>
      refine q_E_T ?_
      exact dzj_M235_64_39 c d w (q_sA s 14 (upd (s.1 14) 9 (((s.1 14) 9) ||| 1))) (q_Iv_A (i := 14) hI (q_hf_up ((hI).1 14) (q_sn9 (q_rg_le (L := 0) (U := 15) (q_rg_or (n := 4) (W := 15) (q_n9 hI) (q_rg_lit (n := 1) (x := 1) rfl) (by decide) (by decide) (by decide) (by decide) (by decide)) (by decide) (by decide))))) (((s.2.2 0 15) - (s.2.2 0 15) / 24 * 24).toInt32) (q_rg_le (L := 0) (U := 23) g3550 (by decide) (by decide)) (by omega)
    | false =>
      refine q_E_F ?_
      exact dzj_M235_64_39 c d w (s) hI (((s.2.2 0 15) - (s.2.2 0 15) / 24 * 24).toInt32) (q_rg_le (L := 0) (U := 23) g3550 (by decide) (by decide)) (by omega)
  | false =>
    have g3553 := (q_rg_neL (l := 0) (u := 23) (n := 0) (L := 1) h3549 (q_rg_cyc (n := 24) (hI) (by decide) (by decide)) rfl (by decide) (by decide))
    refine q_E_F ?_
    exact dzj_M235_64_39 c d w (s) hI (((s.2.2 0 15) - (s.2.2 0 15) / 24 * 24).toInt32) (q_rg_le (L := 0) (U := 23) g3553 (by decide) (by decide)) (by omega)
theorem dzj_M236_64_29 (C D w : Int) (hC : C + 1000 ≤ 1000000 ∧ D + 1000 ≤ 1000000) : ∀ (m : Nat) (s : q_S) (v1 v2 v3 : Int32) (hI : q_Iv (C + v3.toInt) (D + v3.toInt) w s) (r1 : q_rgz 0 1000 v1) (r3 : q_rgz 0 v1.toInt v3), ((v1.toInt - v3.toInt).toNat : Int) ≤ (m : Int) → q_Ex (dz_M236_64_29 (m + 1) s v1 v2 v3) (fun x => q_Iv (C + 1000) (D + 1000) w x.1) := by
  have leaf : ∀ (s : q_S) (v1 v2 v3 : Int32) (hI : q_Iv (C + v3.toInt) (D + v3.toInt) w s) (r1 : q_rgz 0 1000 v1) (r3 : q_rgz 0 v1.toInt v3), q_Ex (q_let (dz_M205_64 s) fun r1232 => some (r1232, v2)) (fun x => q_Iv (C + 1000) (D + 1000) w x.1) := by
    intro s v1 v2 v3 hI r1 r3
    have a := r1.2
    have b := r3.2
    refine q_E_L (q_E_x ?_)
    exact q_Iv_mono (dzj_M205_64 _ _ w s hI) (by omega) (by omega) (Int.le_refl _)
  intro m
  induction m with
  | zero =>
    intro s v1 v2 v3 hI r1 r3 hm
    rw [dzs_M236_64_29]
    dsimp only
    have a1 := r3.2
    have e : decide (v3 < v1) = false := decide_eq_false (fun z => by have := Int32.lt_iff_toInt_lt.mp z; omega)
    rw [e]
    exact q_E_F (leaf s v1 v2 v3 hI r1 r3)
  | succ m ih =>
    intro s v1 v2 v3 hI r1 r3 hm
    rw [dzs_M236_64_29]
    dsimp only
    have a1 := r3.1
    have a2 := r3.2
    have a3 := r1.2
    cases h : decide (v3 < v1) with
    | false => exact q_E_F (leaf s v1 v2 v3 hI r1 r3)
    | true =>
      refine q_E_T ?_
      have e1 : v3.toInt < v1.toInt := Int32.lt_iff_toInt_lt.mp (of_decide_eq_true h)
      have e3 : (v3 + 1).toInt = v3.toInt + 1 := q_add9 (c := 1) (by show _ ≤ v3.toInt + 1; omega) (by show v3.toInt + 1 ≤ _; omega)
      obtain ⟨r, er, hr⟩ := dzj_M235_64 _ _ w s hI (by omega)
      rw [er]
      refine q_E_B ?_
      have hr2 : q_Iv (C + (v3 + 1).toInt) (D + (v3 + 1).toInt) w r.1 := q_Iv_mono hr (by omega) (by omega) (Int.le_refl _)
      cases h9 : r.2 with
      | true => exact q_E_T (ih _ _ _ _ hr2 r1 ⟨by omega, by omega⟩ (by omega))
      | false => exact q_E_F (ih _ _ _ _ hr2 r1 ⟨by omega, by omega⟩ (by omega))
theorem dzj_M236_64 (c d w : Int) (hC : c + 1000 ≤ 1000000 ∧ d + 1000 ≤ 1000000) (s : q_S) (hI : q_Iv c d w s) (a1 : Int32) : q_Ex (dz_M236_64 s a1) (fun x => q_Iv (c + 1000) (d + 1000) w x.1) := by
  unfold dz_M236_64
  refine q_E_L ?_
  generalize p1 : dz_M202 s a1 1 1000 = r
  have z0 : (0 : Int32).toInt = 0 := rfl
  cases r with
  | true =>
    have g := q_p202 p1 (q_rg_lit (n := 1) rfl) (q_rg_lit (n := 1000) rfl)
    have g1 := g.1
    refine q_E_T (q_E_L ?_)
    have j := q_fails s 0 hI
    generalize dz_M200_64 s 0 = r at j ⊢
    cases h : r.2 with
    | true => exact (q_failsT j h (q_rg_lit (n := 0) rfl) (by decide)).elim
    | false =>
      refine q_E_F ?_
      exact dzj_M236_64_29 c d w hC 4999 r.1 a1 0 0 (by rw [z0, Int.add_zero, Int.add_zero]; exact j.1) (q_rg_le g (by decide) (by decide)) ⟨by omega, by omega⟩ (by have := g.2; omega)
  | false =>
    refine q_E_F (q_E_L ?_)
    have j := q_fails s 1 hI
    generalize dz_M200_64 s 1 = r at j ⊢
    cases h : r.2 with
    | true => exact q_E_T (q_E_x (q_Iv_mono j.1 (by omega) (by omega) (Int.le_refl _)))
    | false => exact (q_failsF j h (q_rg_lit (n := 1) rfl) (by decide)).elim

theorem dzj_M237_64_34 (C D w : Int) (hC : C + 1000 ≤ 1000000 ∧ D + 1000 ≤ 1000000) : ∀ (m : Nat) (s : q_S) (v1 v2 : Int32) (hI : q_Iv (C + v2.toInt) (D + v2.toInt) w s) (r2 : q_rgz 0 200 v2), ((200 - v2.toInt).toNat : Int) ≤ (m : Int) → q_Ex (dz_M237_64_34 (m + 1) s v1 v2) (fun x => q_Iv (C + 200) (D + 200) w x.1) := by
  have leaf : ∀ (s : q_S) (v2 : Int32) (hI : q_Iv (C + v2.toInt) (D + v2.toInt) w s) (r2 : q_rgz 0 200 v2), q_Ex (q_let (dz_M205_64 s) fun r1232 => some (r1232, v2)) (fun x => q_Iv (C + 200) (D + 200) w x.1) := by
    intro s v2 hI r2
    have b := r2.2
    refine q_E_L (q_E_x ?_)
    exact q_Iv_mono (dzj_M205_64 _ _ w s hI) (by omega) (by omega) (Int.le_refl _)
  have k2 : (200 : Int32).toInt = 200 := rfl
  intro m
  induction m with
  | zero =>
    intro s v1 v2 hI r2 hm
    rw [dzs_M237_64_34]
    dsimp only
    have a1 := r2.2
    have e : decide (v2 < 200) = false := decide_eq_false (fun z => by have := Int32.lt_iff_toInt_lt.mp z; omega)
    rw [e]
    exact q_E_F (leaf s v2 hI r2)
  | succ m ih =>
    intro s v1 v2 hI r2 hm
    rw [dzs_M237_64_34]
    dsimp only
    have a1 := r2.1
    have a2 := r2.2
    cases h : decide (v2 < 200) with
    | false => exact q_E_F (leaf s v2 hI r2)
    | true =>
      refine q_E_T ?_
      have e1 : v2.toInt < 200 := Int32.lt_iff_toInt_lt.mp (of_decide_eq_true h)
      have e3 : (v2 + 1).toInt = v2.toInt + 1 := q_add9 (c := 1) (by show _ ≤ v2.toInt + 1; omega) (by show v2.toInt + 1 ≤ _; omega)
      cases h8 : decide ((s.1 14) 19 = v1) with
      | false => exact q_E_F (leaf s v2 hI r2)
      | true =>
        refine q_E_T ?_
        obtain ⟨r, er, hr⟩ := dzj_M235_64 _ _ w s hI (by omega)
        rw [er]
        refine q_E_B ?_
        have hr2 : q_Iv (C + (v2 + 1).toInt) (D + (v2 + 1).toInt) w r.1 := q_Iv_mono hr (by omega) (by omega) (Int.le_refl _)
        cases h9 : r.2 with
        | true => exact q_E_T (ih _ _ _ hr2 ⟨by omega, by omega⟩ (by omega))
        | false => exact q_E_F (ih _ _ _ hr2 ⟨by omega, by omega⟩ (by omega))
theorem dzj_M237_64 (c d w : Int) (hC : c + 1000 ≤ 1000000 ∧ d + 1000 ≤ 1000000) (s : q_S) (hI : q_Iv c d w s) : q_Ex (dz_M237_64 s) (fun x => q_Iv (c + 1000) (d + 1000) w x.1) := by
  unfold dz_M237_64
  have z0 : (0 : Int32).toInt = 0 := rfl
  cases decide ((s.1 15) 7 = 0) with
  | true =>
    refine q_E_T (q_E_L ?_)
    have j := q_fails s 0 hI
    generalize dz_M200_64 s 0 = r at j ⊢
    cases h : r.2 with
    | true => exact (q_failsT j h (q_rg_lit (n := 0) rfl) (by decide)).elim
    | false =>
      refine q_E_F ?_
      exact q_E_to (dzj_M237_64_34 c d w hC 4999 r.1 ((r.1.1 14) 19) 0 (by rw [z0, Int.add_zero, Int.add_zero]; exact j.1) ⟨by omega, by omega⟩ (by omega)) (fun x hx => q_Iv_mono hx (by omega) (by omega) (Int.le_refl _))
  | false =>
    refine q_E_F (q_E_L ?_)
    have j := q_fails s 1 hI
    generalize dz_M200_64 s 1 = r at j ⊢
    cases h : r.2 with
    | true => exact q_E_T (q_E_x (q_Iv_mono j.1 (by omega) (by omega) (Int.le_refl _)))
    | false => exact (q_failsF j h (q_rg_lit (n := 1) rfl) (by decide)).elim

set_option maxHeartbeats 4000000 in
theorem dzj_M238_64 (c d w : Int) (s : q_S) (hI : q_Iv c d w s) : (fun (x : q_S × Int64) => q_Iv c d w x.1) (dz_M238_64 s) := by
  refine q_S_of (P := (fun (x : q_S × Int64) => q_Iv c d w x.1)) ?_
  unfold dz_M238_64
  exact q_E_x (q_Iv_I (i := 0) (m := 39) hI (q_rg_full _))
set_option maxHeartbeats 4000000 in
theorem dzj_M239_64 (c d w : Int) (s : q_S) (hI : q_Iv c d w s) : q_Ex (dz_M239_64 s) (fun (x : q_S × Bool) => q_Iv c d w x.1) := by
  unfold dz_M239_64
  obtain ⟨r2, e3558, j3557⟩ := dzj_M225_64 c d w (q_sI s 0 39 0) (q_Iv_I (i := 0) (m := 39) hI (q_rg_full _))
  rw [e3558]
  refine q_E_B ?_
  cases h3559 : r2 with
  | true =>
    refine q_E_T ?_
    exact q_E_x (q_Iv_I (i := 0) (m := 39) hI (q_rg_full _))
  | false =>
    refine q_E_F ?_
    exact q_E_x (q_Iv_I (i := 0) (m := 39) hI (q_rg_full _))
set_option maxHeartbeats 4000000 in
theorem dzj_M240_64 (c d w : Int) (s : q_S) (hI : q_Iv c d w s) : (fun (x : q_S × Int32) => q_Iv c d w x.1) (dz_M240_64 s) := by
  refine q_S_of (P := (fun (x : q_S × Int32) => q_Iv c d w x.1)) ?_
  unfold dz_M240_64
  have j3561 := dzj_M201_64 c d w (s) hI ((s.1 14) 17)
  refine q_S_L ?_
  generalize dz_M201_64 s ((s.1 14) 17) = r1 at j3561 ⊢
  exact q_E_x j3561
set_option maxHeartbeats 4000000 in
theorem dzj_M241_64 (c d w : Int) (s : q_S) (hI : q_Iv c d w s) : (fun (x : q_S × Int32) => q_Iv c d w x.1) (dz_M241_64 s) := by
  refine q_S_of (P := (fun (x : q_S × Int32) => q_Iv c d w x.1)) ?_
  unfold dz_M241_64
  have j3563 := dzj_M201_64 c d w (s) hI ((s.1 14) 19)
  refine q_S_L ?_
  generalize dz_M201_64 s ((s.1 14) 19) = r1 at j3563 ⊢
  exact q_E_x j3563
set_option maxHeartbeats 4000000 in
theorem dzj_M242_64 (c d w : Int) (s : q_S) (hI : q_Iv c d w s) : q_Ex (dz_M242_64 s) (fun (x : q_S × Bool) => q_Iv c d w x.1) := by
  unfold dz_M242_64
  refine q_E_A (q_z1_rg (q_rg_le (q_r15 hI 7) (by decide) (by decide))) ?_
  exact q_E_x (q_Iv_I (i := 0) (m := 39) hI (q_rg_full _))
theorem q_trx {d : Int} {t a : Int32} {hi : Int32} {s : q_S} (h : q_rgz 0 d t) (hd : d ≤ 1000000) (hp : dz_M202 s a 0 ((if t < (16 : Int32) then t else (16 : Int32)) - 1) = true) : q_in (((t - 1) - a) - ((t - 1) - a) / 16 * 16) 16 = true := by
  have z0 : (0 : Int32).toInt = 0 := rfl
  have z1 : (1 : Int32).toInt = 1 := rfl
  have z16 : (16 : Int32).toInt = 16 := rfl
  have t0 := h.1
  have t1 := h.2
  have mn : ∀ u : Int32, u = (if t < (16 : Int32) then t else (16 : Int32)) → 0 ≤ u.toInt ∧ u.toInt ≤ t.toInt ∧ u.toInt ≤ 16 := by
    intro u hu
    rw [hu]
    by_cases e : t < (16 : Int32)
    · rw [if_pos e]; have := Int32.lt_iff_toInt_lt.mp e; omega
    · rw [if_neg e]; have : ¬ t.toInt < (16 : Int32).toInt := fun z => e (Int32.lt_iff_toInt_lt.mpr z); omega
  generalize hu : (if t < (16 : Int32) then t else (16 : Int32)) = u at hp
  obtain ⟨m0, m1, m2⟩ := mn u hu.symm
  have eu : (u - 1).toInt = u.toInt - 1 := by
    rw [Int32.toInt_sub, z1]
    exact Int.bmod_eq_of_le (by omega) (by omega)
  have g := q_p202 (a := 0) (b := 0) (a2 := u.toInt - 1) (b2 := u.toInt - 1) hp (q_rg_lit (n := 0) rfl) ⟨by omega, by omega⟩
  have g1 := g.1
  have g2 := g.2
  have e1 : (t - 1).toInt = t.toInt - 1 := by
    rw [Int32.toInt_sub, z1]
    exact Int.bmod_eq_of_le (by omega) (by omega)
  have e2 : ((t - 1) - a).toInt = t.toInt - 1 - a.toInt := by
    rw [Int32.toInt_sub, e1]
    exact Int.bmod_eq_of_le (by omega) (by omega)
  have r : q_rgz 0 d ((t - 1) - a) := ⟨by omega, by omega⟩
  exact q_in_rg (q_rg_rem (c := 16) (U := 15) (b := 16) r (by decide) rfl (by decide) (by decide)) (by decide) (by decide)
theorem dzj_M243_64 (c d w : Int) (hd : d ≤ 1000000) (s : q_S) (hI : q_Iv c d w s) (a1 : Int32) : q_Ex (dz_M243_64 s a1) (fun x => q_Iv c d w x.1) := by
  unfold dz_M243_64
  refine q_E_L ?_
  generalize p1 : dz_M202 s a1 0 ((if ((s.1 14) 20) < (16 : Int32) then ((s.1 14) 20) else (16 : Int32)) - 1) = r
  cases r with
  | true =>
    refine q_E_T (q_E_L ?_)
    have j := q_fails s 0 hI
    generalize dz_M200_64 s 0 = r at j ⊢
    cases h : r.2 with
    | true => exact (q_failsT j h (q_rg_lit (n := 0) rfl) (by decide)).elim
    | false =>
      refine q_E_F (q_E_A ?_ (q_E_x j.1))
      rw [j.2.2.1]
      exact q_trx (hi := 0) (hI.1 14 20) hd p1
  | false =>
    refine q_E_F (q_E_L ?_)
    have j := q_fails s 1 hI
    generalize dz_M200_64 s 1 = r at j ⊢
    cases h : r.2 with
    | true => exact q_E_T (q_E_x j.1)
    | false => exact (q_failsF j h (q_rg_lit (n := 1) rfl) (by decide)).elim

set_option maxHeartbeats 4000000 in
theorem dzj_M267_64_56 (c d w : Int) (s : q_S) (hI : q_Iv c d w s) (v2 : Int32) (v3 : Int32) (v4 : Int32) (rv2 : q_rgz 0 255 v2) (rv3 : q_rgz 0 255 v3) (rv4 : q_rgz 0 1 v4) : q_Ex (dz_M267_64_56 s v2 v3 v4) (q_Iv c d w) := by
  unfold dz_M267_64_56
  cases h3602 : decide ((s.1 15) 2 = 0) with
  | true =>
    have g3603 := q_rg_eqT h3602 (q_rg_lit (n := 0) (x := 0) rfl)
    refine q_E_T ?_
    have j3604 := dzj_M261_64 c d w (s) hI ((s.1 14) 0) (q_rg_le (L := 0) (U := 255) (q_n0z hI) (by decide) (by decide))
    refine q_E_L ?_
    generalize dz_M261_64 s ((s.1 14) 0) = r4 at j3604 ⊢
    exact q_E_x j3604.1
  | false =>
    have g3605 := (q_rg_neL (l := 0) (u := 1) (n := 0) (L := 1) h3602 (q_r15 hI 2) rfl (by decide) (by decide))
    refine q_E_F ?_
    have j3606 := dzj_M266_64 c d w (s) hI (v3) (v2) (v4)
    refine q_E_L ?_
    generalize dz_M266_64 s v3 v2 v4 = r5 at j3606 ⊢
    have j3607 := dzj_M261_64 c d w (r5) j3606 ((r5.1 14) 0) (q_rg_le (L := 0) (U := 255) (q_n0z j3606) (by decide) (by decide))
    refine q_E_L ?_
    generalize dz_M261_64 r5 ((r5.1 14) 0) = r6 at j3607 ⊢
    exact q_E_x j3607.1
set_option maxHeartbeats 4000000 in
theorem dzj_M267_64 (c d w : Int) (s : q_S) (hI : q_Iv c d w s) (a1 : Int32) (a2 : Int32) (ra2 : q_rgz 0 255 a2) : q_Ex (dz_M267_64 s a1 a2) (q_Iv c d w) := by
  unfold dz_M267_64
  obtain ⟨r2, e3609, j3608⟩ := dzj_M257_64 c d w 1 (s) hI (5) (1)  (q_rg_le (L := 0) (U := 7) (q_rg_lit (n := 5) (x := 5) rfl) (by decide) (by decide)) (q_rg_le (L := 0) (U := 1) (q_rg_lit (n := 1) (x := 1) rfl) (by decide) (by decide))
  rw [e3609]
  refine q_E_B ?_
  cases h3610 : decide (a1 = 0) with
  | true =>
    have g3611 := q_rg_eqT h3610 (q_rg_lit (n := 0) (x := 0) rfl)
    refine q_E_T ?_
    obtain ⟨r3, e3613, j3612⟩ := dzj_M264_64 c d w (s) hI ((255 : Int32) - a2) (q_rg_le (L := 0) (U := 255) (q_rg_sub (L := 0) (U := 255) (q_rg_lit (n := 255) (x := 255) rfl) ra2 (by decide) (by decide) (by decide) (by decide)) (by decide) (by decide))
    rw [e3613]
    refine q_E_B ?_
    cases h3614 : decide ((r3.1 15) 2 = 0) with
    | true =>
      have g3615 := q_rg_eqT h3614 (q_rg_lit (n := 0) (x := 0) rfl)
      refine q_E_T ?_
      exact dzj_M267_64_56 c d w (r3) j3612 (a2) ((s.1 14) 0) (r2) (q_rg_le (L := 0) (U := 255) ra2 (by decide) (by decide)) (q_rg_le (L := 0) (U := 255) (q_n0z hI) (by decide) (by decide)) (q_rg_le (L := 0) (U := 1) j3608 (by decide) (by decide))
    | false =>
      have g3616 := (q_rg_neL (l := 0) (u := 1) (n := 0) (L := 1) h3614 (q_r15 j3612 2) rfl (by decide) (by decide))
      refine q_E_F ?_
      exact dzj_M267_64_56 c d w (r3) j3612 (a2) ((s.1 14) 0) (r2) (q_rg_le (L := 0) (U := 255) ra2 (by decide) (by decide)) (q_rg_le (L := 0) (U := 255) (q_n0z hI) (by decide) (by decide)) (q_rg_le (L := 0) (U := 1) j3608 (by decide) (by decide))
  | false =>
    refine q_E_F ?_
    obtain ⟨r7, e3618, j3617⟩ := dzj_M264_64 c d w (s) hI (a2) (q_rg_le (L := 0) (U := 255) ra2 (by decide) (by decide))
    rw [e3618]
    refine q_E_B ?_
    cases h3619 : decide ((r7.1 15) 2 = 0) with
    | true =>
      have g3620 := q_rg_eqT h3619 (q_rg_lit (n := 0) (x := 0) rfl)
      refine q_E_T ?_
      exact dzj_M267_64_56 c d w (r7) j3617 (a2) ((s.1 14) 0) (r2) (q_rg_le (L := 0) (U := 255) ra2 (by decide) (by decide)) (q_rg_le (L := 0) (U := 255) (q_n0z hI) (by decide) (by decide)) (q_rg_le (L := 0) (U := 1) j3608 (by decide) (by decide))
    | false =>
      have g3621 := (q_rg_neL (l := 0) (u := 1) (n := 0) (L := 1) h3619 (q_r15 j3617 2) rfl (by decide) (by decide))
      refine q_E_F ?_
      have j3622 := dzj_M265_64 c d w (r7) j3617 ((s.1 14) 0) (a2) (r2)
      refine q_E_L ?_
      generalize dz_M265_64 r7 ((s.1 14) 0) a2 r2 = r8 at j3622 ⊢
      have j3623 := dzj_M261_64 c d w (r8) j3622 ((r8.1 14) 0) (q_rg_le (L := 0) (U := 255) (q_n0z j3622) (by decide) (by decide))
      refine q_E_L ?_
      generalize dz_M261_64 r8 ((r8.1 14) 0) = r9 at j3623 ⊢
      exact q_E_x j3623.1
set_option maxHeartbeats 4000000 in
theorem dzj_M279_64_90 (c d w : Int) (s : q_S) (hI : q_Iv c d w s) (v1 : Int32) (v2 : Int32) (v3 : Int32) (rv1 : q_rgz 0 4095 v1) (rv2 : q_rgz 0 255 v2) (rv3 : q_rgz 0 4095 v3) : q_Ex (dz_M279_64_90 s v1 v2 v3) (fun (x : q_S × Int32) => q_Iv c d w x.1) := by
  unfold dz_M279_64_90
  have j3719 := dzj_M246 c d w (s) hI (v2)
  refine q_E_L ?_
  generalize dz_M246 s v2 = r10 at j3719 ⊢
  cases h3720 : decide (2 < r10) with
  | true =>
    have g3721 := (q_rg_ltT2 (L := 3) (u2 := 3) h3720 (q_rg_lit (n := 2) (x := 2) rfl) j3719 (by decide))
    refine q_E_T ?_
    have j3722 := dzj_M213 c d w (s) hI (v1 + 2)
    refine q_E_L ?_
    generalize dz_M213 s (v1 + 2) = r11 at j3722 ⊢
    obtain ⟨r12, e3724, j3723⟩ := dzj_M215_64 c d w (s) hI (r11) (v3 / 256) (q_rg_le (L := 0) (U := 4095) j3722 (by decide) (by decide)) (q_rg_le (L := 0) (U := 255) (q_rg_div (c := 256) (U := 15) rv3 (by decide) rfl (by decide) (by decide)) (by decide) (by decide))
    rw [e3724]
    refine q_E_B ?_
    have j3725 := dzj_M205_64 c d w (r12) j3723
    refine q_E_L ?_
    generalize dz_M205_64 r12 = r13 at j3725 ⊢
    have j3726 := dzj_M246 c d w (r13) j3725 (v2)
    refine q_E_L ?_
    generalize dz_M246 r13 v2 = r14 at j3726 ⊢
    have j3727 := dzj_M213 c d w (r13) j3725 (v1 + r14)
    refine q_E_L ?_
    generalize dz_M213 r13 (v1 + r14) = r15 at j3727 ⊢
    exact q_E_x j3725
  | false =>
    have g3728 := (q_rg_ltF2 (l2 := 1) (u := 2) h3720 (q_rg_lit (n := 2) (x := 2) rfl) j3719)
    refine q_E_F ?_
    have j3729 := dzj_M205_64 c d w (s) hI
    refine q_E_L ?_
    generalize dz_M205_64 s = r16 at j3729 ⊢
    have j3730 := dzj_M246 c d w (r16) j3729 (v2)
    refine q_E_L ?_
    generalize dz_M246 r16 v2 = r17 at j3730 ⊢
    have j3731 := dzj_M213 c d w (r16) j3729 (v1 + r17)
    refine q_E_L ?_
    generalize dz_M213 r16 (v1 + r17) = r18 at j3731 ⊢
    exact q_E_x j3729
set_option maxHeartbeats 4000000 in
theorem dzj_M279_64 (c d w : Int) (s : q_S) (hI : q_Iv c d w s) (a1 : Int32) (a2 : Int32) (a3 : Int32) : q_Ex (dz_M279_64 s a1 a2 a3) (fun (x : q_S × Int32) => q_Iv c d w x.1) := by
  unfold dz_M279_64
  refine q_E_L ?_
  generalize p3732 : dz_M204 s a1 = r4
  cases r4 with
  | true =>
    refine q_E_T ?_
    have j3733 := q_fails (s) (1) hI
    refine q_E_L ?_
    generalize dz_M200_64 s 1 = r5 at j3733 ⊢
    cases h3734 : r5.2 with
    | true =>
      refine q_E_T ?_
      exact q_E_x j3733.1
    | false =>
      exact (q_failsF j3733 h3734 (q_rg_lit (n := 1) (x := 1) rfl) (by decide)).elim
  | false =>
    have g3735 : q_rgz 0 4095 (a1) := ⟨(q_p204 p3732).1, (q_p204 p3732).2⟩
    refine q_E_F ?_
    refine q_E_L ?_
    generalize p3736 : dz_M203 s a2 = r19
    cases r19 with
    | true =>
      refine q_E_T ?_
      have j3737 := q_fails (s) (2) hI
      refine q_E_L ?_
      generalize dz_M200_64 s 2 = r20 at j3737 ⊢
      cases h3738 : r20.2 with
      | true =>
        refine q_E_T ?_
        exact q_E_x j3737.1
      | false =>
        exact (q_failsF j3737 h3738 (q_rg_lit (n := 2) (x := 2) rfl) (by decide)).elim
    | false =>
      have g3739 : q_rgz 0 255 (a2) := ⟨(q_p203 p3736).1, (q_p203 p3736).2⟩
      refine q_E_F ?_
      have j3740 := dzj_M246 c d w (s) hI (a2 &&& 255)
      refine q_E_L ?_
      generalize dz_M246 s (a2 &&& 255) = r25 at j3740 ⊢
      cases h3741 : decide (r25 = 2) with
      | true =>
        have g3742 := q_rg_eqT h3741 (q_rg_lit (n := 2) (x := 2) rfl)
        refine q_E_T ?_
        refine q_E_L ?_
        generalize p3743 : dz_M202 s a3 0 255 = r26
        cases r26 with
        | true =>
          have g3744 : q_rgz 0 255 (a3) := ⟨(q_p202 p3743 (q_rg_lit (n := 0) (x := 0) rfl) (q_rg_lit (n := 255) (x := 255) rfl)).1, (q_p202 p3743 (q_rg_lit (n := 0) (x := 0) rfl) (q_rg_lit (n := 255) (x := 255) rfl)).2⟩
          refine q_E_T ?_
          have j3745 := q_fails (s) (0) hI
          refine q_E_L ?_
          generalize dz_M200_64 s 0 = r27 at j3745 ⊢
          cases h3746 : r27.2 with
          | true =>
            exact (q_failsT j3745 h3746 (q_rg_lit (n := 0) (x := 0) rfl) (by decide)).elim
          | false =>
            refine q_E_F ?_
            obtain ⟨r28, e3748, j3747⟩ := dzj_M215_64 c d w (r27.1) j3745.1 (a1) (a2) (q_rg_le (L := 0) (U := 4095) g3735 (by decide) (by decide)) (q_rg_le (L := 0) (U := 255) g3739 (by decide) (by decide))
            rw [e3748]
            refine q_E_B ?_
            have j3749 := dzj_M246 c d w (r28) j3747 (a2)
            refine q_E_L ?_
            generalize dz_M246 r28 a2 = r29 at j3749 ⊢
            cases h3750 : decide (1 < r29) with
            | true =>
              have g3751 := (q_rg_ltT2 (L := 2) (u2 := 3) h3750 (q_rg_lit (n := 1) (x := 1) rfl) j3749 (by decide))
              refine q_E_T ?_
              have j3752 := dzj_M213 c d w (r28) j3747 (a1 + 1)
              refine q_E_L ?_
              generalize dz_M213 r28 (a1 + 1) = r30 at j3752 ⊢
              obtain ⟨r31, e3754, j3753⟩ := dzj_M215_64 c d w (r28) j3747 (r30) (a3 - a3 / 256 * 256) (q_rg_le (L := 0) (U := 4095) j3752 (by decide) (by decide)) (q_rg_le (L := 0) (U := 255) (q_rg_rem2 (c := 256) g3744 (by decide) rfl (by decide)) (by decide) (by decide))
              rw [e3754]
              refine q_E_B ?_
              exact dzj_M279_64_90 c d w (r31) j3753 (a1) (a2) (a3) (q_rg_le (L := 0) (U := 4095) g3735 (by decide) (by decide)) (q_rg_le (L := 0) (U := 255) g3739 (by decide) (by decide)) (q_rg_le (L := 0) (U := 4095) g3744 (by decide) (by decide))
            | false =>
              have g3755 := (q_rg_ltF2 (l2 := 1) (u := 1) h3750 (q_rg_lit (n := 1) (x := 1) rfl) j3749)
              refine q_E_F ?_
              exact dzj_M279_64_90 c d w (r28) j3747 (a1) (a2) (a3) (q_rg_le (L := 0) (U := 4095) g3735 (by decide) (by decide)) (q_rg_le (L := 0) (U := 255) g3739 (by decide) (by decide)) (q_rg_le (L := 0) (U := 4095) g3744 (by decide) (by decide))
        | false =>
          refine q_E_F ?_
          have j3756 := q_fails (s) (2) hI
          refine q_E_L ?_
          generalize dz_M200_64 s 2 = r32 at j3756 ⊢
          cases h3757 : r32.2 with
          | true =>
            refine q_E_T ?_
            exact q_E_x j3756.1
          | false =>
            exact (q_failsF j3756 h3757 (q_rg_lit (n := 2) (x := 2) rfl) (by decide)).elim
      | false =>
        refine q_E_F ?_
        refine q_E_L ?_
        generalize p3758 : dz_M202 s a3 0 4095 = r37
        cases r37 with
        | true =>
          have g3759 : q_rgz 0 4095 (a3) := ⟨(q_p202 p3758 (q_rg_lit (n := 0) (x := 0) rfl) (q_rg_lit (n := 4095) (x := 4095) rfl)).1, (q_p202 p3758 (q_rg_lit (n := 0) (x := 0) rfl) (q_rg_lit (n := 4095) (x := 4095) rfl)).2⟩
          refine q_E_T ?_
          have j3760 := q_fails (s) (0) hI
          refine q_E_L ?_
          generalize dz_M200_64 s 0 = r38 at j3760 ⊢
          cases h3761 : r38.2 with
          | true =>
            exact (q_failsT j3760 h3761 (q_rg_lit (n := 0) (x := 0) rfl) (by decide)).elim
          | false =>
            refine q_E_F ?_
            obtain ⟨r39, e3763, j3762⟩ := dzj_M215_64 c d w (r38.1) j3760.1 (a1) (a2) (q_rg_le (L := 0) (U := 4095) g3735 (by decide) (by decide)) (q_rg_le (L := 0) (U := 255) g3739 (by decide) (by decide))
            rw [e3763]
            refine q_E_B ?_
            have j3764 := dzj_M246 c d w (r39) j3762 (a2)
            refine q_E_L ?_
            generalize dz_M246 r39 a2 = r40 at j3764 ⊢
            cases h3765 : decide (1 < r40) with
            | true =>
              have g3766 := (q_rg_ltT2 (L := 2) (u2 := 3) h3765 (q_rg_lit (n := 1) (x := 1) rfl) j3764 (by decide))
              refine q_E_T ?_
              have j3767 := dzj_M213 c d w (r39) j3762 (a1 + 1)
              refine q_E_L ?_
              generalize dz_M213 r39 (a1 + 1) = r41 at j3767 ⊢
              obtain ⟨r42, e3769, j3768⟩ := dzj_M215_64 c d w (r39) j3762 (r41) (a3 - a3 / 256 * 256) (q_rg_le (L := 0) (U := 4095) j3767 (by decide) (by decide)) (q_rg_le (L := 0) (U := 255) (q_rg_rem (c := 256) (U := 255) g3759 (by decide) rfl (by decide) (by decide)) (by decide) (by decide))
              rw [e3769]
              refine q_E_B ?_
              exact dzj_M279_64_90 c d w (r42) j3768 (a1) (a2) (a3) (q_rg_le (L := 0) (U := 4095) g3735 (by decide) (by decide)) (q_rg_le (L := 0) (U := 255) g3739 (by decide) (by decide)) (q_rg_le (L := 0) (U := 4095) g3759 (by decide) (by decide))
            | false =>
              have g3770 := (q_rg_ltF2 (l2 := 1) (u := 1) h3765 (q_rg_lit (n := 1) (x := 1) rfl) j3764)
              refine q_E_F ?_
              exact dzj_M279_64_90 c d w (r39) j3762 (a1) (a2) (a3) (q_rg_le (L := 0) (U := 4095) g3735 (by decide) (by decide)) (q_rg_le (L := 0) (U := 255) g3739 (by decide) (by decide)) (q_rg_le (L := 0) (U := 4095) g3759 (by decide) (by decide))
        | false =>
          refine q_E_F ?_
          have j3771 := q_fails (s) (2) hI
          refine q_E_L ?_
          generalize dz_M200_64 s 2 = r43 at j3771 ⊢
          cases h3772 : r43.2 with
          | true =>
            refine q_E_T ?_
            exact q_E_x j3771.1
          | false =>
            exact (q_failsF j3771 h3772 (q_rg_lit (n := 2) (x := 2) rfl) (by decide)).elim
theorem dzj_M280_64 (c d w : Int) (s : q_S) (hI : q_Iv c d w s) (a1 : Int32) (hw : w ≤ 39) : q_Ex (dz_M280_64 s a1) (q_Iv c d (w + 1)) := by
  unfold dz_M280_64
  have h : q_rgz 0 w (s.2.1 0 35) := hI.2.1 0 35
  refine q_E_A (q_in_rg h (by decide) (show w < ((40 : Nat) : Int) by omega)) (q_E_x ?_)
  refine q_Iv_w0 (q_Iv_A (i := 32) hI (q_hf_up (hI.1 32) (q_rg_nc _))) ?_
  exact q_rg_le (q_rg_add (L := 1) (U := w + 1) h (q_rg_lit (n := 1) (x := 1) rfl) (by decide) rfl (by decide) (by omega)) (by decide) (Int.le_refl _)

theorem dzj_M281_64_n : ∀ (k m : Nat) (c d w : Int) (s : q_S) (hI : q_Iv c d w s) (a1 : Int32) (r1 : q_rgz 0 ((10 : Int) ^ (k + 1) - 1) a1) (hw : w + k ≤ 39), k ≤ m → q_Ex (dzr_M281_64 (m + 1) s a1) (q_Iv c d (w + k + 1)) := by
  intro k
  induction k with
  | zero =>
    intro m c d w s hI a1 r1 hw hm
    rw [dzs_M281_64]
    dsimp only
    have z : (10 : Int32).toInt = 10 := rfl
    have b : a1.toInt ≤ 9 := r1.2
    have e : decide (a1 < 10) = true := decide_eq_true (Int32.lt_iff_toInt_lt.mpr (by omega))
    rw [e]
    refine q_E_T ?_
    obtain ⟨r, er, hr⟩ := dzj_M280_64 c d w s hI _ (by omega)
    rw [er]
    exact q_E_B (q_E_x (q_Iv_mono hr (Int.le_refl _) (Int.le_refl _) (by omega)))
  | succ k ih =>
    intro m c d w s hI a1 r1 hw hm
    rw [dzs_M281_64]
    dsimp only
    have hw2 : w + k + 1 ≤ 39 := by omega
    cases h : decide (a1 < 10) with
    | true =>
      refine q_E_T ?_
      obtain ⟨r, er, hr⟩ := dzj_M280_64 c d w s hI _ (by omega)
      rw [er]
      exact q_E_B (q_E_x (q_Iv_mono hr (Int.le_refl _) (Int.le_refl _) (by omega)))
    | false =>
      refine q_E_F ?_
      have a0 := r1.1
      have b := r1.2
      have p : (10 : Int) ^ (k + 1 + 1) = 10 ^ (k + 1) * 10 := Int.pow_succ _ _
      have q : q_rgz 0 ((10 : Int) ^ (k + 1) - 1) (a1 / 10) := by
        unfold q_rgz
        rw [q_toInt_div a0 (by decide), show (10 : Int32).toInt = 10 from rfl]
        omega
      obtain ⟨m', rfl⟩ : ∃ m', m = m' + 1 := ⟨m - 1, by omega⟩
      obtain ⟨r, er, hr⟩ := ih m' c d w s hI (a1 / 10) q (by omega) (by omega)
      rw [er]
      refine q_E_B ?_
      obtain ⟨r2, er2, hr2⟩ := dzj_M280_64 c d (w + k + 1) r hr ((((48 : Int32) + (a1 - a1 / 10 * 10)).toUInt32 % 65536).toInt32) hw2
      rw [er2]
      exact q_E_B (q_E_x (q_Iv_mono hr2 (Int.le_refl _) (Int.le_refl _) (by omega)))
theorem dzj_M281_64 (c d w : Int) (s : q_S) (hI : q_Iv c d w s) (a1 : Int32) (r1 : q_rgz 0 4095 a1) (hw : w ≤ 36) : q_Ex (dz_M281_64 s a1) (q_Iv c d (w + 4)) :=
  q_E_to (dzj_M281_64_n 3 13 c d w s hI a1 (q_rg_le r1 (by decide) (by decide)) (by omega) (by decide)) (fun x hx => q_Iv_mono hx (Int.le_refl _) (Int.le_refl _) (by omega))

theorem dzj_M282_64 (c d w : Int) (s : q_S) (hI : q_Iv c d w s) (a1 : Int32) (r1 : q_rgz 0 255 a1) (hj : dz_M285 s a1 = false) (hw : w ≤ 37) : q_Ex (dz_M282_64 s a1) (q_Iv c d (w + 3)) := by
  unfold dz_M282_64
  refine q_E_L ?_
  have key : (dz_M244 s a1 < 0 → q_rgz 128 167 a1) ∧ (¬ dz_M244 s a1 < 0 → q_rgz 0 20 (dz_M244 s a1)) := by
    have z : (0 : Int32).toInt = 0 := rfl
    constructor
    · intro hn
      have hj2 : cond (decide (dz_M244 s a1 < 0)) (cond (dz_M202 s a1 128 167) false true) false = false := hj
      rw [decide_eq_true hn] at hj2
      cases h2 : dz_M202 s a1 128 167 with
      | true => exact q_p202 h2 (q_rg_lit (n := 128) rfl) (q_rg_lit (n := 167) rfl)
      | false => rw [h2] at hj2; cases hj2
    · intro hn
      have e9 : dz_M244 s a1 = cond (decide (a1 < 128)) (a1 / 8) (cond (dz_M202 s a1 192 231) ((16 : Int32) + ((a1 - 192) / 8)) (-1)) := rfl
      rw [e9] at hn ⊢
      clear e9
      cases h1 : decide (a1 < 128) with
      | true =>
        rw [h1] at hn
        have g := q_rg_ltT1 (U := 127) h1 r1 (q_rg_lit (n := 128) (x := 128) rfl) (by decide)
        show q_rgz 0 20 (a1 / 8)
        exact q_rg_le (q_rg_div (c := 8) (U := 15) g (by decide) rfl (by decide) (by decide)) (by decide) (by decide)
      | false =>
        rw [h1] at hn
        cases h2 : dz_M202 s a1 192 231 with
        | true =>
          have g := q_p202 h2 (q_rg_lit (n := 192) rfl) (q_rg_lit (n := 231) rfl)
          have g2 := q_rg_sub (L := 0) (U := 39) g (q_rg_lit (n := 192) (x := 192) rfl) (by decide) (by decide) (by decide) (by decide)
          have g3 := q_rg_div (c := 8) (b := 8) (U := 4) g2 (by decide) rfl (by decide) (by decide)
          exact q_rg_le (q_rg_add (a := 16) (L := 16) (U := 20) (q_rg_lit (n := 16) rfl) g3 (by decide) (by decide) (by decide) (by decide)) (by decide) (by decide)
        | false =>
          rw [h2] at hn
          exact absurd (show (-1 : Int32) < 0 by decide) hn
  generalize dz_M244 s a1 = op at key ⊢
  have z : (0 : Int32).toInt = 0 := rfl
  have z3 : (3 : Int32).toInt = 3 := rfl
  have loop : ∀ (j m : Nat) (s : q_S) (v3 : Int32), j ≤ 3 → v3.toInt = 3 - (j : Int) → q_Iv c d (w + 3 - j) s → j ≤ m → q_Ex (dz_M282_64_7 (m + 1) s a1 op v3) (q_Iv c d (w + 3)) := by
    intro j
    induction j with
    | zero =>
      intro m s v3 hj h3 hs hm
      rw [dzs_M282_64_7]
      dsimp only
      have e : decide (v3 < 3) = false := decide_eq_false (fun q => by have := Int32.lt_iff_toInt_lt.mp q; omega)
      rw [e]
      exact q_E_F (q_E_x (q_Iv_mono hs (Int.le_refl _) (Int.le_refl _) (by omega)))
    | succ j ih =>
      intro m s v3 hj h3 hs hm
      obtain ⟨m', rfl⟩ : ∃ m', m = m' + 1 := ⟨m - 1, by omega⟩
      rw [dzs_M282_64_7]
      dsimp only
      have e : decide (v3 < 3) = true := decide_eq_true (Int32.lt_iff_toInt_lt.mpr (by omega))
      rw [e]
      refine q_E_T ?_
      have r3 : q_rgz 0 2 v3 := ⟨by omega, by omega⟩
      have e3 : (v3 + 1).toInt = v3.toInt + 1 := q_add9 (c := 1) (by show _ ≤ v3.toInt + 1; omega) (by show v3.toInt + 1 ≤ _; omega)
      cases h8 : decide (op < 0) with
      | true =>
        refine q_E_T ?_
        have g := key.1 (of_decide_eq_true h8)
        have g2 := q_rg_sub (L := 0) (U := 39) g (q_rg_lit (n := 128) (x := 128) rfl) (by decide) (by decide) (by decide) (by decide)
        have g3 := q_rg_mul (a := 3) (L := 0) (U := 117) (q_rg_lit (n := 3) rfl) g2 (by decide) (by decide) (by decide) (by decide) (by decide) (by decide)
        have g4 := q_rg_add (L := 0) (U := 119) g3 r3 (by decide) (by decide) (by decide) (by decide)
        refine q_E_A (q_in_rg g4 (by decide) (by decide)) ?_
        obtain ⟨r, er, hr⟩ := dzj_M280_64 c d _ s hs ((fun j => q_o5.getD j 0) (((3 * (a1 - 128)) + v3).toNatClampNeg)) (by omega)
        rw [er]
        exact q_E_B (ih m' r (v3 + 1) (by omega) (by omega) (q_Iv_mono hr (Int.le_refl _) (Int.le_refl _) (by omega)) (by omega))
      | false =>
        refine q_E_F ?_
        have g := key.2 (of_decide_eq_false h8)
        have g3 := q_rg_mul (a := 3) (L := 0) (U := 60) (q_rg_lit (n := 3) rfl) g (by decide) (by decide) (by decide) (by decide) (by decide) (by decide)
        have g4 := q_rg_add (L := 0) (U := 62) g3 r3 (by decide) (by decide) (by decide) (by decide)
        refine q_E_A (q_in_rg g4 (by decide) (by decide)) ?_
        obtain ⟨r, er, hr⟩ := dzj_M280_64 c d _ s hs ((fun j => q_o4.getD j 0) (((3 * op) + v3).toNatClampNeg)) (by omega)
        rw [er]
        exact q_E_B (ih m' r (v3 + 1) (by omega) (by omega) (q_Iv_mono hr (Int.le_refl _) (Int.le_refl _) (by omega)) (by omega))
  exact loop 3 4999 s 0 (by decide) (by decide) (q_Iv_mono hI (Int.le_refl _) (Int.le_refl _) (by omega)) (by decide)

set_option maxHeartbeats 4000000 in
theorem dzj_M283_64_107 (c d w : Int) (s : q_S) (hI : q_Iv c d w s) (v1 : Int32) (rv1 : q_rgz 0 7 v1) (hw : w + 2 ≤ 40) : q_Ex (dz_M283_64_107 s v1) (q_Iv c d (w + 2)) := by
  unfold dz_M283_64_107
  cases h4105 : decide (v1 = 5) with
  | true =>
    have g4106 := q_rg_eqT h4105 (q_rg_lit (n := 5) (x := 5) rfl)
    refine q_E_T ?_
    obtain ⟨r11, e4108, j4107⟩ := dzj_M280_64 c d w (s) hI (121) (by omega)
    rw [e4108]
    refine q_E_B ?_
    cases h4109 : decide (v1 = 7) with
    | true =>
      exact (q_rg_no (q_rg_le (L := 7) (U := 5) ⟨(q_rg_eqT h4109 (q_rg_lit (n := 7) (x := 7) rfl)).1, g4106.2⟩ (by decide) (by decide)) (by decide)).elim
    | false =>
      refine q_E_F ?_
      exact q_E_x (q_Iv_mono j4107 (by omega) (by omega) (by omega))
  | false =>
    refine q_E_F ?_
    cases h4110 : decide (v1 = 6) with
    | true =>
      have g4111 := q_rg_eqT h4110 (q_rg_lit (n := 6) (x := 6) rfl)
      refine q_E_T ?_
      obtain ⟨r13, e4113, j4112⟩ := dzj_M280_64 c d w (s) hI (121) (by omega)
      rw [e4113]
      refine q_E_B ?_
      cases h4114 : decide (v1 = 7) with
      | true =>
        exact (q_rg_no (q_rg_le (L := 7) (U := 6) ⟨(q_rg_eqT h4114 (q_rg_lit (n := 7) (x := 7) rfl)).1, g4111.2⟩ (by decide) (by decide)) (by decide)).elim
      | false =>
        refine q_E_F ?_
        exact q_E_x (q_Iv_mono j4112 (by omega) (by omega) (by omega))
    | false =>
      refine q_E_F ?_
      cases h4115 : decide (v1 = 7) with
      | true =>
        have g4116 := q_rg_eqT h4115 (q_rg_lit (n := 7) (x := 7) rfl)
        refine q_E_T ?_
        obtain ⟨r15, e4118, j4117⟩ := dzj_M280_64 c d w (s) hI (41) (by omega)
        rw [e4118]
        refine q_E_B ?_
        exact q_E_x (q_Iv_mono j4117 (by omega) (by omega) (by omega))
      | false =>
        have g4119 := (q_rg_neU (l := 0) (u := 7) (n := 7) (U := 6) h4115 rv1 rfl (by decide) (by decide))
        refine q_E_F ?_
        exact q_E_x (q_Iv_mono hI (by omega) (by omega) (by omega))
set_option maxHeartbeats 4000000 in
theorem dzj_M283_64_101 (c d w : Int) (s : q_S) (hI : q_Iv c d w s) (v1 : Int32) (rv1 : q_rgz 2 7 v1) (hw : w + 3 ≤ 40) : q_Ex (dz_M283_64_101 s v1) (q_Iv c d (w + 3)) := by
  unfold dz_M283_64_101
  obtain ⟨r10, e4121, j4120⟩ := dzj_M280_64 c d w (s) hI (120) (by omega)
  rw [e4121]
  refine q_E_B ?_
  exact q_E_to (dzj_M283_64_107 c d (w + 1) (r10) j4120 (v1) (q_rg_le (L := 0) (U := 7) rv1 (by decide) (by decide)) (by omega)) (fun x hx => (q_Iv_mono hx (by omega) (by omega) (by omega)))
set_option maxHeartbeats 4000000 in
theorem dzj_M283_64_85 (c d w : Int) (s : q_S) (hI : q_Iv c d w s) (v1 : Int32) (rv1 : q_rgz 0 7 v1) (hw : w + 3 ≤ 40) : q_Ex (dz_M283_64_85 s v1) (q_Iv c d (w + 3)) := by
  unfold dz_M283_64_85
  cases h4122 : decide (v1 = 2) with
  | true =>
    have g4123 := q_rg_eqT h4122 (q_rg_lit (n := 2) (x := 2) rfl)
    refine q_E_T ?_
    exact dzj_M283_64_101 c d w (s) hI (v1) (q_rg_le (L := 2) (U := 7) g4123 (by decide) (by decide)) (by omega)
  | false =>
    refine q_E_F ?_
    cases h4124 : decide (v1 = 4) with
    | true =>
      have g4125 := q_rg_eqT h4124 (q_rg_lit (n := 4) (x := 4) rfl)
      refine q_E_T ?_
      exact dzj_M283_64_101 c d w (s) hI (v1) (q_rg_le (L := 2) (U := 7) g4125 (by decide) (by decide)) (by omega)
    | false =>
      refine q_E_F ?_
      cases h4126 : decide (v1 = 7) with
      | true =>
        have g4127 := q_rg_eqT h4126 (q_rg_lit (n := 7) (x := 7) rfl)
        refine q_E_T ?_
        exact dzj_M283_64_101 c d w (s) hI (v1) (q_rg_le (L := 2) (U := 7) g4127 (by decide) (by decide)) (by omega)
      | false =>
        have g4128 := (q_rg_neU (l := 0) (u := 7) (n := 7) (U := 6) h4126 rv1 rfl (by decide) (by decide))
        refine q_E_F ?_
        exact q_E_to (dzj_M283_64_107 c d w (s) hI (v1) (q_rg_le (L := 0) (U := 7) g4128 (by decide) (by decide)) (by omega)) (fun x hx => (q_Iv_mono hx (by omega) (by omega) (by omega)))
set_option maxHeartbeats 4000000 in
theorem dzj_M283_64_79 (c d w : Int) (s : q_S) (hI : q_Iv c d w s) (v1 : Int32) (rv1 : q_rgz 2 7 v1) (hw : w + 4 ≤ 40) : q_Ex (dz_M283_64_79 s v1) (q_Iv c d (w + 4)) := by
  unfold dz_M283_64_79
  obtain ⟨r9, e4130, j4129⟩ := dzj_M280_64 c d w (s) hI (44) (by omega)
  rw [e4130]
  refine q_E_B ?_
  exact q_E_to (dzj_M283_64_85 c d (w + 1) (r9) j4129 (v1) (q_rg_le (L := 0) (U := 7) rv1 (by decide) (by decide)) (by omega)) (fun x hx => (q_Iv_mono hx (by omega) (by omega) (by omega)))
set_option maxHeartbeats 4000000 in
theorem dzj_M283_64_69 (c d w : Int) (s : q_S) (hI : q_Iv c d w s) (v1 : Int32) (rv1 : q_rgz 0 7 v1) (hw : w + 4 ≤ 40) : q_Ex (dz_M283_64_69 s v1) (q_Iv c d (w + 4)) := by
  unfold dz_M283_64_69
  cases h4131 : decide (v1 = 2) with
  | true =>
    have g4132 := q_rg_eqT h4131 (q_rg_lit (n := 2) (x := 2) rfl)
    refine q_E_T ?_
    exact dzj_M283_64_79 c d w (s) hI (v1) (q_rg_le (L := 2) (U := 7) g4132 (by decide) (by decide)) (by omega)
  | false =>
    refine q_E_F ?_
    cases h4133 : decide (3 < v1) with
    | true =>
      have g4134 := (q_rg_ltT2 (L := 4) (u2 := 7) h4133 (q_rg_lit (n := 3) (x := 3) rfl) rv1 (by decide))
      refine q_E_T ?_
      exact dzj_M283_64_79 c d w (s) hI (v1) (q_rg_le (L := 2) (U := 7) g4134 (by decide) (by decide)) (by omega)
    | false =>
      have g4135 := (q_rg_ltF2 (l2 := 0) (u := 3) h4133 (q_rg_lit (n := 3) (x := 3) rfl) rv1)
      refine q_E_F ?_
      exact q_E_to (dzj_M283_64_85 c d w (s) hI (v1) (q_rg_le (L := 0) (U := 7) g4135 (by decide) (by decide)) (by omega)) (fun x hx => (q_Iv_mono hx (by omega) (by omega) (by omega)))
set_option maxHeartbeats 4000000 in
theorem dzj_M283_64_27 (c d w : Int) (s : q_S) (hI : q_Iv c d w s) (v1 : Int32) (v2 : Int32) (rv1 : q_rgz 0 7 v1) (hw : w + 9 ≤ 40) : q_Ex (dz_M283_64_27 s v1 v2) (q_Iv c d (w + 9)) := by
  unfold dz_M283_64_27
  refine q_E_L ?_
  generalize p4136 : dz_M202 s v1 3 5 = r5
  cases r5 with
  | true =>
    have g4137 : q_rgz 3 5 (v1) := ⟨(q_p202 p4136 (q_rg_lit (n := 3) (x := 3) rfl) (q_rg_lit (n := 5) (x := 5) rfl)).1, (q_p202 p4136 (q_rg_lit (n := 3) (x := 3) rfl) (q_rg_lit (n := 5) (x := 5) rfl)).2⟩
    refine q_E_T ?_
    obtain ⟨r6, e4139, j4138⟩ := dzj_M248_64 c d w (s) hI (v2 + 1)
    rw [e4139]
    refine q_E_B ?_
    obtain ⟨r7, e4141, j4140⟩ := dzj_M281_64 c d w (r6.1) j4138.1 (r6.2) (q_rg_le (L := 0) (U := 4095) j4138.2 (by decide) (by decide)) (by omega)
    rw [e4141]
    refine q_E_B ?_
    cases h4142 : decide (v1 = 6) with
    | true =>
      exact (q_rg_no (q_rg_le (L := 6) (U := 5) ⟨(q_rg_eqT h4142 (q_rg_lit (n := 6) (x := 6) rfl)).1, g4137.2⟩ (by decide) (by decide)) (by decide)).elim
    | false =>
      refine q_E_F ?_
      exact q_E_to (dzj_M283_64_69 c d (w + 4) (r7) j4140 (v1) (q_rg_le (L := 0) (U := 7) g4137 (by decide) (by decide)) (by omega)) (fun x hx => (q_Iv_mono hx (by omega) (by omega) (by omega)))
  | false =>
    refine q_E_F ?_
    obtain ⟨r16, e4144, j4143⟩ := dzj_M247_64 c d w (s) hI (v2 + 1)
    rw [e4144]
    refine q_E_B ?_
    obtain ⟨r17, e4146, j4145⟩ := dzj_M281_64 c d w (r16.1) j4143.1 (r16.2) (q_rg_le (L := 0) (U := 4095) j4143.2 (by decide) (by decide)) (by omega)
    rw [e4146]
    refine q_E_B ?_
    cases h4147 : decide (v1 = 6) with
    | true =>
      have g4148 := q_rg_eqT h4147 (q_rg_lit (n := 6) (x := 6) rfl)
      refine q_E_T ?_
      obtain ⟨r18, e4150, j4149⟩ := dzj_M280_64 c d (w + 4) (r17) j4145 (41) (by omega)
      rw [e4150]
      refine q_E_B ?_
      exact q_E_to (dzj_M283_64_69 c d (w + 4 + 1) (r18) j4149 (v1) (q_rg_le (L := 0) (U := 7) g4148 (by decide) (by decide)) (by omega)) (fun x hx => (q_Iv_mono hx (by omega) (by omega) (by omega)))
    | false =>
      refine q_E_F ?_
      exact q_E_to (dzj_M283_64_69 c d (w + 4) (r17) j4145 (v1) (q_rg_le (L := 0) (U := 7) rv1 (by decide) (by decide)) (by omega)) (fun x hx => (q_Iv_mono hx (by omega) (by omega) (by omega)))
set_option maxHeartbeats 4000000 in
theorem dzj_M283_64_16 (c d w : Int) (s : q_S) (hI : q_Iv c d w s) (v1 : Int32) (v2 : Int32) (rv1 : q_rgz 0 7 v1) (hw : w + 10 ≤ 40) : q_Ex (dz_M283_64_16 s v1 v2) (q_Iv c d (w + 10)) := by
  unfold dz_M283_64_16
  cases h4151 : decide (5 < v1) with
  | true =>
    have g4152 := (q_rg_ltT2 (L := 6) (u2 := 7) h4151 (q_rg_lit (n := 5) (x := 5) rfl) rv1 (by decide))
    refine q_E_T ?_
    obtain ⟨r4, e4154, j4153⟩ := dzj_M280_64 c d w (s) hI (40) (by omega)
    rw [e4154]
    refine q_E_B ?_
    exact q_E_to (dzj_M283_64_27 c d (w + 1) (r4) j4153 (v1) (v2) (q_rg_le (L := 0) (U := 7) g4152 (by decide) (by decide)) (by omega)) (fun x hx => (q_Iv_mono hx (by omega) (by omega) (by omega)))
  | false =>
    have g4155 := (q_rg_ltF2 (l2 := 0) (u := 5) h4151 (q_rg_lit (n := 5) (x := 5) rfl) rv1)
    refine q_E_F ?_
    exact q_E_to (dzj_M283_64_27 c d w (s) hI (v1) (v2) (q_rg_le (L := 0) (U := 7) g4155 (by decide) (by decide)) (by omega)) (fun x hx => (q_Iv_mono hx (by omega) (by omega) (by omega)))
set_option maxHeartbeats 4000000 in
theorem dzj_M283_64 (c d w : Int) (s : q_S) (hI : q_Iv c d w s) (a1 : Int32) (a2 : Int32) (ra1 : q_rgz 0 7 a1) (hw : w + 12 ≤ 40) : q_Ex (dz_M283_64 s a1 a2) (q_Iv c d (w + 12)) := by
  unfold dz_M283_64
  obtain ⟨r2, e4157, j4156⟩ := dzj_M280_64 c d w (s) hI (32) (by omega)
  rw [e4157]
  refine q_E_B ?_
  cases h4158 : decide (a1 = 0) with
  | true =>
    have g4159 := q_rg_eqT h4158 (q_rg_lit (n := 0) (x := 0) rfl)
    refine q_E_T ?_
    obtain ⟨r3, e4161, j4160⟩ := dzj_M280_64 c d (w + 1) (r2) j4156 (35) (by omega)
    rw [e4161]
    refine q_E_B ?_
    exact q_E_to (dzj_M283_64_16 c d (w + 1 + 1) (r3) j4160 (a1) (a2) (q_rg_le (L := 0) (U := 7) g4159 (by decide) (by decide)) (by omega)) (fun x hx => (q_Iv_mono hx (by omega) (by omega) (by omega)))
  | false =>
    have g4162 := (q_rg_neL (l := 0) (u := 7) (n := 0) (L := 1) h4158 ra1 rfl (by decide) (by decide))
    refine q_E_F ?_
    exact q_E_to (dzj_M283_64_16 c d (w + 1) (r2) j4156 (a1) (a2) (q_rg_le (L := 0) (U := 7) g4162 (by decide) (by decide)) (by omega)) (fun x hx => (q_Iv_mono hx (by omega) (by omega) (by omega)))
set_option maxHeartbeats 4000000 in
theorem dzj_M284_64_28 (c d w : Int) (s : q_S) (hI : q_Iv c d w s) (v1 : Int32) (v2 : Int32) (hw : w + 5 ≤ 40) : q_Ex (dz_M284_64_28 s v1 v2) (q_Iv c d (w + 5)) := by
  unfold dz_M284_64_28
  have j4202 := dzj_M246 c d w (s) hI (v1)
  refine q_E_L ?_
  generalize dz_M246 s v1 = r6 at j4202 ⊢
  cases h4203 : decide (r6 = 2) with
  | true =>
    have g4204 := q_rg_eqT h4203 (q_rg_lit (n := 2) (x := 2) rfl)
    refine q_E_T ?_
    obtain ⟨r7, e4206, j4205⟩ := dzj_M253_64 c d w (s) hI (v2)
    rw [e4206]
    refine q_E_B ?_
    obtain ⟨r8, e4208, j4207⟩ := dzj_M281_64 c d w (r7.1) j4205.1 (r7.2) (q_rg_le (L := 0) (U := 4095) j4205.2 (by decide) (by decide)) (by omega)
    rw [e4208]
    refine q_E_B ?_
    cases h4209 : decide (v1 = 159) with
    | true =>
      have g4210 := q_rg_eqT h4209 (q_rg_lit (n := 159) (x := 159) rfl)
      refine q_E_T ?_
      obtain ⟨r9, e4212, j4211⟩ := dzj_M280_64 c d (w + 4) (r8) j4207 (41) (by omega)
      rw [e4212]
      refine q_E_B ?_
      exact q_E_x (q_Iv_mono j4211 (by omega) (by omega) (by omega))
    | false =>
      refine q_E_F ?_
      exact q_E_x (q_Iv_mono j4207 (by omega) (by omega) (by omega))
  | false =>
    refine q_E_F ?_
    obtain ⟨r10, e4214, j4213⟩ := dzj_M248_64 c d w (s) hI (v2 + 1)
    rw [e4214]
    refine q_E_B ?_
    obtain ⟨r11, e4216, j4215⟩ := dzj_M281_64 c d w (r10.1) j4213.1 (r10.2) (q_rg_le (L := 0) (U := 4095) j4213.2 (by decide) (by decide)) (by omega)
    rw [e4216]
    refine q_E_B ?_
    cases h4217 : decide (v1 = 159) with
    | true =>
      have g4218 := q_rg_eqT h4217 (q_rg_lit (n := 159) (x := 159) rfl)
      refine q_E_T ?_
      obtain ⟨r12, e4220, j4219⟩ := dzj_M280_64 c d (w + 4) (r11) j4215 (41) (by omega)
      rw [e4220]
      refine q_E_B ?_
      exact q_E_x (q_Iv_mono j4219 (by omega) (by omega) (by omega))
    | false =>
      refine q_E_F ?_
      exact q_E_x (q_Iv_mono j4215 (by omega) (by omega) (by omega))
set_option maxHeartbeats 4000000 in
theorem dzj_M284_64 (c d w : Int) (s : q_S) (hI : q_Iv c d w s) (a1 : Int32) (a2 : Int32) (hw : w + 7 ≤ 40) : q_Ex (dz_M284_64 s a1 a2) (q_Iv c d (w + 7)) := by
  unfold dz_M284_64
  have j4221 := dzj_M246 c d w (s) hI (a1)
  refine q_E_L ?_
  generalize dz_M246 s a1 = r3 at j4221 ⊢
  cases h4222 : decide (r3 = 1) with
  | true =>
    have g4223 := q_rg_eqT h4222 (q_rg_lit (n := 1) (x := 1) rfl)
    refine q_E_T ?_
    exact q_E_x (q_Iv_mono hI (by omega) (by omega) (by omega))
  | false =>
    have g4224 := (q_rg_neL (l := 1) (u := 3) (n := 1) (L := 2) h4222 j4221 rfl (by decide) (by decide))
    refine q_E_F ?_
    obtain ⟨r4, e4226, j4225⟩ := dzj_M280_64 c d w (s) hI (32) (by omega)
    rw [e4226]
    refine q_E_B ?_
    cases h4227 : decide (a1 = 159) with
    | true =>
      have g4228 := q_rg_eqT h4227 (q_rg_lit (n := 159) (x := 159) rfl)
      refine q_E_T ?_
      obtain ⟨r5, e4230, j4229⟩ := dzj_M280_64 c d (w + 1) (r4) j4225 (40) (by omega)
      rw [e4230]
      refine q_E_B ?_
      exact q_E_to (dzj_M284_64_28 c d (w + 1 + 1) (r5) j4229 (a1) (a2) (by omega)) (fun x hx => (q_Iv_mono hx (by omega) (by omega) (by omega)))
    | false =>
      refine q_E_F ?_
      exact q_E_to (dzj_M284_64_28 c d (w + 1) (r4) j4225 (a1) (a2) (by omega)) (fun x hx => (q_Iv_mono hx (by omega) (by omega) (by omega)))
set_option maxHeartbeats 4000000 in
theorem dzj_M286_64 (c d w : Int) (s : q_S) (hI : q_Iv c d 40 s) (a1 : Int32) : q_Ex (dz_M286_64 s a1) (fun (x : q_S × Int32) => q_Iv c d 40 x.1) := by
  unfold dz_M286_64
  refine q_E_L ?_
  generalize p4260 : dz_M204 s a1 = r4
  cases r4 with
  | true =>
    refine q_E_T ?_
    have j4261 := q_fails (s) (1) hI
    refine q_E_L ?_
    generalize dz_M200_64 s 1 = r5 at j4261 ⊢
    cases h4262 : r5.2 with
    | true =>
      refine q_E_T ?_
      exact q_E_x j4261.1
    | false =>
      exact (q_failsF j4261 h4262 (q_rg_lit (n := 1) (x := 1) rfl) (by decide)).elim
  | false =>
    have g4263 : q_rgz 0 4095 (a1) := ⟨(q_p204 p4260).1, (q_p204 p4260).2⟩
    refine q_E_F ?_
    have j4264 := q_fails (s) (0) hI
    refine q_E_L ?_
    generalize dz_M200_64 s 0 = r17 at j4264 ⊢
    cases h4265 : r17.2 with
    | true =>
      exact (q_failsT j4264 h4265 (q_rg_lit (n := 0) (x := 0) rfl) (by decide)).elim
    | false =>
      refine q_E_F ?_
      obtain ⟨r18, e4267, j4266⟩ := dzj_M247_64 c d 40 (r17.1) j4264.1 (a1)
      rw [e4267]
      refine q_E_B ?_
      obtain ⟨r19, e4269, j4268⟩ := dzj_M281_64 c d 0 (q_sI r18.1 0 35 0) (q_Iv_w0 j4266.1 (q_rg_le (L := 0) (U := 0) (q_rg_lit (n := 0) (x := 0) rfl) (by decide) (by decide))) (a1) (q_rg_le (L := 0) (U := 4095) g4263 (by decide) (by decide)) (by omega)
      rw [e4269]
      refine q_E_B ?_
      obtain ⟨r20, e4271, j4270⟩ := dzj_M280_64 c d (0 + 4) (r19) j4268 (32) (by omega)
      rw [e4271]
      refine q_E_B ?_
      refine q_E_L ?_
      generalize p4272 : dz_M285 r20 r18.2 = r21
      cases r21 with
      | true =>
        refine q_E_T ?_
        obtain ⟨r22, e4274, j4273⟩ := dzj_M280_64 c d (0 + 4 + 1) (r20) j4270 (106) (by omega)
        rw [e4274]
        refine q_E_B ?_
        obtain ⟨r23, e4276, j4275⟩ := dzj_M280_64 c d (0 + 4 + 1 + 1) (r22) j4273 (97) (by omega)
        rw [e4276]
        refine q_E_B ?_
        obtain ⟨r24, e4278, j4277⟩ := dzj_M280_64 c d (0 + 4 + 1 + 1 + 1) (r23) j4275 (109) (by omega)
        rw [e4278]
        refine q_E_B ?_
        exact q_E_x (q_Iv_mono j4277 (by omega) (by omega) (by omega))
      | false =>
        refine q_E_F ?_
        obtain ⟨r25, e4280, j4279⟩ := dzj_M282_64 c d (0 + 4 + 1) (r20) j4270 (r18.2) (q_rg_le (L := 0) (U := 255) j4266.2 (by decide) (by decide)) p4272 (by omega)
        rw [e4280]
        refine q_E_B ?_
        have j4281 := dzj_M244 c d (0 + 4 + 1 + 3) (r25) j4279 (r18.2)
        refine q_E_L ?_
        generalize dz_M244 r25 r18.2 = r26 at j4281 ⊢
        cases h4282 : decide (r26 < 0) with
        | true =>
          have g4283 := (q_rg_ltT1 (l := -2147483648) (U := -1) h4282 (q_rg_full _) (q_rg_lit (n := 0) (x := 0) rfl) (by decide))
          refine q_E_T ?_
          obtain ⟨r27, e4285, j4284⟩ := dzj_M284_64 c d (0 + 4 + 1 + 3) (r25) j4279 (r18.2) (a1) (by omega)
          rw [e4285]
          refine q_E_B ?_
          exact q_E_x (q_Iv_mono j4284 (by omega) (by omega) (by omega))
        | false =>
          have g4286 := (q_rg_ltF1 (l2 := 0) (u := 2147483647) h4282 (q_rg_full _) (q_rg_lit (n := 0) (x := 0) rfl))
          refine q_E_F ?_
          obtain ⟨r28, e4288, j4287⟩ := dzj_M283_64 c d (0 + 4 + 1 + 3) (r25) j4279 (r18.2 - r18.2 / 8 * 8) (a1) (q_rg_le (L := 0) (U := 7) (q_rg_rem (c := 8) (U := 7) j4266.2 (by decide) rfl (by decide) (by decide)) (by decide) (by decide)) (by omega)
          rw [e4288]
          refine q_E_B ?_
          exact q_E_x (q_Iv_mono j4287 (by omega) (by omega) (by omega))
set_option maxHeartbeats 4000000 in
theorem dzj_M287_64 (c d w : Int) (s : q_S) (hI : q_Iv c d 40 s) (a1 : Int32) : q_Ex (dz_M287_64 s a1) (fun (x : q_S × Int32) => q_Iv c d 40 x.1) := by
  unfold dz_M287_64
  refine q_E_L ?_
  generalize p4295 : dz_M202 s a1 0 ((s.2.1 0 35) - 1) = r3
  cases r3 with
  | true =>
    have g4296 : q_rgz 0 39 (a1) := ⟨(q_p202 p4295 (q_rg_lit (n := 0) (x := 0) rfl) (q_rg_sub (L := -1) (U := 39) (q_f35 hI) (q_rg_lit (n := 1) (x := 1) rfl) (by decide) (by decide) (by decide) (by decide))).1, (q_p202 p4295 (q_rg_lit (n := 0) (x := 0) rfl) (q_rg_sub (L := -1) (U := 39) (q_f35 hI) (q_rg_lit (n := 1) (x := 1) rfl) (by decide) (by decide) (by decide) (by decide))).2⟩
    refine q_E_T ?_
    have j4297 := q_fails (s) (0) hI
    refine q_E_L ?_
    generalize dz_M200_64 s 0 = r4 at j4297 ⊢
    cases h4298 : r4.2 with
    | true =>
      exact (q_failsT j4297 h4298 (q_rg_lit (n := 0) (x := 0) rfl) (by decide)).elim
    | false =>
      refine q_E_F ?_
      refine q_E_A (q_in_rg g4296 (by decide) (by decide)) ?_
      refine q_E_A (q_ch_rg (q_rg_le (q_r32 j4297.1 _) (by decide) (by decide))) ?_
      exact q_E_x j4297.1
  | false =>
    refine q_E_F ?_
    have j4299 := q_fails (s) (1) hI
    refine q_E_L ?_
    generalize dz_M200_64 s 1 = r5 at j4299 ⊢
    cases h4300 : r5.2 with
    | true =>
      refine q_E_T ?_
      exact q_E_x j4299.1
    | false =>
      exact (q_failsF j4299 h4300 (q_rg_lit (n := 1) (x := 1) rfl) (by decide)).elim
set_option maxHeartbeats 4000000 in
theorem dzj_M288_64 (c d w : Int) (s : q_S) (hI : q_Iv c d w s) (a1 : Int32) : q_Ex (dz_M288_64 s a1) (fun (x : q_S × Int32) => q_Iv c d w x.1) := by
  unfold dz_M288_64
  refine q_E_L ?_
  generalize p4307 : dz_M202 s a1 0 4 = r3
  cases r3 with
  | true =>
    have g4308 : q_rgz 0 4 (a1) := ⟨(q_p202 p4307 (q_rg_lit (n := 0) (x := 0) rfl) (q_rg_lit (n := 4) (x := 4) rfl)).1, (q_p202 p4307 (q_rg_lit (n := 0) (x := 0) rfl) (q_rg_lit (n := 4) (x := 4) rfl)).2⟩
    refine q_E_T ?_
    have j4309 := q_fails (s) (0) hI
    refine q_E_L ?_
    generalize dz_M200_64 s 0 = r4 at j4309 ⊢
    cases h4310 : r4.2 with
    | true =>
      exact (q_failsT j4309 h4310 (q_rg_lit (n := 0) (x := 0) rfl) (by decide)).elim
    | false =>
      refine q_E_F ?_
      refine q_E_A (q_in_rg g4308 (by decide) (by decide)) ?_
      exact q_E_x j4309.1
  | false =>
    refine q_E_F ?_
    have j4311 := q_fails (s) (1) hI
    refine q_E_L ?_
    generalize dz_M200_64 s 1 = r5 at j4311 ⊢
    cases h4312 : r5.2 with
    | true =>
      refine q_E_T ?_
      exact q_E_x j4311.1
    | false =>
      exact (q_failsF j4311 h4312 (q_rg_lit (n := 1) (x := 1) rfl) (by decide)).elim
set_option maxHeartbeats 4000000 in
theorem dzj_M289_64 (c d w : Int) (s : q_S) (hI : q_Iv c d w s) (a1 : Int32) (a2 : Int32) : q_Ex (dz_M289_64 s a1 a2) (fun (x : q_S × Int32) => q_Iv c d w x.1) := by
  unfold dz_M289_64
  refine q_E_L ?_
  generalize p4348 : dz_M202 s a1 0 4 = r4
  cases r4 with
  | true =>
    have g4349 : q_rgz 0 4 (a1) := ⟨(q_p202 p4348 (q_rg_lit (n := 0) (x := 0) rfl) (q_rg_lit (n := 4) (x := 4) rfl)).1, (q_p202 p4348 (q_rg_lit (n := 0) (x := 0) rfl) (q_rg_lit (n := 4) (x := 4) rfl)).2⟩
    refine q_E_T ?_
    cases h4350 : decide (a1 = 4) with
    | true =>
      have g4351 := q_rg_eqT h4350 (q_rg_lit (n := 4) (x := 4) rfl)
      refine q_E_T ?_
      refine q_E_L ?_
      generalize p4352 : dz_M202 s a2 0 4095 = r5
      cases r5 with
      | true =>
        have g4353 : q_rgz 0 4095 (a2) := ⟨(q_p202 p4352 (q_rg_lit (n := 0) (x := 0) rfl) (q_rg_lit (n := 4095) (x := 4095) rfl)).1, (q_p202 p4352 (q_rg_lit (n := 0) (x := 0) rfl) (q_rg_lit (n := 4095) (x := 4095) rfl)).2⟩
        refine q_E_T ?_
        cases h4354 : decide (0 < (s.1 14) 17) with
        | true =>
          have g4355 := (q_rg_ltT2 (L := 1) (u2 := 2147483647) h4354 (q_rg_lit (n := 0) (x := 0) rfl) (q_rg_full _) (by decide))
          refine q_E_T ?_
          have j4356 := q_fails (s) (3) hI
          refine q_E_L ?_
          generalize dz_M200_64 s 3 = r6 at j4356 ⊢
          have g4357 : q_rgz 1 2147483647 ((r6.1.1 14) 17) := by rw [j4356.2.2.1]; exact g4355
          cases h4358 : r6.2 with
          | true =>
            refine q_E_T ?_
            exact q_E_x j4356.1
          | false =>
            exact (q_failsF j4356 h4358 (q_rg_lit (n := 3) (x := 3) rfl) (by decide)).elim
        | false =>
          have g4359 := (q_rg_ltF2 (l2 := -2147483648) (u := 0) h4354 (q_rg_lit (n := 0) (x := 0) rfl) (q_rg_full _))
          refine q_E_F ?_
          have j4360 := q_fails (s) (0) hI
          refine q_E_L ?_
          generalize dz_M200_64 s 0 = r8 at j4360 ⊢
          have g4361 : q_rgz (-2147483648) 0 ((r8.1.1 14) 17) := by rw [j4360.2.2.1]; exact g4359
          cases h4362 : r8.2 with
          | true =>
            exact (q_failsT j4360 h4362 (q_rg_lit (n := 0) (x := 0) rfl) (by decide)).elim
          | false =>
            refine q_E_F ?_
            refine q_E_A (q_in_rg g4351 (by decide) (by decide)) ?_
            have j4363 := dzj_M205_64 c d w (q_sA r8.1 14 (upd (r8.1.1 14) (a1.toNatClampNeg) a2)) (q_Iv_A (i := 14) j4360.1 (q_hf_up ((j4360.1).1 14) (q_stv (i := 14) (a := 4) (n := 1) (L := 0) (U := 4095) j4360.1 (q_rg_le g4351 (by decide) (by decide)) (by decide) g4353)))
            refine q_E_L ?_
            generalize dz_M205_64 (q_sA r8.1 14 (upd (r8.1.1 14) (a1.toNatClampNeg) a2)) = r9 at j4363 ⊢
            exact q_E_x j4363
      | false =>
        refine q_E_F ?_
        have j4364 := q_fails (s) (2) hI
        refine q_E_L ?_
        generalize dz_M200_64 s 2 = r10 at j4364 ⊢
        cases h4365 : r10.2 with
        | true =>
          refine q_E_T ?_
          exact q_E_x j4364.1
        | false =>
          exact (q_failsF j4364 h4365 (q_rg_lit (n := 2) (x := 2) rfl) (by decide)).elim
    | false =>
      have g4366 := (q_rg_neU (l := 0) (u := 4) (n := 4) (U := 3) h4350 g4349 rfl (by decide) (by decide))
      refine q_E_F ?_
      refine q_E_L ?_
      generalize p4367 : dz_M202 s a2 0 255 = r12
      cases r12 with
      | true =>
        have g4368 : q_rgz 0 255 (a2) := ⟨(q_p202 p4367 (q_rg_lit (n := 0) (x := 0) rfl) (q_rg_lit (n := 255) (x := 255) rfl)).1, (q_p202 p4367 (q_rg_lit (n := 0) (x := 0) rfl) (q_rg_lit (n := 255) (x := 255) rfl)).2⟩
        refine q_E_T ?_
        cases h4369 : decide (0 < (s.1 14) 17) with
        | true =>
          have g4370 := (q_rg_ltT2 (L := 1) (u2 := 2147483647) h4369 (q_rg_lit (n := 0) (x := 0) rfl) (q_rg_full _) (by decide))
          refine q_E_T ?_
          have j4371 := q_fails (s) (3) hI
          refine q_E_L ?_
          generalize dz_M200_64 s 3 = r13 at j4371 ⊢
          have g4372 : q_rgz 1 2147483647 ((r13.1.1 14) 17) := by rw [j4371.2.2.1]; exact g4370
          cases h4373 : r13.2 with
          | true =>
            refine q_E_T ?_
            exact q_E_x j4371.1
          | false =>
            exact (q_failsF j4371 h4373 (q_rg_lit (n := 3) (x := 3) rfl) (by decide)).elim
        | false =>
          have g4374 := (q_rg_ltF2 (l2 := -2147483648) (u := 0) h4369 (q_rg_lit (n := 0) (x := 0) rfl) (q_rg_full _))
          refine q_E_F ?_
          have j4375 := q_fails (s) (0) hI
          refine q_E_L ?_
          generalize dz_M200_64 s 0 = r15 at j4375 ⊢
          have g4376 : q_rgz (-2147483648) 0 ((r15.1.1 14) 17) := by rw [j4375.2.2.1]; exact g4374
          cases h4377 : r15.2 with
          | true =>
            exact (q_failsT j4375 h4377 (q_rg_lit (n := 0) (x := 0) rfl) (by decide)).elim
          | false =>
            refine q_E_F ?_
            refine q_E_A (q_in_rg g4366 (by decide) (by decide)) ?_
            have j4378 := dzj_M205_64 c d w (q_sA r15.1 14 (upd (r15.1.1 14) (a1.toNatClampNeg) a2)) (q_Iv_A (i := 14) j4375.1 (q_hf_up ((j4375.1).1 14) (q_stv (i := 14) (a := 0) (n := 4) (L := 0) (U := 255) j4375.1 (q_rg_le g4366 (by decide) (by decide)) (by decide) g4368)))
            refine q_E_L ?_
            generalize dz_M205_64 (q_sA r15.1 14 (upd (r15.1.1 14) (a1.toNatClampNeg) a2)) = r16 at j4378 ⊢
            exact q_E_x j4378
      | false =>
        refine q_E_F ?_
        have j4379 := q_fails (s) (2) hI
        refine q_E_L ?_
        generalize dz_M200_64 s 2 = r17 at j4379 ⊢
        cases h4380 : r17.2 with
        | true =>
          refine q_E_T ?_
          exact q_E_x j4379.1
        | false =>
          exact (q_failsF j4379 h4380 (q_rg_lit (n := 2) (x := 2) rfl) (by decide)).elim
  | false =>
    refine q_E_F ?_
    have j4381 := q_fails (s) (1) hI
    refine q_E_L ?_
    generalize dz_M200_64 s 1 = r19 at j4381 ⊢
    cases h4382 : r19.2 with
    | true =>
      refine q_E_T ?_
      exact q_E_x j4381.1
    | false =>
      exact (q_failsF j4381 h4382 (q_rg_lit (n := 1) (x := 1) rfl) (by decide)).elim
set_option maxHeartbeats 4000000 in
theorem dzj_M290_64 (c d w : Int) (s : q_S) (hI : q_Iv c d w s) : q_Ex (dz_M290_64 s) (fun (x : q_S × Int32) => q_Iv c d w x.1) := by
  unfold dz_M290_64
  obtain ⟨r2, e4387, j4386⟩ := dzj_M258_64 c d w (s) hI (16) (q_rg_le (L := 0) (U := 16) (q_rg_lit (n := 16) (x := 16) rfl) (by decide) (by decide))
  rw [e4387]
  refine q_E_B ?_
  have j4388 := dzj_M201_64 c d w (s) hI (r2)
  refine q_E_L ?_
  generalize dz_M201_64 s r2 = r3 at j4388 ⊢
  exact q_E_x j4388
set_option maxHeartbeats 4000000 in
theorem dzjb_M291_64_66 (c d w : Int) (k66 : q_S → Int32 → Option (q_S × Int32)) (M66 : Int) (tk66 : ∀ (s : q_S), q_Iv c d w s → ∀ (v1 : Int32), q_rgz 0 8 v1 → ((8 - v1.toInt).toNat : Int) ≤ M66 → q_Ex (k66 s v1) (fun (x : q_S × Int32) => q_Iv c d w x.1)) (s : q_S) (hI : q_Iv c d w s) (v1 : Int32) (rv1 : q_rgz 0 8 v1) (m66 : ((8 - v1.toInt).toNat : Int) ≤ M66 + 1) : q_Ex (cond (decide (v1 < 8)) (cond (decide (v1 = 3)) (cond (q_in v1 8) (k66 (q_sA s 15 (upd (s.1 15) (v1.toNatClampNeg) (vp_nar .boolean 1))) (v1 + 1)) none) (cond (q_in v1 8) (k66 (q_sA s 15 (upd (s.1 15) (v1.toNatClampNeg) (vp_nar .boolean 0))) (v1 + 1)) none)) ((dz_M248_64 s 3836).bind fun r2 => q_let (dz_M205_64 (q_sA r2.1 14 (upd (r2.1.1 14) 4 r2.2))) fun r3 => some (r3, ((r3.1 14) 4)))) (fun (x : q_S × Int32) => q_Iv c d w x.1) := by
  cases h4404 : decide (v1 < 8) with
  | true =>
    have g4405 := (q_rg_ltT1 (l := 0) (U := 7) h4404 rv1 (q_rg_lit (n := 8) (x := 8) rfl) (by decide))
    refine q_E_T ?_
    cases h4406 : decide (v1 = 3) with
    | true =>
      have g4407 := q_rg_eqT h4406 (q_rg_lit (n := 3) (x := 3) rfl)
      refine q_E_T ?_
      refine q_E_A (q_in_rg g4407 (by decide) (by decide)) ?_
      exact tk66 (q_sA s 15 (upd (s.1 15) (v1.toNatClampNeg) (vp_nar .boolean 1))) (q_Iv_A (i := 15) hI (q_hf_up ((hI).1 15) (q_s15 (q_rg_le (L := 0) (U := 1) (q_rg_nb _) (by decide) (by decide))))) (v1 + 1) (q_rg_le (L := 0) (U := 8) (q_rg_add (L := 4) (U := 4) g4407 (q_rg_lit (n := 1) (x := 1) rfl) (by decide) (by decide) (by decide) (by decide)) (by decide) (by decide)) (q_meu g4407 m66 (by decide) (by decide))
    | false =>
      refine q_E_F ?_
      refine q_E_A (q_in_rg g4405 (by decide) (by decide)) ?_
      exact tk66 (q_sA s 15 (upd (s.1 15) (v1.toNatClampNeg) (vp_nar .boolean 0))) (q_Iv_A (i := 15) hI (q_hf_up ((hI).1 15) (q_s15 (q_rg_le (L := 0) (U := 1) (q_rg_nb _) (by decide) (by decide))))) (v1 + 1) (q_rg_le (L := 0) (U := 8) (q_rg_add (L := 1) (U := 8) g4405 (q_rg_lit (n := 1) (x := 1) rfl) (by decide) (by decide) (by decide) (by decide)) (by decide) (by decide)) (q_meu g4405 m66 (by decide) (by decide))
  | false =>
    have g4408 := (q_rg_ltF1 (l2 := 8) (u := 8) h4404 rv1 (q_rg_lit (n := 8) (x := 8) rfl))
    refine q_E_F ?_
    obtain ⟨r2, e4410, j4409⟩ := dzj_M248_64 c d w (s) hI (3836)
    rw [e4410]
    refine q_E_B ?_
    have j4411 := dzj_M205_64 c d w (q_sA r2.1 14 (upd (r2.1.1 14) 4 r2.2)) (q_Iv_A (i := 14) j4409.1 (q_hf_up ((j4409.1).1 14) (q_sn4 (q_rg_le (L := 0) (U := 4095) j4409.2 (by decide) (by decide)))))
    refine q_E_L ?_
    generalize dz_M205_64 (q_sA r2.1 14 (upd (r2.1.1 14) 4 r2.2)) = r3 at j4411 ⊢
    exact q_E_x j4411
theorem dzj_M291_64_66 (c d w : Int) : ∀ (m : Nat) (s : q_S) (hI : q_Iv c d w s) (v1 : Int32) (rv1 : q_rgz 0 8 v1), ((8 - v1.toInt).toNat : Int) ≤ (m : Int) → q_Ex (dz_M291_64_66 (m + 1) s v1) (fun (x : q_S × Int32) => q_Iv c d w x.1) := by
  intro m
  induction m with
  | zero => intro s hI v1 rv1 hm; rw [dzs_M291_64_66]; exact dzjb_M291_64_66 c d w (dz_M291_64_66 0) (-1) (fun s hI v1 rv1 hm => absurd hm (by omega)) s hI v1 rv1 (by omega)
  | succ m ih => intro s hI v1 rv1 hm; rw [dzs_M291_64_66]; exact dzjb_M291_64_66 c d w (dz_M291_64_66 (m + 1)) (m : Int) (fun s hI v1 rv1 hm => ih s hI v1 rv1 hm) s hI v1 rv1 (by omega)
set_option maxHeartbeats 4000000 in
theorem dzjb_M291_64_28 (c d w : Int) (k28 : q_S → Int32 → Option (q_S × Int32)) (M28 : Int) (tk28 : ∀ (s : q_S), q_Iv c d w s → ∀ (v1 : Int32), q_rgz 0 12 v1 → ((12 - v1.toInt).toNat : Int) ≤ M28 → q_Ex (k28 s v1) (fun (x : q_S × Int32) => q_Iv c d w x.1)) (s : q_S) (hI : q_Iv c d w s) (v1 : Int32) (rv1 : q_rgz 0 12 v1) (m28 : ((12 - v1.toInt).toNat : Int) ≤ M28 + 1) : q_Ex (cond (decide (v1 < 12)) (cond (q_in v1 24) (k28 (q_sA s 14 (upd (s.1 14) (v1.toNatClampNeg) 0)) (v1 + 1)) none) (q_let ((q_sA s 14 (upd (s.1 14) 3 255))) fun r1 => dz_M291_64_66 5000 (q_sA r1 14 (upd (r1.1 14) 17 0)) 0)) (fun (x : q_S × Int32) => q_Iv c d w x.1) := by
  cases h4412 : decide (v1 < 12) with
  | true =>
    have g4413 := (q_rg_ltT1 (l := 0) (U := 11) h4412 rv1 (q_rg_lit (n := 12) (x := 12) rfl) (by decide))
    refine q_E_T ?_
    refine q_E_A (q_in_rg g4413 (by decide) (by decide)) ?_
    exact tk28 (q_sA s 14 (upd (s.1 14) (v1.toNatClampNeg) 0)) (q_Iv_A (i := 14) hI (q_hf_up ((hI).1 14) (q_stv (i := 14) (a := 0) (n := 12) (L := 0) (U := 0) hI (q_rg_le g4413 (by decide) (by decide)) (by decide) (q_rg_lit (n := 0) (x := 0) rfl)))) (v1 + 1) (q_rg_le (L := 0) (U := 12) (q_rg_add (L := 1) (U := 12) g4413 (q_rg_lit (n := 1) (x := 1) rfl) (by decide) (by decide) (by decide) (by decide)) (by decide) (by decide)) (q_meu g4413 m28 (by decide) (by decide))
  | false =>
    have g4414 := (q_rg_ltF1 (l2 := 12) (u := 12) h4412 rv1 (q_rg_lit (n := 12) (x := 12) rfl))
    refine q_E_F ?_
    have j4415 : q_Iv c d w (q_sA s 14 (upd (s.1 14) 3 255)) := (q_Iv_A (i := 14) hI (q_hf_up ((hI).1 14) (q_sn3 (q_rg_le (L := 0) (U := 255) (q_rg_lit (n := 255) (x := 255) rfl) (by decide) (by decide)))))
    refine q_E_L ?_
    generalize (q_sA s 14 (upd (s.1 14) 3 255)) = r1 at j4415 ⊢
    exact dzj_M291_64_66 c d w 4999 (q_sA r1 14 (upd (r1.1 14) 17 0)) (q_Iv_A (i := 14) j4415 (q_hf_up ((j4415).1 14) (q_sn17 (q_rg_full _)))) (0) (q_rg_le (L := 0) (U := 8) (q_rg_lit (n := 0) (x := 0) rfl) (by decide) (by decide)) (q_meu0 (q_rg_lit (n := 0) (x := 0) rfl) (by decide) (by decide))
theorem dzj_M291_64_28 (c d w : Int) : ∀ (m : Nat) (s : q_S) (hI : q_Iv c d w s) (v1 : Int32) (rv1 : q_rgz 0 12 v1), ((12 - v1.toInt).toNat : Int) ≤ (m : Int) → q_Ex (dz_M291_64_28 (m + 1) s v1) (fun (x : q_S × Int32) => q_Iv c d w x.1) := by
  intro m
  induction m with
  | zero => intro s hI v1 rv1 hm; rw [dzs_M291_64_28]; exact dzjb_M291_64_28 c d w (dz_M291_64_28 0) (-1) (fun s hI v1 rv1 hm => absurd hm (by omega)) s hI v1 rv1 (by omega)
  | succ m ih => intro s hI v1 rv1 hm; rw [dzs_M291_64_28]; exact dzjb_M291_64_28 c d w (dz_M291_64_28 (m + 1)) (m : Int) (fun s hI v1 rv1 hm => ih s hI v1 rv1 hm) s hI v1 rv1 (by omega)
set_option maxHeartbeats 4000000 in
theorem dzjb_M291_64_7 (c d w : Int) (k7 : q_S → Int32 → Option (q_S × Int32)) (M7 : Int) (tk7 : ∀ (s : q_S), q_Iv c d w s → ∀ (v1 : Int32), q_rgz 0 48 v1 → ((48 - v1.toInt).toNat : Int) ≤ M7 → q_Ex (k7 s v1) (fun (x : q_S × Int32) => q_Iv c d w x.1)) (s : q_S) (hI : q_Iv c d w s) (v1 : Int32) (rv1 : q_rgz 0 48 v1) (m7 : ((48 - v1.toInt).toNat : Int) ≤ M7 + 1) : q_Ex (cond (decide (v1 < 48)) (cond (q_in v1 48) (k7 (q_sA s 4 (upd (s.1 4) (v1.toNatClampNeg) 0)) (v1 + 1)) none) (dz_M291_64_28 5000 s 0)) (fun (x : q_S × Int32) => q_Iv c d w x.1) := by
  cases h4416 : decide (v1 < 48) with
  | true =>
    have g4417 := (q_rg_ltT1 (l := 0) (U := 47) h4416 rv1 (q_rg_lit (n := 48) (x := 48) rfl) (by decide))
    refine q_E_T ?_
    refine q_E_A (q_in_rg g4417 (by decide) (by decide)) ?_
    exact tk7 (q_sA s 4 (upd (s.1 4) (v1.toNatClampNeg) 0)) (q_Iv_A (i := 4) hI (q_hf_up ((hI).1 4) (q_stv (i := 4) (a := 0) (n := 48) (L := 0) (U := 0) hI (q_rg_le g4417 (by decide) (by decide)) (by decide) (q_rg_lit (n := 0) (x := 0) rfl)))) (v1 + 1) (q_rg_le (L := 0) (U := 48) (q_rg_add (L := 1) (U := 48) g4417 (q_rg_lit (n := 1) (x := 1) rfl) (by decide) (by decide) (by decide) (by decide)) (by decide) (by decide)) (q_meu g4417 m7 (by decide) (by decide))
  | false =>
    have g4418 := (q_rg_ltF1 (l2 := 48) (u := 48) h4416 rv1 (q_rg_lit (n := 48) (x := 48) rfl))
    refine q_E_F ?_
    exact dzj_M291_64_28 c d w 4999 (s) hI (0) (q_rg_le (L := 0) (U := 12) (q_rg_lit (n := 0) (x := 0) rfl) (by decide) (by decide)) (q_meu0 (q_rg_lit (n := 0) (x := 0) rfl) (by decide) (by decide))
theorem dzj_M291_64_7 (c d w : Int) : ∀ (m : Nat) (s : q_S) (hI : q_Iv c d w s) (v1 : Int32) (rv1 : q_rgz 0 48 v1), ((48 - v1.toInt).toNat : Int) ≤ (m : Int) → q_Ex (dz_M291_64_7 (m + 1) s v1) (fun (x : q_S × Int32) => q_Iv c d w x.1) := by
  intro m
  induction m with
  | zero => intro s hI v1 rv1 hm; rw [dzs_M291_64_7]; exact dzjb_M291_64_7 c d w (dz_M291_64_7 0) (-1) (fun s hI v1 rv1 hm => absurd hm (by omega)) s hI v1 rv1 (by omega)
  | succ m ih => intro s hI v1 rv1 hm; rw [dzs_M291_64_7]; exact dzjb_M291_64_7 c d w (dz_M291_64_7 (m + 1)) (m : Int) (fun s hI v1 rv1 hm => ih s hI v1 rv1 hm) s hI v1 rv1 (by omega)
set_option maxHeartbeats 4000000 in
theorem dzj_M291_64 (c d w : Int) (s : q_S) (hI : q_Iv c d w s) : q_Ex (dz_M291_64 s) (fun (x : q_S × Int32) => q_Iv c d w x.1) := by
  unfold dz_M291_64
  exact dzj_M291_64_7 c d w 4999 (q_sI s 0 39 0) (q_Iv_I (i := 0) (m := 39) hI (q_rg_full _)) (0) (q_rg_le (L := 0) (U := 48) (q_rg_lit (n := 0) (x := 0) rfl) (by decide) (by decide)) (q_meu0 (q_rg_lit (n := 0) (x := 0) rfl) (by decide) (by decide))
set_option maxHeartbeats 4000000 in
theorem dzj_M292_64 (c d w : Int) (s : q_S) (hI : q_Iv c d w s) : (fun (x : q_S × Int32) => q_Iv c d w x.1) (dz_M292_64 s) := by
  refine q_S_of (P := (fun (x : q_S × Int32) => q_Iv c d w x.1)) ?_
  unfold dz_M292_64
  have j4420 := dzj_M205_64 c d w (q_sA (q_sA (q_sI s 0 39 0) 15 (upd (s.1 15) 6 (vp_nar .boolean 1))) 4 (upd (s.1 4) 0 (((s.1 4) 0) ||| 14))) (q_Iv_A (i := 4) (q_Iv_A (i := 15) (q_Iv_I (i := 0) (m := 39) hI (q_rg_full _)) (q_hf_up ((hI).1 15) (q_s15 (q_rg_le (L := 0) (U := 1) (q_rg_nb _) (by decide) (by decide))))) (q_hf_up ((hI).1 4) (q_sg0 (q_rg_le (L := 0) (U := 15) (q_rg_or (n := 4) (W := 15) (q_g0 hI) (q_rg_lit (n := 14) (x := 14) rfl) (by decide) (by decide) (by decide) (by decide) (by decide)) (by decide) (by decide)))))
  refine q_S_L ?_
  generalize dz_M205_64 (q_sA (q_sA (q_sI s 0 39 0) 15 (upd (s.1 15) 6 (vp_nar .boolean 1))) 4 (upd (s.1 4) 0 (((s.1 4) 0) ||| 14))) = r1 at j4420 ⊢
  exact q_E_x j4420
set_option maxHeartbeats 4000000 in
theorem dzj_M293_64 (c d w : Int) (s : q_S) (hI : q_Iv c d w s) (a1 : Int32) (a2 : Int32) : q_Ex (dz_M293_64 s a1 a2) (fun (x : q_S × Int32) => q_Iv c d w x.1) := by
  unfold dz_M293_64
  refine q_E_L ?_
  generalize p4431 : dz_M202 s a1 0 31 = r4
  cases r4 with
  | true =>
    have g4432 : q_rgz 0 31 (a1) := ⟨(q_p202 p4431 (q_rg_lit (n := 0) (x := 0) rfl) (q_rg_lit (n := 31) (x := 31) rfl)).1, (q_p202 p4431 (q_rg_lit (n := 0) (x := 0) rfl) (q_rg_lit (n := 31) (x := 31) rfl)).2⟩
    refine q_E_T ?_
    refine q_E_L ?_
    generalize p4433 : dz_M202 s a2 0 31 = r5
    cases r5 with
    | true =>
      have g4434 : q_rgz 0 31 (a2) := ⟨(q_p202 p4433 (q_rg_lit (n := 0) (x := 0) rfl) (q_rg_lit (n := 31) (x := 31) rfl)).1, (q_p202 p4433 (q_rg_lit (n := 0) (x := 0) rfl) (q_rg_lit (n := 31) (x := 31) rfl)).2⟩
      refine q_E_T ?_
      have j4435 := q_fails (s) (0) hI
      refine q_E_L ?_
      generalize dz_M200_64 s 0 = r6 at j4435 ⊢
      cases h4436 : r6.2 with
      | true =>
        exact (q_failsT j4435 h4436 (q_rg_lit (n := 0) (x := 0) rfl) (by decide)).elim
      | false =>
        refine q_E_F ?_
        refine q_E_A (q_in_rg (q_rg_add (L := 0) (U := 1023) (q_rg_mul (L := 0) (U := 992) (q_rg_lit (n := 32) (x := 32) rfl) g4434 (by decide) (by decide) (by decide) (by decide) (by decide) (by decide)) g4432 (by decide) (by decide) (by decide) (by decide)) (by decide) (by decide)) ?_
        exact q_E_x j4435.1
    | false =>
      refine q_E_F ?_
      have j4437 := q_fails (s) (1) hI
      refine q_E_L ?_
      generalize dz_M200_64 s 1 = r7 at j4437 ⊢
      cases h4438 : r7.2 with
      | true =>
        refine q_E_T ?_
        exact q_E_x j4437.1
      | false =>
        exact (q_failsF j4437 h4438 (q_rg_lit (n := 1) (x := 1) rfl) (by decide)).elim
  | false =>
    refine q_E_F ?_
    have j4439 := q_fails (s) (1) hI
    refine q_E_L ?_
    generalize dz_M200_64 s 1 = r8 at j4439 ⊢
    cases h4440 : r8.2 with
    | true =>
      refine q_E_T ?_
      exact q_E_x j4439.1
    | false =>
      exact (q_failsF j4439 h4440 (q_rg_lit (n := 1) (x := 1) rfl) (by decide)).elim
set_option maxHeartbeats 4000000 in
theorem dzj_M294_64 (c d w : Int) (s : q_S) (hI : q_Iv c d w s) (a1 : Int32) (a2 : Int32) : q_Ex (dz_M294_64 s a1 a2) (fun (x : q_S × Int32) => q_Iv c d w x.1) := by
  unfold dz_M294_64
  obtain ⟨r2, e4444, j4443⟩ := dzj_M293_64 c d w (s) hI (a1) (a2)
  rw [e4444]
  refine q_E_B ?_
  exact q_E_x j4443
set_option maxHeartbeats 4000000 in
theorem dzj_M295_64 (c d w : Int) (s : q_S) (hI : q_Iv c d w s) (a1 : Int32) (a2 : Int32) : q_Ex (dz_M295_64 s a1 a2) (fun (x : q_S × Int32) => q_Iv c d w x.1) := by
  unfold dz_M295_64
  obtain ⟨r2, e4448, j4447⟩ := dzj_M293_64 c d w (s) hI (a1) (a2)
  rw [e4448]
  refine q_E_B ?_
  exact q_E_x j4447
set_option maxHeartbeats 4000000 in
theorem dzj_M296_64 (c d w : Int) (s : q_S) (hI : q_Iv c d w s) (a1 : Int32) : q_Ex (dz_M296_64 s a1) (fun (x : q_S × Int32) => q_Iv c d w x.1) := by
  unfold dz_M296_64
  refine q_E_L ?_
  generalize p4455 : dz_M202 s a1 0 39 = r3
  cases r3 with
  | true =>
    have g4456 : q_rgz 0 39 (a1) := ⟨(q_p202 p4455 (q_rg_lit (n := 0) (x := 0) rfl) (q_rg_lit (n := 39) (x := 39) rfl)).1, (q_p202 p4455 (q_rg_lit (n := 0) (x := 0) rfl) (q_rg_lit (n := 39) (x := 39) rfl)).2⟩
    refine q_E_T ?_
    have j4457 := q_fails (s) (0) hI
    refine q_E_L ?_
    generalize dz_M200_64 s 0 = r4 at j4457 ⊢
    cases h4458 : r4.2 with
    | true =>
      exact (q_failsT j4457 h4458 (q_rg_lit (n := 0) (x := 0) rfl) (by decide)).elim
    | false =>
      refine q_E_F ?_
      refine q_E_A (q_in_rg g4456 (by decide) (by decide)) ?_
      exact q_E_x j4457.1
  | false =>
    refine q_E_F ?_
    have j4459 := q_fails (s) (1) hI
    refine q_E_L ?_
    generalize dz_M200_64 s 1 = r5 at j4459 ⊢
    cases h4460 : r5.2 with
    | true =>
      refine q_E_T ?_
      exact q_E_x j4459.1
    | false =>
      exact (q_failsF j4459 h4460 (q_rg_lit (n := 1) (x := 1) rfl) (by decide)).elim
set_option maxHeartbeats 4000000 in
theorem dzj_M297_64 (c d w : Int) (s : q_S) (hI : q_Iv c d w s) (a1 : Int32) : q_Ex (dz_M297_64 s a1) (fun (x : q_S × Int32) => q_Iv c d w x.1) := by
  unfold dz_M297_64
  refine q_E_L ?_
  generalize p4467 : dz_M202 s a1 0 2 = r3
  cases r3 with
  | true =>
    have g4468 : q_rgz 0 2 (a1) := ⟨(q_p202 p4467 (q_rg_lit (n := 0) (x := 0) rfl) (q_rg_lit (n := 2) (x := 2) rfl)).1, (q_p202 p4467 (q_rg_lit (n := 0) (x := 0) rfl) (q_rg_lit (n := 2) (x := 2) rfl)).2⟩
    refine q_E_T ?_
    have j4469 := q_fails (s) (0) hI
    refine q_E_L ?_
    generalize dz_M200_64 s 0 = r4 at j4469 ⊢
    cases h4470 : r4.2 with
    | true =>
      exact (q_failsT j4469 h4470 (q_rg_lit (n := 0) (x := 0) rfl) (by decide)).elim
    | false =>
      refine q_E_F ?_
      refine q_E_A (q_in_rg g4468 (by decide) (by decide)) ?_
      exact q_E_x j4469.1
  | false =>
    refine q_E_F ?_
    have j4471 := q_fails (s) (1) hI
    refine q_E_L ?_
    generalize dz_M200_64 s 1 = r5 at j4471 ⊢
    cases h4472 : r5.2 with
    | true =>
      refine q_E_T ?_
      exact q_E_x j4471.1
    | false =>
      exact (q_failsF j4471 h4472 (q_rg_lit (n := 1) (x := 1) rfl) (by decide)).elim
end
section
-- 51.cd
set_option maxHeartbeats 4000000 in
theorem dzj_M298_64 (c d w : Int) (s : q_S) (hI : q_Iv c d w s) (a1 : Int32) (a2 : Int32) (a3 : Int32) (ra3 : q_rgz 0 1 a3) : q_Ex (dz_M298_64 s a1 a2 a3) (fun (x : q_S × Bool) => q_Iv c d w x.1) := by
  unfold dz_M298_64
  refine q_E_L ?_
  generalize p4484 : dz_M202 s a1 0 3 = r4
  cases r4 with
  | true =>
    have g4485 : q_rgz 0 3 (a1) := ⟨(q_p202 p4484 (q_rg_lit (n := 0) (x := 0) rfl) (q_rg_lit (n := 3) (x := 3) rfl)).1, (q_p202 p4484 (q_rg_lit (n := 0) (x := 0) rfl) (q_rg_lit (n := 3) (x := 3) rfl)).2⟩
    refine q_E_T ?_
    refine q_E_L ?_
    generalize p4486 : dz_M202 s a2 0 3 = r5
    cases r5 with
    | true =>
      have g4487 : q_rgz 0 3 (a2) := ⟨(q_p202 p4486 (q_rg_lit (n := 0) (x := 0) rfl) (q_rg_lit (n := 3) (x := 3) rfl)).1, (q_p202 p4486 (q_rg_lit (n := 0) (x := 0) rfl) (q_rg_lit (n := 3) (x := 3) rfl)).2⟩
      refine q_E_T ?_
      have j4488 := q_fails (s) (0) hI
      refine q_E_L ?_
      generalize dz_M200_64 s 0 = r6 at j4488 ⊢
      cases h4489 : r6.2 with
      | true =>
        exact (q_failsT j4488 h4489 (q_rg_lit (n := 0) (x := 0) rfl) (by decide)).elim
      | false =>
        refine q_E_F ?_
        refine q_E_A (q_in_rg (q_rg_add (L := 0) (U := 15) (q_rg_mul (L := 0) (U := 12) (q_rg_lit (n := 4) (x := 4) rfl) g4485 (by decide) (by decide) (by decide) (by decide) (by decide) (by decide)) g4487 (by decide) (by decide) (by decide) (by decide)) (by decide) (by decide)) ?_
        have j4490 := dzj_M205_64 c d w (q_sA r6.1 7 (upd (r6.1.1 7) (((4 * a1) + a2).toNatClampNeg) (vp_nar .boolean a3))) (q_Iv_A (i := 7) j4488.1 (q_hf_up ((j4488.1).1 7) (q_s7 (q_rg_le (L := 0) (U := 1) (q_rg_nb _) (by decide) (by decide)))))
        refine q_E_L ?_
        generalize dz_M205_64 (q_sA r6.1 7 (upd (r6.1.1 7) (((4 * a1) + a2).toNatClampNeg) (vp_nar .boolean a3))) = r7 at j4490 ⊢
        refine q_E_A (q_z1_rg (q_rg_le (q_r7 j4488.1 _) (by decide) (by decide))) ?_
        exact q_E_x j4490
    | false =>
      refine q_E_F ?_
      have j4491 := q_fails (s) (1) hI
      refine q_E_L ?_
      generalize dz_M200_64 s 1 = r8 at j4491 ⊢
      cases h4492 : r8.2 with
      | true =>
        refine q_E_T ?_
        exact q_E_x j4491.1
      | false =>
        exact (q_failsF j4491 h4492 (q_rg_lit (n := 1) (x := 1) rfl) (by decide)).elim
  | false =>
    refine q_E_F ?_
    have j4493 := q_fails (s) (1) hI
    refine q_E_L ?_
    generalize dz_M200_64 s 1 = r10 at j4493 ⊢
    cases h4494 : r10.2 with
    | true =>
      refine q_E_T ?_
      exact q_E_x j4493.1
    | false =>
      exact (q_failsF j4493 h4494 (q_rg_lit (n := 1) (x := 1) rfl) (by decide)).elim
set_option maxHeartbeats 4000000 in
theorem dzj_M299_64 (c d w : Int) (s : q_S) (hI : q_Iv c d w s) (a1 : Int32) : q_Ex (dz_M299_64 s a1) (fun (x : q_S × Int32) => q_Iv c d w x.1) := by
  unfold dz_M299_64
  refine q_E_L ?_
  generalize p4503 : dz_M202 s a1 0 15 = r4
  cases r4 with
  | true =>
    have g4504 : q_rgz 0 15 (a1) := ⟨(q_p202 p4503 (q_rg_lit (n := 0) (x := 0) rfl) (q_rg_lit (n := 15) (x := 15) rfl)).1, (q_p202 p4503 (q_rg_lit (n := 0) (x := 0) rfl) (q_rg_lit (n := 15) (x := 15) rfl)).2⟩
    refine q_E_T ?_
    have j4505 := q_fails (s) (0) hI
    refine q_E_L ?_
    generalize dz_M200_64 s 0 = r5 at j4505 ⊢
    cases h4506 : r5.2 with
    | true =>
      exact (q_failsT j4505 h4506 (q_rg_lit (n := 0) (x := 0) rfl) (by decide)).elim
    | false =>
      refine q_E_F ?_
      obtain ⟨r6, e4508, j4507⟩ := dzj_M208_64 c d w (r5.1) j4505.1 (a1)
      rw [e4508]
      refine q_E_B ?_
      exact q_E_x j4507.1
  | false =>
    refine q_E_F ?_
    have j4509 := q_fails (s) (1) hI
    refine q_E_L ?_
    generalize dz_M200_64 s 1 = r7 at j4509 ⊢
    cases h4510 : r7.2 with
    | true =>
      refine q_E_T ?_
      exact q_E_x j4509.1
    | false =>
      exact (q_failsF j4509 h4510 (q_rg_lit (n := 1) (x := 1) rfl) (by decide)).elim
set_option maxHeartbeats 4000000 in
theorem dzj_M300_64 (c d w : Int) (s : q_S) (hI : q_Iv c d w s) (a1 : Int32) : (fun (x : q_S × Int32) => q_Iv c d w x.1) (dz_M300_64 s a1) := by
  refine q_S_of (P := (fun (x : q_S × Int32) => q_Iv c d w x.1)) ?_
  unfold dz_M300_64
  refine q_S_L ?_
  generalize p4518 : dz_M202 s a1 0 15 = r1
  cases r1 with
  | true =>
    have g4519 : q_rgz 0 15 (a1) := ⟨(q_p202 p4518 (q_rg_lit (n := 0) (x := 0) rfl) (q_rg_lit (n := 15) (x := 15) rfl)).1, (q_p202 p4518 (q_rg_lit (n := 0) (x := 0) rfl) (q_rg_lit (n := 15) (x := 15) rfl)).2⟩
    refine q_S_T ?_
    have j4520 := q_fails (s) (0) hI
    refine q_S_L ?_
    generalize dz_M200_64 s 0 = r2 at j4520 ⊢
    cases h4521 : r2.2 with
    | true =>
      exact (q_failsT j4520 h4521 (q_rg_lit (n := 0) (x := 0) rfl) (by decide)).elim
    | false =>
      refine q_S_F ?_
      have j4522 := dzj_M205_64 c d w (q_sA r2.1 14 (upd (r2.1.1 14) 12 a1)) (q_Iv_A (i := 14) j4520.1 (q_hf_up ((j4520.1).1 14) (q_sn12 (q_rg_le (L := 0) (U := 15) g4519 (by decide) (by decide)))))
      refine q_S_L ?_
      generalize dz_M205_64 (q_sA r2.1 14 (upd (r2.1.1 14) 12 a1)) = r3 at j4522 ⊢
      exact q_E_x j4522
  | false =>
    refine q_S_F ?_
    have j4523 := q_fails (s) (1) hI
    refine q_S_L ?_
    generalize dz_M200_64 s 1 = r4 at j4523 ⊢
    cases h4524 : r4.2 with
    | true =>
      refine q_S_T ?_
      exact q_E_x j4523.1
    | false =>
      exact (q_failsF j4523 h4524 (q_rg_lit (n := 1) (x := 1) rfl) (by decide)).elim
set_option maxHeartbeats 4000000 in
theorem dzj_M301_64_56 (c d w : Int) (s : q_S) (hI : q_Iv c d w s) (v1 : Int32) (rv1 : q_rgz 1 999 v1) (hx : q_rgz 0 39 ((s.1 14) 13)) : q_Ex (dz_M301_64_56 s v1) (fun (x : q_S × Int32) => q_Iv c d w x.1) := by
  unfold dz_M301_64_56
  refine q_E_A (q_in_rg hx (by decide) (by decide)) ?_
  have j4556 := dzj_M205_64 c d w (q_sA (q_sA s 8 (upd (s.1 8) (((s.1 14) 13).toNatClampNeg) v1)) 14 (upd (s.1 14) 13 (((s.1 14) 13) + 1))) (q_Iv_A (i := 14) (q_Iv_A (i := 8) hI (q_hf_up ((hI).1 8) (q_s8 (q_rg_full _)))) (q_hf_up ((hI).1 14) (q_sn13 (q_rg_le (L := 0) (U := 40) (q_rg_add (L := 1) (U := 40) hx (q_rg_lit (n := 1) (x := 1) rfl) (by decide) (by decide) (by decide) (by decide)) (by decide) (by decide)))))
  refine q_E_L ?_
  generalize dz_M205_64 (q_sA (q_sA s 8 (upd (s.1 8) (((s.1 14) 13).toNatClampNeg) v1)) 14 (upd (s.1 14) 13 (((s.1 14) 13) + 1))) = r7 at j4556 ⊢
  exact q_E_x j4556
set_option maxHeartbeats 4000000 in
theorem dzj_M301_64 (c d w : Int) (s : q_S) (hI : q_Iv c d w s) (a1 : Int32) : q_Ex (dz_M301_64 s a1) (fun (x : q_S × Int32) => q_Iv c d w x.1) := by
  unfold dz_M301_64
  refine q_E_L ?_
  generalize p4557 : dz_M202 s a1 1 999 = r4
  cases r4 with
  | true =>
    have g4558 : q_rgz 1 999 (a1) := ⟨(q_p202 p4557 (q_rg_lit (n := 1) (x := 1) rfl) (q_rg_lit (n := 999) (x := 999) rfl)).1, (q_p202 p4557 (q_rg_lit (n := 1) (x := 1) rfl) (q_rg_lit (n := 999) (x := 999) rfl)).2⟩
    refine q_E_T ?_
    cases h4559 : decide ((s.1 14) 13 = 40) with
    | true =>
      have g4560 := q_rg_eqT h4559 (q_rg_lit (n := 40) (x := 40) rfl)
      refine q_E_T ?_
      have j4561 := q_fails (s) (2) hI
      refine q_E_L ?_
      generalize dz_M200_64 s 2 = r5 at j4561 ⊢
      have g4562 : q_rgz 40 40 ((r5.1.1 14) 13) := by rw [j4561.2.2.1]; exact g4560
      cases h4563 : r5.2 with
      | true =>
        refine q_E_T ?_
        exact q_E_x j4561.1
      | false =>
        exact (q_failsF j4561 h4563 (q_rg_lit (n := 2) (x := 2) rfl) (by decide)).elim
    | false =>
      have g4564 := (q_rg_neU (l := 0) (u := 40) (n := 40) (U := 39) h4559 (q_n13 hI) rfl (by decide) (by decide))
      refine q_E_F ?_
      have j4565 := q_fails (s) (0) hI
      refine q_E_L ?_
      generalize dz_M200_64 s 0 = r8 at j4565 ⊢
      have g4566 : q_rgz 0 39 ((r8.1.1 14) 13) := by rw [j4565.2.2.1]; exact g4564
      cases h4567 : r8.2 with
      | true =>
        exact (q_failsT j4565 h4567 (q_rg_lit (n := 0) (x := 0) rfl) (by decide)).elim
      | false =>
        refine q_E_F ?_
        refine q_E_L ?_
        generalize p4568 : dz_M209_64 r8.1 = r9
        cases r9 with
        | true =>
          have g4569 : q_rgz 0 39 ((r8.1.1 14) 14) := q_p209 (s := r8.1) j4565.1 p4568
          refine q_E_T ?_
          exact dzj_M301_64_56 c d w (r8.1) j4565.1 (a1) (q_rg_le (L := 1) (U := 999) g4558 (by decide) (by decide)) (q_rg_le (L := 0) (U := 39) g4566 (by decide) (by decide))
        | false =>
          refine q_E_F ?_
          exact dzj_M301_64_56 c d w (q_sA r8.1 14 (upd (r8.1.1 14) 15 a1)) (q_Iv_A (i := 14) j4565.1 (q_hf_up ((j4565.1).1 14) (q_sn15 (q_rg_full _)))) (a1) (q_rg_le (L := 1) (U := 999) g4558 (by decide) (by decide)) (show q_rgz 0 39 ((upd (r8.1.1 14) 15 a1) 13) from q_up_ne (i := 15) (j := 13) (by decide) (q_rg_le (L := 0) (U := 39) g4566 (by decide) (by decide)))
  | false =>
    refine q_E_F ?_
    have j4570 := q_fails (s) (1) hI
    refine q_E_L ?_
    generalize dz_M200_64 s 1 = r10 at j4570 ⊢
    cases h4571 : r10.2 with
    | true =>
      refine q_E_T ?_
      exact q_E_x j4570.1
    | false =>
      exact (q_failsF j4570 h4571 (q_rg_lit (n := 1) (x := 1) rfl) (by decide)).elim
set_option maxHeartbeats 4000000 in
theorem dzj_M302_64 (c d w : Int) (s : q_S) (hI : q_Iv c d w s) : (fun (x : q_S × Int32) => q_Iv c d w x.1) (dz_M302_64 s) := by
  refine q_S_of (P := (fun (x : q_S × Int32) => q_Iv c d w x.1)) ?_
  unfold dz_M302_64
  refine q_S_L ?_
  generalize p4578 : dz_M209_64 (q_sA (q_sI s 0 39 0) 14 (upd (s.1 14) 14 0)) = r1
  cases r1 with
  | true =>
    have g4579 : q_rgz 0 39 ((upd (s.1 14) 14 0) 14) := q_p209 (s := q_sA (q_sI s 0 39 0) 14 (upd (s.1 14) 14 0)) (q_Iv_A (i := 14) (q_Iv_I (i := 0) (m := 39) hI (q_rg_full _)) (q_hf_up ((hI).1 14) (q_sn14 (q_rg_le (L := 0) (U := 40) (q_rg_lit (n := 0) (x := 0) rfl) (by decide) (by decide))))) p4578
    refine q_S_T ?_
    have j4580 : q_Iv c d w (q_sA (q_sI s 0 39 0) 14 (upd (s.1 14) 14 0)) := (q_Iv_A (i := 14) (q_Iv_I (i := 0) (m := 39) hI (q_rg_full _)) (q_hf_up ((hI).1 14) (q_sn14 (q_rg_le (L := 0) (U := 40) (q_rg_lit (n := 0) (x := 0) rfl) (by decide) (by decide)))))
    refine q_S_L ?_
    generalize (q_sA (q_sI s 0 39 0) 14 (upd (s.1 14) 14 0)) = r2 at j4580 ⊢
    have j4581 := dzj_M205_64 c d w (q_sA r2 14 (upd (r2.1 14) 15 ((s.1 8) 0))) (q_Iv_A (i := 14) j4580 (q_hf_up ((j4580).1 14) (q_sn15 (q_rg_full _))))
    refine q_S_L ?_
    generalize dz_M205_64 (q_sA r2 14 (upd (r2.1 14) 15 ((s.1 8) 0))) = r3 at j4581 ⊢
    exact q_E_x j4581
  | false =>
    refine q_S_F ?_
    have j4582 : q_Iv c d w (q_sA (q_sI s 0 39 0) 14 (upd (s.1 14) 14 0)) := (q_Iv_A (i := 14) (q_Iv_I (i := 0) (m := 39) hI (q_rg_full _)) (q_hf_up ((hI).1 14) (q_sn14 (q_rg_le (L := 0) (U := 40) (q_rg_lit (n := 0) (x := 0) rfl) (by decide) (by decide)))))
    refine q_S_L ?_
    generalize (q_sA (q_sI s 0 39 0) 14 (upd (s.1 14) 14 0)) = r4 at j4582 ⊢
    have j4583 := dzj_M205_64 c d w (q_sA r4 14 (upd (r4.1 14) 15 0)) (q_Iv_A (i := 14) j4582 (q_hf_up ((j4582).1 14) (q_sn15 (q_rg_full _))))
    refine q_S_L ?_
    generalize dz_M205_64 (q_sA r4 14 (upd (r4.1 14) 15 0)) = r5 at j4583 ⊢
    exact q_E_x j4583
set_option maxHeartbeats 4000000 in
theorem dzj_M303_64 (c d w : Int) (s : q_S) (hI : q_Iv c d w s) : (fun (x : q_S × Int32) => q_Iv c d w x.1) (dz_M303_64 s) := by
  refine q_S_of (P := (fun (x : q_S × Int32) => q_Iv c d w x.1)) ?_
  unfold dz_M303_64
  have j4585 := dzj_M201_64 c d w (s) hI (((s.1 14) 13) - ((s.1 14) 14))
  refine q_S_L ?_
  generalize dz_M201_64 s (((s.1 14) 13) - ((s.1 14) 14)) = r1 at j4585 ⊢
  exact q_E_x j4585
/-! copies of rows -/
theorem q_sAA (s : q_S) (b : Nat) (f g : Nat → Int32) : q_sA (q_sA s b f) b g = q_sA s b g := by
  unfold q_sA
  congr 1
  funext j
  show cond (Nat.beq j b) g (cond (Nat.beq j b) f (s.1 j)) = cond (Nat.beq j b) g (s.1 j)
  cases Nat.beq j b <;> rfl
theorem q_sA1 (s : q_S) (b : Nat) (f : Nat → Int32) : (q_sA s b f).1 b = f := by
  show cond (Nat.beq b b) f (s.1 b) = f
  rw [Nat.beq_refl]; rfl
theorem q_sA2 (s : q_S) {a b : Nat} (f : Nat → Int32) (h : Nat.beq a b = false) : (q_sA s b f).1 a = s.1 a := by
  show cond (Nat.beq a b) f (s.1 a) = s.1 a
  rw [h]; rfl
theorem q_sA0 (s : q_S) (b : Nat) (f : Nat → Int32) (h : ∀ k, f k = s.1 b k) : q_sA s b f = s := by
  unfold q_sA
  have e : q_uA s.1 b f = s.1 := by
    funext j
    show cond (Nat.beq j b) f (s.1 j) = s.1 j
    cases e : Nat.beq j b with
    | true => rw [Nat.eq_of_beq_eq_true e]; exact funext h
    | false => rfl
  rw [e]
theorem q_lays {L : Nat → q_S → Int32 → Int32 → Int32 → Int32 → Option q_S} {a b na nb : Nat} {g : Int32 → Int32} (hab : Nat.beq a b = false)
    (hL : ∀ m s v1 v3 v4 v5, L (m + 1) s v1 v3 v4 v5 = cond (decide (v5 < v4)) (cond (q_in (v1 + v5) na) (cond (q_in (v3 + v5) nb) (L m (q_sA s b (upd (s.1 b) ((v3 + v5).toNatClampNeg) (g ((s.1 a) ((v1 + v5).toNatClampNeg))))) v1 v3 v4 (v5 + 1)) none) none) (some s))
    (s : q_S) {sp dp n : Nat} {v1 v3 v4 : Int32} (h1 : v1.toInt = (sp : Int)) (h3 : v3.toInt = (dp : Int)) (h4 : v4.toInt = (n : Int)) (ba : sp + n ≤ na) (bb : dp + n ≤ nb) (hna : na ≤ 100000) (hnb : nb ≤ 100000) :
    ∀ (j k m : Nat) (v5 : Int32), k + j = n → j ≤ m → v5.toInt = (k : Int) → L (m + 1) (q_sA s b (va_cpy (fun i => g (s.1 a i)) (s.1 b) sp dp k)) v1 v3 v4 v5 = some (q_sA s b (va_cpy (fun i => g (s.1 a i)) (s.1 b) sp dp n)) := by
  intro j
  induction j with
  | zero =>
    intro k m v5 hk hm h5
    rw [hL]
    have e : decide (v5 < v4) = false := decide_eq_false (fun q => by have := Int32.lt_iff_toInt_lt.mp q; omega)
    rw [e, show k = n by omega]
    rfl
  | succ j ih =>
    intro k m v5 hk hm h5
    obtain ⟨m', rfl⟩ : ∃ m', m = m' + 1 := ⟨m - 1, by omega⟩
    rw [hL]
    have e : decide (v5 < v4) = true := decide_eq_true (Int32.lt_iff_toInt_lt.mpr (by omega))
    have e5 : (v5 + 1).toInt = v5.toInt + 1 := q_add9 (c := 1) (by show _ ≤ v5.toInt + 1; omega) (by show v5.toInt + 1 ≤ _; omega)
    have e1 : (v1 + v5).toInt = ((sp + k : Nat) : Int) := by rw [q_add9 (by omega) (by omega)]; omega
    have e3 : (v3 + v5).toInt = ((dp + k : Nat) : Int) := by rw [q_add9 (by omega) (by omega)]; omega
    have n1 : (v1 + v5).toNatClampNeg = sp + k := by show (v1 + v5).toInt.toNat = _; omega
    have n3 : (v3 + v5).toNatClampNeg = dp + k := by show (v3 + v5).toInt.toNat = _; omega
    rw [e, q_in_rg (l := 0) (u := (sp + k : Nat)) (n := na) ⟨by omega, by omega⟩ (by decide) (by omega), q_in_rg (x := v3 + v5) (l := 0) (u := (dp + k : Nat)) (n := nb) ⟨by omega, by omega⟩ (by decide) (by omega)]
    show L (m' + 1) (q_sA (q_sA s b _) b (upd ((q_sA s b _).1 b) _ (g ((q_sA s b _).1 a _)))) v1 v3 v4 (v5 + 1) = _
    rw [q_sAA, q_sA1, q_sA2 s _ hab, n1, n3]
    have u : upd (va_cpy (fun i => g (s.1 a i)) (s.1 b) sp dp k) (dp + k) (g (s.1 a (sp + k))) = va_cpy (fun i => g (s.1 a i)) (s.1 b) sp dp (k + 1) := by
      funext i
      show (if i = dp + k then g (s.1 a (sp + k)) else if dp ≤ i ∧ i < dp + k then g (s.1 a (sp + (i - dp))) else s.1 b i) = if dp ≤ i ∧ i < dp + (k + 1) then g (s.1 a (sp + (i - dp))) else s.1 b i
      by_cases c1 : i = dp + k
      · rw [if_pos c1, if_pos (by omega), show sp + (i - dp) = sp + k by omega]
      · rw [if_neg c1]
        by_cases c2 : dp ≤ i ∧ i < dp + k
        · rw [if_pos c2, if_pos (by omega)]
        · rw [if_neg c2, if_neg (by omega)]
    rw [u]
    exact ih (k + 1) m' (v5 + 1) (by omega) (by omega) (by omega)
theorem q_lays0 {L : Nat → q_S → Int32 → Int32 → Int32 → Int32 → Option q_S} {a b na nb : Nat} {g : Int32 → Int32} (hab : Nat.beq a b = false)
    (hL : ∀ m s v1 v3 v4 v5, L (m + 1) s v1 v3 v4 v5 = cond (decide (v5 < v4)) (cond (q_in (v1 + v5) na) (cond (q_in (v3 + v5) nb) (L m (q_sA s b (upd (s.1 b) ((v3 + v5).toNatClampNeg) (g ((s.1 a) ((v1 + v5).toNatClampNeg))))) v1 v3 v4 (v5 + 1)) none) none) (some s))
    (s : q_S) {sp dp n : Nat} {v1 v3 v4 : Int32} (h1 : v1.toInt = (sp : Int)) (h3 : v3.toInt = (dp : Int)) (h4 : v4.toInt = (n : Int)) (ba : sp + n ≤ na) (bb : dp + n ≤ nb) (hna : na ≤ 100000) (hnb : nb ≤ 100000) (hn : n ≤ 4999) : L 5000 s v1 v3 v4 0 = some (q_sA s b (va_cpy (fun i => g (s.1 a i)) (s.1 b) sp dp n)) := by
  have h := q_lays hab hL s h1 h3 h4 ba bb hna hnb n 0 4999 0 (by omega) hn rfl
  have e : q_sA s b (va_cpy (fun i => g (s.1 a i)) (s.1 b) sp dp 0) = s := q_sA0 s b _ (fun k => by
    show (if dp ≤ k ∧ k < dp + 0 then g (s.1 a (sp + (k - dp))) else s.1 b k) = s.1 b k
    rw [if_neg (by omega)])
  rw [e] at h
  exact h
theorem q_hf_cp {l u : Nat → Int} {f g : Nat → Int32} {sp dp n : Nat} (hg : ∀ k, q_rgz (l k) (u k) (g k)) (hf : ∀ k, k < n → q_rgz (l (dp + k)) (u (dp + k)) (f (sp + k))) (k : Nat) : q_rgz (l k) (u k) (va_cpy f g sp dp n k) := by
  show q_rgz (l k) (u k) (if dp ≤ k ∧ k < dp + n then f (sp + (k - dp)) else g k)
  split
  · next e =>
    have h := hf (k - dp) (by omega)
    rw [show dp + (k - dp) = k by omega] at h
    exact h
  · exact hg k
theorem q_m24z {t : Nat} (k : Nat) (hk : k < 24) : (24 * t + k) % 24 = k := by omega
theorem q_m48z {t : Nat} (k : Nat) (hk : k < 48) : (48 * t + k) % 48 = k := by omega
theorem q_mulT {x : Int32} {t : Nat} {n : Int32} {N : Nat} (hx : x.toInt = (t : Int)) (ht : t < 3) (hn : n.toInt = (N : Int)) (hN : N ≤ 100000) : (n * x).toInt = ((N * t : Nat) : Int) := by
  have b1 : N * t ≤ N * 2 := Nat.mul_le_mul_left N (by omega)
  rw [Int32.toInt_mul, hx, hn]
  rw [show ((N : Int) * (t : Int)) = ((N * t : Nat) : Int) by exact_mod_cast rfl]
  exact Int.bmod_eq_of_le (by omega) (by omega)

theorem dzl_M304_65_80 (s : q_S) (t : Nat) (ht : t < 3) {v1 v3 v4 : Int32} (h1 : v1.toInt = 0) (h3 : v3.toInt = ((4096 * t : Nat) : Int)) (h4 : v4.toInt = 4096) : dz_M304_65_80 s v1 v3 v4 = some (q_sA s 16 (va_cpy (s.1 1) (s.1 16) 0 (4096 * t) 4096)) := q_lays0 (L := fun m => dz_M304_65_80_3 m) (a := 1) (b := 16) (na := 4096) (nb := 12288) (g := (fun x => x)) rfl (fun _ _ _ _ _ _ => rfl) s h1 h3 h4 (by omega) (by omega) (by decide) (by decide) (by decide)
theorem dzi_M304_65_80 {c d w : Int} {s : q_S} (h : q_Iv c d w s) (t : Nat) : q_Iv c d w (q_sA s 16 (va_cpy (s.1 1) (s.1 16) 0 (4096 * t) 4096)) := q_Iv_A (i := 16) h (q_hf_cp (h.1 16) (fun k hk => h.1 1 _))

theorem dzl_M304_66_81 (s : q_S) (t : Nat) (ht : t < 3) {v1 v3 v4 : Int32} (h1 : v1.toInt = 0) (h3 : v3.toInt = ((512 * t : Nat) : Int)) (h4 : v4.toInt = 512) : dz_M304_66_81 s v1 v3 v4 = some (q_sA s 17 (va_cpy (s.1 2) (s.1 17) 0 (512 * t) 512)) := q_lays0 (L := fun m => dz_M304_66_81_3 m) (a := 2) (b := 17) (na := 512) (nb := 1536) (g := (fun x => x)) rfl (fun _ _ _ _ _ _ => rfl) s h1 h3 h4 (by omega) (by omega) (by decide) (by decide) (by decide)
theorem dzi_M304_66_81 {c d w : Int} {s : q_S} (h : q_Iv c d w s) (t : Nat) : q_Iv c d w (q_sA s 17 (va_cpy (s.1 2) (s.1 17) 0 (512 * t) 512)) := q_Iv_A (i := 17) h (q_hf_cp (h.1 17) (fun k hk => h.1 2 _))

theorem dzl_M304_67_82 (s : q_S) (t : Nat) (ht : t < 3) {v1 v3 v4 : Int32} (h1 : v1.toInt = 0) (h3 : v3.toInt = ((2048 * t : Nat) : Int)) (h4 : v4.toInt = 2048) : dz_M304_67_82 s v1 v3 v4 = some (q_sA s 18 (va_cpy (s.1 3) (s.1 18) 0 (2048 * t) 2048)) := q_lays0 (L := fun m => dz_M304_67_82_3 m) (a := 3) (b := 18) (na := 2048) (nb := 6144) (g := (fun x => x)) rfl (fun _ _ _ _ _ _ => rfl) s h1 h3 h4 (by omega) (by omega) (by decide) (by decide) (by decide)
theorem dzi_M304_67_82 {c d w : Int} {s : q_S} (h : q_Iv c d w s) (t : Nat) : q_Iv c d w (q_sA s 18 (va_cpy (s.1 3) (s.1 18) 0 (2048 * t) 2048)) := q_Iv_A (i := 18) h (q_hf_cp (h.1 18) (fun k hk => h.1 3 _))

theorem dzl_M304_68_83 (s : q_S) (t : Nat) (ht : t < 3) {v1 v3 v4 : Int32} (h1 : v1.toInt = 0) (h3 : v3.toInt = ((48 * t : Nat) : Int)) (h4 : v4.toInt = 48) : dz_M304_68_83 s v1 v3 v4 = some (q_sA s 19 (va_cpy (s.1 4) (s.1 19) 0 (48 * t) 48)) := q_lays0 (L := fun m => dz_M304_68_83_3 m) (a := 4) (b := 19) (na := 48) (nb := 144) (g := (fun x => x)) rfl (fun _ _ _ _ _ _ => rfl) s h1 h3 h4 (by omega) (by omega) (by decide) (by decide) (by decide)
theorem dzi_M304_68_83 {c d w : Int} {s : q_S} (h : q_Iv c d w s) (t : Nat) : q_Iv c d w (q_sA s 19 (va_cpy (s.1 4) (s.1 19) 0 (48 * t) 48)) := q_Iv_A (i := 19) h (q_hf_cp (h.1 19) (fun k hk => by show q_rgz 0 (q_hg ((48 * t + k) % 48)) (s.1 4 (0 + k)); rw [q_m48z k hk, Nat.zero_add]; exact h.1 4 k))

theorem dzl_M304_69_84 (s : q_S) (t : Nat) (ht : t < 3) {v1 v3 v4 : Int32} (h1 : v1.toInt = 0) (h3 : v3.toInt = ((1024 * t : Nat) : Int)) (h4 : v4.toInt = 1024) : dz_M304_69_84 s v1 v3 v4 = some (q_sA s 20 (va_cpy (s.1 5) (s.1 20) 0 (1024 * t) 1024)) := q_lays0 (L := fun m => dz_M304_69_84_3 m) (a := 5) (b := 20) (na := 1024) (nb := 3072) (g := (fun x => x)) rfl (fun _ _ _ _ _ _ => rfl) s h1 h3 h4 (by omega) (by omega) (by decide) (by decide) (by decide)
theorem dzi_M304_69_84 {c d w : Int} {s : q_S} (h : q_Iv c d w s) (t : Nat) : q_Iv c d w (q_sA s 20 (va_cpy (s.1 5) (s.1 20) 0 (1024 * t) 1024)) := q_Iv_A (i := 20) h (q_hf_cp (h.1 20) (fun k hk => h.1 5 _))

theorem dzl_M304_70_85 (s : q_S) (t : Nat) (ht : t < 3) {v1 v3 v4 : Int32} (h1 : v1.toInt = 0) (h3 : v3.toInt = ((40 * t : Nat) : Int)) (h4 : v4.toInt = 40) : dz_M304_70_85 s v1 v3 v4 = some (q_sA s 21 (va_cpy (s.1 6) (s.1 21) 0 (40 * t) 40)) := q_lays0 (L := fun m => dz_M304_70_85_3 m) (a := 6) (b := 21) (na := 40) (nb := 120) (g := (fun x => x)) rfl (fun _ _ _ _ _ _ => rfl) s h1 h3 h4 (by omega) (by omega) (by decide) (by decide) (by decide)
theorem dzi_M304_70_85 {c d w : Int} {s : q_S} (h : q_Iv c d w s) (t : Nat) : q_Iv c d w (q_sA s 21 (va_cpy (s.1 6) (s.1 21) 0 (40 * t) 40)) := q_Iv_A (i := 21) h (q_hf_cp (h.1 21) (fun k hk => h.1 6 _))

theorem dzl_M304_72_87 (s : q_S) (t : Nat) (ht : t < 3) {v1 v3 v4 : Int32} (h1 : v1.toInt = 0) (h3 : v3.toInt = ((40 * t : Nat) : Int)) (h4 : v4.toInt = 40) : dz_M304_72_87 s v1 v3 v4 = some (q_sA s 23 (va_cpy (s.1 8) (s.1 23) 0 (40 * t) 40)) := q_lays0 (L := fun m => dz_M304_72_87_3 m) (a := 8) (b := 23) (na := 40) (nb := 120) (g := (fun x => x)) rfl (fun _ _ _ _ _ _ => rfl) s h1 h3 h4 (by omega) (by omega) (by decide) (by decide) (by decide)
theorem dzi_M304_72_87 {c d w : Int} {s : q_S} (h : q_Iv c d w s) (t : Nat) : q_Iv c d w (q_sA s 23 (va_cpy (s.1 8) (s.1 23) 0 (40 * t) 40)) := q_Iv_A (i := 23) h (q_hf_cp (h.1 23) (fun k hk => h.1 8 _))

theorem dzl_M304_73_88 (s : q_S) (t : Nat) (ht : t < 3) {v1 v3 v4 : Int32} (h1 : v1.toInt = 0) (h3 : v3.toInt = ((16 * t : Nat) : Int)) (h4 : v4.toInt = 16) : dz_M304_73_88 s v1 v3 v4 = some (q_sA s 24 (va_cpy (s.1 9) (s.1 24) 0 (16 * t) 16)) := q_lays0 (L := fun m => dz_M304_73_88_3 m) (a := 9) (b := 24) (na := 16) (nb := 48) (g := (fun x => x)) rfl (fun _ _ _ _ _ _ => rfl) s h1 h3 h4 (by omega) (by omega) (by decide) (by decide) (by decide)
theorem dzi_M304_73_88 {c d w : Int} {s : q_S} (h : q_Iv c d w s) (t : Nat) : q_Iv c d w (q_sA s 24 (va_cpy (s.1 9) (s.1 24) 0 (16 * t) 16)) := q_Iv_A (i := 24) h (q_hf_cp (h.1 24) (fun k hk => h.1 9 _))

theorem dzl_M304_74_89 (s : q_S) (t : Nat) (ht : t < 3) {v1 v3 v4 : Int32} (h1 : v1.toInt = 0) (h3 : v3.toInt = ((3 * t : Nat) : Int)) (h4 : v4.toInt = 3) : dz_M304_74_89 s v1 v3 v4 = some (q_sA s 25 (va_cpy (s.1 10) (s.1 25) 0 (3 * t) 3)) := q_lays0 (L := fun m => dz_M304_74_89_3 m) (a := 10) (b := 25) (na := 3) (nb := 9) (g := (fun x => x)) rfl (fun _ _ _ _ _ _ => rfl) s h1 h3 h4 (by omega) (by omega) (by decide) (by decide) (by decide)
theorem dzi_M304_74_89 {c d w : Int} {s : q_S} (h : q_Iv c d w s) (t : Nat) : q_Iv c d w (q_sA s 25 (va_cpy (s.1 10) (s.1 25) 0 (3 * t) 3)) := q_Iv_A (i := 25) h (q_hf_cp (h.1 25) (fun k hk => h.1 10 _))

theorem dzl_M304_75_90 (s : q_S) (t : Nat) (ht : t < 3) {v1 v3 v4 : Int32} (h1 : v1.toInt = 0) (h3 : v3.toInt = ((3 * t : Nat) : Int)) (h4 : v4.toInt = 3) : dz_M304_75_90 s v1 v3 v4 = some (q_sA s 26 (va_cpy (s.1 11) (s.1 26) 0 (3 * t) 3)) := q_lays0 (L := fun m => dz_M304_75_90_3 m) (a := 11) (b := 26) (na := 3) (nb := 9) (g := (fun x => x)) rfl (fun _ _ _ _ _ _ => rfl) s h1 h3 h4 (by omega) (by omega) (by decide) (by decide) (by decide)
theorem dzi_M304_75_90 {c d w : Int} {s : q_S} (h : q_Iv c d w s) (t : Nat) : q_Iv c d w (q_sA s 26 (va_cpy (s.1 11) (s.1 26) 0 (3 * t) 3)) := q_Iv_A (i := 26) h (q_hf_cp (h.1 26) (fun k hk => h.1 11 _))

theorem dzl_M304_76_91 (s : q_S) (t : Nat) (ht : t < 3) {v1 v3 v4 : Int32} (h1 : v1.toInt = 0) (h3 : v3.toInt = ((3 * t : Nat) : Int)) (h4 : v4.toInt = 3) : dz_M304_76_91 s v1 v3 v4 = some (q_sA s 27 (va_cpy (s.1 12) (s.1 27) 0 (3 * t) 3)) := q_lays0 (L := fun m => dz_M304_76_91_3 m) (a := 12) (b := 27) (na := 3) (nb := 9) (g := (fun x => x)) rfl (fun _ _ _ _ _ _ => rfl) s h1 h3 h4 (by omega) (by omega) (by decide) (by decide) (by decide)
theorem dzi_M304_76_91 {c d w : Int} {s : q_S} (h : q_Iv c d w s) (t : Nat) : q_Iv c d w (q_sA s 27 (va_cpy (s.1 12) (s.1 27) 0 (3 * t) 3)) := q_Iv_A (i := 27) h (q_hf_cp (h.1 27) (fun k hk => h.1 12 _))

theorem dzl_M304_77_92 (s : q_S) (t : Nat) (ht : t < 3) {v1 v3 v4 : Int32} (h1 : v1.toInt = 0) (h3 : v3.toInt = ((3 * t : Nat) : Int)) (h4 : v4.toInt = 3) : dz_M304_77_92 s v1 v3 v4 = some (q_sA s 28 (va_cpy (s.1 13) (s.1 28) 0 (3 * t) 3)) := q_lays0 (L := fun m => dz_M304_77_92_3 m) (a := 13) (b := 28) (na := 3) (nb := 9) (g := (fun x => x)) rfl (fun _ _ _ _ _ _ => rfl) s h1 h3 h4 (by omega) (by omega) (by decide) (by decide) (by decide)
theorem dzi_M304_77_92 {c d w : Int} {s : q_S} (h : q_Iv c d w s) (t : Nat) : q_Iv c d w (q_sA s 28 (va_cpy (s.1 13) (s.1 28) 0 (3 * t) 3)) := q_Iv_A (i := 28) h (q_hf_cp (h.1 28) (fun k hk => h.1 13 _))

theorem dzl_M304_78_93 (s : q_S) (t : Nat) (ht : t < 3) {v1 v3 v4 : Int32} (h1 : v1.toInt = 0) (h3 : v3.toInt = ((24 * t : Nat) : Int)) (h4 : v4.toInt = 24) : dz_M304_78_93 s v1 v3 v4 = some (q_sA s 29 (va_cpy (s.1 14) (s.1 29) 0 (24 * t) 24)) := q_lays0 (L := fun m => dz_M304_78_93_3 m) (a := 14) (b := 29) (na := 24) (nb := 72) (g := (fun x => x)) rfl (fun _ _ _ _ _ _ => rfl) s h1 h3 h4 (by omega) (by omega) (by decide) (by decide) (by decide)
theorem dzi_M304_78_93 {c d w : Int} {s : q_S} (h : q_Iv c d w s) (t : Nat) : q_Iv c d w (q_sA s 29 (va_cpy (s.1 14) (s.1 29) 0 (24 * t) 24)) := q_Iv_A (i := 29) h (q_hf_cp (h.1 29) (fun k hk => by show q_rgz (q_lr 14 ((24 * t + k) % 24)) (q_hn d ((24 * t + k) % 24)) (s.1 14 (0 + k)); rw [q_m24z k hk, Nat.zero_add]; exact h.1 14 k))

theorem dzl_M305_71_86 (s : q_S) (t : Nat) (ht : t < 3) {v1 v3 v4 : Int32} (h1 : v1.toInt = 0) (h3 : v3.toInt = ((16 * t : Nat) : Int)) (h4 : v4.toInt = 16) : dz_M305_71_86 s v1 v3 v4 = some (q_sA s 22 (va_cpy (fun i => vp_nar .boolean (s.1 7 i)) (s.1 22) 0 (16 * t) 16)) := q_lays0 (L := fun m => dz_M305_71_86_3 m) (a := 7) (b := 22) (na := 16) (nb := 48) (g := (fun x => vp_nar .boolean x)) rfl (fun _ _ _ _ _ _ => rfl) s h1 h3 h4 (by omega) (by omega) (by decide) (by decide) (by decide)
theorem dzi_M305_71_86 {c d w : Int} {s : q_S} (h : q_Iv c d w s) (t : Nat) : q_Iv c d w (q_sA s 22 (va_cpy (fun i => vp_nar .boolean (s.1 7 i)) (s.1 22) 0 (16 * t) 16)) := q_Iv_A (i := 22) h (q_hf_cp (h.1 22) (fun k hk => q_rg_nb _))

theorem dzl_M305_79_94 (s : q_S) (t : Nat) (ht : t < 3) {v1 v3 v4 : Int32} (h1 : v1.toInt = 0) (h3 : v3.toInt = ((8 * t : Nat) : Int)) (h4 : v4.toInt = 8) : dz_M305_79_94 s v1 v3 v4 = some (q_sA s 30 (va_cpy (fun i => vp_nar .boolean (s.1 15 i)) (s.1 30) 0 (8 * t) 8)) := q_lays0 (L := fun m => dz_M305_79_94_3 m) (a := 15) (b := 30) (na := 8) (nb := 24) (g := (fun x => vp_nar .boolean x)) rfl (fun _ _ _ _ _ _ => rfl) s h1 h3 h4 (by omega) (by omega) (by decide) (by decide) (by decide)
theorem dzi_M305_79_94 {c d w : Int} {s : q_S} (h : q_Iv c d w s) (t : Nat) : q_Iv c d w (q_sA s 30 (va_cpy (fun i => vp_nar .boolean (s.1 15 i)) (s.1 30) 0 (8 * t) 8)) := q_Iv_A (i := 30) h (q_hf_cp (h.1 30) (fun k hk => q_rg_nb _))

/-- what save lays, and what restore lays back -/
def q_sv (t : Nat) (s : q_S) : q_S := (q_sA (q_sA (q_sA (q_sA (q_sA (q_sA (q_sA (q_sA (q_sA (q_sA (q_sA (q_sA (q_sA (q_sA (q_sA s 16 (va_cpy (s.1 1) (s.1 16) 0 (4096 * t) 4096)) 17 (va_cpy (s.1 2) (s.1 17) 0 (512 * t) 512)) 18 (va_cpy (s.1 3) (s.1 18) 0 (2048 * t) 2048)) 19 (va_cpy (s.1 4) (s.1 19) 0 (48 * t) 48)) 20 (va_cpy (s.1 5) (s.1 20) 0 (1024 * t) 1024)) 21 (va_cpy (s.1 6) (s.1 21) 0 (40 * t) 40)) 23 (va_cpy (s.1 8) (s.1 23) 0 (40 * t) 40)) 24 (va_cpy (s.1 9) (s.1 24) 0 (16 * t) 16)) 25 (va_cpy (s.1 10) (s.1 25) 0 (3 * t) 3)) 26 (va_cpy (s.1 11) (s.1 26) 0 (3 * t) 3)) 27 (va_cpy (s.1 12) (s.1 27) 0 (3 * t) 3)) 28 (va_cpy (s.1 13) (s.1 28) 0 (3 * t) 3)) 29 (va_cpy (s.1 14) (s.1 29) 0 (24 * t) 24)) 22 (va_cpy (fun i => vp_nar .boolean (s.1 7 i)) (s.1 22) 0 (16 * t) 16)) 30 (va_cpy (fun i => vp_nar .boolean (s.1 15 i)) (s.1 30) 0 (8 * t) 8))
theorem q_sv_I {c d w : Int} {s : q_S} (h : q_Iv c d w s) (t : Nat) : q_Iv c d w (q_sv t s) := by
  unfold q_sv
  exact (dzi_M305_79_94 (dzi_M305_71_86 (dzi_M304_78_93 (dzi_M304_77_92 (dzi_M304_76_91 (dzi_M304_75_90 (dzi_M304_74_89 (dzi_M304_73_88 (dzi_M304_72_87 (dzi_M304_70_85 (dzi_M304_69_84 (dzi_M304_68_83 (dzi_M304_67_82 (dzi_M304_66_81 (dzi_M304_65_80 h t) t) t) t) t) t) t) t) t) t) t) t) t) t) t)
theorem q_svJ {c d w : Int} {s : q_S} {i j : Nat} (h : q_Iv c d w s) : q_Iv c d w (q_sL (q_sL s 31 (vp_updL (s.2.2 31) i (s.2.2 0 15))) 31 (vp_updL (vp_updL (s.2.2 31) i (s.2.2 0 15)) j (s.2.2 0 16))) := q_Iv_L (q_Iv_L h (q_hf_upL (fun k => h.2.2 31 k rfl) (h.2.2 0 15 rfl))) (q_hf_upL (q_hf_upL (fun k => h.2.2 31 k rfl) (h.2.2 0 15 rfl)) (h.2.2 0 16 rfl))
theorem q_sv_f (t : Nat) (s : q_S) : (q_sv t s).2 = s.2 := rfl
theorem q_sv_run (c d w : Int) (s : q_S) (hI : q_Iv c d w s) (x : Int32) (t : Nat) (ht : t < 3) (hx : x.toInt = (t : Int)) (hx2 : s.2.1 0 17 = x) (f : q_S → Option (q_S × Int32)) (P : q_S × Int32 → Prop) (hf : q_Ex (f (q_sv t s)) P) : q_Ex ((dz_M304_65_80 s 0 (4096 * x) 4096).bind fun r0 => (dz_M304_66_81 r0 0 (512 * x) 512).bind fun r1 => (dz_M304_67_82 r1 0 (2048 * x) 2048).bind fun r2 => (dz_M304_68_83 r2 0 (48 * x) 48).bind fun r3 => (dz_M304_69_84 r3 0 (1024 * x) 1024).bind fun r4 => (dz_M304_70_85 r4 0 (40 * x) 40).bind fun r5 => (dz_M304_72_87 r5 0 (40 * x) 40).bind fun r6 => (dz_M304_73_88 r6 0 (16 * x) 16).bind fun r7 => (dz_M304_74_89 r7 0 (3 * x) 3).bind fun r8 => (dz_M304_75_90 r8 0 (3 * x) 3).bind fun r9 => (dz_M304_76_91 r9 0 (3 * x) 3).bind fun r10 => (dz_M304_77_92 r10 0 (3 * x) 3).bind fun r11 => (dz_M304_78_93 r11 0 (24 * x) 24).bind fun r12 => (dz_M305_71_86 r12 0 (16 * x) 16).bind fun r13 => (dz_M305_79_94 r13 0 (8 * x) 8).bind fun r14 => f r14) P := by
  rw [dzl_M304_65_80 _ t ht rfl (q_mulT hx ht (n := 4096) rfl (by decide)) rfl]
  refine q_E_B ?_
  rw [dzl_M304_66_81 _ t ht rfl (q_mulT hx ht (n := 512) rfl (by decide)) rfl]
  refine q_E_B ?_
  rw [dzl_M304_67_82 _ t ht rfl (q_mulT hx ht (n := 2048) rfl (by decide)) rfl]
  refine q_E_B ?_
  rw [dzl_M304_68_83 _ t ht rfl (q_mulT hx ht (n := 48) rfl (by decide)) rfl]
  refine q_E_B ?_
  rw [dzl_M304_69_84 _ t ht rfl (q_mulT hx ht (n := 1024) rfl (by decide)) rfl]
  refine q_E_B ?_
  rw [dzl_M304_70_85 _ t ht rfl (q_mulT hx ht (n := 40) rfl (by decide)) rfl]
  refine q_E_B ?_
  rw [dzl_M304_72_87 _ t ht rfl (q_mulT hx ht (n := 40) rfl (by decide)) rfl]
  refine q_E_B ?_
  rw [dzl_M304_73_88 _ t ht rfl (q_mulT hx ht (n := 16) rfl (by decide)) rfl]
  refine q_E_B ?_
  rw [dzl_M304_74_89 _ t ht rfl (q_mulT hx ht (n := 3) rfl (by decide)) rfl]
  refine q_E_B ?_
  rw [dzl_M304_75_90 _ t ht rfl (q_mulT hx ht (n := 3) rfl (by decide)) rfl]
  refine q_E_B ?_
  rw [dzl_M304_76_91 _ t ht rfl (q_mulT hx ht (n := 3) rfl (by decide)) rfl]
  refine q_E_B ?_
  rw [dzl_M304_77_92 _ t ht rfl (q_mulT hx ht (n := 3) rfl (by decide)) rfl]
  refine q_E_B ?_
  rw [dzl_M304_78_93 _ t ht rfl (q_mulT hx ht (n := 24) rfl (by decide)) rfl]
  refine q_E_B ?_
  rw [dzl_M305_71_86 _ t ht rfl (q_mulT hx ht (n := 16) rfl (by decide)) rfl]
  refine q_E_B ?_
  rw [dzl_M305_79_94 _ t ht rfl (q_mulT hx ht (n := 8) rfl (by decide)) rfl]
  refine q_E_B ?_
  exact hf
theorem dzj_M306_64 (c d w : Int) (s : q_S) (hI : q_Iv c d w s) : q_Ex (dz_M306_64 s) (fun x => q_Iv c d w x.1) := by
  unfold dz_M306_64
  have g : q_rgz 0 3 (s.2.1 0 17) := hI.2.1 0 17
  cases h : decide (s.2.1 0 17 = 3) with
  | true =>
    refine q_E_T (q_E_L ?_)
    have j := q_fails s 1 hI
    generalize dz_M200_64 s 1 = r at j ⊢
    cases h : r.2 with
    | true => exact q_E_T (q_E_x j.1)
    | false => exact (q_failsF j h (q_rg_lit (n := 1) rfl) (by decide)).elim
  | false =>
    refine q_E_F (q_E_L ?_)
    have g2 := q_rg_neU (U := 2) h g (q_rg_lit (n := 3) (x := 3) rfl |>.1 |> fun _ => rfl) rfl (by decide)
    have j := q_fails s 0 hI
    generalize dz_M200_64 s 0 = r at j ⊢
    cases h : r.2 with
    | true => exact (q_failsT j h (q_rg_lit (n := 0) rfl) (by decide)).elim
    | false =>
      refine q_E_F ?_
      have e17 := j.2.2.2.1 17 rfl
      have g3 : q_rgz 0 2 (r.1.2.1 0 17) := by rw [e17]; exact g2
      have jI := j.1
      generalize hx2 : r.1.2.1 0 17 = x at g3 ⊢
      have t0 := g3.1
      have t1 := g3.2
      refine q_sv_run c d w r.1 jI x x.toInt.toNat (by omega) (by omega) hx2 (fun r1487 => cond (q_in (2 * x) 6) (cond (q_in ((2 * x) + 1) 6) (q_let ((q_sL r1487 31 (vp_updL (r1487.2.2 31) ((2 * x).toNatClampNeg) (r1487.2.2 0 15)))) fun r1488 => some ((q_sI (q_sL r1488 31 (vp_updL (r1488.2.2 31) (((2 * x) + 1).toNatClampNeg) (r1487.2.2 0 16))) 0 17 ((r1488.2.1 0 17) + 1)), x)) none) none) _ ?_
      have I2 := q_sv_I jI x.toInt.toNat
      have m2 := q_rg_mul (a := 2) (L := 0) (U := 4) (q_rg_lit (n := 2) rfl) g3 (by decide) (by decide) (by decide) (by decide) (by decide) (by decide)
      refine q_E_A (q_in_rg m2 (by decide) (by decide)) (q_E_A (q_in_rg (q_rg_add (L := 1) (U := 5) m2 (q_rg_lit (n := 1) (x := 1) rfl) (by decide) (by decide) (by decide) (by decide)) (by decide) (by decide)) (q_E_L (q_E_x ?_)))
      refine q_Iv_I (i := 0) (m := 17) (q_svJ I2) ?_
      show q_rgz 0 3 ((r.1.2.1 0 17) + 1)
      rw [hx2]
      exact q_rg_le (q_rg_add (L := 1) (U := 3) g3 (q_rg_lit (n := 1) (x := 1) rfl) (by decide) (by decide) (by decide) (by decide)) (by decide) (by decide)

set_option maxHeartbeats 4000000 in
theorem dzjb_M307_64_4 (c d w : Int) (k4 : q_S → Int32 → Int32 → Int32 → Option (Int32)) (M4 : Int) (tk4 : ∀ (s : q_S), q_Iv c d w s → ∀ (v1 : Int32) (v2 : Int32) (v3 : Int32), q_rgz 0 2 v1 → q_rgz 0 4096 v3 → ((4096 - v3.toInt).toNat : Int) ≤ M4 → q_Ex (k4 s v1 v2 v3) (fun _ => True)) (s : q_S) (hI : q_Iv c d w s) (v1 : Int32) (v2 : Int32) (v3 : Int32) (rv1 : q_rgz 0 2 v1) (rv3 : q_rgz 0 4096 v3) (m4 : ((4096 - v3.toInt).toNat : Int) ≤ M4 + 1) : q_Ex (cond (decide (v3 < 4096)) (cond (q_in v3 4096) (cond (q_in ((4096 * v1) + v3) 12288) (cond (decide ((s.1 1) (v3.toNatClampNeg) = (s.1 16) (((4096 * v1) + v3).toNatClampNeg))) (k4 s v1 (v2 + 0) (v3 + 1)) (k4 s v1 (v2 + 1) (v3 + 1))) none) none) (some v2)) (fun _ => True) := by
  cases h4606 : decide (v3 < 4096) with
  | true =>
    have g4607 := (q_rg_ltT1 (l := 0) (U := 4095) h4606 rv3 (q_rg_lit (n := 4096) (x := 4096) rfl) (by decide))
    refine q_E_T ?_
    refine q_E_A (q_in_rg g4607 (by decide) (by decide)) ?_
    refine q_E_A (q_in_rg (q_rg_add (L := 0) (U := 12287) (q_rg_mul (L := 0) (U := 8192) (q_rg_lit (n := 4096) (x := 4096) rfl) rv1 (by decide) (by decide) (by decide) (by decide) (by decide) (by decide)) g4607 (by decide) (by decide) (by decide) (by decide)) (by decide) (by decide)) ?_
    cases h4608 : decide ((s.1 1) (v3.toNatClampNeg) = (s.1 16) (((4096 * v1) + v3).toNatClampNeg)) with
    | true =>
      refine q_E_T ?_
      exact tk4 (s) hI (v1) (v2 + 0) (v3 + 1) (q_rg_le (L := 0) (U := 2) rv1 (by decide) (by decide)) (q_rg_le (L := 0) (U := 4096) (q_rg_add (L := 1) (U := 4096) g4607 (q_rg_lit (n := 1) (x := 1) rfl) (by decide) (by decide) (by decide) (by decide)) (by decide) (by decide)) (q_meu g4607 m4 (by decide) (by decide))
    | false =>
      refine q_E_F ?_
      exact tk4 (s) hI (v1) (v2 + 1) (v3 + 1) (q_rg_le (L := 0) (U := 2) rv1 (by decide) (by decide)) (q_rg_le (L := 0) (U := 4096) (q_rg_add (L := 1) (U := 4096) g4607 (q_rg_lit (n := 1) (x := 1) rfl) (by decide) (by decide) (by decide) (by decide)) (by decide) (by decide)) (q_meu g4607 m4 (by decide) (by decide))
  | false =>
    have g4609 := (q_rg_ltF1 (l2 := 4096) (u := 4096) h4606 rv3 (q_rg_lit (n := 4096) (x := 4096) rfl))
    refine q_E_F ?_
    exact q_E_x trivial
theorem dzj_M307_64_4 (c d w : Int) : ∀ (m : Nat) (s : q_S) (hI : q_Iv c d w s) (v1 : Int32) (v2 : Int32) (v3 : Int32) (rv1 : q_rgz 0 2 v1) (rv3 : q_rgz 0 4096 v3), ((4096 - v3.toInt).toNat : Int) ≤ (m : Int) → q_Ex (dz_M307_64_4 (m + 1) s v1 v2 v3) (fun _ => True) := by
  intro m
  induction m with
  | zero => intro s hI v1 v2 v3 rv1 rv3 hm; rw [dzs_M307_64_4]; exact dzjb_M307_64_4 c d w (dz_M307_64_4 0) (-1) (fun s hI v1 v2 v3 rv1 rv3 hm => absurd hm (by omega)) s hI v1 v2 v3 rv1 rv3 (by omega)
  | succ m ih => intro s hI v1 v2 v3 rv1 rv3 hm; rw [dzs_M307_64_4]; exact dzjb_M307_64_4 c d w (dz_M307_64_4 (m + 1)) (m : Int) (fun s hI v1 v2 v3 rv1 rv3 hm => ih s hI v1 v2 v3 rv1 rv3 hm) s hI v1 v2 v3 rv1 rv3 (by omega)
set_option maxHeartbeats 4000000 in
theorem dzj_M307_64 (c d w : Int) (s : q_S) (hI : q_Iv c d w s) (a1 : Int32) (ra1 : q_rgz 0 2 a1) : q_Ex (dz_M307_64 s a1) (fun _ => True) := by
  unfold dz_M307_64
  exact dzj_M307_64_4 c d w 4999 (s) hI (a1) (0) (0) (q_rg_le (L := 0) (U := 2) ra1 (by decide) (by decide)) (q_rg_le (L := 0) (U := 4096) (q_rg_lit (n := 0) (x := 0) rfl) (by decide) (by decide)) (q_meu0 (q_rg_lit (n := 0) (x := 0) rfl) (by decide) (by decide))
theorem dzl_M304_80_65 (s : q_S) (t : Nat) (ht : t < 3) {v1 v3 v4 : Int32} (h1 : v1.toInt = ((4096 * t : Nat) : Int)) (h3 : v3.toInt = 0) (h4 : v4.toInt = 4096) : dz_M304_80_65 s v1 v3 v4 = some (q_sA s 1 (va_cpy (s.1 16) (s.1 1) (4096 * t) 0 4096)) := q_lays0 (L := fun m => dz_M304_80_65_3 m) (a := 16) (b := 1) (na := 12288) (nb := 4096) (g := (fun x => x)) rfl (fun _ _ _ _ _ _ => rfl) s h1 h3 h4 (by omega) (by omega) (by decide) (by decide) (by decide)
theorem dzi_M304_80_65 {c d w : Int} {s : q_S} (h : q_Iv c d w s) (t : Nat) : q_Iv c d w (q_sA s 1 (va_cpy (s.1 16) (s.1 1) (4096 * t) 0 4096)) := q_Iv_A (i := 1) h (q_hf_cp (h.1 1) (fun k hk => h.1 16 _))

theorem dzl_M304_81_66 (s : q_S) (t : Nat) (ht : t < 3) {v1 v3 v4 : Int32} (h1 : v1.toInt = ((512 * t : Nat) : Int)) (h3 : v3.toInt = 0) (h4 : v4.toInt = 512) : dz_M304_81_66 s v1 v3 v4 = some (q_sA s 2 (va_cpy (s.1 17) (s.1 2) (512 * t) 0 512)) := q_lays0 (L := fun m => dz_M304_81_66_3 m) (a := 17) (b := 2) (na := 1536) (nb := 512) (g := (fun x => x)) rfl (fun _ _ _ _ _ _ => rfl) s h1 h3 h4 (by omega) (by omega) (by decide) (by decide) (by decide)
theorem dzi_M304_81_66 {c d w : Int} {s : q_S} (h : q_Iv c d w s) (t : Nat) : q_Iv c d w (q_sA s 2 (va_cpy (s.1 17) (s.1 2) (512 * t) 0 512)) := q_Iv_A (i := 2) h (q_hf_cp (h.1 2) (fun k hk => h.1 17 _))

theorem dzl_M304_82_67 (s : q_S) (t : Nat) (ht : t < 3) {v1 v3 v4 : Int32} (h1 : v1.toInt = ((2048 * t : Nat) : Int)) (h3 : v3.toInt = 0) (h4 : v4.toInt = 2048) : dz_M304_82_67 s v1 v3 v4 = some (q_sA s 3 (va_cpy (s.1 18) (s.1 3) (2048 * t) 0 2048)) := q_lays0 (L := fun m => dz_M304_82_67_3 m) (a := 18) (b := 3) (na := 6144) (nb := 2048) (g := (fun x => x)) rfl (fun _ _ _ _ _ _ => rfl) s h1 h3 h4 (by omega) (by omega) (by decide) (by decide) (by decide)
theorem dzi_M304_82_67 {c d w : Int} {s : q_S} (h : q_Iv c d w s) (t : Nat) : q_Iv c d w (q_sA s 3 (va_cpy (s.1 18) (s.1 3) (2048 * t) 0 2048)) := q_Iv_A (i := 3) h (q_hf_cp (h.1 3) (fun k hk => h.1 18 _))

theorem dzl_M304_83_68 (s : q_S) (t : Nat) (ht : t < 3) {v1 v3 v4 : Int32} (h1 : v1.toInt = ((48 * t : Nat) : Int)) (h3 : v3.toInt = 0) (h4 : v4.toInt = 48) : dz_M304_83_68 s v1 v3 v4 = some (q_sA s 4 (va_cpy (s.1 19) (s.1 4) (48 * t) 0 48)) := q_lays0 (L := fun m => dz_M304_83_68_3 m) (a := 19) (b := 4) (na := 144) (nb := 48) (g := (fun x => x)) rfl (fun _ _ _ _ _ _ => rfl) s h1 h3 h4 (by omega) (by omega) (by decide) (by decide) (by decide)
theorem dzi_M304_83_68 {c d w : Int} {s : q_S} (h : q_Iv c d w s) (t : Nat) : q_Iv c d w (q_sA s 4 (va_cpy (s.1 19) (s.1 4) (48 * t) 0 48)) := q_Iv_A (i := 4) h (q_hf_cp (h.1 4) (fun k hk => by have e : q_rgz 0 (q_hg ((48 * t + k) % 48)) (s.1 19 (48 * t + k)) := h.1 19 (48 * t + k); show q_rgz 0 (q_hg (0 + k)) (s.1 19 (48 * t + k)); rw [Nat.zero_add]; rw [q_m48z k hk] at e; exact e))

theorem dzl_M304_84_69 (s : q_S) (t : Nat) (ht : t < 3) {v1 v3 v4 : Int32} (h1 : v1.toInt = ((1024 * t : Nat) : Int)) (h3 : v3.toInt = 0) (h4 : v4.toInt = 1024) : dz_M304_84_69 s v1 v3 v4 = some (q_sA s 5 (va_cpy (s.1 20) (s.1 5) (1024 * t) 0 1024)) := q_lays0 (L := fun m => dz_M304_84_69_3 m) (a := 20) (b := 5) (na := 3072) (nb := 1024) (g := (fun x => x)) rfl (fun _ _ _ _ _ _ => rfl) s h1 h3 h4 (by omega) (by omega) (by decide) (by decide) (by decide)
theorem dzi_M304_84_69 {c d w : Int} {s : q_S} (h : q_Iv c d w s) (t : Nat) : q_Iv c d w (q_sA s 5 (va_cpy (s.1 20) (s.1 5) (1024 * t) 0 1024)) := q_Iv_A (i := 5) h (q_hf_cp (h.1 5) (fun k hk => h.1 20 _))

theorem dzl_M304_85_70 (s : q_S) (t : Nat) (ht : t < 3) {v1 v3 v4 : Int32} (h1 : v1.toInt = ((40 * t : Nat) : Int)) (h3 : v3.toInt = 0) (h4 : v4.toInt = 40) : dz_M304_85_70 s v1 v3 v4 = some (q_sA s 6 (va_cpy (s.1 21) (s.1 6) (40 * t) 0 40)) := q_lays0 (L := fun m => dz_M304_85_70_3 m) (a := 21) (b := 6) (na := 120) (nb := 40) (g := (fun x => x)) rfl (fun _ _ _ _ _ _ => rfl) s h1 h3 h4 (by omega) (by omega) (by decide) (by decide) (by decide)
theorem dzi_M304_85_70 {c d w : Int} {s : q_S} (h : q_Iv c d w s) (t : Nat) : q_Iv c d w (q_sA s 6 (va_cpy (s.1 21) (s.1 6) (40 * t) 0 40)) := q_Iv_A (i := 6) h (q_hf_cp (h.1 6) (fun k hk => h.1 21 _))

theorem dzl_M304_87_72 (s : q_S) (t : Nat) (ht : t < 3) {v1 v3 v4 : Int32} (h1 : v1.toInt = ((40 * t : Nat) : Int)) (h3 : v3.toInt = 0) (h4 : v4.toInt = 40) : dz_M304_87_72 s v1 v3 v4 = some (q_sA s 8 (va_cpy (s.1 23) (s.1 8) (40 * t) 0 40)) := q_lays0 (L := fun m => dz_M304_87_72_3 m) (a := 23) (b := 8) (na := 120) (nb := 40) (g := (fun x => x)) rfl (fun _ _ _ _ _ _ => rfl) s h1 h3 h4 (by omega) (by omega) (by decide) (by decide) (by decide)
theorem dzi_M304_87_72 {c d w : Int} {s : q_S} (h : q_Iv c d w s) (t : Nat) : q_Iv c d w (q_sA s 8 (va_cpy (s.1 23) (s.1 8) (40 * t) 0 40)) := q_Iv_A (i := 8) h (q_hf_cp (h.1 8) (fun k hk => h.1 23 _))

theorem dzl_M304_88_73 (s : q_S) (t : Nat) (ht : t < 3) {v1 v3 v4 : Int32} (h1 : v1.toInt = ((16 * t : Nat) : Int)) (h3 : v3.toInt = 0) (h4 : v4.toInt = 16) : dz_M304_88_73 s v1 v3 v4 = some (q_sA s 9 (va_cpy (s.1 24) (s.1 9) (16 * t) 0 16)) := q_lays0 (L := fun m => dz_M304_88_73_3 m) (a := 24) (b := 9) (na := 48) (nb := 16) (g := (fun x => x)) rfl (fun _ _ _ _ _ _ => rfl) s h1 h3 h4 (by omega) (by omega) (by decide) (by decide) (by decide)
theorem dzi_M304_88_73 {c d w : Int} {s : q_S} (h : q_Iv c d w s) (t : Nat) : q_Iv c d w (q_sA s 9 (va_cpy (s.1 24) (s.1 9) (16 * t) 0 16)) := q_Iv_A (i := 9) h (q_hf_cp (h.1 9) (fun k hk => h.1 24 _))

theorem dzl_M304_89_74 (s : q_S) (t : Nat) (ht : t < 3) {v1 v3 v4 : Int32} (h1 : v1.toInt = ((3 * t : Nat) : Int)) (h3 : v3.toInt = 0) (h4 : v4.toInt = 3) : dz_M304_89_74 s v1 v3 v4 = some (q_sA s 10 (va_cpy (s.1 25) (s.1 10) (3 * t) 0 3)) := q_lays0 (L := fun m => dz_M304_89_74_3 m) (a := 25) (b := 10) (na := 9) (nb := 3) (g := (fun x => x)) rfl (fun _ _ _ _ _ _ => rfl) s h1 h3 h4 (by omega) (by omega) (by decide) (by decide) (by decide)
theorem dzi_M304_89_74 {c d w : Int} {s : q_S} (h : q_Iv c d w s) (t : Nat) : q_Iv c d w (q_sA s 10 (va_cpy (s.1 25) (s.1 10) (3 * t) 0 3)) := q_Iv_A (i := 10) h (q_hf_cp (h.1 10) (fun k hk => h.1 25 _))

theorem dzl_M304_90_75 (s : q_S) (t : Nat) (ht : t < 3) {v1 v3 v4 : Int32} (h1 : v1.toInt = ((3 * t : Nat) : Int)) (h3 : v3.toInt = 0) (h4 : v4.toInt = 3) : dz_M304_90_75 s v1 v3 v4 = some (q_sA s 11 (va_cpy (s.1 26) (s.1 11) (3 * t) 0 3)) := q_lays0 (L := fun m => dz_M304_90_75_3 m) (a := 26) (b := 11) (na := 9) (nb := 3) (g := (fun x => x)) rfl (fun _ _ _ _ _ _ => rfl) s h1 h3 h4 (by omega) (by omega) (by decide) (by decide) (by decide)
theorem dzi_M304_90_75 {c d w : Int} {s : q_S} (h : q_Iv c d w s) (t : Nat) : q_Iv c d w (q_sA s 11 (va_cpy (s.1 26) (s.1 11) (3 * t) 0 3)) := q_Iv_A (i := 11) h (q_hf_cp (h.1 11) (fun k hk => h.1 26 _))

theorem dzl_M304_91_76 (s : q_S) (t : Nat) (ht : t < 3) {v1 v3 v4 : Int32} (h1 : v1.toInt = ((3 * t : Nat) : Int)) (h3 : v3.toInt = 0) (h4 : v4.toInt = 3) : dz_M304_91_76 s v1 v3 v4 = some (q_sA s 12 (va_cpy (s.1 27) (s.1 12) (3 * t) 0 3)) := q_lays0 (L := fun m => dz_M304_91_76_3 m) (a := 27) (b := 12) (na := 9) (nb := 3) (g := (fun x => x)) rfl (fun _ _ _ _ _ _ => rfl) s h1 h3 h4 (by omega) (by omega) (by decide) (by decide) (by decide)
theorem dzi_M304_91_76 {c d w : Int} {s : q_S} (h : q_Iv c d w s) (t : Nat) : q_Iv c d w (q_sA s 12 (va_cpy (s.1 27) (s.1 12) (3 * t) 0 3)) := q_Iv_A (i := 12) h (q_hf_cp (h.1 12) (fun k hk => h.1 27 _))

theorem dzl_M304_92_77 (s : q_S) (t : Nat) (ht : t < 3) {v1 v3 v4 : Int32} (h1 : v1.toInt = ((3 * t : Nat) : Int)) (h3 : v3.toInt = 0) (h4 : v4.toInt = 3) : dz_M304_92_77 s v1 v3 v4 = some (q_sA s 13 (va_cpy (s.1 28) (s.1 13) (3 * t) 0 3)) := q_lays0 (L := fun m => dz_M304_92_77_3 m) (a := 28) (b := 13) (na := 9) (nb := 3) (g := (fun x => x)) rfl (fun _ _ _ _ _ _ => rfl) s h1 h3 h4 (by omega) (by omega) (by decide) (by decide) (by decide)
theorem dzi_M304_92_77 {c d w : Int} {s : q_S} (h : q_Iv c d w s) (t : Nat) : q_Iv c d w (q_sA s 13 (va_cpy (s.1 28) (s.1 13) (3 * t) 0 3)) := q_Iv_A (i := 13) h (q_hf_cp (h.1 13) (fun k hk => h.1 28 _))

theorem dzl_M304_93_78 (s : q_S) (t : Nat) (ht : t < 3) {v1 v3 v4 : Int32} (h1 : v1.toInt = ((24 * t : Nat) : Int)) (h3 : v3.toInt = 0) (h4 : v4.toInt = 24) : dz_M304_93_78 s v1 v3 v4 = some (q_sA s 14 (va_cpy (s.1 29) (s.1 14) (24 * t) 0 24)) := q_lays0 (L := fun m => dz_M304_93_78_3 m) (a := 29) (b := 14) (na := 72) (nb := 24) (g := (fun x => x)) rfl (fun _ _ _ _ _ _ => rfl) s h1 h3 h4 (by omega) (by omega) (by decide) (by decide) (by decide)
theorem dzi_M304_93_78 {c d w : Int} {s : q_S} (h : q_Iv c d w s) (t : Nat) : q_Iv c d w (q_sA s 14 (va_cpy (s.1 29) (s.1 14) (24 * t) 0 24)) := q_Iv_A (i := 14) h (q_hf_cp (h.1 14) (fun k hk => by have e := h.1 29 (24 * t + k); show q_rgz (q_lr 14 (0 + k)) (q_hn d (0 + k)) (s.1 29 (24 * t + k)); rw [Nat.zero_add]; have e2 : q_rgz (q_lr 14 ((24 * t + k) % 24)) (q_hn d ((24 * t + k) % 24)) (s.1 29 (24 * t + k)) := e; rw [q_m24z k hk] at e2; exact e2))

theorem dzl_M305_86_71 (s : q_S) (t : Nat) (ht : t < 3) {v1 v3 v4 : Int32} (h1 : v1.toInt = ((16 * t : Nat) : Int)) (h3 : v3.toInt = 0) (h4 : v4.toInt = 16) : dz_M305_86_71 s v1 v3 v4 = some (q_sA s 7 (va_cpy (fun i => vp_nar .boolean (s.1 22 i)) (s.1 7) (16 * t) 0 16)) := q_lays0 (L := fun m => dz_M305_86_71_3 m) (a := 22) (b := 7) (na := 48) (nb := 16) (g := (fun x => vp_nar .boolean x)) rfl (fun _ _ _ _ _ _ => rfl) s h1 h3 h4 (by omega) (by omega) (by decide) (by decide) (by decide)
theorem dzi_M305_86_71 {c d w : Int} {s : q_S} (h : q_Iv c d w s) (t : Nat) : q_Iv c d w (q_sA s 7 (va_cpy (fun i => vp_nar .boolean (s.1 22 i)) (s.1 7) (16 * t) 0 16)) := q_Iv_A (i := 7) h (q_hf_cp (h.1 7) (fun k hk => q_rg_nb _))

theorem dzl_M305_94_79 (s : q_S) (t : Nat) (ht : t < 3) {v1 v3 v4 : Int32} (h1 : v1.toInt = ((8 * t : Nat) : Int)) (h3 : v3.toInt = 0) (h4 : v4.toInt = 8) : dz_M305_94_79 s v1 v3 v4 = some (q_sA s 15 (va_cpy (fun i => vp_nar .boolean (s.1 30 i)) (s.1 15) (8 * t) 0 8)) := q_lays0 (L := fun m => dz_M305_94_79_3 m) (a := 30) (b := 15) (na := 24) (nb := 8) (g := (fun x => vp_nar .boolean x)) rfl (fun _ _ _ _ _ _ => rfl) s h1 h3 h4 (by omega) (by omega) (by decide) (by decide) (by decide)
theorem dzi_M305_94_79 {c d w : Int} {s : q_S} (h : q_Iv c d w s) (t : Nat) : q_Iv c d w (q_sA s 15 (va_cpy (fun i => vp_nar .boolean (s.1 30 i)) (s.1 15) (8 * t) 0 8)) := q_Iv_A (i := 15) h (q_hf_cp (h.1 15) (fun k hk => q_rg_nb _))

def q_rsz (t : Nat) (s : q_S) : q_S := (q_sA (q_sA (q_sA (q_sA (q_sA (q_sA (q_sA (q_sA (q_sA (q_sA (q_sA (q_sA (q_sA (q_sA (q_sA s 1 (va_cpy (s.1 16) (s.1 1) (4096 * t) 0 4096)) 2 (va_cpy (s.1 17) (s.1 2) (512 * t) 0 512)) 3 (va_cpy (s.1 18) (s.1 3) (2048 * t) 0 2048)) 4 (va_cpy (s.1 19) (s.1 4) (48 * t) 0 48)) 5 (va_cpy (s.1 20) (s.1 5) (1024 * t) 0 1024)) 6 (va_cpy (s.1 21) (s.1 6) (40 * t) 0 40)) 8 (va_cpy (s.1 23) (s.1 8) (40 * t) 0 40)) 9 (va_cpy (s.1 24) (s.1 9) (16 * t) 0 16)) 10 (va_cpy (s.1 25) (s.1 10) (3 * t) 0 3)) 11 (va_cpy (s.1 26) (s.1 11) (3 * t) 0 3)) 12 (va_cpy (s.1 27) (s.1 12) (3 * t) 0 3)) 13 (va_cpy (s.1 28) (s.1 13) (3 * t) 0 3)) 14 (va_cpy (s.1 29) (s.1 14) (24 * t) 0 24)) 7 (va_cpy (fun i => vp_nar .boolean (s.1 22 i)) (s.1 7) (16 * t) 0 16)) 15 (va_cpy (fun i => vp_nar .boolean (s.1 30 i)) (s.1 15) (8 * t) 0 8))
theorem q_rs_I {c d w : Int} {s : q_S} (h : q_Iv c d w s) (t : Nat) : q_Iv c d w (q_rsz t s) := by
  unfold q_rsz
  exact (dzi_M305_94_79 (dzi_M305_86_71 (dzi_M304_93_78 (dzi_M304_92_77 (dzi_M304_91_76 (dzi_M304_90_75 (dzi_M304_89_74 (dzi_M304_88_73 (dzi_M304_87_72 (dzi_M304_85_70 (dzi_M304_84_69 (dzi_M304_83_68 (dzi_M304_82_67 (dzi_M304_81_66 (dzi_M304_80_65 h t) t) t) t) t) t) t) t) t) t) t) t) t) t) t)
theorem q_rs_run (s : q_S) (x : Int32) (t : Nat) (ht : t < 3) (hx : x.toInt = (t : Int)) (f : q_S → Option (q_S × Int32)) (P : q_S × Int32 → Prop) (hf : q_Ex (f (q_rsz t s)) P) : q_Ex ((dz_M304_80_65 s (4096 * x) 0 4096).bind fun r0 => (dz_M304_81_66 r0 (512 * x) 0 512).bind fun r1 => (dz_M304_82_67 r1 (2048 * x) 0 2048).bind fun r2 => (dz_M304_83_68 r2 (48 * x) 0 48).bind fun r3 => (dz_M304_84_69 r3 (1024 * x) 0 1024).bind fun r4 => (dz_M304_85_70 r4 (40 * x) 0 40).bind fun r5 => (dz_M304_87_72 r5 (40 * x) 0 40).bind fun r6 => (dz_M304_88_73 r6 (16 * x) 0 16).bind fun r7 => (dz_M304_89_74 r7 (3 * x) 0 3).bind fun r8 => (dz_M304_90_75 r8 (3 * x) 0 3).bind fun r9 => (dz_M304_91_76 r9 (3 * x) 0 3).bind fun r10 => (dz_M304_92_77 r10 (3 * x) 0 3).bind fun r11 => (dz_M304_93_78 r11 (24 * x) 0 24).bind fun r12 => (dz_M305_86_71 r12 (16 * x) 0 16).bind fun r13 => (dz_M305_94_79 r13 (8 * x) 0 8).bind fun r14 => f r14) P := by
  rw [dzl_M304_80_65 _ t ht (q_mulT hx ht (n := 4096) rfl (by decide)) rfl rfl]
  refine q_E_B ?_
  rw [dzl_M304_81_66 _ t ht (q_mulT hx ht (n := 512) rfl (by decide)) rfl rfl]
  refine q_E_B ?_
  rw [dzl_M304_82_67 _ t ht (q_mulT hx ht (n := 2048) rfl (by decide)) rfl rfl]
  refine q_E_B ?_
  rw [dzl_M304_83_68 _ t ht (q_mulT hx ht (n := 48) rfl (by decide)) rfl rfl]
  refine q_E_B ?_
  rw [dzl_M304_84_69 _ t ht (q_mulT hx ht (n := 1024) rfl (by decide)) rfl rfl]
  refine q_E_B ?_
  rw [dzl_M304_85_70 _ t ht (q_mulT hx ht (n := 40) rfl (by decide)) rfl rfl]
  refine q_E_B ?_
  rw [dzl_M304_87_72 _ t ht (q_mulT hx ht (n := 40) rfl (by decide)) rfl rfl]
  refine q_E_B ?_
  rw [dzl_M304_88_73 _ t ht (q_mulT hx ht (n := 16) rfl (by decide)) rfl rfl]
  refine q_E_B ?_
  rw [dzl_M304_89_74 _ t ht (q_mulT hx ht (n := 3) rfl (by decide)) rfl rfl]
  refine q_E_B ?_
  rw [dzl_M304_90_75 _ t ht (q_mulT hx ht (n := 3) rfl (by decide)) rfl rfl]
  refine q_E_B ?_
  rw [dzl_M304_91_76 _ t ht (q_mulT hx ht (n := 3) rfl (by decide)) rfl rfl]
  refine q_E_B ?_
  rw [dzl_M304_92_77 _ t ht (q_mulT hx ht (n := 3) rfl (by decide)) rfl rfl]
  refine q_E_B ?_
  rw [dzl_M304_93_78 _ t ht (q_mulT hx ht (n := 24) rfl (by decide)) rfl rfl]
  refine q_E_B ?_
  rw [dzl_M305_86_71 _ t ht (q_mulT hx ht (n := 16) rfl (by decide)) rfl rfl]
  refine q_E_B ?_
  rw [dzl_M305_94_79 _ t ht (q_mulT hx ht (n := 8) rfl (by decide)) rfl rfl]
  refine q_E_B ?_
  exact hf
theorem dzj_M308_64 (c d w : Int) (s : q_S) (hI : q_Iv c d w s) (a1 : Int32) : q_Ex (dz_M308_64 s a1) (fun x => q_Iv c d w x.1) := by
  unfold dz_M308_64
  have g : q_rgz 0 3 (s.2.1 0 17) := hI.2.1 0 17
  have g9 := q_rg_sub (L := -1) (U := 2) g (q_rg_lit (n := 1) (x := 1) rfl) (by decide) (by decide) (by decide) (by decide)
  refine q_E_L ?_
  generalize p1 : dz_M202 s a1 0 ((s.2.1 0 17) - 1) = r
  cases r with
  | true =>
    have ga := q_p202 p1 (q_rg_lit (n := 0) rfl) g9
    have t0 := ga.1
    have t1 := ga.2
    refine q_E_T (q_E_L ?_)
    have j := q_fails s 0 hI
    generalize dz_M200_64 s 0 = r at j ⊢
    cases h : r.2 with
    | true => exact (q_failsT j h (q_rg_lit (n := 0) rfl) (by decide)).elim
    | false =>
      refine q_E_F ?_
      have jI := j.1
      obtain ⟨r1511, er, hr⟩ := dzj_M307_64 c d w r.1 jI a1 (q_rg_le ga (by decide) (by decide))
      rw [er]
      refine q_E_B ?_
      refine q_rs_run r.1 a1 a1.toInt.toNat (by omega) (by omega) (fun r1526 => cond (q_in (2 * a1) 6) (cond (q_in ((2 * a1) + 1) 6) (some ((q_sI (q_sJ (q_sJ r1526 0 15 ((r1526.2.2 31) ((2 * a1).toNatClampNeg))) 0 16 ((r1526.2.2 31) (((2 * a1) + 1).toNatClampNeg))) 0 34 (-1)), r1511)) none) none) _ ?_
      have I2 := q_rs_I jI a1.toInt.toNat
      have m2 := q_rg_mul (a := 2) (L := 0) (U := 4) (q_rg_lit (n := 2) rfl) ga (by decide) (by decide) (by decide) (by decide) (by decide) (by decide)
      refine q_E_A (q_in_rg m2 (by decide) (by decide)) (q_E_A (q_in_rg (q_rg_add (L := 1) (U := 5) m2 (q_rg_lit (n := 1) (x := 1) rfl) (by decide) (by decide) (by decide) (by decide)) (by decide) (by decide)) (q_E_x ?_))
      exact q_Iv_I (i := 0) (m := 34) (q_Iv_J (q_Iv_J I2 (I2.2.2 31 _ rfl)) (I2.2.2 31 _ rfl)) (q_rg_full _)
  | false =>
    refine q_E_F (q_E_L ?_)
    have j := q_fails s 1 hI
    generalize dz_M200_64 s 1 = r at j ⊢
    cases h : r.2 with
    | true => exact q_E_T (q_E_x j.1)
    | false => exact (q_failsF j h (q_rg_lit (n := 1) rfl) (by decide)).elim

set_option maxHeartbeats 4000000 in
theorem dzj_M309_64 (c d w : Int) (s : q_S) (hI : q_Iv c d w s) (a1 : Int32) : q_Ex (dz_M309_64 s a1) (fun (x : q_S × Int32) => q_Iv c d w x.1) := by
  unfold dz_M309_64
  refine q_E_L ?_
  generalize p4618 : dz_M202 s a1 0 ((s.2.1 0 17) - 1) = r4
  cases r4 with
  | true =>
    have g4619 : q_rgz 0 2 (a1) := ⟨(q_p202 p4618 (q_rg_lit (n := 0) (x := 0) rfl) (q_rg_sub (L := -1) (U := 2) (q_f17 hI) (q_rg_lit (n := 1) (x := 1) rfl) (by decide) (by decide) (by decide) (by decide))).1, (q_p202 p4618 (q_rg_lit (n := 0) (x := 0) rfl) (q_rg_sub (L := -1) (U := 2) (q_f17 hI) (q_rg_lit (n := 1) (x := 1) rfl) (by decide) (by decide) (by decide) (by decide))).2⟩
    refine q_E_T ?_
    have j4620 := q_fails (s) (0) hI
    refine q_E_L ?_
    generalize dz_M200_64 s 0 = r5 at j4620 ⊢
    cases h4621 : r5.2 with
    | true =>
      exact (q_failsT j4620 h4621 (q_rg_lit (n := 0) (x := 0) rfl) (by decide)).elim
    | false =>
      refine q_E_F ?_
      obtain ⟨r6, e4623, j4622⟩ := dzj_M307_64 c d w (r5.1) j4620.1 (a1) (q_rg_le (L := 0) (U := 2) g4619 (by decide) (by decide))
      rw [e4623]
      refine q_E_B ?_
      exact q_E_x j4620.1
  | false =>
    refine q_E_F ?_
    have j4624 := q_fails (s) (1) hI
    refine q_E_L ?_
    generalize dz_M200_64 s 1 = r7 at j4624 ⊢
    cases h4625 : r7.2 with
    | true =>
      refine q_E_T ?_
      exact q_E_x j4624.1
    | false =>
      exact (q_failsF j4624 h4625 (q_rg_lit (n := 1) (x := 1) rfl) (by decide)).elim
set_option maxHeartbeats 4000000 in
theorem dzj_M310_64 (c d w : Int) (s : q_S) (hI : q_Iv c d w s) : (fun (x : q_S × Int32) => q_Iv c d w x.1) (dz_M310_64 s) := by
  refine q_S_of (P := (fun (x : q_S × Int32) => q_Iv c d w x.1)) ?_
  unfold dz_M310_64
  have j4628 : q_rgz 0 2147483647 (if (0 : Int32) < (s.2.1 0 34) then (s.2.1 0 34) else (0 : Int32)) := (q_rg_max (L := 0) (U := 2147483647) (q_rg_full _) (q_rg_lit (n := 0) (x := 0) rfl) (by decide) (by decide) (by decide))
  refine q_S_L ?_
  generalize (if (0 : Int32) < (s.2.1 0 34) then (s.2.1 0 34) else (0 : Int32)) = x1 at j4628 ⊢
  have j4629 := dzj_M201_64 c d w (q_sI s 0 34 0) (q_Iv_I (i := 0) (m := 34) hI (q_rg_full _)) (x1)
  refine q_S_L ?_
  generalize dz_M201_64 (q_sI s 0 34 0) x1 = r2 at j4629 ⊢
  exact q_E_x j4629
set_option maxHeartbeats 4000000 in
theorem dzj_M311_64 (c d w : Int) (s : q_S) (hI : q_Iv c d w s) : (fun (x : q_S × Int32) => q_Iv c d w x.1) (dz_M311_64 s) := by
  refine q_S_of (P := (fun (x : q_S × Int32) => q_Iv c d w x.1)) ?_
  unfold dz_M311_64
  cases h4639 : decide (s.2.1 0 34 < 0) with
  | true =>
    have g4640 := (q_rg_ltT1 (l := -2147483648) (U := -1) h4639 (q_rg_full _) (q_rg_lit (n := 0) (x := 0) rfl) (by decide))
    refine q_S_T ?_
    have j4641 := q_fails (s) (1) hI
    refine q_S_L ?_
    generalize dz_M200_64 s 1 = r1 at j4641 ⊢
    have g4642 : q_rgz (-2147483648) (-1) (r1.1.2.1 0 34) := by rw [j4641.2.2.2.1 34 (by decide)]; exact g4640
    cases h4643 : r1.2 with
    | true =>
      refine q_S_T ?_
      exact q_E_x j4641.1
    | false =>
      exact (q_failsF j4641 h4643 (q_rg_lit (n := 1) (x := 1) rfl) (by decide)).elim
  | false =>
    have g4644 := (q_rg_ltF1 (l2 := 0) (u := 2147483647) h4639 (q_rg_full _) (q_rg_lit (n := 0) (x := 0) rfl))
    refine q_S_F ?_
    have j4645 := q_fails (s) (0) hI
    refine q_S_L ?_
    generalize dz_M200_64 s 0 = r2 at j4645 ⊢
    have g4646 : q_rgz 0 2147483647 (r2.1.2.1 0 34) := by rw [j4645.2.2.2.1 34 (by decide)]; exact g4644
    cases h4647 : r2.2 with
    | true =>
      exact (q_failsT j4645 h4647 (q_rg_lit (n := 0) (x := 0) rfl) (by decide)).elim
    | false =>
      refine q_S_F ?_
      exact q_E_x j4645.1
set_option maxHeartbeats 4000000 in
theorem dzj_M312_64 (c d w : Int) (s : q_S) (hI : q_Iv c d w s) : (fun (x : q_S × Bool) => q_Iv c d w x.1) (dz_M312_64 s) := by
  refine q_S_of (P := (fun (x : q_S × Bool) => q_Iv c d w x.1)) ?_
  unfold dz_M312_64
  cases h4657 : decide (s.2.1 0 34 < 0) with
  | true =>
    have g4658 := (q_rg_ltT1 (l := -2147483648) (U := -1) h4657 (q_rg_full _) (q_rg_lit (n := 0) (x := 0) rfl) (by decide))
    refine q_S_T ?_
    have j4659 := q_fails (s) (1) hI
    refine q_S_L ?_
    generalize dz_M200_64 s 1 = r1 at j4659 ⊢
    have g4660 : q_rgz (-2147483648) (-1) (r1.1.2.1 0 34) := by rw [j4659.2.2.2.1 34 (by decide)]; exact g4658
    cases h4661 : r1.2 with
    | true =>
      refine q_S_T ?_
      exact q_E_x j4659.1
    | false =>
      exact (q_failsF j4659 h4661 (q_rg_lit (n := 1) (x := 1) rfl) (by decide)).elim
  | false =>
    have g4662 := (q_rg_ltF1 (l2 := 0) (u := 2147483647) h4657 (q_rg_full _) (q_rg_lit (n := 0) (x := 0) rfl))
    refine q_S_F ?_
    have j4663 := q_fails (s) (0) hI
    refine q_S_L ?_
    generalize dz_M200_64 s 0 = r2 at j4663 ⊢
    have g4664 : q_rgz 0 2147483647 (r2.1.2.1 0 34) := by rw [j4663.2.2.2.1 34 (by decide)]; exact g4662
    cases h4665 : r2.2 with
    | true =>
      exact (q_failsT j4663 h4665 (q_rg_lit (n := 0) (x := 0) rfl) (by decide)).elim
    | false =>
      refine q_S_F ?_
      exact q_E_x j4663.1
set_option maxHeartbeats 4000000 in
theorem dzjb_M313_64_9 (c d w : Int) (k9 : q_S → Int32 → Int32 → Option (q_S × Int32)) (M9 : Int) (tk9 : ∀ (s : q_S), q_Iv c d w s → ∀ (v1 : Int32) (v2 : Int32), q_rgz 0 1024 v2 → ((1024 - v2.toInt).toNat : Int) ≤ M9 → q_Ex (k9 s v1 v2) (fun (x : q_S × Int32) => q_Iv c d w x.1)) (s : q_S) (hI : q_Iv c d w s) (v1 : Int32) (v2 : Int32) (rv2 : q_rgz 0 1024 v2) (m9 : ((1024 - v2.toInt).toNat : Int) ≤ M9 + 1) : q_Ex (cond (decide (v2 < 1024)) (cond (q_in v2 1024) (k9 s ((31 * v1) + ((s.1 5) (v2.toNatClampNeg))) (v2 + 1)) none) (some (s, v1))) (fun (x : q_S × Int32) => q_Iv c d w x.1) := by
  cases h4678 : decide (v2 < 1024) with
  | true =>
    have g4679 := (q_rg_ltT1 (l := 0) (U := 1023) h4678 rv2 (q_rg_lit (n := 1024) (x := 1024) rfl) (by decide))
    refine q_E_T ?_
    refine q_E_A (q_in_rg g4679 (by decide) (by decide)) ?_
    exact tk9 (s) hI ((31 * v1) + ((s.1 5) (v2.toNatClampNeg))) (v2 + 1) (q_rg_le (L := 0) (U := 1024) (q_rg_add (L := 1) (U := 1024) g4679 (q_rg_lit (n := 1) (x := 1) rfl) (by decide) (by decide) (by decide) (by decide)) (by decide) (by decide)) (q_meu g4679 m9 (by decide) (by decide))
  | false =>
    have g4680 := (q_rg_ltF1 (l2 := 1024) (u := 1024) h4678 rv2 (q_rg_lit (n := 1024) (x := 1024) rfl))
    refine q_E_F ?_
    exact q_E_x hI
theorem dzj_M313_64_9 (c d w : Int) : ∀ (m : Nat) (s : q_S) (hI : q_Iv c d w s) (v1 : Int32) (v2 : Int32) (rv2 : q_rgz 0 1024 v2), ((1024 - v2.toInt).toNat : Int) ≤ (m : Int) → q_Ex (dz_M313_64_9 (m + 1) s v1 v2) (fun (x : q_S × Int32) => q_Iv c d w x.1) := by
  intro m
  induction m with
  | zero => intro s hI v1 v2 rv2 hm; rw [dzs_M313_64_9]; exact dzjb_M313_64_9 c d w (dz_M313_64_9 0) (-1) (fun s hI v1 v2 rv2 hm => absurd hm (by omega)) s hI v1 v2 rv2 (by omega)
  | succ m ih => intro s hI v1 v2 rv2 hm; rw [dzs_M313_64_9]; exact dzjb_M313_64_9 c d w (dz_M313_64_9 (m + 1)) (m : Int) (fun s hI v1 v2 rv2 hm => ih s hI v1 v2 rv2 hm) s hI v1 v2 rv2 (by omega)
set_option maxHeartbeats 4000000 in
theorem dzj_M313_64 (c d w : Int) (s : q_S) (hI : q_Iv c d w s) : q_Ex (dz_M313_64 s) (fun (x : q_S × Int32) => q_Iv c d w x.1) := by
  unfold dz_M313_64
  exact dzj_M313_64_9 c d w 4999 (q_sI s 0 39 0) (q_Iv_I (i := 0) (m := 39) hI (q_rg_full _)) (0) (0) (q_rg_le (L := 0) (U := 1024) (q_rg_lit (n := 0) (x := 0) rfl) (by decide) (by decide)) (q_meu0 (q_rg_lit (n := 0) (x := 0) rfl) (by decide) (by decide))
set_option maxHeartbeats 4000000 in
theorem dzj_M314_64 (c d w : Int) (s : q_S) (hI : q_Iv c d w s) : (fun (x : q_S × Int64) => q_Iv c d w x.1) (dz_M314_64 s) := by
  refine q_S_of (P := (fun (x : q_S × Int64) => q_Iv c d w x.1)) ?_
  unfold dz_M314_64
  exact q_E_x (q_Iv_I (i := 0) (m := 39) hI (q_rg_full _))
set_option maxHeartbeats 4000000 in
theorem dzjb_M315_64_9 (c d w : Int) (k9 : q_S → Int32 → Int32 → Option (q_S × UInt32)) (M9 : Int) (tk9 : ∀ (s : q_S), q_Iv c d w s → ∀ (v1 : Int32) (v2 : Int32), q_rgz 0 1024 v2 → ((1024 - v2.toInt).toNat : Int) ≤ M9 → q_Ex (k9 s v1 v2) (fun (x : q_S × UInt32) => q_Iv c d w x.1)) (s : q_S) (hI : q_Iv c d w s) (v1 : Int32) (v2 : Int32) (rv2 : q_rgz 0 1024 v2) (m9 : ((1024 - v2.toInt).toNat : Int) ≤ M9 + 1) : q_Ex (cond (decide (v2 < 1024)) (cond (q_in v2 1024) (cond (decide ((s.1 5) (v2.toNatClampNeg) = (s.1 4) 3)) (k9 s (v1 + 0) (v2 + 1)) (k9 s (v1 + 1) (v2 + 1))) none) (cond (q_nnf (FP.fdiv (FP.i2f v1) 1149239296)) (some (s, (FP.fdiv (FP.i2f v1) 1149239296))) none)) (fun (x : q_S × UInt32) => q_Iv c d w x.1) := by
  cases h4685 : decide (v2 < 1024) with
  | true =>
    have g4686 := (q_rg_ltT1 (l := 0) (U := 1023) h4685 rv2 (q_rg_lit (n := 1024) (x := 1024) rfl) (by decide))
    refine q_E_T ?_
    refine q_E_A (q_in_rg g4686 (by decide) (by decide)) ?_
    cases h4687 : decide ((s.1 5) (v2.toNatClampNeg) = (s.1 4) 3) with
    | true =>
      refine q_E_T ?_
      exact tk9 (s) hI (v1 + 0) (v2 + 1) (q_rg_le (L := 0) (U := 1024) (q_rg_add (L := 1) (U := 1024) g4686 (q_rg_lit (n := 1) (x := 1) rfl) (by decide) (by decide) (by decide) (by decide)) (by decide) (by decide)) (q_meu g4686 m9 (by decide) (by decide))
    | false =>
      refine q_E_F ?_
      exact tk9 (s) hI (v1 + 1) (v2 + 1) (q_rg_le (L := 0) (U := 1024) (q_rg_add (L := 1) (U := 1024) g4686 (q_rg_lit (n := 1) (x := 1) rfl) (by decide) (by decide) (by decide) (by decide)) (by decide) (by decide)) (q_meu g4686 m9 (by decide) (by decide))
  | false =>
    have g4688 := (q_rg_ltF1 (l2 := 1024) (u := 1024) h4685 rv2 (q_rg_lit (n := 1024) (x := 1024) rfl))
    refine q_E_F ?_
    refine q_E_A (q_nnS _) ?_
    exact q_E_x hI
theorem dzj_M315_64_9 (c d w : Int) : ∀ (m : Nat) (s : q_S) (hI : q_Iv c d w s) (v1 : Int32) (v2 : Int32) (rv2 : q_rgz 0 1024 v2), ((1024 - v2.toInt).toNat : Int) ≤ (m : Int) → q_Ex (dz_M315_64_9 (m + 1) s v1 v2) (fun (x : q_S × UInt32) => q_Iv c d w x.1) := by
  intro m
  induction m with
  | zero => intro s hI v1 v2 rv2 hm; rw [dzs_M315_64_9]; exact dzjb_M315_64_9 c d w (dz_M315_64_9 0) (-1) (fun s hI v1 v2 rv2 hm => absurd hm (by omega)) s hI v1 v2 rv2 (by omega)
  | succ m ih => intro s hI v1 v2 rv2 hm; rw [dzs_M315_64_9]; exact dzjb_M315_64_9 c d w (dz_M315_64_9 (m + 1)) (m : Int) (fun s hI v1 v2 rv2 hm => ih s hI v1 v2 rv2 hm) s hI v1 v2 rv2 (by omega)
set_option maxHeartbeats 4000000 in
theorem dzj_M315_64 (c d w : Int) (s : q_S) (hI : q_Iv c d w s) : q_Ex (dz_M315_64 s) (fun (x : q_S × UInt32) => q_Iv c d w x.1) := by
  unfold dz_M315_64
  exact dzj_M315_64_9 c d w 4999 (q_sI s 0 39 0) (q_Iv_I (i := 0) (m := 39) hI (q_rg_full _)) (0) (0) (q_rg_le (L := 0) (U := 1024) (q_rg_lit (n := 0) (x := 0) rfl) (by decide) (by decide)) (q_meu0 (q_rg_lit (n := 0) (x := 0) rfl) (by decide) (by decide))
set_option maxHeartbeats 4000000 in
theorem dzjb_M316_64_9 (c d w : Int) (k9 : q_S → Int32 → Int32 → Option (q_S × UInt64)) (M9 : Int) (tk9 : ∀ (s : q_S), q_Iv c d w s → ∀ (v1 : Int32) (v2 : Int32), q_rgz 0 40 v2 → ((40 - v2.toInt).toNat : Int) ≤ M9 → q_Ex (k9 s v1 v2) (fun (x : q_S × UInt64) => q_Iv c d w x.1)) (s : q_S) (hI : q_Iv c d w s) (v1 : Int32) (v2 : Int32) (rv2 : q_rgz 0 40 v2) (m9 : ((40 - v2.toInt).toNat : Int) ≤ M9 + 1) : q_Ex (cond (decide (v2 < 40)) (cond (q_in v2 40) (k9 s (v1 + ((s.1 6) (v2.toNatClampNeg))) (v2 + 1)) none) (cond (q_nnd (FP.ddiv (FP.i2d v1) 4630826316843712512)) (some (s, (FP.ddiv (FP.i2d v1) 4630826316843712512))) none)) (fun (x : q_S × UInt64) => q_Iv c d w x.1) := by
  cases h4692 : decide (v2 < 40) with
  | true =>
    have g4693 := (q_rg_ltT1 (l := 0) (U := 39) h4692 rv2 (q_rg_lit (n := 40) (x := 40) rfl) (by decide))
    refine q_E_T ?_
    refine q_E_A (q_in_rg g4693 (by decide) (by decide)) ?_
    exact tk9 (s) hI (v1 + ((s.1 6) (v2.toNatClampNeg))) (v2 + 1) (q_rg_le (L := 0) (U := 40) (q_rg_add (L := 1) (U := 40) g4693 (q_rg_lit (n := 1) (x := 1) rfl) (by decide) (by decide) (by decide) (by decide)) (by decide) (by decide)) (q_meu g4693 m9 (by decide) (by decide))
  | false =>
    have g4694 := (q_rg_ltF1 (l2 := 40) (u := 40) h4692 rv2 (q_rg_lit (n := 40) (x := 40) rfl))
    refine q_E_F ?_
    refine q_E_A (q_nnM _) ?_
    exact q_E_x hI
theorem dzj_M316_64_9 (c d w : Int) : ∀ (m : Nat) (s : q_S) (hI : q_Iv c d w s) (v1 : Int32) (v2 : Int32) (rv2 : q_rgz 0 40 v2), ((40 - v2.toInt).toNat : Int) ≤ (m : Int) → q_Ex (dz_M316_64_9 (m + 1) s v1 v2) (fun (x : q_S × UInt64) => q_Iv c d w x.1) := by
  intro m
  induction m with
  | zero => intro s hI v1 v2 rv2 hm; rw [dzs_M316_64_9]; exact dzjb_M316_64_9 c d w (dz_M316_64_9 0) (-1) (fun s hI v1 v2 rv2 hm => absurd hm (by omega)) s hI v1 v2 rv2 (by omega)
  | succ m ih => intro s hI v1 v2 rv2 hm; rw [dzs_M316_64_9]; exact dzjb_M316_64_9 c d w (dz_M316_64_9 (m + 1)) (m : Int) (fun s hI v1 v2 rv2 hm => ih s hI v1 v2 rv2 hm) s hI v1 v2 rv2 (by omega)
set_option maxHeartbeats 4000000 in
theorem dzj_M316_64 (c d w : Int) (s : q_S) (hI : q_Iv c d w s) : q_Ex (dz_M316_64 s) (fun (x : q_S × UInt64) => q_Iv c d w x.1) := by
  unfold dz_M316_64
  exact dzj_M316_64_9 c d w 4999 (q_sI s 0 39 0) (q_Iv_I (i := 0) (m := 39) hI (q_rg_full _)) (0) (0) (q_rg_le (L := 0) (U := 40) (q_rg_lit (n := 0) (x := 0) rfl) (by decide) (by decide)) (q_meu0 (q_rg_lit (n := 0) (x := 0) rfl) (by decide) (by decide))
end
section
-- 52.a
/-! ===== the class' machines: their flags, and that their functions give something ===== -/
def q_iN (s : q_S) : Prop := q_rgz 0 1 (s.2.1 23 6) ∧ q_rgz 0 1 (s.2.1 23 7)
theorem q_iN6 {s : q_S} (h : q_iN s) : q_rgz 0 1 (s.2.1 23 6) := h.1
theorem q_iN7 {s : q_S} (h : q_iN s) : q_rgz 0 1 (s.2.1 23 7) := h.2
theorem q_iN_A {s : q_S} {i : Nat} {f : Nat → Int32} (h : q_iN s) : q_iN (q_sA s i f) := h
theorem q_iN_L {s : q_S} {i : Nat} {f : Nat → Int64} (h : q_iN s) : q_iN (q_sL s i f) := h
theorem q_iN_J {s : q_S} {i k : Nat} {x : Int64} (h : q_iN s) : q_iN (q_sJ s i k x) := h
theorem q_uI_n2 {T : Type} {A : Nat → Nat → T} {i k j m : Nat} {x : T} (h : ¬ (i = j ∧ k = m)) : q_uI A i k x j m = A j m := by
  unfold q_uI
  cases e1 : Nat.beq j i with
  | false => rfl
  | true =>
    cases e2 : Nat.beq m k with
    | false => rfl
    | true => exact absurd ⟨(Nat.eq_of_beq_eq_true e1).symm, (Nat.eq_of_beq_eq_true e2).symm⟩ h
theorem q_iN_I {s : q_S} {i m : Nat} {x : Int32} (h : q_iN s) (hn : ¬ (i = 23 ∧ (m = 6 ∨ m = 7))) : q_iN (q_sI s i m x) := by
  refine ⟨?_, ?_⟩
  · show q_rgz 0 1 (q_uI s.2.1 i m x 23 6)
    rw [q_uI_n2 (fun e => hn ⟨e.1, Or.inl e.2⟩)]; exact h.1
  · show q_rgz 0 1 (q_uI s.2.1 i m x 23 7)
    rw [q_uI_n2 (fun e => hn ⟨e.1, Or.inr e.2⟩)]; exact h.2
theorem q_iN_F6 {s : q_S} {x : Int32} (h : q_iN s) (r : q_rgz 0 1 x) : q_iN (q_sI s 23 6 x) := ⟨r, h.2⟩
theorem q_iN_F7 {s : q_S} {x : Int32} (h : q_iN s) (r : q_rgz 0 1 x) : q_iN (q_sI s 23 7 x) := ⟨h.1, r⟩
def q_iW (s : q_S) : Prop := (q_rgz 0 1 (s.2.1 23 6) ∧ q_rgz 0 1 (s.2.1 23 7)) ∧ (q_rgz 0 1 (s.2.1 55 6) ∧ q_rgz 0 1 (s.2.1 55 7))
theorem q_iW6 {s : q_S} (h : q_iW s) : q_rgz 0 1 (s.2.1 23 6) := h.1.1
theorem q_iW7 {s : q_S} (h : q_iW s) : q_rgz 0 1 (s.2.1 23 7) := h.1.2
theorem q_iW16 {s : q_S} (h : q_iW s) : q_rgz 0 1 (s.2.1 55 6) := h.2.1
theorem q_iW17 {s : q_S} (h : q_iW s) : q_rgz 0 1 (s.2.1 55 7) := h.2.2
theorem q_iW_A {s : q_S} {i : Nat} {f : Nat → Int32} (h : q_iW s) : q_iW (q_sA s i f) := h
theorem q_iW_L {s : q_S} {i : Nat} {f : Nat → Int64} (h : q_iW s) : q_iW (q_sL s i f) := h
theorem q_iW_J {s : q_S} {i k : Nat} {x : Int64} (h : q_iW s) : q_iW (q_sJ s i k x) := h
theorem q_iW_I {s : q_S} {i m : Nat} {x : Int32} (h : q_iW s) (hn : ¬ ((i = 23 ∨ i = 55) ∧ (m = 6 ∨ m = 7))) : q_iW (q_sI s i m x) := by
  refine ⟨⟨?_, ?_⟩, ?_, ?_⟩
  · show q_rgz 0 1 (q_uI s.2.1 i m x 23 6)
    rw [q_uI_n2 (fun e => hn ⟨Or.inl e.1, Or.inl e.2⟩)]; exact h.1.1
  · show q_rgz 0 1 (q_uI s.2.1 i m x 23 7)
    rw [q_uI_n2 (fun e => hn ⟨Or.inl e.1, Or.inr e.2⟩)]; exact h.1.2
  · show q_rgz 0 1 (q_uI s.2.1 i m x 55 6)
    rw [q_uI_n2 (fun e => hn ⟨Or.inr e.1, Or.inl e.2⟩)]; exact h.2.1
  · show q_rgz 0 1 (q_uI s.2.1 i m x 55 7)
    rw [q_uI_n2 (fun e => hn ⟨Or.inr e.1, Or.inr e.2⟩)]; exact h.2.2
theorem q_iW_F6 {s : q_S} {x : Int32} (h : q_iW s) (r : q_rgz 0 1 x) : q_iW (q_sI s 23 6 x) := ⟨⟨r, h.1.2⟩, h.2⟩
theorem q_iW_F7 {s : q_S} {x : Int32} (h : q_iW s) (r : q_rgz 0 1 x) : q_iW (q_sI s 23 7 x) := ⟨⟨h.1.1, r⟩, h.2⟩
theorem q_iW_F16 {s : q_S} {x : Int32} (h : q_iW s) (r : q_rgz 0 1 x) : q_iW (q_sI s 55 6 x) := ⟨h.1, r, h.2.2⟩
theorem q_iW_F17 {s : q_S} {x : Int32} (h : q_iW s) (r : q_rgz 0 1 x) : q_iW (q_sI s 55 7 x) := ⟨h.1, h.2.1, r⟩
theorem dzj_N91_65  (s : q_S) (hI : q_iN s) (a1 : Int32) (a2 : Int32) : (fun _ => True) (dz_N91_65 s a1 a2) := trivial
set_option maxHeartbeats 4000000 in
theorem dzj_N90_65_73  (s : q_S) (hI : q_iN s) (v1 : Int32) (v3 : Int32) : q_Ex (dz_N90_65_73 s v1 v3) (fun _ => True) := by
  unfold dz_N90_65_73
  cases h83 : decide (v3 &&& 2 = 2) with
  | true =>
    have g84 := q_rg_eqT h83 (q_rg_lit (n := 2) (x := 2) rfl)
    refine q_E_T ?_
    cases h85 : decide (v1 < 2048) with
    | true =>
      have g86 := (q_rg_ltT1 (l := -2147483648) (U := 2047) h85 (q_rg_full _) (q_rg_lit (n := 2048) (x := 2048) rfl) (by decide))
      refine q_E_T ?_
      exact q_E_x trivial
    | false =>
      have g87 := (q_rg_ltF1 (l2 := 2048) (u := 2147483647) h85 (q_rg_full _) (q_rg_lit (n := 2048) (x := 2048) rfl))
      refine q_E_F ?_
      cases h88 : decide (v1 < 2560) with
      | true =>
        have g89 := (q_rg_ltT1 (l := 2048) (U := 2559) h88 g87 (q_rg_lit (n := 2560) (x := 2560) rfl) (by decide))
        refine q_E_T ?_
        refine q_E_A (q_in_rg (q_rg_sub (L := 0) (U := 2047) (q_rg_add (L := 2048) (U := 4095) (q_rg_mul (L := 0) (U := 1536) (q_rg_lit (n := 512) (x := 512) rfl) (q_rg_and (v3 >>> ((2 &&& 31) : Int32)) 3 (U := 3) (by decide) rfl) (by decide) (by decide) (by decide) (by decide) (by decide) (by decide)) g89 (by decide) (by decide) (by decide) (by decide)) (q_rg_lit (n := 2048) (x := 2048) rfl) (by decide) (by decide) (by decide) (by decide)) (by decide) (by decide)) ?_
        exact q_E_x trivial
      | false =>
        have g90 := (q_rg_ltF1 (l2 := 2560) (u := 2147483647) h88 g87 (q_rg_lit (n := 2560) (x := 2560) rfl))
        refine q_E_F ?_
        exact q_E_x trivial
  | false =>
    have g91 := (q_rg_neU (l := 0) (u := 2) (n := 2) (U := 1) h83 (q_rg_and v3 2 (U := 2) (by decide) rfl) rfl (by decide) (by decide))
    refine q_E_F ?_
    exact q_E_x trivial
set_option maxHeartbeats 4000000 in
theorem dzj_N90_65_31  (s : q_S) (hI : q_iN s) (v1 : Int32) : q_Ex (dz_N90_65_31 s v1) (fun _ => True) := by
  unfold dz_N90_65_31
  cases h92 : decide (((s.1 4) 0) &&& 1 = 1) with
  | true =>
    have g93 := q_rg_eqT h92 (q_rg_lit (n := 1) (x := 1) rfl)
    refine q_E_T ?_
    cases h94 : decide (v1 < 3072) with
    | true =>
      have g95 := (q_rg_ltT1 (l := -2147483648) (U := 3071) h94 (q_rg_full _) (q_rg_lit (n := 3072) (x := 3072) rfl) (by decide))
      refine q_E_T ?_
      exact dzj_N90_65_73 (s) hI (v1) ((s.1 4) 0)
    | false =>
      have g96 := (q_rg_ltF1 (l2 := 3072) (u := 2147483647) h94 (q_rg_full _) (q_rg_lit (n := 3072) (x := 3072) rfl))
      refine q_E_F ?_
      cases h97 : decide (v1 < 3584) with
      | true =>
        have g98 := (q_rg_ltT1 (l := 3072) (U := 3583) h97 g96 (q_rg_lit (n := 3584) (x := 3584) rfl) (by decide))
        refine q_E_T ?_
        exact q_E_x trivial
      | false =>
        have g99 := (q_rg_ltF1 (l2 := 3584) (u := 2147483647) h97 g96 (q_rg_lit (n := 3584) (x := 3584) rfl))
        refine q_E_F ?_
        exact dzj_N90_65_73 (s) hI (v1) ((s.1 4) 0)
  | false =>
    have g100 := (q_rg_neU (l := 0) (u := 1) (n := 1) (U := 0) h92 (q_rg_and ((s.1 4) 0) 1 (U := 1) (by decide) rfl) rfl (by decide) (by decide))
    refine q_E_F ?_
    exact dzj_N90_65_73 (s) hI (v1) ((s.1 4) 0)
set_option maxHeartbeats 4000000 in
theorem dzj_N90_65  (s : q_S) (hI : q_iN s) (a1 : Int32) : q_Ex (dz_N90_65 s a1) (fun _ => True) := by
  unfold dz_N90_65
  cases h101 : decide (a1 - 3840 < 0) with
  | true =>
    have g102 := (q_rg_ltT1 (l := -2147483648) (U := -1) h101 (q_rg_full _) (q_rg_lit (n := 0) (x := 0) rfl) (by decide))
    refine q_E_T ?_
    exact dzj_N90_65_31 (s) hI (a1)
  | false =>
    have g103 := (q_rg_ltF1 (l2 := 0) (u := 2147483647) h101 (q_rg_full _) (q_rg_lit (n := 0) (x := 0) rfl))
    refine q_E_F ?_
    cases h104 : decide (a1 - 3840 < 48) with
    | true =>
      have g105 := (q_rg_ltT1 (l := 0) (U := 47) h104 g103 (q_rg_lit (n := 48) (x := 48) rfl) (by decide))
      refine q_E_T ?_
      have j106 := dzj_N91_65 (s) hI (a1 - 3840) ((s.1 4) ((a1 - 3840).toNatClampNeg))
      refine q_E_L ?_
      generalize dz_N91_65 s (a1 - 3840) ((s.1 4) ((a1 - 3840).toNatClampNeg)) = r1 at j106 ⊢
      exact q_E_x trivial
    | false =>
      have g107 := (q_rg_ltF1 (l2 := 48) (u := 2147483647) h104 g103 (q_rg_lit (n := 48) (x := 48) rfl))
      refine q_E_F ?_
      exact dzj_N90_65_31 (s) hI (a1)
set_option maxHeartbeats 4000000 in
theorem dzj_N112_66  (s : q_S) (hI : q_iN s) (a1 : Int32) (a2 : Int32) : (q_iN) (dz_N112_66 s a1 a2) := by
  refine q_S_of (P := (q_iN)) ?_
  unfold dz_N112_66
  cases h116 : decide (a1 - 3840 < 0) with
  | true =>
    have g117 := (q_rg_ltT1 (l := -2147483648) (U := -1) h116 (q_rg_full _) (q_rg_lit (n := 0) (x := 0) rfl) (by decide))
    refine q_S_T ?_
    exact q_E_x (q_iN_A hI)
  | false =>
    have g118 := (q_rg_ltF1 (l2 := 0) (u := 2147483647) h116 (q_rg_full _) (q_rg_lit (n := 0) (x := 0) rfl))
    refine q_S_F ?_
    cases h119 : decide (a1 - 3840 < 48) with
    | true =>
      have g120 := (q_rg_ltT1 (l := 0) (U := 47) h119 g118 (q_rg_lit (n := 48) (x := 48) rfl) (by decide))
      refine q_S_T ?_
      cases h121 : decide ((fun j => q_o1.getD j 0) ((a1 - 3840).toNatClampNeg) = 0) with
      | true =>
        have g122 := q_rg_eqT h121 (q_rg_lit (n := 0) (x := 0) rfl)
        refine q_S_T ?_
        exact q_E_x hI
      | false =>
        refine q_S_F ?_
        exact q_E_x (q_iN_A hI)
    | false =>
      have g123 := (q_rg_ltF1 (l2 := 48) (u := 2147483647) h119 g118 (q_rg_lit (n := 48) (x := 48) rfl))
      refine q_S_F ?_
      exact q_E_x (q_iN_A hI)
set_option maxHeartbeats 4000000 in
theorem dzj_N128_77  (s : q_S) (hI : q_iN s) (a1 : Int32) (a2 : Int32) : (q_iN) (dz_N128_77 s a1 a2) := by
  refine q_S_of (P := (q_iN)) ?_
  unfold dz_N128_77
  cases h130 : decide (s.2.1 13 2 < 0) with
  | true =>
    have g131 := (q_rg_ltT1 (l := -2147483648) (U := -1) h130 (q_rg_full _) (q_rg_lit (n := 0) (x := 0) rfl) (by decide))
    refine q_S_T ?_
    exact q_E_x hI
  | false =>
    have g132 := (q_rg_ltF1 (l2 := 0) (u := 2147483647) h130 (q_rg_full _) (q_rg_lit (n := 0) (x := 0) rfl))
    refine q_S_F ?_
    cases h133 : decide (s.2.1 13 2 < 3072) with
    | true =>
      have g134 := (q_rg_ltT1 (l := 0) (U := 3071) h133 g132 (q_rg_lit (n := 3072) (x := 3072) rfl) (by decide))
      refine q_S_T ?_
      exact q_E_x (q_iN_I (i := 13) (m := 2) (q_iN_A hI) (by decide))
    | false =>
      have g135 := (q_rg_ltF1 (l2 := 3072) (u := 2147483647) h133 g132 (q_rg_lit (n := 3072) (x := 3072) rfl))
      refine q_S_F ?_
      exact q_E_x hI
set_option maxHeartbeats 4000000 in
theorem dzj_N128_82  (s : q_S) (hI : q_iN s) (a1 : Int32) (a2 : Int32) : (q_iN) (dz_N128_82 s a1 a2) := by
  refine q_S_of (P := (q_iN)) ?_
  unfold dz_N128_82
  cases h142 : decide (s.2.1 18 2 < 0) with
  | true =>
    have g143 := (q_rg_ltT1 (l := -2147483648) (U := -1) h142 (q_rg_full _) (q_rg_lit (n := 0) (x := 0) rfl) (by decide))
    refine q_S_T ?_
    exact q_E_x hI
  | false =>
    have g144 := (q_rg_ltF1 (l2 := 0) (u := 2147483647) h142 (q_rg_full _) (q_rg_lit (n := 0) (x := 0) rfl))
    refine q_S_F ?_
    cases h145 : decide (s.2.1 18 2 < 3072) with
    | true =>
      have g146 := (q_rg_ltT1 (l := 0) (U := 3071) h145 g144 (q_rg_lit (n := 3072) (x := 3072) rfl) (by decide))
      refine q_S_T ?_
      exact q_E_x (q_iN_I (i := 18) (m := 2) (q_iN_A hI) (by decide))
    | false =>
      have g147 := (q_rg_ltF1 (l2 := 3072) (u := 2147483647) h145 g144 (q_rg_lit (n := 3072) (x := 3072) rfl))
      refine q_S_F ?_
      exact q_E_x hI
set_option maxHeartbeats 4000000 in
theorem dzjb_N95_65_2  (k2 : q_S → Int32 → Int32 → Option (q_S)) (M2 : Int) (tk2 : ∀ (s : q_S), q_iN s → ∀ (v1 : Int32) (v2 : Int32), q_rgz 0 2 v2 → ((2 - v2.toInt).toNat : Int) ≤ M2 → q_Ex (k2 s v1 v2) (q_iN)) (s : q_S) (hI : q_iN s) (v1 : Int32) (v2 : Int32) (rv2 : q_rgz 0 2 v2) (m2 : ((2 - v2.toInt).toNat : Int) ≤ M2 + 1) : q_Ex (cond (decide (v2 < 2)) (cond (decide ((v1 >>> (v2 &&& 31)) &&& 1 = 1)) (cond (q_in ((12 : Int32) + (2 * v2)) 48) (cond (q_in (((12 : Int32) + (2 * v2)) + 1) 48) (cond (q_in v2 2) (k2 (q_sA s 7 (upd (s.1 7) (v2.toNatClampNeg) (((s.1 4) (((12 : Int32) + (2 * v2)).toNatClampNeg)) + (256 * ((s.1 4) ((((12 : Int32) + (2 * v2)) + 1).toNatClampNeg)))))) v1 (v2 + 1)) none) none) none) (k2 s v1 (v2 + 1))) (some s)) (q_iN) := by
  cases h162 : decide (v2 < 2) with
  | true =>
    have g163 := (q_rg_ltT1 (l := 0) (U := 1) h162 rv2 (q_rg_lit (n := 2) (x := 2) rfl) (by decide))
    refine q_E_T ?_
    cases h164 : decide ((v1 >>> (v2 &&& 31)) &&& 1 = 1) with
    | true =>
      have g165 := q_rg_eqT h164 (q_rg_lit (n := 1) (x := 1) rfl)
      refine q_E_T ?_
      refine q_E_A (q_in_rg (q_rg_add (L := 12) (U := 14) (q_rg_lit (n := 12) (x := 12) rfl) (q_rg_mul (L := 0) (U := 2) (q_rg_lit (n := 2) (x := 2) rfl) g163 (by decide) (by decide) (by decide) (by decide) (by decide) (by decide)) (by decide) (by decide) (by decide) (by decide)) (by decide) (by decide)) ?_
      refine q_E_A (q_in_rg (q_rg_add (L := 13) (U := 15) (q_rg_add (L := 12) (U := 14) (q_rg_lit (n := 12) (x := 12) rfl) (q_rg_mul (L := 0) (U := 2) (q_rg_lit (n := 2) (x := 2) rfl) g163 (by decide) (by decide) (by decide) (by decide) (by decide) (by decide)) (by decide) (by decide) (by decide) (by decide)) (q_rg_lit (n := 1) (x := 1) rfl) (by decide) (by decide) (by decide) (by decide)) (by decide) (by decide)) ?_
      refine q_E_A (q_in_rg g163 (by decide) (by decide)) ?_
      exact tk2 (q_sA s 7 (upd (s.1 7) (v2.toNatClampNeg) (((s.1 4) (((12 : Int32) + (2 * v2)).toNatClampNeg)) + (256 * ((s.1 4) ((((12 : Int32) + (2 * v2)) + 1).toNatClampNeg)))))) (q_iN_A hI) (v1) (v2 + 1) (q_rg_le (L := 0) (U := 2) (q_rg_add (L := 1) (U := 2) g163 (q_rg_lit (n := 1) (x := 1) rfl) (by decide) (by decide) (by decide) (by decide)) (by decide) (by decide)) (q_meu g163 m2 (by decide) (by decide))
    | false =>
      have g166 := (q_rg_neU (l := 0) (u := 1) (n := 1) (U := 0) h164 (q_rg_and (v1 >>> (v2 &&& 31)) 1 (U := 1) (by decide) rfl) rfl (by decide) (by decide))
      refine q_E_F ?_
      exact tk2 (s) hI (v1) (v2 + 1) (q_rg_le (L := 0) (U := 2) (q_rg_add (L := 1) (U := 2) g163 (q_rg_lit (n := 1) (x := 1) rfl) (by decide) (by decide) (by decide) (by decide)) (by decide) (by decide)) (q_meu g163 m2 (by decide) (by decide))
  | false =>
    have g167 := (q_rg_ltF1 (l2 := 2) (u := 2) h162 rv2 (q_rg_lit (n := 2) (x := 2) rfl))
    refine q_E_F ?_
    exact q_E_x hI
theorem dzj_N95_65_2  : ∀ (m : Nat) (s : q_S) (hI : q_iN s) (v1 : Int32) (v2 : Int32) (rv2 : q_rgz 0 2 v2), ((2 - v2.toInt).toNat : Int) ≤ (m : Int) → q_Ex (dz_N95_65_2 (m + 1) s v1 v2) (q_iN) := by
  intro m
  induction m with
  | zero => intro s hI v1 v2 rv2 hm; rw [dzs_N95_65_2]; exact dzjb_N95_65_2 (dz_N95_65_2 0) (-1) (fun s hI v1 v2 rv2 hm => absurd hm (by omega)) s hI v1 v2 rv2 (by omega)
  | succ m ih => intro s hI v1 v2 rv2 hm; rw [dzs_N95_65_2]; exact dzjb_N95_65_2 (dz_N95_65_2 (m + 1)) (m : Int) (fun s hI v1 v2 rv2 hm => ih s hI v1 v2 rv2 hm) s hI v1 v2 rv2 (by omega)
set_option maxHeartbeats 4000000 in
theorem dzj_N95_65  (s : q_S) (hI : q_iN s) (a1 : Int32) : q_Ex (dz_N95_65 s a1) (q_iN) := by
  unfold dz_N95_65
  exact dzj_N95_65_2 4999 (s) hI (a1) (0) (q_rg_le (L := 0) (U := 2) (q_rg_lit (n := 0) (x := 0) rfl) (by decide) (by decide)) (q_meu0 (q_rg_lit (n := 0) (x := 0) rfl) (by decide) (by decide))
set_option maxHeartbeats 4000000 in
theorem dzj_N94_65  (s : q_S) (hI : q_iN s) (a1 : Int32) (a2 : Int32) : q_Ex (dz_N94_65 s a1 a2) (q_iN) := by
  unfold dz_N94_65
  cases h189 : decide (a1 = 3850) with
  | true =>
    have g190 := q_rg_eqT h189 (q_rg_lit (n := 3850) (x := 3850) rfl)
    refine q_E_T ?_
    have j191 := dzj_N112_66 (q_sA s 4 (upd (s.1 4) 10 (((s.1 4) 10) &&& (a2 ^^^ (-1))))) (q_iN_A hI) (a1) (a2)
    refine q_E_L ?_
    generalize dz_N112_66 (q_sA s 4 (upd (s.1 4) 10 (((s.1 4) 10) &&& (a2 ^^^ (-1))))) a1 a2 = r5 at j191 ⊢
    cases h192 : decide (lg_cmp (((r5.2.2 1 8) / 960) - ((r5.2.2 1 8) / 960) / 2 * 2) 0 = 0) with
    | true =>
      have g193 := q_rg_eqT h192 (q_rg_lit (n := 0) (x := 0) rfl)
      refine q_E_T ?_
      have j194 := dzj_N128_77 (r5) j191 (a1) (a2)
      refine q_E_L ?_
      generalize dz_N128_77 r5 a1 a2 = r6 at j194 ⊢
      exact q_E_x j194
    | false =>
      refine q_E_F ?_
      have j195 := dzj_N128_82 (r5) j191 (a1) (a2)
      refine q_E_L ?_
      generalize dz_N128_82 r5 a1 a2 = r7 at j195 ⊢
      exact q_E_x j195
  | false =>
    refine q_E_F ?_
    cases h196 : decide (a1 = 3856) with
    | true =>
      have g197 := q_rg_eqT h196 (q_rg_lit (n := 3856) (x := 3856) rfl)
      refine q_E_T ?_
      obtain ⟨r8, e199, j198⟩ := dzj_N95_65 (s) hI (a2 &&& (((s.1 4) 16) ^^^ (-1)))
      rw [e199]
      refine q_E_B ?_
      have j200 := dzj_N112_66 (r8) j198 (a1) (a2)
      refine q_E_L ?_
      generalize dz_N112_66 r8 a1 a2 = r9 at j200 ⊢
      cases h201 : decide (lg_cmp (((r9.2.2 1 8) / 960) - ((r9.2.2 1 8) / 960) / 2 * 2) 0 = 0) with
      | true =>
        have g202 := q_rg_eqT h201 (q_rg_lit (n := 0) (x := 0) rfl)
        refine q_E_T ?_
        have j203 := dzj_N128_77 (r9) j200 (a1) (a2)
        refine q_E_L ?_
        generalize dz_N128_77 r9 a1 a2 = r10 at j203 ⊢
        exact q_E_x j203
      | false =>
        refine q_E_F ?_
        have j204 := dzj_N128_82 (r9) j200 (a1) (a2)
        refine q_E_L ?_
        generalize dz_N128_82 r9 a1 a2 = r11 at j204 ⊢
        exact q_E_x j204
    | false =>
      refine q_E_F ?_
      have j205 := dzj_N112_66 (s) hI (a1) (a2)
      refine q_E_L ?_
      generalize dz_N112_66 s a1 a2 = r12 at j205 ⊢
      cases h206 : decide (lg_cmp (((r12.2.2 1 8) / 960) - ((r12.2.2 1 8) / 960) / 2 * 2) 0 = 0) with
      | true =>
        have g207 := q_rg_eqT h206 (q_rg_lit (n := 0) (x := 0) rfl)
        refine q_E_T ?_
        have j208 := dzj_N128_77 (r12) j205 (a1) (a2)
        refine q_E_L ?_
        generalize dz_N128_77 r12 a1 a2 = r13 at j208 ⊢
        exact q_E_x j208
      | false =>
        refine q_E_F ?_
        have j209 := dzj_N128_82 (r12) j205 (a1) (a2)
        refine q_E_L ?_
        generalize dz_N128_82 r12 a1 a2 = r14 at j209 ⊢
        exact q_E_x j209
set_option maxHeartbeats 4000000 in
theorem dzj_N97_65  (s : q_S) (hI : q_iN s) (a1 : Int32) (a2 : Int32) : q_Ex (dz_N97_65 s a1 a2) (fun (x : q_S × Int32) => q_iN x.1) := by
  unfold dz_N97_65
  obtain ⟨r2, e215, j214⟩ := dzj_N90_65 (s) hI (a1)
  rw [e215]
  refine q_E_B ?_
  obtain ⟨r3, e217, j216⟩ := dzj_N94_65 (s) hI (a1) (a2)
  rw [e217]
  refine q_E_B ?_
  exact q_E_x j216
set_option maxHeartbeats 4000000 in
theorem dzj_N98_65  (s : q_S) (hI : q_iN s) (a1 : Int32) (a2 : Int32) : (fun (x : q_S × Int32) => q_iN x.1) (dz_N98_65 s a1 a2) := by
  refine q_S_of (P := (fun (x : q_S × Int32) => q_iN x.1)) ?_
  unfold dz_N98_65
  exact q_E_x (q_iN_A hI)
set_option maxHeartbeats 4000000 in
theorem dzj_N99_65  (s : q_S) (hI : q_iN s) (a1 : Int32) (a2 : Int32) : (fun (x : q_S × Int32) => q_iN x.1) (dz_N99_65 s a1 a2) := by
  refine q_S_of (P := (fun (x : q_S × Int32) => q_iN x.1)) ?_
  unfold dz_N99_65
  exact q_E_x (q_iN_A hI)
theorem dzj_N186  (s : q_S) (hI : q_iN s) (a0 : Int32) : (fun _ => True) (dz_N186 s a0) := trivial
theorem dzj_N190  (s : q_S) (hI : q_iN s) (a0 : Int32) : (fun _ => True) (dz_N190 s a0) := trivial
set_option maxHeartbeats 4000000 in
theorem dzj_N100_65_34  (s : q_S) (hI : q_iN s) (v1 : Int32) (v3 : Int32) (v4 : Int32) : q_Ex (dz_N100_65_34 s v1 v3 v4) (fun (x : q_S × Int32) => q_iN x.1) := by
  unfold dz_N100_65_34
  cases h295 : decide (2 < v4) with
  | true =>
    have g296 := (q_rg_ltT2 (L := 3) (u2 := 2147483647) h295 (q_rg_lit (n := 2) (x := 2) rfl) (q_rg_full _) (by decide))
    refine q_E_T ?_
    obtain ⟨r6, e298, j297⟩ := dzj_N94_65 (s) hI ((v1 + 2) &&& 4095) (v3 >>> ((8 &&& 31) : Int32))
    rw [e298]
    refine q_E_B ?_
    exact q_E_x j297
  | false =>
    have g299 := (q_rg_ltF2 (l2 := -2147483648) (u := 2) h295 (q_rg_lit (n := 2) (x := 2) rfl) (q_rg_full _))
    refine q_E_F ?_
    exact q_E_x hI
set_option maxHeartbeats 4000000 in
theorem dzj_N100_65  (s : q_S) (hI : q_iN s) (a1 : Int32) (a2 : Int32) (a3 : Int32) : q_Ex (dz_N100_65 s a1 a2 a3) (fun (x : q_S × Int32) => q_iN x.1) := by
  unfold dz_N100_65
  have j300 := dzj_N190 (s) hI (a2)
  refine q_E_L ?_
  generalize dz_N190 s a2 = r3 at j300 ⊢
  obtain ⟨r4, e302, j301⟩ := dzj_N94_65 (s) hI (a1) (a2)
  rw [e302]
  refine q_E_B ?_
  cases h303 : decide (1 < r3) with
  | true =>
    have g304 := (q_rg_ltT2 (L := 2) (u2 := 2147483647) h303 (q_rg_lit (n := 1) (x := 1) rfl) (q_rg_full _) (by decide))
    refine q_E_T ?_
    obtain ⟨r5, e306, j305⟩ := dzj_N94_65 (r4) j301 ((a1 + 1) &&& 4095) (a3 &&& 255)
    rw [e306]
    refine q_E_B ?_
    exact dzj_N100_65_34 (r5) j305 (a1) (a3) (r3)
  | false =>
    have g307 := (q_rg_ltF2 (l2 := -2147483648) (u := 1) h303 (q_rg_lit (n := 1) (x := 1) rfl) (q_rg_full _))
    refine q_E_F ?_
    exact dzj_N100_65_34 (r4) j301 (a1) (a3) (r3)
theorem dzj_N133_87  (s : q_S) (hI : q_iN s) (a1 : Int32) : (fun _ => True) (dz_N133_87 s a1) := trivial
set_option maxHeartbeats 4000000 in
theorem dzj_N134_87  (s : q_S) (hI : q_iN s) (a1 : Int32) (a2 : Int32) : (fun (x : q_S × Int32) => q_iN x.1) (dz_N134_87 s a1 a2) := by
  refine q_S_of (P := (fun (x : q_S × Int32) => q_iN x.1)) ?_
  unfold dz_N134_87
  have j354 := dzj_N133_87 (s) hI (a1)
  refine q_S_L ?_
  generalize dz_N133_87 s a1 = r1 at j354 ⊢
  cases h355 : decide (a1 < 0) with
  | true =>
    have g356 := (q_rg_ltT1 (l := -2147483648) (U := -1) h355 (q_rg_full _) (q_rg_lit (n := 0) (x := 0) rfl) (by decide))
    refine q_S_T ?_
    exact q_E_x (q_iN_I (i := 23) (m := 4) hI (by decide))
  | false =>
    have g357 := (q_rg_ltF1 (l2 := 0) (u := 2147483647) h355 (q_rg_full _) (q_rg_lit (n := 0) (x := 0) rfl))
    refine q_S_F ?_
    cases h358 : decide (3 < a1) with
    | true =>
      have g359 := (q_rg_ltT2 (L := 4) (u2 := 2147483647) h358 (q_rg_lit (n := 3) (x := 3) rfl) g357 (by decide))
      refine q_S_T ?_
      exact q_E_x (q_iN_I (i := 23) (m := 4) hI (by decide))
    | false =>
      have g360 := (q_rg_ltF2 (l2 := 0) (u := 3) h358 (q_rg_lit (n := 3) (x := 3) rfl) g357)
      refine q_S_F ?_
      cases h361 : decide (a1 = 0) with
      | true =>
        have g362 := q_rg_eqT h361 (q_rg_lit (n := 0) (x := 0) rfl)
        refine q_S_T ?_
        exact q_E_x (q_iN_I (i := 23) (m := 0) hI (by decide))
      | false =>
        have g363 := (q_rg_neL (l := 0) (u := 3) (n := 0) (L := 1) h361 g360 rfl (by decide) (by decide))
        refine q_S_F ?_
        cases h364 : decide (a1 = 1) with
        | true =>
          have g365 := q_rg_eqT h364 (q_rg_lit (n := 1) (x := 1) rfl)
          refine q_S_T ?_
          exact q_E_x (q_iN_I (i := 23) (m := 1) hI (by decide))
        | false =>
          have g366 := (q_rg_neL (l := 1) (u := 3) (n := 1) (L := 2) h364 g363 rfl (by decide) (by decide))
          refine q_S_F ?_
          cases h367 : decide (a1 = 2) with
          | true =>
            have g368 := q_rg_eqT h367 (q_rg_lit (n := 2) (x := 2) rfl)
            refine q_S_T ?_
            exact q_E_x (q_iN_I (i := 23) (m := 2) hI (by decide))
          | false =>
            have g369 := (q_rg_neL (l := 2) (u := 3) (n := 2) (L := 3) h367 g366 rfl (by decide) (by decide))
            refine q_S_F ?_
            exact q_E_x (q_iN_I (i := 23) (m := 3) hI (by decide))
set_option maxHeartbeats 4000000 in
theorem dzjb_N318_68_5  (k5 : q_S → Int32 → Int32 → Int32 → Option (q_S)) (M5 : Int) (tk5 : ∀ (s : q_S), q_iN s → ∀ (v1 : Int32) (v2 : Int32) (v3 : Int32), q_rgz 0 48 v2 → q_rgz 48 48 v3 → ((48 - v2.toInt).toNat : Int) ≤ M5 → q_Ex (k5 s v1 v2 v3) (q_iN)) (s : q_S) (hI : q_iN s) (v1 : Int32) (v2 : Int32) (v3 : Int32) (rv2 : q_rgz 0 48 v2) (rv3 : q_rgz 48 48 v3) (m5 : ((48 - v2.toInt).toNat : Int) ≤ M5 + 1) : q_Ex (cond (decide (v2 < v3)) (cond (q_in v2 48) (k5 (q_sA s 4 (upd (s.1 4) (v2.toNatClampNeg) v1)) v1 (v2 + 1) v3) none) (some s)) (q_iN) := by
  cases h382 : decide (v2 < v3) with
  | true =>
    have g383 := (q_rg_ltT1 (l := 0) (U := 47) h382 rv2 rv3 (by decide))
    refine q_E_T ?_
    refine q_E_A (q_in_rg g383 (by decide) (by decide)) ?_
    exact tk5 (q_sA s 4 (upd (s.1 4) (v2.toNatClampNeg) v1)) (q_iN_A hI) (v1) (v2 + 1) (v3) (q_rg_le (L := 0) (U := 48) (q_rg_add (L := 1) (U := 48) g383 (q_rg_lit (n := 1) (x := 1) rfl) (by decide) (by decide) (by decide) (by decide)) (by decide) (by decide)) (q_rg_le (L := 48) (U := 48) rv3 (by decide) (by decide)) (q_meu g383 m5 (by decide) (by decide))
  | false =>
    have g384 := (q_rg_ltF1 (l2 := 48) (u := 48) h382 rv2 rv3)
    refine q_E_F ?_
    exact q_E_x hI
theorem dzj_N318_68_5  : ∀ (m : Nat) (s : q_S) (hI : q_iN s) (v1 : Int32) (v2 : Int32) (v3 : Int32) (rv2 : q_rgz 0 48 v2) (rv3 : q_rgz 48 48 v3), ((48 - v2.toInt).toNat : Int) ≤ (m : Int) → q_Ex (dz_N318_68_5 (m + 1) s v1 v2 v3) (q_iN) := by
  intro m
  induction m with
  | zero => intro s hI v1 v2 v3 rv2 rv3 hm; rw [dzs_N318_68_5]; exact dzjb_N318_68_5 (dz_N318_68_5 0) (-1) (fun s hI v1 v2 v3 rv2 rv3 hm => absurd hm (by omega)) s hI v1 v2 v3 rv2 rv3 (by omega)
  | succ m ih => intro s hI v1 v2 v3 rv2 rv3 hm; rw [dzs_N318_68_5]; exact dzjb_N318_68_5 (dz_N318_68_5 (m + 1)) (m : Int) (fun s hI v1 v2 v3 rv2 rv3 hm => ih s hI v1 v2 v3 rv2 rv3 hm) s hI v1 v2 v3 rv2 rv3 (by omega)
set_option maxHeartbeats 4000000 in
theorem dzj_N318_68  (s : q_S) (hI : q_iN s) (a1 : Int32) : q_Ex (dz_N318_68 s a1) (q_iN) := by
  unfold dz_N318_68
  exact dzj_N318_68_5 4999 (s) hI (a1) (0) (48) (q_rg_le (L := 0) (U := 48) (q_rg_lit (n := 0) (x := 0) rfl) (by decide) (by decide)) (q_rg_le (L := 48) (U := 48) (q_rg_lit (n := 48) (x := 48) rfl) (by decide) (by decide)) (q_meu0 (q_rg_lit (n := 0) (x := 0) rfl) (by decide) (by decide))
set_option maxHeartbeats 4000000 in
theorem dzj_N113_66  (s : q_S) (hI : q_iN s) : q_Ex (dz_N113_66 s) (q_iN) := by
  unfold dz_N113_66
  obtain ⟨r2, e388, j387⟩ := dzj_N318_68 (s) hI (0)
  rw [e388]
  refine q_E_B ?_
  exact q_E_x j387
set_option maxHeartbeats 4000000 in
theorem dzjb_N318_71_5  (k5 : q_S → Int32 → Int32 → Int32 → Option (q_S)) (M5 : Int) (tk5 : ∀ (s : q_S), q_iN s → ∀ (v1 : Int32) (v2 : Int32) (v3 : Int32), q_rgz 0 2 v2 → q_rgz 2 2 v3 → ((2 - v2.toInt).toNat : Int) ≤ M5 → q_Ex (k5 s v1 v2 v3) (q_iN)) (s : q_S) (hI : q_iN s) (v1 : Int32) (v2 : Int32) (v3 : Int32) (rv2 : q_rgz 0 2 v2) (rv3 : q_rgz 2 2 v3) (m5 : ((2 - v2.toInt).toNat : Int) ≤ M5 + 1) : q_Ex (cond (decide (v2 < v3)) (cond (q_in v2 2) (k5 (q_sA s 7 (upd (s.1 7) (v2.toNatClampNeg) v1)) v1 (v2 + 1) v3) none) (some s)) (q_iN) := by
  cases h394 : decide (v2 < v3) with
  | true =>
    have g395 := (q_rg_ltT1 (l := 0) (U := 1) h394 rv2 rv3 (by decide))
    refine q_E_T ?_
    refine q_E_A (q_in_rg g395 (by decide) (by decide)) ?_
    exact tk5 (q_sA s 7 (upd (s.1 7) (v2.toNatClampNeg) v1)) (q_iN_A hI) (v1) (v2 + 1) (v3) (q_rg_le (L := 0) (U := 2) (q_rg_add (L := 1) (U := 2) g395 (q_rg_lit (n := 1) (x := 1) rfl) (by decide) (by decide) (by decide) (by decide)) (by decide) (by decide)) (q_rg_le (L := 2) (U := 2) rv3 (by decide) (by decide)) (q_meu g395 m5 (by decide) (by decide))
  | false =>
    have g396 := (q_rg_ltF1 (l2 := 2) (u := 2) h394 rv2 rv3)
    refine q_E_F ?_
    exact q_E_x hI
theorem dzj_N318_71_5  : ∀ (m : Nat) (s : q_S) (hI : q_iN s) (v1 : Int32) (v2 : Int32) (v3 : Int32) (rv2 : q_rgz 0 2 v2) (rv3 : q_rgz 2 2 v3), ((2 - v2.toInt).toNat : Int) ≤ (m : Int) → q_Ex (dz_N318_71_5 (m + 1) s v1 v2 v3) (q_iN) := by
  intro m
  induction m with
  | zero => intro s hI v1 v2 v3 rv2 rv3 hm; rw [dzs_N318_71_5]; exact dzjb_N318_71_5 (dz_N318_71_5 0) (-1) (fun s hI v1 v2 v3 rv2 rv3 hm => absurd hm (by omega)) s hI v1 v2 v3 rv2 rv3 (by omega)
  | succ m ih => intro s hI v1 v2 v3 rv2 rv3 hm; rw [dzs_N318_71_5]; exact dzjb_N318_71_5 (dz_N318_71_5 (m + 1)) (m : Int) (fun s hI v1 v2 v3 rv2 rv3 hm => ih s hI v1 v2 v3 rv2 rv3 hm) s hI v1 v2 v3 rv2 rv3 (by omega)
set_option maxHeartbeats 4000000 in
theorem dzj_N318_71  (s : q_S) (hI : q_iN s) (a1 : Int32) : q_Ex (dz_N318_71 s a1) (q_iN) := by
  unfold dz_N318_71
  exact dzj_N318_71_5 4999 (s) hI (a1) (0) (2) (q_rg_le (L := 0) (U := 2) (q_rg_lit (n := 0) (x := 0) rfl) (by decide) (by decide)) (q_rg_le (L := 2) (U := 2) (q_rg_lit (n := 2) (x := 2) rfl) (by decide) (by decide)) (q_meu0 (q_rg_lit (n := 0) (x := 0) rfl) (by decide) (by decide))
set_option maxHeartbeats 4000000 in
theorem dzj_N96_65  (s : q_S) (hI : q_iN s) : q_Ex (dz_N96_65 s) (q_iN) := by
  unfold dz_N96_65
  obtain ⟨r2, e408, j407⟩ := dzj_N113_66 (s) hI
  rw [e408]
  refine q_E_B ?_
  cases h409 : decide (lg_cmp (((r2.2.2 1 8) / 960) - ((r2.2.2 1 8) / 960) / 2 * 2) 0 = 0) with
  | true =>
    have g410 := q_rg_eqT h409 (q_rg_lit (n := 0) (x := 0) rfl)
    refine q_E_T ?_
    have j411 := dzj_N128_77 (r2) j407 (4096) (0)
    refine q_E_L ?_
    generalize dz_N128_77 r2 4096 0 = r3 at j411 ⊢
    obtain ⟨r4, e413, j412⟩ := dzj_N318_71 (r3) j411 (0)
    rw [e413]
    refine q_E_B ?_
    exact q_E_x j412
  | false =>
    refine q_E_F ?_
    have j414 := dzj_N128_82 (r2) j407 (4096) (0)
    refine q_E_L ?_
    generalize dz_N128_82 r2 4096 0 = r5 at j414 ⊢
    obtain ⟨r6, e416, j415⟩ := dzj_N318_71 (r5) j414 (0)
    rw [e416]
    refine q_E_B ?_
    exact q_E_x j415
set_option maxHeartbeats 4000000 in
theorem dzj_N92_65  (s : q_S) (hI : q_iN s) (a1 : Int32) : q_Ex (dz_N92_65 s a1) (fun _ => True) := by
  unfold dz_N92_65
  obtain ⟨r2, e422, j421⟩ := dzj_N90_65 (s) hI (a1 &&& 4095)
  rw [e422]
  refine q_E_B ?_
  obtain ⟨r3, e424, j423⟩ := dzj_N90_65 (s) hI ((a1 + 1) &&& 4095)
  rw [e424]
  refine q_E_B ?_
  exact q_E_x trivial
set_option maxHeartbeats 4000000 in
theorem dzj_N135_87_65  (s : q_S) (hI : q_iN s) : q_Ex (dz_N135_87_65 s) (q_iN) := by
  unfold dz_N135_87_65
  obtain ⟨r2, e428, j427⟩ := dzj_N92_65 (q_sI (q_sI (q_sI (q_sI (q_sI (q_sI (q_sI (q_sI s 23 0 0) 23 1 0) 23 2 0) 23 3 255) 23 5 4) 23 6 0) 23 7 0) 23 9 0) (q_iN_I (i := 23) (m := 9) (q_iN_F7 (q_iN_F6 (q_iN_I (i := 23) (m := 5) (q_iN_I (i := 23) (m := 3) (q_iN_I (i := 23) (m := 2) (q_iN_I (i := 23) (m := 1) (q_iN_I (i := 23) (m := 0) hI (by decide)) (by decide)) (by decide)) (by decide)) (by decide)) (q_rg_le (q_rg_lit (n := 0) (x := 0) rfl) (by decide) (by decide))) (q_rg_le (q_rg_lit (n := 0) (x := 0) rfl) (by decide) (by decide))) (by decide)) (3836)
  rw [e428]
  refine q_E_B ?_
  exact q_E_x (q_iN_I (i := 23) (m := 4) (q_iN_I (i := 23) (m := 9) (q_iN_F7 (q_iN_F6 (q_iN_I (i := 23) (m := 5) (q_iN_I (i := 23) (m := 3) (q_iN_I (i := 23) (m := 2) (q_iN_I (i := 23) (m := 1) (q_iN_I (i := 23) (m := 0) hI (by decide)) (by decide)) (by decide)) (by decide)) (by decide)) (q_rg_le (q_rg_lit (n := 0) (x := 0) rfl) (by decide) (by decide))) (q_rg_le (q_rg_lit (n := 0) (x := 0) rfl) (by decide) (by decide))) (by decide)) (by decide))
set_option maxHeartbeats 4000000 in
theorem dzj_N80_64  (s : q_S) (hI : q_iN s) : q_Ex (dz_N80_64 s) (fun (x : q_S × Int32) => q_iN x.1) := by
  unfold dz_N80_64
  obtain ⟨r2, e434, j433⟩ := dzj_N96_65 (s) hI
  rw [e434]
  refine q_E_B ?_
  obtain ⟨r3, e436, j435⟩ := dzj_N135_87_65 (r2) j433
  rw [e436]
  refine q_E_B ?_
  exact q_E_x j435
set_option maxHeartbeats 4000000 in
theorem dzj_N81_64  (s : q_S) (hI : q_iN s) : q_Ex (dz_N81_64 s) (fun (x : q_S × Int32) => q_iN x.1) := by
  unfold dz_N81_64
  obtain ⟨r2, e440, j439⟩ := dzj_N94_65 (s) hI (3840) (((s.1 4) 0) ||| 14)
  rw [e440]
  refine q_E_B ?_
  exact q_E_x (q_iN_F6 j439 (q_rg_le (q_rg_lit (n := 1) (x := 1) rfl) (by decide) (by decide)))
theorem dzj_N87_65  (s : q_S) (hI : q_iN s) : (fun _ => True) (dz_N87_65 s) := trivial
theorem dzj_N86_65  (s : q_S) (hI : q_iN s) : (fun _ => True) (dz_N86_65 s) := trivial
set_option maxHeartbeats 4000000 in
theorem dzj_N101_65  (s : q_S) (hI : q_iN s) : (q_iN) (dz_N101_65 s) := by
  refine q_S_of (P := (q_iN)) ?_
  unfold dz_N101_65
  have j446 := dzj_N87_65 (s) hI
  refine q_S_L ?_
  generalize dz_N87_65 s = r1 at j446 ⊢
  cases h447 : decide (r1 = 0) with
  | true =>
    have g448 := q_rg_eqT h447 (q_rg_lit (n := 0) (x := 0) rfl)
    refine q_S_T ?_
    have j449 := dzj_N86_65 (s) hI
    refine q_S_L ?_
    generalize dz_N86_65 s = r2 at j449 ⊢
    cases h450 : decide (r2 / 24 = (s.1 4) 9) with
    | true =>
      refine q_S_T ?_
      exact q_E_x (q_iN_A hI)
    | false =>
      refine q_S_F ?_
      exact q_E_x hI
  | false =>
    refine q_S_F ?_
    exact q_E_x hI
theorem dzj_N115_66  (s : q_S) (hI : q_iN s) : (fun _ => True) (dz_N115_66 s) := trivial
theorem dzj_N118_66  (s : q_S) (hI : q_iN s) (a1 : Int32) (a2 : Int32) : (fun _ => True) (dz_N118_66 s a1 a2) := trivial
set_option maxHeartbeats 4000000 in
theorem dzj_N117_66  (s : q_S) (hI : q_iN s) (a1 : Int32) (a2 : Int32) : q_Ex (dz_N117_66 s a1 a2) (fun _ => True) := by
  unfold dz_N117_66
  refine q_E_A (q_in_rg (q_rg_add (L := 24) (U := 27) (q_rg_lit (n := 24) (x := 24) rfl) (q_rg_and a1 3 (U := 3) (by decide) rfl) (by decide) (by decide) (by decide) (by decide)) (by decide) (by decide)) ?_
  have j473 := dzj_N118_66 (s) hI (18) (a1 &&& 3)
  refine q_E_L ?_
  generalize dz_N118_66 s 18 (a1 &&& 3) = r1 at j473 ⊢
  have j474 := dzj_N118_66 (s) hI (17) (a1 &&& 3)
  refine q_E_L ?_
  generalize dz_N118_66 s 17 (a1 &&& 3) = r2 at j474 ⊢
  cases h475 : decide (r2 = 1) with
  | true =>
    have g476 := q_rg_eqT h475 (q_rg_lit (n := 1) (x := 1) rfl)
    refine q_E_T ?_
    cases h477 : decide (a2 < (s.1 4) (((24 : Int32) + (a1 &&& 3)).toNatClampNeg)) with
    | true =>
      have g478 := (q_rg_ltT1 (l := -2147483648) (U := 2147483646) h477 (q_rg_full _) (q_rg_full _) (by decide))
      have g479 := (q_rg_ltT2 (L := -2147483647) (u2 := 2147483647) h477 (q_rg_full _) (q_rg_full _) (by decide))
      refine q_E_T ?_
      exact q_E_x trivial
    | false =>
      refine q_E_F ?_
      cases h480 : decide (a2 < ((s.1 4) (((24 : Int32) + (a1 &&& 3)).toNatClampNeg)) + ((8 : Int32) <<< (r1 &&& 31))) with
      | true =>
        have g481 := (q_rg_ltT1 (l := -2147483648) (U := 2147483646) h480 (q_rg_full _) (q_rg_full _) (by decide))
        have g482 := (q_rg_ltT2 (L := -2147483647) (u2 := 2147483647) h480 (q_rg_full _) (q_rg_full _) (by decide))
        refine q_E_T ?_
        exact q_E_x trivial
      | false =>
        refine q_E_F ?_
        exact q_E_x trivial
  | false =>
    refine q_E_F ?_
    exact q_E_x trivial
set_option maxHeartbeats 4000000 in
theorem dzj_N116_66_24  (s : q_S) (hI : q_iN s) (v1 : Int32) (v2 : Int32) (rv1 : q_rgz 0 31 v1) : q_Ex (dz_N116_66_24 s v1 v2) (fun _ => True) := by
  unfold dz_N116_66_24
  cases h523 : decide (v2 < 20) with
  | true =>
    have g524 := (q_rg_ltT1 (l := -2147483648) (U := 19) h523 (q_rg_full _) (q_rg_lit (n := 20) (x := 20) rfl) (by decide))
    refine q_E_T ?_
    cases h525 : decide ((s.1 4) 1 = 0) with
    | true =>
      have g526 := q_rg_eqT h525 (q_rg_lit (n := 0) (x := 0) rfl)
      refine q_E_T ?_
      have j527 := dzj_N115_66 (s) hI
      refine q_E_L ?_
      generalize dz_N115_66 s = r3 at j527 ⊢
      cases h528 : decide ((v1 + r3) - (v1 + r3) / 8 * 8 = 0) with
      | true =>
        have g529 := q_rg_eqT h528 (q_rg_lit (n := 0) (x := 0) rfl)
        refine q_E_T ?_
        exact q_E_x trivial
      | false =>
        refine q_E_F ?_
        exact q_E_x trivial
    | false =>
      refine q_E_F ?_
      cases h530 : decide ((s.1 4) 1 = 3) with
      | true =>
        have g531 := q_rg_eqT h530 (q_rg_lit (n := 3) (x := 3) rfl)
        refine q_E_T ?_
        exact q_E_x trivial
      | false =>
        refine q_E_F ?_
        cases h532 : decide (v2 < 4) with
        | true =>
          have g533 := (q_rg_ltT1 (l := -2147483648) (U := 3) h532 g524 (q_rg_lit (n := 4) (x := 4) rfl) (by decide))
          refine q_E_T ?_
          exact q_E_x trivial
        | false =>
          have g534 := (q_rg_ltF1 (l2 := 4) (u := 19) h532 g524 (q_rg_lit (n := 4) (x := 4) rfl))
          refine q_E_F ?_
          exact q_E_x trivial
  | false =>
    have g535 := (q_rg_ltF1 (l2 := 20) (u := 2147483647) h523 (q_rg_full _) (q_rg_lit (n := 20) (x := 20) rfl))
    refine q_E_F ?_
    obtain ⟨r4, e537, j536⟩ := dzj_N117_66 (s) hI (v2 - 20) (v1)
    rw [e537]
    refine q_E_B ?_
    cases h538 : r4 with
    | true =>
      refine q_E_T ?_
      exact q_E_x trivial
    | false =>
      refine q_E_F ?_
      exact q_E_x trivial
set_option maxHeartbeats 4000000 in
theorem dzj_N116_66  (s : q_S) (hI : q_iN s) (a1 : Int32) (a2 : Int32) : q_Ex (dz_N116_66 s a1 a2) (fun _ => True) := by
  unfold dz_N116_66
  cases h539 : decide (a1 < 0) with
  | true =>
    have g540 := (q_rg_ltT1 (l := -2147483648) (U := -1) h539 (q_rg_full _) (q_rg_lit (n := 0) (x := 0) rfl) (by decide))
    refine q_E_T ?_
    exact q_E_x trivial
  | false =>
    have g541 := (q_rg_ltF1 (l2 := 0) (u := 2147483647) h539 (q_rg_full _) (q_rg_lit (n := 0) (x := 0) rfl))
    refine q_E_F ?_
    cases h542 : decide (a1 < 32) with
    | true =>
      have g543 := (q_rg_ltT1 (l := 0) (U := 31) h542 g541 (q_rg_lit (n := 32) (x := 32) rfl) (by decide))
      refine q_E_T ?_
      cases h544 : decide (a2 < 8) with
      | true =>
        have g545 := (q_rg_ltT1 (l := -2147483648) (U := 7) h544 (q_rg_full _) (q_rg_lit (n := 8) (x := 8) rfl) (by decide))
        refine q_E_T ?_
        exact dzj_N116_66_24 (s) hI (a1) (a2) (q_rg_le (L := 0) (U := 31) g543 (by decide) (by decide))
      | false =>
        have g546 := (q_rg_ltF1 (l2 := 8) (u := 2147483647) h544 (q_rg_full _) (q_rg_lit (n := 8) (x := 8) rfl))
        refine q_E_F ?_
        cases h547 : decide (a2 < 20) with
        | true =>
          have g548 := (q_rg_ltT1 (l := 8) (U := 19) h547 g546 (q_rg_lit (n := 20) (x := 20) rfl) (by decide))
          refine q_E_T ?_
          exact q_E_x trivial
        | false =>
          have g549 := (q_rg_ltF1 (l2 := 20) (u := 2147483647) h547 g546 (q_rg_lit (n := 20) (x := 20) rfl))
          refine q_E_F ?_
          exact dzj_N116_66_24 (s) hI (a1) (a2) (q_rg_le (L := 0) (U := 31) g543 (by decide) (by decide))
    | false =>
      have g550 := (q_rg_ltF1 (l2 := 32) (u := 2147483647) h542 g541 (q_rg_lit (n := 32) (x := 32) rfl))
      refine q_E_F ?_
      exact q_E_x trivial
set_option maxHeartbeats 4000000 in
theorem dzj_N102_65  (s : q_S) (hI : q_iN s) : q_Ex (dz_N102_65 s) (fun _ => True) := by
  unfold dz_N102_65
  have j556 := dzj_N86_65 (s) hI
  refine q_E_L ?_
  generalize dz_N86_65 s = r4 at j556 ⊢
  have j557 := dzj_N87_65 (s) hI
  refine q_E_L ?_
  generalize dz_N87_65 s = r5 at j557 ⊢
  obtain ⟨r6, e559, j558⟩ := dzj_N116_66 (s) hI ((r4 / 24) - 4) (r5)
  rw [e559]
  refine q_E_B ?_
  cases h560 : r6 with
  | true =>
    refine q_E_T ?_
    exact q_E_x trivial
  | false =>
    refine q_E_F ?_
    exact q_E_x trivial
theorem dzj_N114_66  (s : q_S) (hI : q_iN s) : (fun _ => True) (dz_N114_66 s) := trivial
theorem dzj_N120_66  (s : q_S) (hI : q_iN s) (a1 : Int32) : (fun _ => True) (dz_N120_66 s a1) := trivial
theorem dzj_N119_66  (s : q_S) (hI : q_iN s) (a1 : Int32) (a2 : Int32) : (fun _ => True) (dz_N119_66 s a1 a2) := trivial
set_option maxHeartbeats 4000000 in
theorem dzjb_N122_66_5  (k5 : q_S → Int32 → Int32 → Int32 → Int32 → Option (Int32)) (M5 : Int) (tk5 : ∀ (s : q_S), q_iN s → ∀ (v1 : Int32) (v2 : Int32) (v3 : Int32) (v4 : Int32), q_rgz 0 4 v4 → ((4 - v4.toInt).toNat : Int) ≤ M5 → q_Ex (k5 s v1 v2 v3 v4) (fun _ => True)) (s : q_S) (hI : q_iN s) (v1 : Int32) (v2 : Int32) (v3 : Int32) (v4 : Int32) (rv4 : q_rgz 0 4 v4) (m5 : ((4 - v4.toInt).toNat : Int) ≤ M5 + 1) : q_Ex (cond (decide (v4 < 4)) (q_let (dz_N118_66 s 18 v4) fun r1 => cond (q_in ((20 : Int32) + v4) 48) (q_let ((v1 - ((s.1 4) (((20 : Int32) + v4).toNatClampNeg))) >>> (r1 &&& 31)) fun x2 => cond (q_in ((24 : Int32) + v4) 48) (q_let ((v2 - ((s.1 4) (((24 : Int32) + v4).toNatClampNeg))) >>> (r1 &&& 31)) fun x3 => q_let (dz_N118_66 s 17 v4) fun r4 => cond (decide (r4 = 1)) (cond (decide (x2 < 0)) (k5 s v1 v2 v3 (v4 + 1)) (cond (decide (x2 < 8)) (cond (decide (x3 < 0)) (k5 s v1 v2 v3 (v4 + 1)) (cond (decide (x3 < 8)) (q_let (dz_N120_66 s ((((256 * ((s.1 4) 7)) + 128) + (8 * v4)) + x3)) fun r5 => q_let (v3 ||| (((r5 >>> (((7 : Int32) - x2) &&& 31)) &&& 1) <<< (v4 &&& 31))) fun x6 => k5 s v1 v2 x6 (v4 + 1)) (k5 s v1 v2 v3 (v4 + 1)))) (k5 s v1 v2 v3 (v4 + 1)))) (k5 s v1 v2 v3 (v4 + 1))) none) none) (some v3)) (fun _ => True) := by
  cases h702 : decide (v4 < 4) with
  | true =>
    have g703 := (q_rg_ltT1 (l := 0) (U := 3) h702 rv4 (q_rg_lit (n := 4) (x := 4) rfl) (by decide))
    refine q_E_T ?_
    have j704 := dzj_N118_66 (s) hI (18) (v4)
    refine q_E_L ?_
    generalize dz_N118_66 s 18 v4 = r1 at j704 ⊢
    refine q_E_A (q_in_rg (q_rg_add (L := 20) (U := 23) (q_rg_lit (n := 20) (x := 20) rfl) g703 (by decide) (by decide) (by decide) (by decide)) (by decide) (by decide)) ?_
    have j705 : q_rgz (-2147483648) 2147483647 ((v1 - ((s.1 4) (((20 : Int32) + v4).toNatClampNeg))) >>> (r1 &&& 31)) := (q_rg_full _)
    refine q_E_L ?_
    generalize ((v1 - ((s.1 4) (((20 : Int32) + v4).toNatClampNeg))) >>> (r1 &&& 31)) = x2 at j705 ⊢
    refine q_E_A (q_in_rg (q_rg_add (L := 24) (U := 27) (q_rg_lit (n := 24) (x := 24) rfl) g703 (by decide) (by decide) (by decide) (by decide)) (by decide) (by decide)) ?_
    have j706 : q_rgz (-2147483648) 2147483647 ((v2 - ((s.1 4) (((24 : Int32) + v4).toNatClampNeg))) >>> (r1 &&& 31)) := (q_rg_full _)
    refine q_E_L ?_
    generalize ((v2 - ((s.1 4) (((24 : Int32) + v4).toNatClampNeg))) >>> (r1 &&& 31)) = x3 at j706 ⊢
    have j707 := dzj_N118_66 (s) hI (17) (v4)
    refine q_E_L ?_
    generalize dz_N118_66 s 17 v4 = r4 at j707 ⊢
    cases h708 : decide (r4 = 1) with
    | true =>
      have g709 := q_rg_eqT h708 (q_rg_lit (n := 1) (x := 1) rfl)
      refine q_E_T ?_
      cases h710 : decide (x2 < 0) with
      | true =>
        have g711 := (q_rg_ltT1 (l := -2147483648) (U := -1) h710 j705 (q_rg_lit (n := 0) (x := 0) rfl) (by decide))
        refine q_E_T ?_
        exact tk5 (s) hI (v1) (v2) (v3) (v4 + 1) (q_rg_le (L := 0) (U := 4) (q_rg_add (L := 1) (U := 4) g703 (q_rg_lit (n := 1) (x := 1) rfl) (by decide) (by decide) (by decide) (by decide)) (by decide) (by decide)) (q_meu g703 m5 (by decide) (by decide))
      | false =>
        have g712 := (q_rg_ltF1 (l2 := 0) (u := 2147483647) h710 j705 (q_rg_lit (n := 0) (x := 0) rfl))
        refine q_E_F ?_
        cases h713 : decide (x2 < 8) with
        | true =>
          have g714 := (q_rg_ltT1 (l := 0) (U := 7) h713 g712 (q_rg_lit (n := 8) (x := 8) rfl) (by decide))
          refine q_E_T ?_
          cases h715 : decide (x3 < 0) with
          | true =>
            have g716 := (q_rg_ltT1 (l := -2147483648) (U := -1) h715 j706 (q_rg_lit (n := 0) (x := 0) rfl) (by decide))
            refine q_E_T ?_
            exact tk5 (s) hI (v1) (v2) (v3) (v4 + 1) (q_rg_le (L := 0) (U := 4) (q_rg_add (L := 1) (U := 4) g703 (q_rg_lit (n := 1) (x := 1) rfl) (by decide) (by decide) (by decide) (by decide)) (by decide) (by decide)) (q_meu g703 m5 (by decide) (by decide))
          | false =>
            have g717 := (q_rg_ltF1 (l2 := 0) (u := 2147483647) h715 j706 (q_rg_lit (n := 0) (x := 0) rfl))
            refine q_E_F ?_
            cases h718 : decide (x3 < 8) with
            | true =>
              have g719 := (q_rg_ltT1 (l := 0) (U := 7) h718 g717 (q_rg_lit (n := 8) (x := 8) rfl) (by decide))
              refine q_E_T ?_
              have j720 := dzj_N120_66 (s) hI ((((256 * ((s.1 4) 7)) + 128) + (8 * v4)) + x3)
              refine q_E_L ?_
              generalize dz_N120_66 s ((((256 * ((s.1 4) 7)) + 128) + (8 * v4)) + x3) = r5 at j720 ⊢
              have j721 : q_rgz (-2147483648) 2147483647 (v3 ||| (((r5 >>> (((7 : Int32) - x2) &&& 31)) &&& 1) <<< (v4 &&& 31))) := (q_rg_full _)
              refine q_E_L ?_
              generalize (v3 ||| (((r5 >>> (((7 : Int32) - x2) &&& 31)) &&& 1) <<< (v4 &&& 31))) = x6 at j721 ⊢
              exact tk5 (s) hI (v1) (v2) (x6) (v4 + 1) (q_rg_le (L := 0) (U := 4) (q_rg_add (L := 1) (U := 4) g703 (q_rg_lit (n := 1) (x := 1) rfl) (by decide) (by decide) (by decide) (by decide)) (by decide) (by decide)) (q_meu g703 m5 (by decide) (by decide))
            | false =>
              have g722 := (q_rg_ltF1 (l2 := 8) (u := 2147483647) h718 g717 (q_rg_lit (n := 8) (x := 8) rfl))
              refine q_E_F ?_
              exact tk5 (s) hI (v1) (v2) (v3) (v4 + 1) (q_rg_le (L := 0) (U := 4) (q_rg_add (L := 1) (U := 4) g703 (q_rg_lit (n := 1) (x := 1) rfl) (by decide) (by decide) (by decide) (by decide)) (by decide) (by decide)) (q_meu g703 m5 (by decide) (by decide))
        | false =>
          have g723 := (q_rg_ltF1 (l2 := 8) (u := 2147483647) h713 g712 (q_rg_lit (n := 8) (x := 8) rfl))
          refine q_E_F ?_
          exact tk5 (s) hI (v1) (v2) (v3) (v4 + 1) (q_rg_le (L := 0) (U := 4) (q_rg_add (L := 1) (U := 4) g703 (q_rg_lit (n := 1) (x := 1) rfl) (by decide) (by decide) (by decide) (by decide)) (by decide) (by decide)) (q_meu g703 m5 (by decide) (by decide))
    | false =>
      refine q_E_F ?_
      exact tk5 (s) hI (v1) (v2) (v3) (v4 + 1) (q_rg_le (L := 0) (U := 4) (q_rg_add (L := 1) (U := 4) g703 (q_rg_lit (n := 1) (x := 1) rfl) (by decide) (by decide) (by decide) (by decide)) (by decide) (by decide)) (q_meu g703 m5 (by decide) (by decide))
  | false =>
    have g724 := (q_rg_ltF1 (l2 := 4) (u := 4) h702 rv4 (q_rg_lit (n := 4) (x := 4) rfl))
    refine q_E_F ?_
    exact q_E_x trivial
theorem dzj_N122_66_5  : ∀ (m : Nat) (s : q_S) (hI : q_iN s) (v1 : Int32) (v2 : Int32) (v3 : Int32) (v4 : Int32) (rv4 : q_rgz 0 4 v4), ((4 - v4.toInt).toNat : Int) ≤ (m : Int) → q_Ex (dz_N122_66_5 (m + 1) s v1 v2 v3 v4) (fun _ => True) := by
  intro m
  induction m with
  | zero => intro s hI v1 v2 v3 v4 rv4 hm; rw [dzs_N122_66_5]; exact dzjb_N122_66_5 (dz_N122_66_5 0) (-1) (fun s hI v1 v2 v3 v4 rv4 hm => absurd hm (by omega)) s hI v1 v2 v3 v4 rv4 (by omega)
  | succ m ih => intro s hI v1 v2 v3 v4 rv4 hm; rw [dzs_N122_66_5]; exact dzjb_N122_66_5 (dz_N122_66_5 (m + 1)) (m : Int) (fun s hI v1 v2 v3 v4 rv4 hm => ih s hI v1 v2 v3 v4 rv4 hm) s hI v1 v2 v3 v4 rv4 (by omega)
set_option maxHeartbeats 4000000 in
theorem dzj_N122_66  (s : q_S) (hI : q_iN s) (a1 : Int32) (a2 : Int32) : q_Ex (dz_N122_66 s a1 a2) (fun _ => True) := by
  unfold dz_N122_66
  exact dzj_N122_66_5 4999 (s) hI (a1) (a2) (0) (0) (q_rg_le (L := 0) (U := 4) (q_rg_lit (n := 0) (x := 0) rfl) (by decide) (by decide)) (q_meu0 (q_rg_lit (n := 0) (x := 0) rfl) (by decide) (by decide))
theorem dzj_N323  (s : q_S) (hI : q_iN s) (a0 : Int32) : (fun _ => True) (dz_N323 s a0) := trivial
theorem dzj_N121_66  (s : q_S) (hI : q_iN s) (a1 : Int32) : (fun _ => True) (dz_N121_66 s a1) := trivial
set_option maxHeartbeats 4000000 in
theorem dzj_N124_66_19  (s : q_S) (hI : q_iN s) (v1 : Int32) (v2 : Int32) : (q_iN) (dz_N124_66_19 s v1 v2) := by
  refine q_S_of (P := (q_iN)) ?_
  unfold dz_N124_66_19
  have j759 := dzj_N121_66 (s) hI (v1)
  refine q_S_L ?_
  generalize dz_N121_66 s v1 = r2 at j759 ⊢
  cases h760 : r2 with
  | true =>
    refine q_S_T ?_
    exact q_E_x (q_iN_A hI)
  | false =>
    refine q_S_F ?_
    exact q_E_x hI
set_option maxHeartbeats 4000000 in
theorem dzj_N124_66  (s : q_S) (hI : q_iN s) (a1 : Int32) (a2 : Int32) : (q_iN) (dz_N124_66 s a1 a2) := by
  refine q_S_of (P := (q_iN)) ?_
  unfold dz_N124_66
  have j761 := dzj_N323 (s) hI (a2)
  refine q_S_L ?_
  generalize dz_N323 s a2 = r1 at j761 ⊢
  cases h762 : decide (1 < r1) with
  | true =>
    have g763 := (q_rg_ltT2 (L := 2) (u2 := 2147483647) h762 (q_rg_lit (n := 1) (x := 1) rfl) (q_rg_full _) (by decide))
    refine q_S_T ?_
    exact q_E_x (dzj_N124_66_19 (q_sA s 4 (upd (s.1 4) 29 (((s.1 4) 29) ||| a2))) (q_iN_A hI) (a1) (a2))
  | false =>
    have g764 := (q_rg_ltF2 (l2 := -2147483648) (u := 1) h762 (q_rg_lit (n := 1) (x := 1) rfl) (q_rg_full _))
    refine q_S_F ?_
    exact q_E_x (dzj_N124_66_19 (s) hI (a1) (a2))
set_option maxHeartbeats 4000000 in
theorem dzj_N123_66_39  (s : q_S) (hI : q_iN s) (v1 : Int32) (v3 : Int32) (rv3 : q_rgz 0 3 v3) : q_Ex (dz_N123_66_39 s v1 v3) (fun _ => True) := by
  unfold dz_N123_66_39
  exact q_E_x trivial
set_option maxHeartbeats 4000000 in
theorem dzjb_N123_66_2  (k2 : q_S → Int32 → Int32 → Int32 → Option (Int32)) (M2 : Int) (tk2 : ∀ (s : q_S), q_iN s → ∀ (v1 : Int32) (v2 : Int32) (v3 : Int32), q_rgz 0 4 v3 → ((4 - v3.toInt).toNat : Int) ≤ M2 → q_Ex (k2 s v1 v2 v3) (fun _ => True)) (s : q_S) (hI : q_iN s) (v1 : Int32) (v2 : Int32) (v3 : Int32) (rv3 : q_rgz 0 4 v3) (m2 : ((4 - v3.toInt).toNat : Int) ≤ M2 + 1) : q_Ex (cond (decide (v3 < 4)) (cond (decide ((v2 >>> (v3 &&& 31)) &&& 1 = 1)) (q_let (dz_N118_66 s 19 v3) fun r1 => cond (decide (r1 = 1)) (q_let (dz_N121_66 s v1) fun r2 => cond r2 (cond (q_in ((3 : Int32) + (v1 &&& 3)) 48) (some ((s.1 4) (((3 : Int32) + (v1 &&& 3)).toNatClampNeg))) none) (dz_N123_66_39 s v1 v3)) (dz_N123_66_39 s v1 v3)) (k2 s v1 v2 (v3 + 1))) (cond (q_in ((3 : Int32) + (v1 &&& 3)) 48) (some ((s.1 4) (((3 : Int32) + (v1 &&& 3)).toNatClampNeg))) none)) (fun _ => True) := by
  cases h812 : decide (v3 < 4) with
  | true =>
    have g813 := (q_rg_ltT1 (l := 0) (U := 3) h812 rv3 (q_rg_lit (n := 4) (x := 4) rfl) (by decide))
    refine q_E_T ?_
    cases h814 : decide ((v2 >>> (v3 &&& 31)) &&& 1 = 1) with
    | true =>
      have g815 := q_rg_eqT h814 (q_rg_lit (n := 1) (x := 1) rfl)
      refine q_E_T ?_
      have j816 := dzj_N118_66 (s) hI (19) (v3)
      refine q_E_L ?_
      generalize dz_N118_66 s 19 v3 = r1 at j816 ⊢
      cases h817 : decide (r1 = 1) with
      | true =>
        have g818 := q_rg_eqT h817 (q_rg_lit (n := 1) (x := 1) rfl)
        refine q_E_T ?_
        have j819 := dzj_N121_66 (s) hI (v1)
        refine q_E_L ?_
        generalize dz_N121_66 s v1 = r2 at j819 ⊢
        cases h820 : r2 with
        | true =>
          refine q_E_T ?_
          refine q_E_A (q_in_rg (q_rg_add (L := 3) (U := 6) (q_rg_lit (n := 3) (x := 3) rfl) (q_rg_and v1 3 (U := 3) (by decide) rfl) (by decide) (by decide) (by decide) (by decide)) (by decide) (by decide)) ?_
          exact q_E_x trivial
        | false =>
          refine q_E_F ?_
          exact dzj_N123_66_39 (s) hI (v1) (v3) (q_rg_le (L := 0) (U := 3) g813 (by decide) (by decide))
      | false =>
        refine q_E_F ?_
        exact dzj_N123_66_39 (s) hI (v1) (v3) (q_rg_le (L := 0) (U := 3) g813 (by decide) (by decide))
    | false =>
      have g821 := (q_rg_neU (l := 0) (u := 1) (n := 1) (U := 0) h814 (q_rg_and (v2 >>> (v3 &&& 31)) 1 (U := 1) (by decide) rfl) rfl (by decide) (by decide))
      refine q_E_F ?_
      exact tk2 (s) hI (v1) (v2) (v3 + 1) (q_rg_le (L := 0) (U := 4) (q_rg_add (L := 1) (U := 4) g813 (q_rg_lit (n := 1) (x := 1) rfl) (by decide) (by decide) (by decide) (by decide)) (by decide) (by decide)) (q_meu g813 m2 (by decide) (by decide))
  | false =>
    have g822 := (q_rg_ltF1 (l2 := 4) (u := 4) h812 rv3 (q_rg_lit (n := 4) (x := 4) rfl))
    refine q_E_F ?_
    refine q_E_A (q_in_rg (q_rg_add (L := 3) (U := 6) (q_rg_lit (n := 3) (x := 3) rfl) (q_rg_and v1 3 (U := 3) (by decide) rfl) (by decide) (by decide) (by decide) (by decide)) (by decide) (by decide)) ?_
    exact q_E_x trivial
theorem dzj_N123_66_2  : ∀ (m : Nat) (s : q_S) (hI : q_iN s) (v1 : Int32) (v2 : Int32) (v3 : Int32) (rv3 : q_rgz 0 4 v3), ((4 - v3.toInt).toNat : Int) ≤ (m : Int) → q_Ex (dz_N123_66_2 (m + 1) s v1 v2 v3) (fun _ => True) := by
  intro m
  induction m with
  | zero => intro s hI v1 v2 v3 rv3 hm; rw [dzs_N123_66_2]; exact dzjb_N123_66_2 (dz_N123_66_2 0) (-1) (fun s hI v1 v2 v3 rv3 hm => absurd hm (by omega)) s hI v1 v2 v3 rv3 (by omega)
  | succ m ih => intro s hI v1 v2 v3 rv3 hm; rw [dzs_N123_66_2]; exact dzjb_N123_66_2 (dz_N123_66_2 (m + 1)) (m : Int) (fun s hI v1 v2 v3 rv3 hm => ih s hI v1 v2 v3 rv3 hm) s hI v1 v2 v3 rv3 (by omega)
set_option maxHeartbeats 4000000 in
theorem dzj_N123_66  (s : q_S) (hI : q_iN s) (a1 : Int32) (a2 : Int32) : q_Ex (dz_N123_66 s a1 a2) (fun _ => True) := by
  unfold dz_N123_66
  exact dzj_N123_66_2 4999 (s) hI (a1) (a2) (0) (q_rg_le (L := 0) (U := 4) (q_rg_lit (n := 0) (x := 0) rfl) (by decide) (by decide)) (q_meu0 (q_rg_lit (n := 0) (x := 0) rfl) (by decide) (by decide))
set_option maxHeartbeats 4000000 in
theorem dzjb_N103_65_95_47  (k47 : q_S → Int32 → Int32 → Int32 → Option (q_S)) (M47 : Int) (tk47 : ∀ (s : q_S), q_iN s → ∀ (v2 : Int32) (v4 : Int32) (v5 : Int32), q_rgz 0 31 v2 → q_rgz 0 30 v4 → q_rgz 0 32 v5 → ((32 - v5.toInt).toNat : Int) ≤ M47 → q_Ex (k47 s v2 v4 v5) (q_iN)) (s : q_S) (hI : q_iN s) (v2 : Int32) (v4 : Int32) (v5 : Int32) (rv2 : q_rgz 0 31 v2) (rv4 : q_rgz 0 30 v4) (rv5 : q_rgz 0 32 v5) (m47 : ((32 - v5.toInt).toNat : Int) ≤ M47 + 1) : q_Ex (cond (decide (v4 + 1 < v5)) (cond (decide (lg_cmp (((s.2.2 1 8) / 960) - ((s.2.2 1 8) / 960) / 2 * 2) 0 = 0)) (some (q_sI s 13 3 ((s.2.1 13 3) + 1))) (some (q_sI s 18 3 ((s.2.1 18 3) + 1)))) (q_let (dz_N119_66 s v5 v2) fun r3 => (dz_N122_66 s v5 v2).bind fun r4 => q_let (dz_N124_66 s r3 r4) fun r5 => (dz_N123_66 r5 r3 r4).bind fun r6 => k47 (q_sA r5 31 (upd (r5.1 31) ((((32 * v2) + v5) &&& 1023).toNatClampNeg) r6)) v2 v4 (v5 + 1))) (q_iN) := by
  cases h944 : decide (v4 + 1 < v5) with
  | true =>
    have g945 := (q_rg_ltT2 (L := 2) (u2 := 32) h944 (q_rg_add (L := 1) (U := 31) rv4 (q_rg_lit (n := 1) (x := 1) rfl) (by decide) (by decide) (by decide) (by decide)) rv5 (by decide))
    refine q_E_T ?_
    cases h946 : decide (lg_cmp (((s.2.2 1 8) / 960) - ((s.2.2 1 8) / 960) / 2 * 2) 0 = 0) with
    | true =>
      have g947 := q_rg_eqT h946 (q_rg_lit (n := 0) (x := 0) rfl)
      refine q_E_T ?_
      exact q_E_x (q_iN_I (i := 13) (m := 3) hI (by decide))
    | false =>
      refine q_E_F ?_
      exact q_E_x (q_iN_I (i := 18) (m := 3) hI (by decide))
  | false =>
    have g948 := (q_rg_ltF2 (l2 := 0) (u := 31) h944 (q_rg_add (L := 1) (U := 31) rv4 (q_rg_lit (n := 1) (x := 1) rfl) (by decide) (by decide) (by decide) (by decide)) rv5)
    refine q_E_F ?_
    have j949 := dzj_N119_66 (s) hI (v5) (v2)
    refine q_E_L ?_
    generalize dz_N119_66 s v5 v2 = r3 at j949 ⊢
    obtain ⟨r4, e951, j950⟩ := dzj_N122_66 (s) hI (v5) (v2)
    rw [e951]
    refine q_E_B ?_
    have j952 := dzj_N124_66 (s) hI (r3) (r4)
    refine q_E_L ?_
    generalize dz_N124_66 s r3 r4 = r5 at j952 ⊢
    obtain ⟨r6, e954, j953⟩ := dzj_N123_66 (r5) j952 (r3) (r4)
    rw [e954]
    refine q_E_B ?_
    exact tk47 (q_sA r5 31 (upd (r5.1 31) ((((32 * v2) + v5) &&& 1023).toNatClampNeg) r6)) (q_iN_A j952) (v2) (v4) (v5 + 1) (q_rg_le (L := 0) (U := 31) rv2 (by decide) (by decide)) (q_rg_le (L := 0) (U := 30) rv4 (by decide) (by decide)) (q_rg_le (L := 0) (U := 32) (q_rg_add (L := 1) (U := 32) g948 (q_rg_lit (n := 1) (x := 1) rfl) (by decide) (by decide) (by decide) (by decide)) (by decide) (by decide)) (q_meu g948 m47 (by decide) (by decide))
theorem dzj_N103_65_95_47  : ∀ (m : Nat) (s : q_S) (hI : q_iN s) (v2 : Int32) (v4 : Int32) (v5 : Int32) (rv2 : q_rgz 0 31 v2) (rv4 : q_rgz 0 30 v4) (rv5 : q_rgz 0 32 v5), ((32 - v5.toInt).toNat : Int) ≤ (m : Int) → q_Ex (dz_N103_65_95_47 (m + 1) s v2 v4 v5) (q_iN) := by
  intro m
  induction m with
  | zero => intro s hI v2 v4 v5 rv2 rv4 rv5 hm; rw [dzs_N103_65_95_47]; exact dzjb_N103_65_95_47 (dz_N103_65_95_47 0) (-1) (fun s hI v2 v4 v5 rv2 rv4 rv5 hm => absurd hm (by omega)) s hI v2 v4 v5 rv2 rv4 rv5 (by omega)
  | succ m ih => intro s hI v2 v4 v5 rv2 rv4 rv5 hm; rw [dzs_N103_65_95_47]; exact dzjb_N103_65_95_47 (dz_N103_65_95_47 (m + 1)) (m : Int) (fun s hI v2 v4 v5 rv2 rv4 rv5 hm => ih s hI v2 v4 v5 rv2 rv4 rv5 hm) s hI v2 v4 v5 rv2 rv4 rv5 (by omega)
set_option maxHeartbeats 4000000 in
theorem dzj_N103_65_95  (s : q_S) (hI : q_iN s) : q_Ex (dz_N103_65_95 s) (q_iN) := by
  unfold dz_N103_65_95
  have j955 := dzj_N86_65 (s) hI
  refine q_E_L ?_
  generalize dz_N86_65 s = r1 at j955 ⊢
  have j956 := dzj_N87_65 (s) hI
  refine q_E_L ?_
  generalize dz_N87_65 s = r2 at j956 ⊢
  cases h957 : decide ((r1 / 24) - 4 < 0) with
  | true =>
    have g958 := (q_rg_ltT1 (l := -2147483648) (U := -1) h957 (q_rg_full _) (q_rg_lit (n := 0) (x := 0) rfl) (by decide))
    refine q_E_T ?_
    cases h959 : decide (lg_cmp (((s.2.2 1 8) / 960) - ((s.2.2 1 8) / 960) / 2 * 2) 0 = 0) with
    | true =>
      have g960 := q_rg_eqT h959 (q_rg_lit (n := 0) (x := 0) rfl)
      refine q_E_T ?_
      exact q_E_x (q_iN_I (i := 13) (m := 3) hI (by decide))
    | false =>
      refine q_E_F ?_
      exact q_E_x (q_iN_I (i := 18) (m := 3) hI (by decide))
  | false =>
    have g961 := (q_rg_ltF1 (l2 := 0) (u := 2147483647) h957 (q_rg_full _) (q_rg_lit (n := 0) (x := 0) rfl))
    refine q_E_F ?_
    cases h962 : decide ((r1 / 24) - 4 < 32) with
    | true =>
      have g963 := (q_rg_ltT1 (l := 0) (U := 31) h962 g961 (q_rg_lit (n := 32) (x := 32) rfl) (by decide))
      refine q_E_T ?_
      cases h964 : decide (r2 < 4) with
      | true =>
        have g965 := (q_rg_ltT1 (l := -2147483648) (U := 3) h964 (q_rg_full _) (q_rg_lit (n := 4) (x := 4) rfl) (by decide))
        refine q_E_T ?_
        cases h966 : decide (lg_cmp (((s.2.2 1 8) / 960) - ((s.2.2 1 8) / 960) / 2 * 2) 0 = 0) with
        | true =>
          have g967 := q_rg_eqT h966 (q_rg_lit (n := 0) (x := 0) rfl)
          refine q_E_T ?_
          exact q_E_x (q_iN_I (i := 13) (m := 3) hI (by decide))
        | false =>
          refine q_E_F ?_
          exact q_E_x (q_iN_I (i := 18) (m := 3) hI (by decide))
      | false =>
        have g968 := (q_rg_ltF1 (l2 := 4) (u := 2147483647) h964 (q_rg_full _) (q_rg_lit (n := 4) (x := 4) rfl))
        refine q_E_F ?_
        cases h969 : decide (19 < r2) with
        | true =>
          have g970 := (q_rg_ltT2 (L := 20) (u2 := 2147483647) h969 (q_rg_lit (n := 19) (x := 19) rfl) g968 (by decide))
          refine q_E_T ?_
          cases h971 : decide (lg_cmp (((s.2.2 1 8) / 960) - ((s.2.2 1 8) / 960) / 2 * 2) 0 = 0) with
          | true =>
            have g972 := q_rg_eqT h971 (q_rg_lit (n := 0) (x := 0) rfl)
            refine q_E_T ?_
            exact q_E_x (q_iN_I (i := 13) (m := 3) hI (by decide))
          | false =>
            refine q_E_F ?_
            exact q_E_x (q_iN_I (i := 18) (m := 3) hI (by decide))
        | false =>
          have g973 := (q_rg_ltF2 (l2 := 4) (u := 19) h969 (q_rg_lit (n := 19) (x := 19) rfl) g968)
          refine q_E_F ?_
          exact dzj_N103_65_95_47 4999 (s) hI ((r1 / 24) - 4) (2 * (r2 - 4)) (2 * (r2 - 4)) (q_rg_le (L := 0) (U := 31) g963 (by decide) (by decide)) (q_rg_le (L := 0) (U := 30) (q_rg_mul (L := 0) (U := 30) (q_rg_lit (n := 2) (x := 2) rfl) (q_rg_sub (L := 0) (U := 15) g973 (q_rg_lit (n := 4) (x := 4) rfl) (by decide) (by decide) (by decide) (by decide)) (by decide) (by decide) (by decide) (by decide) (by decide) (by decide)) (by decide) (by decide)) (q_rg_le (L := 0) (U := 32) (q_rg_mul (L := 0) (U := 30) (q_rg_lit (n := 2) (x := 2) rfl) (q_rg_sub (L := 0) (U := 15) g973 (q_rg_lit (n := 4) (x := 4) rfl) (by decide) (by decide) (by decide) (by decide)) (by decide) (by decide) (by decide) (by decide) (by decide) (by decide)) (by decide) (by decide)) (q_meu0 (q_rg_mul (L := 0) (U := 30) (q_rg_lit (n := 2) (x := 2) rfl) (q_rg_sub (L := 0) (U := 15) g973 (q_rg_lit (n := 4) (x := 4) rfl) (by decide) (by decide) (by decide) (by decide)) (by decide) (by decide) (by decide) (by decide) (by decide) (by decide)) (by decide) (by decide))
    | false =>
      have g974 := (q_rg_ltF1 (l2 := 32) (u := 2147483647) h962 g961 (q_rg_lit (n := 32) (x := 32) rfl))
      refine q_E_F ?_
      cases h975 : decide (lg_cmp (((s.2.2 1 8) / 960) - ((s.2.2 1 8) / 960) / 2 * 2) 0 = 0) with
      | true =>
        have g976 := q_rg_eqT h975 (q_rg_lit (n := 0) (x := 0) rfl)
        refine q_E_T ?_
        exact q_E_x (q_iN_I (i := 13) (m := 3) hI (by decide))
      | false =>
        refine q_E_F ?_
        exact q_E_x (q_iN_I (i := 18) (m := 3) hI (by decide))
set_option maxHeartbeats 4000000 in
theorem dzj_N105_65  (s : q_S) (hI : q_iN s) (a1 : Int32) : q_Ex (dz_N105_65 s a1) (fun (x : q_S × Bool) => q_iN x.1) := by
  unfold dz_N105_65
  cases h982 : decide (0 < (s.1 7) ((a1 &&& 1).toNatClampNeg)) with
  | true =>
    have g983 := (q_rg_ltT2 (L := 1) (u2 := 2147483647) h982 (q_rg_lit (n := 0) (x := 0) rfl) (q_rg_full _) (by decide))
    refine q_E_T ?_
    exact q_E_x (q_iN_A hI)
  | false =>
    have g984 := (q_rg_ltF2 (l2 := -2147483648) (u := 0) h982 (q_rg_lit (n := 0) (x := 0) rfl) (q_rg_full _))
    refine q_E_F ?_
    obtain ⟨r2, e986, j985⟩ := dzj_N95_65 (s) hI ((1 : Int32) <<< ((a1 &&& 1) &&& 31))
    rw [e986]
    refine q_E_B ?_
    exact q_E_x (q_iN_A j985)
set_option maxHeartbeats 4000000 in
theorem dzj_N104_65_26  (s : q_S) (hI : q_iN s) (v1 : Int32) (v2 : Int32) (rv2 : q_rgz 0 1 v2) : q_Ex (dz_N104_65_26 s v1 v2) (q_iN) := by
  unfold dz_N104_65_26
  cases h1014 : decide (v1 &&& 2 = 2) with
  | true =>
    have g1015 := q_rg_eqT h1014 (q_rg_lit (n := 2) (x := 2) rfl)
    refine q_E_T ?_
    cases h1016 : decide (v1 &&& 4 = 0) with
    | true =>
      have g1017 := q_rg_eqT h1016 (q_rg_lit (n := 0) (x := 0) rfl)
      refine q_E_T ?_
      obtain ⟨r3, e1019, j1018⟩ := dzj_N105_65 (s) hI (1)
      rw [e1019]
      refine q_E_B ?_
      cases h1020 : r3.2 with
      | true =>
        refine q_E_T ?_
        exact q_E_x j1018
      | false =>
        refine q_E_F ?_
        exact q_E_x j1018
    | false =>
      have g1021 := (q_rg_neL (l := 0) (u := 4) (n := 0) (L := 1) h1016 (q_rg_and v1 4 (U := 4) (by decide) rfl) rfl (by decide) (by decide))
      refine q_E_F ?_
      cases h1022 : decide (v2 = 0) with
      | true =>
        have g1023 := q_rg_eqT h1022 (q_rg_lit (n := 0) (x := 0) rfl)
        refine q_E_T ?_
        exact q_E_x hI
      | false =>
        have g1024 := (q_rg_neL (l := 0) (u := 1) (n := 0) (L := 1) h1022 rv2 rfl (by decide) (by decide))
        refine q_E_F ?_
        obtain ⟨r4, e1026, j1025⟩ := dzj_N105_65 (s) hI (1)
        rw [e1026]
        refine q_E_B ?_
        cases h1027 : r4.2 with
        | true =>
          refine q_E_T ?_
          exact q_E_x j1025
        | false =>
          refine q_E_F ?_
          exact q_E_x j1025
  | false =>
    have g1028 := (q_rg_neU (l := 0) (u := 2) (n := 2) (U := 1) h1014 (q_rg_and v1 2 (U := 2) (by decide) rfl) rfl (by decide) (by decide))
    refine q_E_F ?_
    exact q_E_x hI
set_option maxHeartbeats 4000000 in
theorem dzj_N104_65  (s : q_S) (hI : q_iN s) : q_Ex (dz_N104_65 s) (q_iN) := by
  unfold dz_N104_65
  cases h1029 : decide (((s.1 4) 16) &&& 1 = 1) with
  | true =>
    have g1030 := q_rg_eqT h1029 (q_rg_lit (n := 1) (x := 1) rfl)
    refine q_E_T ?_
    obtain ⟨r2, e1032, j1031⟩ := dzj_N105_65 (s) hI (0)
    rw [e1032]
    refine q_E_B ?_
    cases h1033 : r2.2 with
    | true =>
      refine q_E_T ?_
      exact dzj_N104_65_26 (r2.1) j1031 ((s.1 4) 16) (1) (q_rg_le (L := 0) (U := 1) (q_rg_lit (n := 1) (x := 1) rfl) (by decide) (by decide))
    | false =>
      refine q_E_F ?_
      exact dzj_N104_65_26 (r2.1) j1031 ((s.1 4) 16) (0) (q_rg_le (L := 0) (U := 1) (q_rg_lit (n := 0) (x := 0) rfl) (by decide) (by decide))
  | false =>
    have g1034 := (q_rg_neU (l := 0) (u := 1) (n := 1) (U := 0) h1029 (q_rg_and ((s.1 4) 16) 1 (U := 1) (by decide) rfl) rfl (by decide) (by decide))
    refine q_E_F ?_
    exact dzj_N104_65_26 (s) hI ((s.1 4) 16) (0) (q_rg_le (L := 0) (U := 1) (q_rg_lit (n := 0) (x := 0) rfl) (by decide) (by decide))
set_option maxHeartbeats 4000000 in
theorem dzj_N177_72  (s : q_S) (hI : q_iN s) : (fun (x : q_S × Bool) => q_iN x.1) (dz_N177_72 s) := by
  refine q_S_of (P := (fun (x : q_S × Bool) => q_iN x.1)) ?_
  unfold dz_N177_72
  cases h1047 : decide (s.2.1 8 2 < 0) with
  | true =>
    have g1048 := (q_rg_ltT1 (l := -2147483648) (U := -1) h1047 (q_rg_full _) (q_rg_lit (n := 0) (x := 0) rfl) (by decide))
    refine q_S_T ?_
    exact q_E_x hI
  | false =>
    have g1049 := (q_rg_ltF1 (l2 := 0) (u := 2147483647) h1047 (q_rg_full _) (q_rg_lit (n := 0) (x := 0) rfl))
    refine q_S_F ?_
    cases h1050 : decide (s.2.1 8 2 < s.2.1 8 1) with
    | true =>
      have g1051 := (q_rg_ltT1 (l := 0) (U := 2147483646) h1050 g1049 (q_rg_full _) (by decide))
      have g1052 := (q_rg_ltT2 (L := 1) (u2 := 2147483647) h1050 g1049 (q_rg_full _) (by decide))
      refine q_S_T ?_
      cases h1053 : decide (s.2.1 8 2 < 40) with
      | true =>
        have g1054 := (q_rg_ltT1 (l := 0) (U := 39) h1053 g1051 (q_rg_lit (n := 40) (x := 40) rfl) (by decide))
        refine q_S_T ?_
        cases h1055 : decide ((s.2.1 8 3) + 1 < (s.1 9) ((s.2.1 8 2).toNatClampNeg)) with
        | true =>
          have g1056 := (q_rg_ltT1 (l := -2147483648) (U := 2147483646) h1055 (q_rg_full _) (q_rg_full _) (by decide))
          have g1057 := (q_rg_ltT2 (L := -2147483647) (u2 := 2147483647) h1055 (q_rg_full _) (q_rg_full _) (by decide))
          refine q_S_T ?_
          exact q_E_x (q_iN_I (i := 8) (m := 3) hI (by decide))
        | false =>
          refine q_S_F ?_
          exact q_E_x (q_iN_I (i := 8) (m := 4) (q_iN_I (i := 8) (m := 2) (q_iN_I (i := 8) (m := 3) hI (by decide)) (by decide)) (by decide))
      | false =>
        have g1058 := (q_rg_ltF1 (l2 := 40) (u := 2147483646) h1053 g1051 (q_rg_lit (n := 40) (x := 40) rfl))
        refine q_S_F ?_
        exact q_E_x hI
    | false =>
      refine q_S_F ?_
      exact q_E_x hI
set_option maxHeartbeats 4000000 in
theorem dzj_N106_65  (s : q_S) (hI : q_iN s) : (q_iN) (dz_N106_65 s) := by
  refine q_S_of (P := (q_iN)) ?_
  unfold dz_N106_65
  cases h1063 : decide ((s.1 4) 44 = 1) with
  | true =>
    have g1064 := q_rg_eqT h1063 (q_rg_lit (n := 1) (x := 1) rfl)
    refine q_S_T ?_
    have j1065 := dzj_N177_72 (s) hI
    refine q_S_L ?_
    generalize dz_N177_72 s = r1 at j1065 ⊢
    cases h1066 : r1.2 with
    | true =>
      refine q_S_T ?_
      exact q_E_x (q_iN_A j1065)
    | false =>
      refine q_S_F ?_
      exact q_E_x j1065
  | false =>
    refine q_S_F ?_
    exact q_E_x hI
set_option maxHeartbeats 4000000 in
theorem dzj_N169_89_59  (s : q_S) (hI : q_iN s) (v1 : Int32) (v4 : Int32) (rv1 : q_rgz 0 2 v1) : q_Ex (dz_N169_89_59 s v1 v4) (q_iN) := by
  unfold dz_N169_89_59
  refine q_E_A (q_in_rg rv1 (by decide) (by decide)) ?_
  exact q_E_x (q_iN_A hI)
set_option maxHeartbeats 4000000 in
theorem dzj_N169_89  (s : q_S) (hI : q_iN s) (a1 : Int32) (a2 : Int32) : q_Ex (dz_N169_89 s a1 a2) (q_iN) := by
  unfold dz_N169_89
  cases h1093 : decide (a1 < 0) with
  | true =>
    have g1094 := (q_rg_ltT1 (l := -2147483648) (U := -1) h1093 (q_rg_full _) (q_rg_lit (n := 0) (x := 0) rfl) (by decide))
    refine q_E_T ?_
    exact q_E_x hI
  | false =>
    have g1095 := (q_rg_ltF1 (l2 := 0) (u := 2147483647) h1093 (q_rg_full _) (q_rg_lit (n := 0) (x := 0) rfl))
    refine q_E_F ?_
    cases h1096 : decide (a1 < 3) with
    | true =>
      have g1097 := (q_rg_ltT1 (l := 0) (U := 2) h1096 g1095 (q_rg_lit (n := 3) (x := 3) rfl) (by decide))
      refine q_E_T ?_
      cases h1098 : decide (65535 < ((s.1 26) (a1.toNatClampNeg)) + a2) with
      | true =>
        have g1099 := (q_rg_ltT2 (L := 65536) (u2 := 2147483647) h1098 (q_rg_lit (n := 65535) (x := 65535) rfl) (q_rg_full _) (by decide))
        refine q_E_T ?_
        cases h1100 : decide (((s.1 29) (a1.toNatClampNeg)) &&& 3 = 1) with
        | true =>
          have g1101 := q_rg_eqT h1100 (q_rg_lit (n := 1) (x := 1) rfl)
          refine q_E_T ?_
          exact dzj_N169_89_59 (q_sA s 26 (upd (s.1 26) (a1.toNatClampNeg) ((((s.1 26) (a1.toNatClampNeg)) + a2) - (((s.1 26) (a1.toNatClampNeg)) + a2) / 65536 * 65536))) (q_iN_A hI) (a1) ((s.1 29) (a1.toNatClampNeg)) (q_rg_le (L := 0) (U := 2) g1097 (by decide) (by decide))
        | false =>
          refine q_E_F ?_
          cases h1102 : decide (((s.1 29) (a1.toNatClampNeg)) &&& 3 = 2) with
          | true =>
            have g1103 := q_rg_eqT h1102 (q_rg_lit (n := 2) (x := 2) rfl)
            refine q_E_T ?_
            exact dzj_N169_89_59 (q_sA s 26 (upd (s.1 26) (a1.toNatClampNeg) ((((s.1 26) (a1.toNatClampNeg)) + a2) - (((s.1 26) (a1.toNatClampNeg)) + a2) / 65536 * 65536))) (q_iN_A hI) (a1) ((s.1 29) (a1.toNatClampNeg)) (q_rg_le (L := 0) (U := 2) g1097 (by decide) (by decide))
          | false =>
            refine q_E_F ?_
            exact q_E_x (q_iN_A (q_iN_A hI))
      | false =>
        have g1104 := (q_rg_ltF2 (l2 := -2147483648) (u := 65535) h1098 (q_rg_lit (n := 65535) (x := 65535) rfl) (q_rg_full _))
        refine q_E_F ?_
        exact q_E_x (q_iN_A hI)
    | false =>
      have g1105 := (q_rg_ltF1 (l2 := 3) (u := 2147483647) h1096 g1095 (q_rg_lit (n := 3) (x := 3) rfl))
      refine q_E_F ?_
      exact q_E_x hI
set_option maxHeartbeats 4000000 in
theorem dzj_N170_89_t_80  (s : q_S) (hI : q_iN s) (v1 : Int32) (v2 : Int32) (rv1 : q_rgz 0 2 v1) (rv2 : q_rgz 1 1 v2) : q_Ex (dz_N170_89_t_80 s v1 v2) (q_iN) := by
  unfold dz_N170_89_t_80
  cases h1131 : decide (v2 = 0) with
  | true =>
    exact (q_rg_no (q_rg_le (L := 1) (U := 0) ⟨rv2.1, (q_rg_eqT h1131 (q_rg_lit (n := 0) (x := 0) rfl)).2⟩ (by decide) (by decide)) (by decide)).elim
  | false =>
    refine q_E_F ?_
    exact q_E_x hI
set_option maxHeartbeats 4000000 in
theorem dzj_N170_89_t  (s : q_S) (hI : q_iN s) (a1 : Int32) (a3 : Int32) : q_Ex (dz_N170_89_t s a1 a3) (q_iN) := by
  unfold dz_N170_89_t
  cases h1132 : decide (a1 < 0) with
  | true =>
    have g1133 := (q_rg_ltT1 (l := -2147483648) (U := -1) h1132 (q_rg_full _) (q_rg_lit (n := 0) (x := 0) rfl) (by decide))
    refine q_E_T ?_
    exact q_E_x hI
  | false =>
    have g1134 := (q_rg_ltF1 (l2 := 0) (u := 2147483647) h1132 (q_rg_full _) (q_rg_lit (n := 0) (x := 0) rfl))
    refine q_E_F ?_
    cases h1135 : decide (a1 < 3) with
    | true =>
      have g1136 := (q_rg_ltT1 (l := 0) (U := 2) h1135 g1134 (q_rg_lit (n := 3) (x := 3) rfl) (by decide))
      refine q_E_T ?_
      cases h1137 : decide (a3 - a3 / 16 * 16 < (upd (s.1 28) (a1.toNatClampNeg) (((s.1 28) (a1.toNatClampNeg)) + 1)) (a1.toNatClampNeg)) with
      | true =>
        have g1138 := (q_rg_ltT1 (l := -2147483648) (U := 2147483646) h1137 (q_rg_full _) (q_rg_full _) (by decide))
        have g1139 := (q_rg_ltT2 (L := -2147483647) (u2 := 2147483647) h1137 (q_rg_full _) (q_rg_full _) (by decide))
        refine q_E_T ?_
        cases h1140 : decide ((s.1 27) (a1.toNatClampNeg) < 15) with
        | true =>
          have g1141 := (q_rg_ltT1 (l := -2147483648) (U := 14) h1140 (q_rg_full _) (q_rg_lit (n := 15) (x := 15) rfl) (by decide))
          refine q_E_T ?_
          exact q_E_x (q_iN_A (q_iN_A hI))
        | false =>
          have g1142 := (q_rg_ltF1 (l2 := 15) (u := 2147483647) h1140 (q_rg_full _) (q_rg_lit (n := 15) (x := 15) rfl))
          refine q_E_F ?_
          exact dzj_N170_89_t_80 (q_sA s 28 (upd (upd (s.1 28) (a1.toNatClampNeg) (((s.1 28) (a1.toNatClampNeg)) + 1)) (a1.toNatClampNeg) 0)) (q_iN_A hI) (a1) (1) (q_rg_le (L := 0) (U := 2) g1136 (by decide) (by decide)) (q_rg_le (L := 1) (U := 1) (q_rg_lit (n := 1) (x := 1) rfl) (by decide) (by decide))
      | false =>
        refine q_E_F ?_
        exact q_E_x (q_iN_A hI)
    | false =>
      have g1143 := (q_rg_ltF1 (l2 := 3) (u := 2147483647) h1135 g1134 (q_rg_lit (n := 3) (x := 3) rfl))
      refine q_E_F ?_
      exact q_E_x hI
set_option maxHeartbeats 4000000 in
theorem dzj_N170_89_f_80  (s : q_S) (hI : q_iN s) (v1 : Int32) (v2 : Int32) (rv1 : q_rgz 0 2 v1) (rv2 : q_rgz 0 0 v2) : q_Ex (dz_N170_89_f_80 s v1 v2) (q_iN) := by
  unfold dz_N170_89_f_80
  cases h1167 : decide (v2 = 0) with
  | true =>
    have g1168 := q_rg_eqT h1167 (q_rg_lit (n := 0) (x := 0) rfl)
    refine q_E_T ?_
    refine q_E_A (q_in_rg rv1 (by decide) (by decide)) ?_
    cases h1169 : decide (0 < (s.1 27) (v1.toNatClampNeg)) with
    | true =>
      have g1170 := (q_rg_ltT2 (L := 1) (u2 := 2147483647) h1169 (q_rg_lit (n := 0) (x := 0) rfl) (q_rg_full _) (by decide))
      refine q_E_T ?_
      exact q_E_x (q_iN_A hI)
    | false =>
      have g1171 := (q_rg_ltF2 (l2 := -2147483648) (u := 0) h1169 (q_rg_lit (n := 0) (x := 0) rfl) (q_rg_full _))
      refine q_E_F ?_
      exact q_E_x hI
  | false =>
    exact (q_rg_no (q_rg_neL (l := 0) (u := 0) (n := 0) (L := 1) h1167 rv2 rfl (by decide) (by decide)) (by decide)).elim
set_option maxHeartbeats 4000000 in
theorem dzj_N170_89_f  (s : q_S) (hI : q_iN s) (a1 : Int32) (a3 : Int32) : q_Ex (dz_N170_89_f s a1 a3) (q_iN) := by
  unfold dz_N170_89_f
  cases h1172 : decide (a1 < 0) with
  | true =>
    have g1173 := (q_rg_ltT1 (l := -2147483648) (U := -1) h1172 (q_rg_full _) (q_rg_lit (n := 0) (x := 0) rfl) (by decide))
    refine q_E_T ?_
    exact q_E_x hI
  | false =>
    have g1174 := (q_rg_ltF1 (l2 := 0) (u := 2147483647) h1172 (q_rg_full _) (q_rg_lit (n := 0) (x := 0) rfl))
    refine q_E_F ?_
    cases h1175 : decide (a1 < 3) with
    | true =>
      have g1176 := (q_rg_ltT1 (l := 0) (U := 2) h1175 g1174 (q_rg_lit (n := 3) (x := 3) rfl) (by decide))
      refine q_E_T ?_
      cases h1177 : decide (a3 / 16 < (upd (s.1 28) (a1.toNatClampNeg) (((s.1 28) (a1.toNatClampNeg)) + 1)) (a1.toNatClampNeg)) with
      | true =>
        have g1178 := (q_rg_ltT1 (l := -2147483648) (U := 2147483646) h1177 (q_rg_full _) (q_rg_full _) (by decide))
        have g1179 := (q_rg_ltT2 (L := -2147483647) (u2 := 2147483647) h1177 (q_rg_full _) (q_rg_full _) (by decide))
        refine q_E_T ?_
        exact dzj_N170_89_f_80 (q_sA s 28 (upd (upd (s.1 28) (a1.toNatClampNeg) (((s.1 28) (a1.toNatClampNeg)) + 1)) (a1.toNatClampNeg) 0)) (q_iN_A hI) (a1) (0) (q_rg_le (L := 0) (U := 2) g1176 (by decide) (by decide)) (q_rg_le (L := 0) (U := 0) (q_rg_lit (n := 0) (x := 0) rfl) (by decide) (by decide))
      | false =>
        refine q_E_F ?_
        exact q_E_x (q_iN_A hI)
    | false =>
      have g1180 := (q_rg_ltF1 (l2 := 3) (u := 2147483647) h1175 g1174 (q_rg_lit (n := 3) (x := 3) rfl))
      refine q_E_F ?_
      exact q_E_x hI
theorem dzj_N172  (s : q_S) (hI : q_iN s) (a0 : Int32) (a1 : Int32) (a2 : Int32) : (fun _ => True) (dz_N172 s a0 a1 a2) := trivial
set_option maxHeartbeats 4000000 in
theorem dzj_N171_89  (s : q_S) (hI : q_iN s) (a1 : Int32) (a2 : Int32) : q_Ex (dz_N171_89 s a1 a2) (fun _ => True) := by
  unfold dz_N171_89
  cases h1233 : decide (a1 < 0) with
  | true =>
    have g1234 := (q_rg_ltT1 (l := -2147483648) (U := -1) h1233 (q_rg_full _) (q_rg_lit (n := 0) (x := 0) rfl) (by decide))
    refine q_E_T ?_
    exact q_E_x trivial
  | false =>
    have g1235 := (q_rg_ltF1 (l2 := 0) (u := 2147483647) h1233 (q_rg_full _) (q_rg_lit (n := 0) (x := 0) rfl))
    refine q_E_F ?_
    cases h1236 : decide (a1 < 3) with
    | true =>
      have g1237 := (q_rg_ltT1 (l := 0) (U := 2) h1236 g1235 (q_rg_lit (n := 3) (x := 3) rfl) (by decide))
      refine q_E_T ?_
      have j1238 := dzj_N172 (s) hI ((a2 >>> ((1 &&& 31) : Int32)) &&& 3) ((s.1 26) (a1.toNatClampNeg)) ((s.1 29) (a1.toNatClampNeg))
      refine q_E_L ?_
      generalize dz_N172 s ((a2 >>> ((1 &&& 31) : Int32)) &&& 3) ((s.1 26) (a1.toNatClampNeg)) ((s.1 29) (a1.toNatClampNeg)) = r2 at j1238 ⊢
      cases h1239 : decide (a1 = 0) with
      | true =>
        have g1240 := q_rg_eqT h1239 (q_rg_lit (n := 0) (x := 0) rfl)
        refine q_E_T ?_
        cases h1241 : decide (a2 &&& 8 = 8) with
        | true =>
          have g1242 := q_rg_eqT h1241 (q_rg_lit (n := 8) (x := 8) rfl)
          refine q_E_T ?_
          cases h1243 : decide ((s.1 26) 2 < 32768) with
          | true =>
            have g1244 := (q_rg_ltT1 (l := -2147483648) (U := 32767) h1243 (q_rg_full _) (q_rg_lit (n := 32768) (x := 32768) rfl) (by decide))
            refine q_E_T ?_
            exact q_E_x trivial
          | false =>
            have g1245 := (q_rg_ltF1 (l2 := 32768) (u := 2147483647) h1243 (q_rg_full _) (q_rg_lit (n := 32768) (x := 32768) rfl))
            refine q_E_F ?_
            exact q_E_x trivial
        | false =>
          have g1246 := (q_rg_neU (l := 0) (u := 8) (n := 8) (U := 7) h1241 (q_rg_and a2 8 (U := 8) (by decide) rfl) rfl (by decide) (by decide))
          refine q_E_F ?_
          exact q_E_x trivial
      | false =>
        have g1247 := (q_rg_neL (l := 0) (u := 2) (n := 0) (L := 1) h1239 g1237 rfl (by decide) (by decide))
        refine q_E_F ?_
        cases h1248 : decide (a2 &&& 8 = 8) with
        | true =>
          have g1249 := q_rg_eqT h1248 (q_rg_lit (n := 8) (x := 8) rfl)
          refine q_E_T ?_
          refine q_E_A (q_in_rg (q_rg_sub (L := 0) (U := 1) g1247 (q_rg_lit (n := 1) (x := 1) rfl) (by decide) (by decide) (by decide) (by decide)) (by decide) (by decide)) ?_
          cases h1250 : decide ((s.1 26) ((a1 - 1).toNatClampNeg) < 32768) with
          | true =>
            have g1251 := (q_rg_ltT1 (l := -2147483648) (U := 32767) h1250 (q_rg_full _) (q_rg_lit (n := 32768) (x := 32768) rfl) (by decide))
            refine q_E_T ?_
            exact q_E_x trivial
          | false =>
            have g1252 := (q_rg_ltF1 (l2 := 32768) (u := 2147483647) h1250 (q_rg_full _) (q_rg_lit (n := 32768) (x := 32768) rfl))
            refine q_E_F ?_
            exact q_E_x trivial
        | false =>
          have g1253 := (q_rg_neU (l := 0) (u := 8) (n := 8) (U := 7) h1248 (q_rg_and a2 8 (U := 8) (by decide) rfl) rfl (by decide) (by decide))
          refine q_E_F ?_
          exact q_E_x trivial
    | false =>
      have g1254 := (q_rg_ltF1 (l2 := 3) (u := 2147483647) h1236 g1235 (q_rg_lit (n := 3) (x := 3) rfl))
      refine q_E_F ?_
      exact q_E_x trivial
set_option maxHeartbeats 4000000 in
theorem dzjb_N168_89_68_92  (k92 : q_S → Int32 → Int32 → Int32 → Option (q_S)) (M92 : Int) (tk92 : ∀ (s : q_S), q_iN s → ∀ (v2 : Int32) (v3 : Int32) (v4 : Int32), q_rgz 0 39 v2 → q_rgz 0 3 v4 → ((3 - v4.toInt).toNat : Int) ≤ M92 → q_Ex (k92 s v2 v3 v4) (q_iN)) (s : q_S) (hI : q_iN s) (v2 : Int32) (v3 : Int32) (v4 : Int32) (rv2 : q_rgz 0 39 v2) (rv4 : q_rgz 0 3 v4) (m92 : ((3 - v4.toInt).toNat : Int) ≤ M92 + 1) : q_Ex (cond (decide (v4 < 3)) (cond (q_in (((32 : Int32) + (4 * v4)) + 2) 48) ((dz_N171_89 s v4 ((s.1 4) ((((32 : Int32) + (4 * v4)) + 2).toNatClampNeg))).bind fun r4 => cond (q_in v4 3) (k92 s v2 (v3 + (r4 * ((s.1 27) (v4.toNatClampNeg)))) (v4 + 1)) none) none) (cond (q_in v2 40) (some (q_sA s 30 (upd (s.1 30) (v2.toNatClampNeg) (v3 / 15)))) none)) (q_iN) := by
  cases h1415 : decide (v4 < 3) with
  | true =>
    have g1416 := (q_rg_ltT1 (l := 0) (U := 2) h1415 rv4 (q_rg_lit (n := 3) (x := 3) rfl) (by decide))
    refine q_E_T ?_
    refine q_E_A (q_in_rg (q_rg_add (L := 34) (U := 42) (q_rg_add (L := 32) (U := 40) (q_rg_lit (n := 32) (x := 32) rfl) (q_rg_mul (L := 0) (U := 8) (q_rg_lit (n := 4) (x := 4) rfl) g1416 (by decide) (by decide) (by decide) (by decide) (by decide) (by decide)) (by decide) (by decide) (by decide) (by decide)) (q_rg_lit (n := 2) (x := 2) rfl) (by decide) (by decide) (by decide) (by decide)) (by decide) (by decide)) ?_
    obtain ⟨r4, e1418, j1417⟩ := dzj_N171_89 (s) hI (v4) ((s.1 4) ((((32 : Int32) + (4 * v4)) + 2).toNatClampNeg))
    rw [e1418]
    refine q_E_B ?_
    refine q_E_A (q_in_rg g1416 (by decide) (by decide)) ?_
    exact tk92 (s) hI (v2) (v3 + (r4 * ((s.1 27) (v4.toNatClampNeg)))) (v4 + 1) (q_rg_le (L := 0) (U := 39) rv2 (by decide) (by decide)) (q_rg_le (L := 0) (U := 3) (q_rg_add (L := 1) (U := 3) g1416 (q_rg_lit (n := 1) (x := 1) rfl) (by decide) (by decide) (by decide) (by decide)) (by decide) (by decide)) (q_meu g1416 m92 (by decide) (by decide))
  | false =>
    have g1419 := (q_rg_ltF1 (l2 := 3) (u := 3) h1415 rv4 (q_rg_lit (n := 3) (x := 3) rfl))
    refine q_E_F ?_
    refine q_E_A (q_in_rg rv2 (by decide) (by decide)) ?_
    exact q_E_x (q_iN_A hI)
theorem dzj_N168_89_68_92  : ∀ (m : Nat) (s : q_S) (hI : q_iN s) (v2 : Int32) (v3 : Int32) (v4 : Int32) (rv2 : q_rgz 0 39 v2) (rv4 : q_rgz 0 3 v4), ((3 - v4.toInt).toNat : Int) ≤ (m : Int) → q_Ex (dz_N168_89_68_92 (m + 1) s v2 v3 v4) (q_iN) := by
  intro m
  induction m with
  | zero => intro s hI v2 v3 v4 rv2 rv4 hm; rw [dzs_N168_89_68_92]; exact dzjb_N168_89_68_92 (dz_N168_89_68_92 0) (-1) (fun s hI v2 v3 v4 rv2 rv4 hm => absurd hm (by omega)) s hI v2 v3 v4 rv2 rv4 (by omega)
  | succ m ih => intro s hI v2 v3 v4 rv2 rv4 hm; rw [dzs_N168_89_68_92]; exact dzjb_N168_89_68_92 (dz_N168_89_68_92 (m + 1)) (m : Int) (fun s hI v2 v3 v4 rv2 rv4 hm => ih s hI v2 v3 v4 rv2 rv4 hm) s hI v2 v3 v4 rv2 rv4 (by omega)
set_option maxHeartbeats 4000000 in
theorem dzjb_N168_89_68_20  (k20 : q_S → Int32 → Int32 → Option (q_S)) (M20 : Int) (tk20 : ∀ (s : q_S), q_iN s → ∀ (v2 : Int32) (v3 : Int32), q_rgz 0 39 v2 → q_rgz 0 3 v3 → ((3 - v3.toInt).toNat : Int) ≤ M20 → q_Ex (k20 s v2 v3) (q_iN)) (s : q_S) (hI : q_iN s) (v2 : Int32) (v3 : Int32) (rv2 : q_rgz 0 39 v2) (rv3 : q_rgz 0 3 v3) (m20 : ((3 - v3.toInt).toNat : Int) ≤ M20 + 1) : q_Ex (cond (decide (v3 < 3)) (cond (q_in ((32 : Int32) + (4 * v3)) 48) (cond (q_in (((32 : Int32) + (4 * v3)) + 1) 48) ((dz_N169_89 s v3 (((s.1 4) (((32 : Int32) + (4 * v3)).toNatClampNeg)) + (256 * ((s.1 4) ((((32 : Int32) + (4 * v3)) + 1).toNatClampNeg))))).bind fun r1 => cond (q_in (((32 : Int32) + (4 * v3)) + 2) 48) (cond (decide (((r1.1 4) ((((32 : Int32) + (4 * v3)) + 2).toNatClampNeg)) &&& 1 = 1)) (cond (q_in (((32 : Int32) + (4 * v3)) + 3) 48) ((dz_N170_89_t r1 v3 ((r1.1 4) ((((32 : Int32) + (4 * v3)) + 3).toNatClampNeg))).bind fun r2 => k20 r2 v2 (v3 + 1)) none) (cond (q_in (((32 : Int32) + (4 * v3)) + 3) 48) ((dz_N170_89_f r1 v3 ((r1.1 4) ((((32 : Int32) + (4 * v3)) + 3).toNatClampNeg))).bind fun r3 => k20 r3 v2 (v3 + 1)) none)) none) none) none) (dz_N168_89_68_92 5000 s v2 0 0)) (q_iN) := by
  cases h1420 : decide (v3 < 3) with
  | true =>
    have g1421 := (q_rg_ltT1 (l := 0) (U := 2) h1420 rv3 (q_rg_lit (n := 3) (x := 3) rfl) (by decide))
    refine q_E_T ?_
    refine q_E_A (q_in_rg (q_rg_add (L := 32) (U := 40) (q_rg_lit (n := 32) (x := 32) rfl) (q_rg_mul (L := 0) (U := 8) (q_rg_lit (n := 4) (x := 4) rfl) g1421 (by decide) (by decide) (by decide) (by decide) (by decide) (by decide)) (by decide) (by decide) (by decide) (by decide)) (by decide) (by decide)) ?_
    refine q_E_A (q_in_rg (q_rg_add (L := 33) (U := 41) (q_rg_add (L := 32) (U := 40) (q_rg_lit (n := 32) (x := 32) rfl) (q_rg_mul (L := 0) (U := 8) (q_rg_lit (n := 4) (x := 4) rfl) g1421 (by decide) (by decide) (by decide) (by decide) (by decide) (by decide)) (by decide) (by decide) (by decide) (by decide)) (q_rg_lit (n := 1) (x := 1) rfl) (by decide) (by decide) (by decide) (by decide)) (by decide) (by decide)) ?_
    obtain ⟨r1, e1423, j1422⟩ := dzj_N169_89 (s) hI (v3) (((s.1 4) (((32 : Int32) + (4 * v3)).toNatClampNeg)) + (256 * ((s.1 4) ((((32 : Int32) + (4 * v3)) + 1).toNatClampNeg))))
    rw [e1423]
    refine q_E_B ?_
    refine q_E_A (q_in_rg (q_rg_add (L := 34) (U := 42) (q_rg_add (L := 32) (U := 40) (q_rg_lit (n := 32) (x := 32) rfl) (q_rg_mul (L := 0) (U := 8) (q_rg_lit (n := 4) (x := 4) rfl) g1421 (by decide) (by decide) (by decide) (by decide) (by decide) (by decide)) (by decide) (by decide) (by decide) (by decide)) (q_rg_lit (n := 2) (x := 2) rfl) (by decide) (by decide) (by decide) (by decide)) (by decide) (by decide)) ?_
    cases h1424 : decide (((r1.1 4) ((((32 : Int32) + (4 * v3)) + 2).toNatClampNeg)) &&& 1 = 1) with
    | true =>
      have g1425 := q_rg_eqT h1424 (q_rg_lit (n := 1) (x := 1) rfl)
      refine q_E_T ?_
      refine q_E_A (q_in_rg (q_rg_add (L := 35) (U := 43) (q_rg_add (L := 32) (U := 40) (q_rg_lit (n := 32) (x := 32) rfl) (q_rg_mul (L := 0) (U := 8) (q_rg_lit (n := 4) (x := 4) rfl) g1421 (by decide) (by decide) (by decide) (by decide) (by decide) (by decide)) (by decide) (by decide) (by decide) (by decide)) (q_rg_lit (n := 3) (x := 3) rfl) (by decide) (by decide) (by decide) (by decide)) (by decide) (by decide)) ?_
      obtain ⟨r2, e1427, j1426⟩ := dzj_N170_89_t (r1) j1422 (v3) ((r1.1 4) ((((32 : Int32) + (4 * v3)) + 3).toNatClampNeg))
      rw [e1427]
      refine q_E_B ?_
      exact tk20 (r2) j1426 (v2) (v3 + 1) (q_rg_le (L := 0) (U := 39) rv2 (by decide) (by decide)) (q_rg_le (L := 0) (U := 3) (q_rg_add (L := 1) (U := 3) g1421 (q_rg_lit (n := 1) (x := 1) rfl) (by decide) (by decide) (by decide) (by decide)) (by decide) (by decide)) (q_meu g1421 m20 (by decide) (by decide))
    | false =>
      have g1428 := (q_rg_neU (l := 0) (u := 1) (n := 1) (U := 0) h1424 (q_rg_and ((r1.1 4) ((((32 : Int32) + (4 * v3)) + 2).toNatClampNeg)) 1 (U := 1) (by decide) rfl) rfl (by decide) (by decide))
      refine q_E_F ?_
      refine q_E_A (q_in_rg (q_rg_add (L := 35) (U := 43) (q_rg_add (L := 32) (U := 40) (q_rg_lit (n := 32) (x := 32) rfl) (q_rg_mul (L := 0) (U := 8) (q_rg_lit (n := 4) (x := 4) rfl) g1421 (by decide) (by decide) (by decide) (by decide) (by decide) (by decide)) (by decide) (by decide) (by decide) (by decide)) (q_rg_lit (n := 3) (x := 3) rfl) (by decide) (by decide) (by decide) (by decide)) (by decide) (by decide)) ?_
      obtain ⟨r3, e1430, j1429⟩ := dzj_N170_89_f (r1) j1422 (v3) ((r1.1 4) ((((32 : Int32) + (4 * v3)) + 3).toNatClampNeg))
      rw [e1430]
      refine q_E_B ?_
      exact tk20 (r3) j1429 (v2) (v3 + 1) (q_rg_le (L := 0) (U := 39) rv2 (by decide) (by decide)) (q_rg_le (L := 0) (U := 3) (q_rg_add (L := 1) (U := 3) g1421 (q_rg_lit (n := 1) (x := 1) rfl) (by decide) (by decide) (by decide) (by decide)) (by decide) (by decide)) (q_meu g1421 m20 (by decide) (by decide))
  | false =>
    have g1431 := (q_rg_ltF1 (l2 := 3) (u := 3) h1420 rv3 (q_rg_lit (n := 3) (x := 3) rfl))
    refine q_E_F ?_
    exact dzj_N168_89_68_92 4999 (s) hI (v2) (0) (0) (q_rg_le (L := 0) (U := 39) rv2 (by decide) (by decide)) (q_rg_le (L := 0) (U := 3) (q_rg_lit (n := 0) (x := 0) rfl) (by decide) (by decide)) (q_meu0 (q_rg_lit (n := 0) (x := 0) rfl) (by decide) (by decide))
theorem dzj_N168_89_68_20  : ∀ (m : Nat) (s : q_S) (hI : q_iN s) (v2 : Int32) (v3 : Int32) (rv2 : q_rgz 0 39 v2) (rv3 : q_rgz 0 3 v3), ((3 - v3.toInt).toNat : Int) ≤ (m : Int) → q_Ex (dz_N168_89_68_20 (m + 1) s v2 v3) (q_iN) := by
  intro m
  induction m with
  | zero => intro s hI v2 v3 rv2 rv3 hm; rw [dzs_N168_89_68_20]; exact dzjb_N168_89_68_20 (dz_N168_89_68_20 0) (-1) (fun s hI v2 v3 rv2 rv3 hm => absurd hm (by omega)) s hI v2 v3 rv2 rv3 (by omega)
  | succ m ih => intro s hI v2 v3 rv2 rv3 hm; rw [dzs_N168_89_68_20]; exact dzjb_N168_89_68_20 (dz_N168_89_68_20 (m + 1)) (m : Int) (fun s hI v2 v3 rv2 rv3 hm => ih s hI v2 v3 rv2 rv3 hm) s hI v2 v3 rv2 rv3 (by omega)
set_option maxHeartbeats 4000000 in
theorem dzj_N168_89_68  (s : q_S) (hI : q_iN s) (a2 : Int32) : q_Ex (dz_N168_89_68 s a2) (q_iN) := by
  unfold dz_N168_89_68
  cases h1432 : decide (a2 < 0) with
  | true =>
    have g1433 := (q_rg_ltT1 (l := -2147483648) (U := -1) h1432 (q_rg_full _) (q_rg_lit (n := 0) (x := 0) rfl) (by decide))
    refine q_E_T ?_
    exact q_E_x hI
  | false =>
    have g1434 := (q_rg_ltF1 (l2 := 0) (u := 2147483647) h1432 (q_rg_full _) (q_rg_lit (n := 0) (x := 0) rfl))
    refine q_E_F ?_
    cases h1435 : decide (a2 < 40) with
    | true =>
      have g1436 := (q_rg_ltT1 (l := 0) (U := 39) h1435 g1434 (q_rg_lit (n := 40) (x := 40) rfl) (by decide))
      refine q_E_T ?_
      exact dzj_N168_89_68_20 4999 (s) hI (a2) (0) (q_rg_le (L := 0) (U := 39) g1436 (by decide) (by decide)) (q_rg_le (L := 0) (U := 3) (q_rg_lit (n := 0) (x := 0) rfl) (by decide) (by decide)) (q_meu0 (q_rg_lit (n := 0) (x := 0) rfl) (by decide) (by decide))
    | false =>
      have g1437 := (q_rg_ltF1 (l2 := 40) (u := 2147483647) h1435 g1434 (q_rg_lit (n := 40) (x := 40) rfl))
      refine q_E_F ?_
      exact q_E_x hI
set_option maxHeartbeats 4000000 in
theorem dzj_N83_64  (s : q_S) (hI : q_iN s) : q_Ex (dz_N83_64 s) (fun (x : q_S × Bool) => q_iN x.1) := by
  unfold dz_N83_64
  have j1464 := dzj_N101_65 (s) hI
  refine q_E_L ?_
  generalize dz_N101_65 s = r3 at j1464 ⊢
  obtain ⟨r4, e1466, j1465⟩ := dzj_N102_65 (r3) j1464
  rw [e1466]
  refine q_E_B ?_
  cases h1467 : r4 with
  | true =>
    refine q_E_T ?_
    obtain ⟨r5, e1469, j1468⟩ := dzj_N103_65_95 (r3) j1464
    rw [e1469]
    refine q_E_B ?_
    obtain ⟨r6, e1471, j1470⟩ := dzj_N104_65 (r5) j1468
    rw [e1471]
    refine q_E_B ?_
    have j1472 := dzj_N106_65 (r6) j1470
    refine q_E_L ?_
    generalize dz_N106_65 r6 = r7 at j1472 ⊢
    have j1473 := dzj_N87_65 (r7) j1472
    refine q_E_L ?_
    generalize dz_N87_65 r7 = r8 at j1473 ⊢
    cases h1474 : decide (r8 = 23) with
    | true =>
      have g1475 := q_rg_eqT h1474 (q_rg_lit (n := 23) (x := 23) rfl)
      refine q_E_T ?_
      have j1476 := dzj_N86_65 (r7) j1472
      refine q_E_L ?_
      generalize dz_N86_65 r7 = r9 at j1476 ⊢
      obtain ⟨r10, e1478, j1477⟩ := dzj_N168_89_68 (r7) j1472 (r9 / 24)
      rw [e1478]
      refine q_E_B ?_
      exact q_E_x j1477
    | false =>
      refine q_E_F ?_
      exact q_E_x j1472
  | false =>
    refine q_E_F ?_
    obtain ⟨r11, e1480, j1479⟩ := dzj_N103_65_95 (r3) j1464
    rw [e1480]
    refine q_E_B ?_
    obtain ⟨r12, e1482, j1481⟩ := dzj_N104_65 (r11) j1479
    rw [e1482]
    refine q_E_B ?_
    have j1483 := dzj_N106_65 (r12) j1481
    refine q_E_L ?_
    generalize dz_N106_65 r12 = r13 at j1483 ⊢
    have j1484 := dzj_N87_65 (r13) j1483
    refine q_E_L ?_
    generalize dz_N87_65 r13 = r14 at j1484 ⊢
    cases h1485 : decide (r14 = 23) with
    | true =>
      have g1486 := q_rg_eqT h1485 (q_rg_lit (n := 23) (x := 23) rfl)
      refine q_E_T ?_
      have j1487 := dzj_N86_65 (r13) j1483
      refine q_E_L ?_
      generalize dz_N86_65 r13 = r15 at j1487 ⊢
      obtain ⟨r16, e1489, j1488⟩ := dzj_N168_89_68 (r13) j1483 (r15 / 24)
      rw [e1489]
      refine q_E_B ?_
      exact q_E_x j1488
    | false =>
      refine q_E_F ?_
      exact q_E_x j1483
set_option maxHeartbeats 4000000 in
theorem dzj_N110_78_66  (s : q_S) (hI : q_iN s) : (q_iN) (dz_N110_78_66 s) := by
  refine q_S_of (P := (q_iN)) ?_
  unfold dz_N110_78_66
  exact q_E_x (q_iN_A (q_iN_A hI))
set_option maxHeartbeats 4000000 in
theorem dzj_N127_77_66  (s : q_S) (hI : q_iN s) : (q_iN) (dz_N127_77_66 s) := by
  refine q_S_of (P := (q_iN)) ?_
  unfold dz_N127_77_66
  have j1491 := dzj_N110_78_66 (s) hI
  refine q_S_L ?_
  generalize dz_N110_78_66 s = r1 at j1491 ⊢
  exact q_E_x (q_iN_I (i := 13) (m := 3) (q_iN_I (i := 13) (m := 2) j1491 (by decide)) (by decide))
set_option maxHeartbeats 4000000 in
theorem dzj_N110_83_66  (s : q_S) (hI : q_iN s) : (q_iN) (dz_N110_83_66 s) := by
  refine q_S_of (P := (q_iN)) ?_
  unfold dz_N110_83_66
  exact q_E_x (q_iN_A (q_iN_A hI))
set_option maxHeartbeats 4000000 in
theorem dzj_N127_82_66  (s : q_S) (hI : q_iN s) : (q_iN) (dz_N127_82_66 s) := by
  refine q_S_of (P := (q_iN)) ?_
  unfold dz_N127_82_66
  have j1493 := dzj_N110_83_66 (s) hI
  refine q_S_L ?_
  generalize dz_N110_83_66 s = r1 at j1493 ⊢
  exact q_E_x (q_iN_I (i := 18) (m := 3) (q_iN_I (i := 18) (m := 2) j1493 (by decide)) (by decide))
set_option maxHeartbeats 4000000 in
theorem dzj_N107_65  (s : q_S) (hI : q_iN s) : (q_iN) (dz_N107_65 s) := by
  refine q_S_of (P := (q_iN)) ?_
  unfold dz_N107_65
  cases h1500 : decide (lg_cmp (((s.2.2 1 8) + 1) - ((s.2.2 1 8) + 1) / 960 * 960) 0 = 0) with
  | true =>
    have g1501 := q_rg_eqT h1500 (q_rg_lit (n := 0) (x := 0) rfl)
    refine q_S_T ?_
    cases h1502 : decide (lg_cmp ((((s.2.2 1 8) + 1) / 960) - (((s.2.2 1 8) + 1) / 960) / 2 * 2) 0 = 0) with
    | true =>
      have g1503 := q_rg_eqT h1502 (q_rg_lit (n := 0) (x := 0) rfl)
      refine q_S_T ?_
      have j1504 := dzj_N127_77_66 (q_sJ s 1 8 ((s.2.2 1 8) + 1)) (q_iN_J hI)
      refine q_S_L ?_
      generalize dz_N127_77_66 (q_sJ s 1 8 ((s.2.2 1 8) + 1)) = r1 at j1504 ⊢
      exact q_E_x j1504
    | false =>
      refine q_S_F ?_
      have j1505 := dzj_N127_82_66 (q_sJ s 1 8 ((s.2.2 1 8) + 1)) (q_iN_J hI)
      refine q_S_L ?_
      generalize dz_N127_82_66 (q_sJ s 1 8 ((s.2.2 1 8) + 1)) = r2 at j1505 ⊢
      exact q_E_x j1505
  | false =>
    refine q_S_F ?_
    exact q_E_x (q_iN_J hI)
theorem dzj_N187  (s : q_S) (hI : q_iN s) (a0 : Int32) : (fun _ => True) (dz_N187 s a0) := trivial
theorem dzj_N140_87  (s : q_S) (hI : q_iN s) (a1 : Int32) : (fun _ => True) (dz_N140_87 s a1) := trivial
theorem dzj_N161_87  (s : q_S) (hI : q_iN s) (a1 : Int32) : (fun _ => True) (dz_N161_87 s a1) := trivial
theorem dzj_N193  (s : q_S) (hI : q_iN s) (a0 : Int32) (a1 : Int32) : (fun _ => True) (dz_N193 s a0 a1) := trivial
theorem dzj_N139_87  (s : q_S) (hI : q_iN s) (a1 : Int32) : (fun _ => True) (dz_N139_87 s a1) := trivial
theorem dzj_N138_87  (s : q_S) (hI : q_iN s) (a1 : Int32) (a2 : Int32) : (fun _ => True) (dz_N138_87 s a1 a2) := trivial
theorem dzj_N192  (s : q_S) (hI : q_iN s) (a0 : Int32) : (fun _ => True) (dz_N192 s a0) := trivial
theorem dzj_N191  (s : q_S) (hI : q_iN s) (a0 : Int32) : (fun _ => True) (dz_N191 s a0) := trivial
theorem dzj_N189  (s : q_S) (hI : q_iN s) (a0 : Int32) : (fun _ => True) (dz_N189 s a0) := trivial
set_option maxHeartbeats 4000000 in
theorem dzj_N145_87_65  (s : q_S) (hI : q_iN s) (a2 : Int32) : q_Ex (dz_N145_87_65 s a2) (fun _ => True) := by
  unfold dz_N145_87_65
  have j1689 := dzj_N140_87 (s) hI (1)
  refine q_E_L ?_
  generalize dz_N140_87 s 1 = r3 at j1689 ⊢
  obtain ⟨r4, e1691, j1690⟩ := dzj_N90_65 (s) hI (r3)
  rw [e1691]
  refine q_E_B ?_
  cases h1692 : decide (a2 = 1) with
  | true =>
    have g1693 := q_rg_eqT h1692 (q_rg_lit (n := 1) (x := 1) rfl)
    refine q_E_T ?_
    exact q_E_x trivial
  | false =>
    refine q_E_F ?_
    cases h1694 : decide (a2 = 2) with
    | true =>
      have g1695 := q_rg_eqT h1694 (q_rg_lit (n := 2) (x := 2) rfl)
      refine q_E_T ?_
      exact q_E_x trivial
    | false =>
      refine q_E_F ?_
      cases h1696 : decide (a2 < 6) with
      | true =>
        have g1697 := (q_rg_ltT1 (l := -2147483648) (U := 5) h1696 (q_rg_full _) (q_rg_lit (n := 6) (x := 6) rfl) (by decide))
        refine q_E_T ?_
        have j1698 := dzj_N140_87 (s) hI (2)
        refine q_E_L ?_
        generalize dz_N140_87 s 2 = r5 at j1698 ⊢
        obtain ⟨r6, e1700, j1699⟩ := dzj_N90_65 (s) hI (r5)
        rw [e1700]
        refine q_E_B ?_
        exact q_E_x trivial
      | false =>
        have g1701 := (q_rg_ltF1 (l2 := 6) (u := 2147483647) h1696 (q_rg_full _) (q_rg_lit (n := 6) (x := 6) rfl))
        refine q_E_F ?_
        cases h1702 : decide (a2 = 7) with
        | true =>
          have g1703 := q_rg_eqT h1702 (q_rg_lit (n := 7) (x := 7) rfl)
          refine q_E_T ?_
          obtain ⟨r7, e1705, j1704⟩ := dzj_N90_65 (s) hI ((r4 + (s.2.1 23 1)) &&& 255)
          rw [e1705]
          refine q_E_B ?_
          obtain ⟨r8, e1707, j1706⟩ := dzj_N90_65 (s) hI ((((r4 + (s.2.1 23 1)) &&& 255) + 1) &&& 255)
          rw [e1707]
          refine q_E_B ?_
          exact q_E_x trivial
        | false =>
          refine q_E_F ?_
          obtain ⟨r9, e1709, j1708⟩ := dzj_N90_65 (s) hI (r4)
          rw [e1709]
          refine q_E_B ?_
          obtain ⟨r10, e1711, j1710⟩ := dzj_N90_65 (s) hI ((r4 + 1) &&& 255)
          rw [e1711]
          refine q_E_B ?_
          exact q_E_x trivial
theorem dzj_N143_87  (s : q_S) (hI : q_iN s) (a1 : Int32) : (fun _ => True) (dz_N143_87 s a1) := trivial
theorem dzj_N188  (s : q_S) (hI : q_iN s) (a0 : Int32) : (fun _ => True) (dz_N188 s a0) := trivial
set_option maxHeartbeats 4000000 in
theorem dzj_N137_87_65_127  (s : q_S) (hI : q_iN s) (v3 : Int32) (v4 : Int32) (v5 : Int32) (rv3 : q_rgz 0 2147483647 v3) (rv4 : q_rgz 1 7 v4) (rv5 : q_rgz 0 1 v5) : q_Ex (dz_N137_87_65_127 s v3 v4 v5) (fun _ => True) := by
  unfold dz_N137_87_65_127
  have j1847 := dzj_N191 (s) hI (v4)
  refine q_E_L ?_
  generalize dz_N191 s v4 = r9 at j1847 ⊢
  cases h1848 : decide (v5 = 0) with
  | true =>
    have g1849 := q_rg_eqT h1848 (q_rg_lit (n := 0) (x := 0) rfl)
    refine q_E_T ?_
    have j1850 := dzj_N189 (s) hI (v3)
    refine q_E_L ?_
    generalize dz_N189 s v3 = r10 at j1850 ⊢
    cases h1851 : r10 with
    | true =>
      refine q_E_T ?_
      exact q_E_x trivial
    | false =>
      refine q_E_F ?_
      exact q_E_x trivial
  | false =>
    have g1852 := (q_rg_neL (l := 0) (u := 1) (n := 0) (L := 1) h1848 rv5 rfl (by decide) (by decide))
    refine q_E_F ?_
    have j1853 := dzj_N189 (s) hI (v3)
    refine q_E_L ?_
    generalize dz_N189 s v3 = r11 at j1853 ⊢
    cases h1854 : r11 with
    | true =>
      refine q_E_T ?_
      exact q_E_x trivial
    | false =>
      refine q_E_F ?_
      exact q_E_x trivial
set_option maxHeartbeats 4000000 in
theorem dzj_N137_87_65_120  (s : q_S) (hI : q_iN s) (v3 : Int32) (v4 : Int32) (rv3 : q_rgz 0 2147483647 v3) (rv4 : q_rgz 4 6 v4) : q_Ex (dz_N137_87_65_120 s v3 v4) (fun _ => True) := by
  unfold dz_N137_87_65_120
  exact dzj_N137_87_65_127 (s) hI (v3) (v4) (1) (q_rg_le (L := 0) (U := 2147483647) rv3 (by decide) (by decide)) (q_rg_le (L := 1) (U := 7) rv4 (by decide) (by decide)) (q_rg_le (L := 0) (U := 1) (q_rg_lit (n := 1) (x := 1) rfl) (by decide) (by decide))
set_option maxHeartbeats 4000000 in
theorem dzj_N137_87_65  (s : q_S) (hI : q_iN s) : q_Ex (dz_N137_87_65 s) (fun _ => True) := by
  unfold dz_N137_87_65
  obtain ⟨r2, e1856, j1855⟩ := dzj_N90_65 (s) hI (s.2.1 23 4)
  rw [e1856]
  refine q_E_B ?_
  have j1857 := dzj_N186 (s) hI (r2)
  refine q_E_L ?_
  generalize dz_N186 s r2 = r3 at j1857 ⊢
  have j1858 := dzj_N187 (s) hI (r2)
  refine q_E_L ?_
  generalize dz_N187 s r2 = r4 at j1858 ⊢
  cases h1859 : r4 with
  | true =>
    refine q_E_T ?_
    have j1860 := dzj_N140_87 (s) hI (1)
    refine q_E_L ?_
    generalize dz_N140_87 s 1 = r5 at j1860 ⊢
    obtain ⟨r6, e1862, j1861⟩ := dzj_N90_65 (s) hI (r5)
    rw [e1862]
    refine q_E_B ?_
    have j1863 := dzj_N138_87 (s) hI (r2) (r6)
    refine q_E_L ?_
    generalize dz_N138_87 s r2 r6 = r7 at j1863 ⊢
    exact q_E_x trivial
  | false =>
    refine q_E_F ?_
    cases h1864 : decide (r3 < 0) with
    | true =>
      have g1865 := (q_rg_ltT1 (l := -2147483648) (U := -1) h1864 (q_rg_full _) (q_rg_lit (n := 0) (x := 0) rfl) (by decide))
      refine q_E_T ?_
      have j1866 := dzj_N192 (s) hI (r2)
      refine q_E_L ?_
      generalize dz_N192 s r2 = r8 at j1866 ⊢
      exact q_E_x trivial
    | false =>
      have g1867 := (q_rg_ltF1 (l2 := 0) (u := 2147483647) h1864 (q_rg_full _) (q_rg_lit (n := 0) (x := 0) rfl))
      refine q_E_F ?_
      cases h1868 : decide (r2 &&& 7 = 0) with
      | true =>
        have g1869 := q_rg_eqT h1868 (q_rg_lit (n := 0) (x := 0) rfl)
        refine q_E_T ?_
        exact q_E_x trivial
      | false =>
        have g1870 := (q_rg_neL (l := 0) (u := 7) (n := 0) (L := 1) h1868 (q_rg_and r2 7 (U := 7) (by decide) rfl) rfl (by decide) (by decide))
        refine q_E_F ?_
        cases h1871 : decide (r2 &&& 7 < 4) with
        | true =>
          have g1872 := (q_rg_ltT1 (l := 1) (U := 3) h1871 g1870 (q_rg_lit (n := 4) (x := 4) rfl) (by decide))
          refine q_E_T ?_
          exact dzj_N137_87_65_127 (s) hI (r3) (r2 &&& 7) (0) (q_rg_le (L := 0) (U := 2147483647) g1867 (by decide) (by decide)) (q_rg_le (L := 1) (U := 7) g1872 (by decide) (by decide)) (q_rg_le (L := 0) (U := 1) (q_rg_lit (n := 0) (x := 0) rfl) (by decide) (by decide))
        | false =>
          have g1873 := (q_rg_ltF1 (l2 := 4) (u := 7) h1871 g1870 (q_rg_lit (n := 4) (x := 4) rfl))
          refine q_E_F ?_
          cases h1874 : decide (6 < r2 &&& 7) with
          | true =>
            have g1875 := (q_rg_ltT2 (L := 7) (u2 := 7) h1874 (q_rg_lit (n := 6) (x := 6) rfl) g1873 (by decide))
            refine q_E_T ?_
            exact dzj_N137_87_65_127 (s) hI (r3) (r2 &&& 7) (0) (q_rg_le (L := 0) (U := 2147483647) g1867 (by decide) (by decide)) (q_rg_le (L := 1) (U := 7) g1875 (by decide) (by decide)) (q_rg_le (L := 0) (U := 1) (q_rg_lit (n := 0) (x := 0) rfl) (by decide) (by decide))
          | false =>
            have g1876 := (q_rg_ltF2 (l2 := 4) (u := 6) h1874 (q_rg_lit (n := 6) (x := 6) rfl) g1873)
            refine q_E_F ?_
            obtain ⟨r12, e1878, j1877⟩ := dzj_N145_87_65 (s) hI (r2 &&& 7)
            rw [e1878]
            refine q_E_B ?_
            have j1879 := dzj_N143_87 (s) hI (r2 &&& 7)
            refine q_E_L ?_
            generalize dz_N143_87 s (r2 &&& 7) = r13 at j1879 ⊢
            have j1880 := dzj_N188 (s) hI (r3)
            refine q_E_L ?_
            generalize dz_N188 s r3 = r14 at j1880 ⊢
            cases h1881 : r14 with
            | true =>
              refine q_E_T ?_
              exact dzj_N137_87_65_120 (s) hI (r3) (r2 &&& 7) (q_rg_le (L := 0) (U := 2147483647) g1867 (by decide) (by decide)) (q_rg_le (L := 4) (U := 6) g1876 (by decide) (by decide))
            | false =>
              refine q_E_F ?_
              cases h1882 : decide (((r12 + r13) &&& 4095) / 256 = r12 / 256) with
              | true =>
                refine q_E_T ?_
                exact dzj_N137_87_65_127 (s) hI (r3) (r2 &&& 7) (0) (q_rg_le (L := 0) (U := 2147483647) g1867 (by decide) (by decide)) (q_rg_le (L := 1) (U := 7) g1876 (by decide) (by decide)) (q_rg_le (L := 0) (U := 1) (q_rg_lit (n := 0) (x := 0) rfl) (by decide) (by decide))
              | false =>
                refine q_E_F ?_
                exact dzj_N137_87_65_120 (s) hI (r3) (r2 &&& 7) (q_rg_le (L := 0) (U := 2147483647) g1867 (by decide) (by decide)) (q_rg_le (L := 4) (U := 6) g1876 (by decide) (by decide))
set_option maxHeartbeats 4000000 in
theorem dzj_N136_87_65  (s : q_S) (hI : q_iN s) : q_Ex (dz_N136_87_65 s) (q_iN) := by
  unfold dz_N136_87_65
  cases h1904 : decide (((s.1 4) 10) &&& ((s.1 4) 11) = 0) with
  | true =>
    have g1905 := q_rg_eqT h1904 (q_rg_lit (n := 0) (x := 0) rfl)
    refine q_E_T ?_
    cases h1906 : decide (s.2.1 23 7 = 0) with
    | true =>
      have g1907 := q_rg_eqT h1906 (q_rg_lit (n := 0) (x := 0) rfl)
      refine q_E_T ?_
      cases h1908 : decide (s.2.1 23 6 = 0) with
      | true =>
        have g1909 := q_rg_eqT h1908 (q_rg_lit (n := 0) (x := 0) rfl)
        refine q_E_T ?_
        obtain ⟨r2, e1911, j1910⟩ := dzj_N137_87_65 (q_sI s 23 8 0) (q_iN_I (i := 23) (m := 8) hI (by decide))
        rw [e1911]
        refine q_E_B ?_
        exact q_E_x (q_iN_I (i := 23) (m := 9) (q_iN_I (i := 23) (m := 8) hI (by decide)) (by decide))
      | false =>
        have g1912 := (q_rg_neL (l := 0) (u := 1) (n := 0) (L := 1) h1908 (q_iN6 hI) rfl (by decide) (by decide))
        refine q_E_F ?_
        exact q_E_x (q_iN_I (i := 23) (m := 9) (q_iN_I (i := 23) (m := 8) (q_iN_F6 hI (q_rg_le (q_rg_lit (n := 0) (x := 0) rfl) (by decide) (by decide))) (by decide)) (by decide))
    | false =>
      have g1913 := (q_rg_neL (l := 0) (u := 1) (n := 0) (L := 1) h1906 (q_iN7 hI) rfl (by decide) (by decide))
      refine q_E_F ?_
      exact q_E_x hI
  | false =>
    refine q_E_F ?_
    cases h1914 : decide (s.2.1 23 7 = 0) with
    | true =>
      have g1915 := q_rg_eqT h1914 (q_rg_lit (n := 0) (x := 0) rfl)
      refine q_E_T ?_
      cases h1916 : decide (s.2.1 23 6 = 0) with
      | true =>
        have g1917 := q_rg_eqT h1916 (q_rg_lit (n := 0) (x := 0) rfl)
        refine q_E_T ?_
        cases h1918 : decide ((s.2.1 23 5) &&& 4 = 0) with
        | true =>
          have g1919 := q_rg_eqT h1918 (q_rg_lit (n := 0) (x := 0) rfl)
          refine q_E_T ?_
          exact q_E_x (q_iN_I (i := 23) (m := 9) (q_iN_I (i := 23) (m := 8) hI (by decide)) (by decide))
        | false =>
          have g1920 := (q_rg_neL (l := 0) (u := 4) (n := 0) (L := 1) h1918 (q_rg_and (s.2.1 23 5) 4 (U := 4) (by decide) rfl) rfl (by decide) (by decide))
          refine q_E_F ?_
          obtain ⟨r3, e1922, j1921⟩ := dzj_N137_87_65 (q_sI s 23 8 0) (q_iN_I (i := 23) (m := 8) hI (by decide))
          rw [e1922]
          refine q_E_B ?_
          exact q_E_x (q_iN_I (i := 23) (m := 9) (q_iN_I (i := 23) (m := 8) hI (by decide)) (by decide))
      | false =>
        have g1923 := (q_rg_neL (l := 0) (u := 1) (n := 0) (L := 1) h1916 (q_iN6 hI) rfl (by decide) (by decide))
        refine q_E_F ?_
        exact q_E_x (q_iN_I (i := 23) (m := 9) (q_iN_I (i := 23) (m := 8) (q_iN_F6 hI (q_rg_le (q_rg_lit (n := 0) (x := 0) rfl) (by decide) (by decide))) (by decide)) (by decide))
    | false =>
      have g1924 := (q_rg_neL (l := 0) (u := 1) (n := 0) (L := 1) h1914 (q_iN7 hI) rfl (by decide) (by decide))
      refine q_E_F ?_
      exact q_E_x hI
set_option maxHeartbeats 4000000 in
theorem dzj_N141_87  (s : q_S) (hI : q_iN s) : (fun (x : q_S × Bool) => q_iN x.1) (dz_N141_87 s) := by
  refine q_S_of (P := (fun (x : q_S × Bool) => q_iN x.1)) ?_
  unfold dz_N141_87
  cases h1929 : decide (s.2.1 23 9 = 0) with
  | true =>
    have g1930 := q_rg_eqT h1929 (q_rg_lit (n := 0) (x := 0) rfl)
    refine q_S_T ?_
    exact q_E_x hI
  | false =>
    refine q_S_F ?_
    cases h1931 : decide ((s.2.1 23 9) - 1 = 0) with
    | true =>
      have g1932 := q_rg_eqT h1931 (q_rg_lit (n := 0) (x := 0) rfl)
      refine q_S_T ?_
      exact q_E_x (q_iN_I (i := 23) (m := 9) hI (by decide))
    | false =>
      refine q_S_F ?_
      exact q_E_x (q_iN_I (i := 23) (m := 9) hI (by decide))
set_option maxHeartbeats 4000000 in
theorem dzj_N146_87_65  (s : q_S) (hI : q_iN s) (a2 : Int32) : q_Ex (dz_N146_87_65 s a2) (q_iN) := by
  unfold dz_N146_87_65
  obtain ⟨r2, e1936, j1935⟩ := dzj_N94_65 (s) hI ((256 : Int32) + (s.2.1 23 3)) (a2)
  rw [e1936]
  refine q_E_B ?_
  exact q_E_x (q_iN_I (i := 23) (m := 3) j1935 (by decide))
set_option maxHeartbeats 4000000 in
theorem dzj_N148_87_65  (s : q_S) (hI : q_iN s) (a2 : Int32) (a3 : Int32) (a4 : Int32) : q_Ex (dz_N148_87_65 s a2 a3 a4) (q_iN) := by
  unfold dz_N148_87_65
  obtain ⟨r2, e1946, j1945⟩ := dzj_N146_87_65 (s) hI (a2 >>> ((8 &&& 31) : Int32))
  rw [e1946]
  refine q_E_B ?_
  obtain ⟨r3, e1948, j1947⟩ := dzj_N146_87_65 (r2) j1945 (a2 &&& 255)
  rw [e1948]
  refine q_E_B ?_
  obtain ⟨r4, e1950, j1949⟩ := dzj_N146_87_65 (r3) j1947 (a3)
  rw [e1950]
  refine q_E_B ?_
  obtain ⟨r5, e1952, j1951⟩ := dzj_N92_65 (q_sI r4 23 5 ((r4.2.1 23 5) ||| 4)) (q_iN_I (i := 23) (m := 5) j1949 (by decide)) (a4)
  rw [e1952]
  refine q_E_B ?_
  exact q_E_x (q_iN_I (i := 23) (m := 4) (q_iN_I (i := 23) (m := 5) j1949 (by decide)) (by decide))
set_option maxHeartbeats 4000000 in
theorem dzj_N147_87_65  (s : q_S) (hI : q_iN s) : (fun (x : q_S × Int32) => q_iN x.1) (dz_N147_87_65 s) := by
  refine q_S_of (P := (fun (x : q_S × Int32) => q_iN x.1)) ?_
  unfold dz_N147_87_65
  have j1954 := dzj_N120_66 (q_sI s 23 3 (((s.2.1 23 3) + 1) &&& 255)) (q_iN_I (i := 23) (m := 3) hI (by decide)) ((256 : Int32) + (((s.2.1 23 3) + 1) &&& 255))
  refine q_S_L ?_
  generalize dz_N120_66 (q_sI s 23 3 (((s.2.1 23 3) + 1) &&& 255)) ((256 : Int32) + (((s.2.1 23 3) + 1) &&& 255)) = r1 at j1954 ⊢
  exact q_E_x (q_iN_I (i := 23) (m := 3) hI (by decide))
set_option maxHeartbeats 4000000 in
theorem dzj_N150_87  (s : q_S) (hI : q_iN s) (a1 : Int32) : (fun (x : q_S × Int32) => q_iN x.1) (dz_N150_87 s a1) := by
  refine q_S_of (P := (fun (x : q_S × Int32) => q_iN x.1)) ?_
  unfold dz_N150_87
  cases h1961 : decide (a1 = 0) with
  | true =>
    have g1962 := q_rg_eqT h1961 (q_rg_lit (n := 0) (x := 0) rfl)
    refine q_S_T ?_
    cases h1963 : decide (127 < a1) with
    | true =>
      exact (q_rg_no (q_rg_ltT1 (l := 127) (U := -1) h1963 (q_rg_lit (n := 127) (x := 127) rfl) g1962 (by decide)) (by decide)).elim
    | false =>
      refine q_S_F ?_
      exact q_E_x (q_iN_I (i := 23) (m := 5) hI (by decide))
  | false =>
    refine q_S_F ?_
    cases h1964 : decide (127 < a1) with
    | true =>
      have g1965 := (q_rg_ltT2 (L := 128) (u2 := 2147483647) h1964 (q_rg_lit (n := 127) (x := 127) rfl) (q_rg_full _) (by decide))
      refine q_S_T ?_
      exact q_E_x (q_iN_I (i := 23) (m := 5) hI (by decide))
    | false =>
      have g1966 := (q_rg_ltF2 (l2 := -2147483648) (u := 127) h1964 (q_rg_lit (n := 127) (x := 127) rfl) (q_rg_full _))
      refine q_S_F ?_
      exact q_E_x (q_iN_I (i := 23) (m := 5) hI (by decide))
set_option maxHeartbeats 4000000 in
theorem dzj_N149_87_t  (s : q_S) (hI : q_iN s) (a1 : Int32) : (q_iN) (dz_N149_87_t s a1) := by
  refine q_S_of (P := (q_iN)) ?_
  unfold dz_N149_87_t
  exact q_E_x (q_iN_I (i := 23) (m := 5) hI (by decide))
set_option maxHeartbeats 4000000 in
theorem dzj_N149_87_f  (s : q_S) (hI : q_iN s) (a1 : Int32) : (q_iN) (dz_N149_87_f s a1) := by
  refine q_S_of (P := (q_iN)) ?_
  unfold dz_N149_87_f
  exact q_E_x (q_iN_I (i := 23) (m := 5) hI (by decide))
set_option maxHeartbeats 4000000 in
theorem dzj_N164_87  (s : q_S) (hI : q_iN s) (a1 : Int32) : (q_iN) (dz_N164_87 s a1) := by
  refine q_S_of (P := (q_iN)) ?_
  unfold dz_N164_87
  cases h2011 : decide (a1 < 150) with
  | true =>
    have g2012 := (q_rg_ltT1 (l := -2147483648) (U := 149) h2011 (q_rg_full _) (q_rg_lit (n := 150) (x := 150) rfl) (by decide))
    refine q_S_T ?_
    cases h2013 : decide ((s.2.1 23 0) - (s.2.1 23 0) / 2 * 2 = 1) with
    | true =>
      have g2014 := q_rg_eqT h2013 (q_rg_lit (n := 1) (x := 1) rfl)
      refine q_S_T ?_
      have j2015 := dzj_N149_87_t (s) hI (1)
      refine q_S_L ?_
      generalize dz_N149_87_t s 1 = r1 at j2015 ⊢
      have j2016 := dzj_N150_87 (r1) j2015 (((r1.2.1 23 0) / 2) + (128 * ((s.2.1 23 5) &&& 1)))
      refine q_S_L ?_
      generalize dz_N150_87 r1 (((r1.2.1 23 0) / 2) + (128 * ((s.2.1 23 5) &&& 1))) = r2 at j2016 ⊢
      exact q_E_x (q_iN_I (i := 23) (m := 0) j2016 (by decide))
    | false =>
      refine q_S_F ?_
      have j2017 := dzj_N149_87_f (s) hI (1)
      refine q_S_L ?_
      generalize dz_N149_87_f s 1 = r3 at j2017 ⊢
      have j2018 := dzj_N150_87 (r3) j2017 (((r3.2.1 23 0) / 2) + (128 * ((s.2.1 23 5) &&& 1)))
      refine q_S_L ?_
      generalize dz_N150_87 r3 (((r3.2.1 23 0) / 2) + (128 * ((s.2.1 23 5) &&& 1))) = r4 at j2018 ⊢
      exact q_E_x (q_iN_I (i := 23) (m := 0) j2018 (by decide))
  | false =>
    have g2019 := (q_rg_ltF1 (l2 := 150) (u := 2147483647) h2011 (q_rg_full _) (q_rg_lit (n := 150) (x := 150) rfl))
    refine q_S_F ?_
    cases h2020 : decide (152 < a1) with
    | true =>
      have g2021 := (q_rg_ltT2 (L := 153) (u2 := 2147483647) h2020 (q_rg_lit (n := 152) (x := 152) rfl) g2019 (by decide))
      refine q_S_T ?_
      cases h2022 : decide ((s.2.1 23 0) - (s.2.1 23 0) / 2 * 2 = 1) with
      | true =>
        have g2023 := q_rg_eqT h2022 (q_rg_lit (n := 1) (x := 1) rfl)
        refine q_S_T ?_
        have j2024 := dzj_N149_87_t (s) hI (1)
        refine q_S_L ?_
        generalize dz_N149_87_t s 1 = r5 at j2024 ⊢
        have j2025 := dzj_N150_87 (r5) j2024 (((r5.2.1 23 0) / 2) + (128 * ((s.2.1 23 5) &&& 1)))
        refine q_S_L ?_
        generalize dz_N150_87 r5 (((r5.2.1 23 0) / 2) + (128 * ((s.2.1 23 5) &&& 1))) = r6 at j2025 ⊢
        exact q_E_x (q_iN_I (i := 23) (m := 0) j2025 (by decide))
      | false =>
        refine q_S_F ?_
        have j2026 := dzj_N149_87_f (s) hI (1)
        refine q_S_L ?_
        generalize dz_N149_87_f s 1 = r7 at j2026 ⊢
        have j2027 := dzj_N150_87 (r7) j2026 (((r7.2.1 23 0) / 2) + (128 * ((s.2.1 23 5) &&& 1)))
        refine q_S_L ?_
        generalize dz_N150_87 r7 (((r7.2.1 23 0) / 2) + (128 * ((s.2.1 23 5) &&& 1))) = r8 at j2027 ⊢
        exact q_E_x (q_iN_I (i := 23) (m := 0) j2027 (by decide))
    | false =>
      have g2028 := (q_rg_ltF2 (l2 := 150) (u := 152) h2020 (q_rg_lit (n := 152) (x := 152) rfl) g2019)
      refine q_S_F ?_
      cases h2029 : decide (a1 = 150) with
      | true =>
        have g2030 := q_rg_eqT h2029 (q_rg_lit (n := 150) (x := 150) rfl)
        refine q_S_T ?_
        cases h2031 : decide (127 < s.2.1 23 0) with
        | true =>
          have g2032 := (q_rg_ltT2 (L := 128) (u2 := 2147483647) h2031 (q_rg_lit (n := 127) (x := 127) rfl) (q_rg_full _) (by decide))
          refine q_S_T ?_
          have j2033 := dzj_N149_87_t (s) hI (1)
          refine q_S_L ?_
          generalize dz_N149_87_t s 1 = r9 at j2033 ⊢
          have j2034 := dzj_N150_87 (r9) j2033 ((2 * (r9.2.1 23 0)) &&& 255)
          refine q_S_L ?_
          generalize dz_N150_87 r9 ((2 * (r9.2.1 23 0)) &&& 255) = r10 at j2034 ⊢
          exact q_E_x (q_iN_I (i := 23) (m := 0) j2034 (by decide))
        | false =>
          have g2035 := (q_rg_ltF2 (l2 := -2147483648) (u := 127) h2031 (q_rg_lit (n := 127) (x := 127) rfl) (q_rg_full _))
          refine q_S_F ?_
          have j2036 := dzj_N149_87_f (s) hI (1)
          refine q_S_L ?_
          generalize dz_N149_87_f s 1 = r11 at j2036 ⊢
          have j2037 := dzj_N150_87 (r11) j2036 ((2 * (r11.2.1 23 0)) &&& 255)
          refine q_S_L ?_
          generalize dz_N150_87 r11 ((2 * (r11.2.1 23 0)) &&& 255) = r12 at j2037 ⊢
          exact q_E_x (q_iN_I (i := 23) (m := 0) j2037 (by decide))
      | false =>
        have g2038 := (q_rg_neL (l := 150) (u := 152) (n := 150) (L := 151) h2029 g2028 rfl (by decide) (by decide))
        refine q_S_F ?_
        cases h2039 : decide (a1 = 151) with
        | true =>
          have g2040 := q_rg_eqT h2039 (q_rg_lit (n := 151) (x := 151) rfl)
          refine q_S_T ?_
          cases h2041 : decide ((s.2.1 23 0) - (s.2.1 23 0) / 2 * 2 = 1) with
          | true =>
            have g2042 := q_rg_eqT h2041 (q_rg_lit (n := 1) (x := 1) rfl)
            refine q_S_T ?_
            have j2043 := dzj_N149_87_t (s) hI (1)
            refine q_S_L ?_
            generalize dz_N149_87_t s 1 = r13 at j2043 ⊢
            have j2044 := dzj_N150_87 (r13) j2043 ((r13.2.1 23 0) / 2)
            refine q_S_L ?_
            generalize dz_N150_87 r13 ((r13.2.1 23 0) / 2) = r14 at j2044 ⊢
            exact q_E_x (q_iN_I (i := 23) (m := 0) j2044 (by decide))
          | false =>
            refine q_S_F ?_
            have j2045 := dzj_N149_87_f (s) hI (1)
            refine q_S_L ?_
            generalize dz_N149_87_f s 1 = r15 at j2045 ⊢
            have j2046 := dzj_N150_87 (r15) j2045 ((r15.2.1 23 0) / 2)
            refine q_S_L ?_
            generalize dz_N150_87 r15 ((r15.2.1 23 0) / 2) = r16 at j2046 ⊢
            exact q_E_x (q_iN_I (i := 23) (m := 0) j2046 (by decide))
        | false =>
          have g2047 := (q_rg_neL (l := 151) (u := 152) (n := 151) (L := 152) h2039 g2038 rfl (by decide) (by decide))
          refine q_S_F ?_
          cases h2048 : decide (127 < s.2.1 23 0) with
          | true =>
            have g2049 := (q_rg_ltT2 (L := 128) (u2 := 2147483647) h2048 (q_rg_lit (n := 127) (x := 127) rfl) (q_rg_full _) (by decide))
            refine q_S_T ?_
            have j2050 := dzj_N149_87_t (s) hI (1)
            refine q_S_L ?_
            generalize dz_N149_87_t s 1 = r17 at j2050 ⊢
            have j2051 := dzj_N150_87 (r17) j2050 (((2 * (r17.2.1 23 0)) + ((s.2.1 23 5) &&& 1)) &&& 255)
            refine q_S_L ?_
            generalize dz_N150_87 r17 (((2 * (r17.2.1 23 0)) + ((s.2.1 23 5) &&& 1)) &&& 255) = r18 at j2051 ⊢
            exact q_E_x (q_iN_I (i := 23) (m := 0) j2051 (by decide))
          | false =>
            have g2052 := (q_rg_ltF2 (l2 := -2147483648) (u := 127) h2048 (q_rg_lit (n := 127) (x := 127) rfl) (q_rg_full _))
            refine q_S_F ?_
            have j2053 := dzj_N149_87_f (s) hI (1)
            refine q_S_L ?_
            generalize dz_N149_87_f s 1 = r19 at j2053 ⊢
            have j2054 := dzj_N150_87 (r19) j2053 (((2 * (r19.2.1 23 0)) + ((s.2.1 23 5) &&& 1)) &&& 255)
            refine q_S_L ?_
            generalize dz_N150_87 r19 (((2 * (r19.2.1 23 0)) + ((s.2.1 23 5) &&& 1)) &&& 255) = r20 at j2054 ⊢
            exact q_E_x (q_iN_I (i := 23) (m := 0) j2054 (by decide))
set_option maxHeartbeats 4000000 in
theorem dzj_N163_87  (s : q_S) (hI : q_iN s) (a1 : Int32) : (q_iN) (dz_N163_87 s a1) := by
  refine q_S_of (P := (q_iN)) ?_
  unfold dz_N163_87
  cases h2084 : decide (a1 < 142) with
  | true =>
    have g2085 := (q_rg_ltT1 (l := -2147483648) (U := 141) h2084 (q_rg_full _) (q_rg_lit (n := 142) (x := 142) rfl) (by decide))
    refine q_S_T ?_
    have j2086 := dzj_N149_87_f (s) hI (64)
    refine q_S_L ?_
    generalize dz_N149_87_f s 64 = r1 at j2086 ⊢
    exact q_E_x j2086
  | false =>
    have g2087 := (q_rg_ltF1 (l2 := 142) (u := 2147483647) h2084 (q_rg_full _) (q_rg_lit (n := 142) (x := 142) rfl))
    refine q_S_F ?_
    cases h2088 : decide (147 < a1) with
    | true =>
      have g2089 := (q_rg_ltT2 (L := 148) (u2 := 2147483647) h2088 (q_rg_lit (n := 147) (x := 147) rfl) g2087 (by decide))
      refine q_S_T ?_
      have j2090 := dzj_N149_87_f (s) hI (64)
      refine q_S_L ?_
      generalize dz_N149_87_f s 64 = r2 at j2090 ⊢
      exact q_E_x j2090
    | false =>
      have g2091 := (q_rg_ltF2 (l2 := 142) (u := 147) h2088 (q_rg_lit (n := 147) (x := 147) rfl) g2087)
      refine q_S_F ?_
      cases h2092 : decide (a1 = 142) with
      | true =>
        have g2093 := q_rg_eqT h2092 (q_rg_lit (n := 142) (x := 142) rfl)
        refine q_S_T ?_
        have j2094 := dzj_N149_87_t (s) hI (1)
        refine q_S_L ?_
        generalize dz_N149_87_t s 1 = r3 at j2094 ⊢
        exact q_E_x j2094
      | false =>
        have g2095 := (q_rg_neL (l := 142) (u := 147) (n := 142) (L := 143) h2092 g2091 rfl (by decide) (by decide))
        refine q_S_F ?_
        cases h2096 : decide (a1 = 143) with
        | true =>
          have g2097 := q_rg_eqT h2096 (q_rg_lit (n := 143) (x := 143) rfl)
          refine q_S_T ?_
          have j2098 := dzj_N149_87_f (s) hI (1)
          refine q_S_L ?_
          generalize dz_N149_87_f s 1 = r4 at j2098 ⊢
          exact q_E_x j2098
        | false =>
          have g2099 := (q_rg_neL (l := 143) (u := 147) (n := 143) (L := 144) h2096 g2095 rfl (by decide) (by decide))
          refine q_S_F ?_
          cases h2100 : decide (a1 = 144) with
          | true =>
            have g2101 := q_rg_eqT h2100 (q_rg_lit (n := 144) (x := 144) rfl)
            refine q_S_T ?_
            have j2102 := dzj_N149_87_t (s) hI (8)
            refine q_S_L ?_
            generalize dz_N149_87_t s 8 = r5 at j2102 ⊢
            exact q_E_x j2102
          | false =>
            have g2103 := (q_rg_neL (l := 144) (u := 147) (n := 144) (L := 145) h2100 g2099 rfl (by decide) (by decide))
            refine q_S_F ?_
            cases h2104 : decide (a1 = 145) with
            | true =>
              have g2105 := q_rg_eqT h2104 (q_rg_lit (n := 145) (x := 145) rfl)
              refine q_S_T ?_
              have j2106 := dzj_N149_87_f (s) hI (8)
              refine q_S_L ?_
              generalize dz_N149_87_f s 8 = r6 at j2106 ⊢
              exact q_E_x j2106
            | false =>
              have g2107 := (q_rg_neL (l := 145) (u := 147) (n := 145) (L := 146) h2104 g2103 rfl (by decide) (by decide))
              refine q_S_F ?_
              cases h2108 : decide (a1 = 146) with
              | true =>
                have g2109 := q_rg_eqT h2108 (q_rg_lit (n := 146) (x := 146) rfl)
                refine q_S_T ?_
                have j2110 := dzj_N149_87_t (s) hI (4)
                refine q_S_L ?_
                generalize dz_N149_87_t s 4 = r7 at j2110 ⊢
                exact q_E_x j2110
              | false =>
                have g2111 := (q_rg_neL (l := 146) (u := 147) (n := 146) (L := 147) h2108 g2107 rfl (by decide) (by decide))
                refine q_S_F ?_
                have j2112 := dzj_N149_87_f (s) hI (4)
                refine q_S_L ?_
                generalize dz_N149_87_f s 4 = r8 at j2112 ⊢
                exact q_E_x j2112
set_option maxHeartbeats 4000000 in
theorem dzj_N162_87  (s : q_S) (hI : q_iN s) (a1 : Int32) : (q_iN) (dz_N162_87 s a1) := by
  refine q_S_of (P := (q_iN)) ?_
  unfold dz_N162_87
  cases h2152 : decide (a1 < 128) with
  | true =>
    have g2153 := (q_rg_ltT1 (l := -2147483648) (U := 127) h2152 (q_rg_full _) (q_rg_lit (n := 128) (x := 128) rfl) (by decide))
    refine q_S_T ?_
    exact q_E_x (q_iN_I (i := 23) (m := 3) hI (by decide))
  | false =>
    have g2154 := (q_rg_ltF1 (l2 := 128) (u := 2147483647) h2152 (q_rg_full _) (q_rg_lit (n := 128) (x := 128) rfl))
    refine q_S_F ?_
    cases h2155 : decide (136 < a1) with
    | true =>
      have g2156 := (q_rg_ltT2 (L := 137) (u2 := 2147483647) h2155 (q_rg_lit (n := 136) (x := 136) rfl) g2154 (by decide))
      refine q_S_T ?_
      exact q_E_x (q_iN_I (i := 23) (m := 3) hI (by decide))
    | false =>
      have g2157 := (q_rg_ltF2 (l2 := 128) (u := 136) h2155 (q_rg_lit (n := 136) (x := 136) rfl) g2154)
      refine q_S_F ?_
      cases h2158 : decide (a1 = 128) with
      | true =>
        have g2159 := q_rg_eqT h2158 (q_rg_lit (n := 128) (x := 128) rfl)
        refine q_S_T ?_
        have j2160 := dzj_N150_87 (s) hI (((s.2.1 23 1) + 1) &&& 255)
        refine q_S_L ?_
        generalize dz_N150_87 s (((s.2.1 23 1) + 1) &&& 255) = r1 at j2160 ⊢
        exact q_E_x (q_iN_I (i := 23) (m := 1) j2160 (by decide))
      | false =>
        have g2161 := (q_rg_neL (l := 128) (u := 136) (n := 128) (L := 129) h2158 g2157 rfl (by decide) (by decide))
        refine q_S_F ?_
        cases h2162 : decide (a1 = 129) with
        | true =>
          have g2163 := q_rg_eqT h2162 (q_rg_lit (n := 129) (x := 129) rfl)
          refine q_S_T ?_
          have j2164 := dzj_N150_87 (s) hI (((s.2.1 23 1) - 1) &&& 255)
          refine q_S_L ?_
          generalize dz_N150_87 s (((s.2.1 23 1) - 1) &&& 255) = r2 at j2164 ⊢
          exact q_E_x (q_iN_I (i := 23) (m := 1) j2164 (by decide))
        | false =>
          have g2165 := (q_rg_neL (l := 129) (u := 136) (n := 129) (L := 130) h2162 g2161 rfl (by decide) (by decide))
          refine q_S_F ?_
          cases h2166 : decide (a1 = 130) with
          | true =>
            have g2167 := q_rg_eqT h2166 (q_rg_lit (n := 130) (x := 130) rfl)
            refine q_S_T ?_
            have j2168 := dzj_N150_87 (s) hI (((s.2.1 23 2) + 1) &&& 255)
            refine q_S_L ?_
            generalize dz_N150_87 s (((s.2.1 23 2) + 1) &&& 255) = r3 at j2168 ⊢
            exact q_E_x (q_iN_I (i := 23) (m := 2) j2168 (by decide))
          | false =>
            have g2169 := (q_rg_neL (l := 130) (u := 136) (n := 130) (L := 131) h2166 g2165 rfl (by decide) (by decide))
            refine q_S_F ?_
            cases h2170 : decide (a1 = 131) with
            | true =>
              have g2171 := q_rg_eqT h2170 (q_rg_lit (n := 131) (x := 131) rfl)
              refine q_S_T ?_
              have j2172 := dzj_N150_87 (s) hI (((s.2.1 23 2) - 1) &&& 255)
              refine q_S_L ?_
              generalize dz_N150_87 s (((s.2.1 23 2) - 1) &&& 255) = r4 at j2172 ⊢
              exact q_E_x (q_iN_I (i := 23) (m := 2) j2172 (by decide))
            | false =>
              have g2173 := (q_rg_neL (l := 131) (u := 136) (n := 131) (L := 132) h2170 g2169 rfl (by decide) (by decide))
              refine q_S_F ?_
              cases h2174 : decide (a1 = 132) with
              | true =>
                have g2175 := q_rg_eqT h2174 (q_rg_lit (n := 132) (x := 132) rfl)
                refine q_S_T ?_
                have j2176 := dzj_N150_87 (s) hI (s.2.1 23 0)
                refine q_S_L ?_
                generalize dz_N150_87 s (s.2.1 23 0) = r5 at j2176 ⊢
                exact q_E_x (q_iN_I (i := 23) (m := 1) j2176 (by decide))
              | false =>
                have g2177 := (q_rg_neL (l := 132) (u := 136) (n := 132) (L := 133) h2174 g2173 rfl (by decide) (by decide))
                refine q_S_F ?_
                cases h2178 : decide (a1 = 133) with
                | true =>
                  have g2179 := q_rg_eqT h2178 (q_rg_lit (n := 133) (x := 133) rfl)
                  refine q_S_T ?_
                  have j2180 := dzj_N150_87 (s) hI (s.2.1 23 1)
                  refine q_S_L ?_
                  generalize dz_N150_87 s (s.2.1 23 1) = r6 at j2180 ⊢
                  exact q_E_x (q_iN_I (i := 23) (m := 0) j2180 (by decide))
                | false =>
                  have g2181 := (q_rg_neL (l := 133) (u := 136) (n := 133) (L := 134) h2178 g2177 rfl (by decide) (by decide))
                  refine q_S_F ?_
                  cases h2182 : decide (a1 = 134) with
                  | true =>
                    have g2183 := q_rg_eqT h2182 (q_rg_lit (n := 134) (x := 134) rfl)
                    refine q_S_T ?_
                    have j2184 := dzj_N150_87 (s) hI (s.2.1 23 0)
                    refine q_S_L ?_
                    generalize dz_N150_87 s (s.2.1 23 0) = r7 at j2184 ⊢
                    exact q_E_x (q_iN_I (i := 23) (m := 2) j2184 (by decide))
                  | false =>
                    have g2185 := (q_rg_neL (l := 134) (u := 136) (n := 134) (L := 135) h2182 g2181 rfl (by decide) (by decide))
                    refine q_S_F ?_
                    cases h2186 : decide (a1 = 135) with
                    | true =>
                      have g2187 := q_rg_eqT h2186 (q_rg_lit (n := 135) (x := 135) rfl)
                      refine q_S_T ?_
                      have j2188 := dzj_N150_87 (s) hI (s.2.1 23 2)
                      refine q_S_L ?_
                      generalize dz_N150_87 s (s.2.1 23 2) = r8 at j2188 ⊢
                      exact q_E_x (q_iN_I (i := 23) (m := 0) j2188 (by decide))
                    | false =>
                      have g2189 := (q_rg_neL (l := 135) (u := 136) (n := 135) (L := 136) h2186 g2185 rfl (by decide) (by decide))
                      refine q_S_F ?_
                      have j2190 := dzj_N150_87 (s) hI (s.2.1 23 3)
                      refine q_S_L ?_
                      generalize dz_N150_87 s (s.2.1 23 3) = r9 at j2190 ⊢
                      exact q_E_x (q_iN_I (i := 23) (m := 1) j2190 (by decide))
set_option maxHeartbeats 4000000 in
theorem dzj_N157_87_65_37  (s : q_S) (hI : q_iN s) (v2 : Int32) (rv2 : q_rgz 138 2147483647 v2) : q_Ex (dz_N157_87_65_37 s v2) (q_iN) := by
  unfold dz_N157_87_65_37
  cases h2236 : decide (v2 < 150) with
  | true =>
    have g2237 := (q_rg_ltT1 (l := 138) (U := 149) h2236 rv2 (q_rg_lit (n := 150) (x := 150) rfl) (by decide))
    refine q_E_T ?_
    cases h2238 : decide (v2 = 138) with
    | true =>
      have g2239 := q_rg_eqT h2238 (q_rg_lit (n := 138) (x := 138) rfl)
      refine q_E_T ?_
      obtain ⟨r2, e2241, j2240⟩ := dzj_N146_87_65 (s) hI (s.2.1 23 0)
      rw [e2241]
      refine q_E_B ?_
      exact q_E_x j2240
    | false =>
      have g2242 := (q_rg_neL (l := 138) (u := 149) (n := 138) (L := 139) h2238 g2237 rfl (by decide) (by decide))
      refine q_E_F ?_
      cases h2243 : decide (v2 = 139) with
      | true =>
        have g2244 := q_rg_eqT h2243 (q_rg_lit (n := 139) (x := 139) rfl)
        refine q_E_T ?_
        have j2245 := dzj_N147_87_65 (s) hI
        refine q_E_L ?_
        generalize dz_N147_87_65 s = r3 at j2245 ⊢
        have j2246 := dzj_N150_87 (r3.1) j2245 (r3.2)
        refine q_E_L ?_
        generalize dz_N150_87 r3.1 r3.2 = r4 at j2246 ⊢
        exact q_E_x (q_iN_I (i := 23) (m := 0) j2246 (by decide))
      | false =>
        have g2247 := (q_rg_neL (l := 139) (u := 149) (n := 139) (L := 140) h2243 g2242 rfl (by decide) (by decide))
        refine q_E_F ?_
        cases h2248 : decide (v2 = 140) with
        | true =>
          have g2249 := q_rg_eqT h2248 (q_rg_lit (n := 140) (x := 140) rfl)
          refine q_E_T ?_
          obtain ⟨r5, e2251, j2250⟩ := dzj_N146_87_65 (s) hI (((s.2.1 23 5) ||| 32) ||| 16)
          rw [e2251]
          refine q_E_B ?_
          exact q_E_x j2250
        | false =>
          have g2252 := (q_rg_neL (l := 140) (u := 149) (n := 140) (L := 141) h2248 g2247 rfl (by decide) (by decide))
          refine q_E_F ?_
          cases h2253 : decide (v2 = 141) with
          | true =>
            have g2254 := q_rg_eqT h2253 (q_rg_lit (n := 141) (x := 141) rfl)
            refine q_E_T ?_
            have j2255 := dzj_N147_87_65 (s) hI
            refine q_E_L ?_
            generalize dz_N147_87_65 s = r6 at j2255 ⊢
            exact q_E_x (q_iN_I (i := 23) (m := 5) j2255 (by decide))
          | false =>
            have g2256 := (q_rg_neL (l := 141) (u := 149) (n := 141) (L := 142) h2253 g2252 rfl (by decide) (by decide))
            refine q_E_F ?_
            exact q_E_x hI
  | false =>
    have g2257 := (q_rg_ltF1 (l2 := 150) (u := 2147483647) h2236 rv2 (q_rg_lit (n := 150) (x := 150) rfl))
    refine q_E_F ?_
    have j2258 := dzj_N164_87 (s) hI (v2)
    refine q_E_L ?_
    generalize dz_N164_87 s v2 = r7 at j2258 ⊢
    exact q_E_x j2258
set_option maxHeartbeats 4000000 in
theorem dzj_N157_87_65  (s : q_S) (hI : q_iN s) (a2 : Int32) : q_Ex (dz_N157_87_65 s a2) (q_iN) := by
  unfold dz_N157_87_65
  cases h2259 : decide (137 < a2) with
  | true =>
    have g2260 := (q_rg_ltT2 (L := 138) (u2 := 2147483647) h2259 (q_rg_lit (n := 137) (x := 137) rfl) (q_rg_full _) (by decide))
    refine q_E_T ?_
    cases h2261 : decide (a2 < 142) with
    | true =>
      have g2262 := (q_rg_ltT1 (l := 138) (U := 141) h2261 g2260 (q_rg_lit (n := 142) (x := 142) rfl) (by decide))
      refine q_E_T ?_
      exact dzj_N157_87_65_37 (s) hI (a2) (q_rg_le (L := 138) (U := 2147483647) g2262 (by decide) (by decide))
    | false =>
      have g2263 := (q_rg_ltF1 (l2 := 142) (u := 2147483647) h2261 g2260 (q_rg_lit (n := 142) (x := 142) rfl))
      refine q_E_F ?_
      cases h2264 : decide (148 < a2) with
      | true =>
        have g2265 := (q_rg_ltT2 (L := 149) (u2 := 2147483647) h2264 (q_rg_lit (n := 148) (x := 148) rfl) g2263 (by decide))
        refine q_E_T ?_
        exact dzj_N157_87_65_37 (s) hI (a2) (q_rg_le (L := 138) (U := 2147483647) g2265 (by decide) (by decide))
      | false =>
        have g2266 := (q_rg_ltF2 (l2 := 142) (u := 148) h2264 (q_rg_lit (n := 148) (x := 148) rfl) g2263)
        refine q_E_F ?_
        have j2267 := dzj_N163_87 (s) hI (a2)
        refine q_E_L ?_
        generalize dz_N163_87 s a2 = r8 at j2267 ⊢
        exact q_E_x j2267
  | false =>
    have g2268 := (q_rg_ltF2 (l2 := -2147483648) (u := 137) h2259 (q_rg_lit (n := 137) (x := 137) rfl) (q_rg_full _))
    refine q_E_F ?_
    have j2269 := dzj_N162_87 (s) hI (a2)
    refine q_E_L ?_
    generalize dz_N162_87 s a2 = r9 at j2269 ⊢
    exact q_E_x j2269
set_option maxHeartbeats 4000000 in
theorem dzj_N160_87_65  (s : q_S) (hI : q_iN s) : (fun (x : q_S × Int32) => q_iN x.1) (dz_N160_87_65 s) := by
  refine q_S_of (P := (fun (x : q_S × Int32) => q_iN x.1)) ?_
  unfold dz_N160_87_65
  have j2272 := dzj_N147_87_65 (s) hI
  refine q_S_L ?_
  generalize dz_N147_87_65 s = r1 at j2272 ⊢
  have j2273 := dzj_N147_87_65 (r1.1) j2272
  refine q_S_L ?_
  generalize dz_N147_87_65 r1.1 = r2 at j2273 ⊢
  exact q_E_x j2273
set_option maxHeartbeats 4000000 in
theorem dzj_N159_87_65  (s : q_S) (hI : q_iN s) (a2 : Int32) : q_Ex (dz_N159_87_65 s a2) (fun _ => True) := by
  unfold dz_N159_87_65
  obtain ⟨r2, e2279, j2278⟩ := dzj_N90_65 (s) hI (a2)
  rw [e2279]
  refine q_E_B ?_
  obtain ⟨r3, e2281, j2280⟩ := dzj_N90_65 (s) hI (((a2 / 256) * 256) + ((a2 + 1) &&& 255))
  rw [e2281]
  refine q_E_B ?_
  exact q_E_x trivial
set_option maxHeartbeats 4000000 in
theorem dzj_N158_87_65  (s : q_S) (hI : q_iN s) (a2 : Int32) (a3 : Int32) : q_Ex (dz_N158_87_65 s a2 a3) (fun (x : q_S × Int32) => q_iN x.1) := by
  unfold dz_N158_87_65
  cases h2333 : decide (a2 < 155) with
  | true =>
    have g2334 := (q_rg_ltT1 (l := -2147483648) (U := 154) h2333 (q_rg_full _) (q_rg_lit (n := 155) (x := 155) rfl) (by decide))
    refine q_E_T ?_
    have j2335 := dzj_N187 (s) hI (a2)
    refine q_E_L ?_
    generalize dz_N187 s a2 = r5 at j2335 ⊢
    cases h2336 : r5 with
    | true =>
      refine q_E_T ?_
      have j2337 := dzj_N161_87 (s) hI (a2)
      refine q_E_L ?_
      generalize dz_N161_87 s a2 = r6 at j2337 ⊢
      cases h2338 : r6 with
      | true =>
        refine q_E_T ?_
        have j2339 := dzj_N140_87 (s) hI (1)
        refine q_E_L ?_
        generalize dz_N140_87 s 1 = r7 at j2339 ⊢
        obtain ⟨r8, e2341, j2340⟩ := dzj_N90_65 (s) hI (r7)
        rw [e2341]
        refine q_E_B ?_
        have j2342 := dzj_N139_87 (s) hI (r8)
        refine q_E_L ?_
        generalize dz_N139_87 s r8 = r9 at j2342 ⊢
        exact q_E_x hI
      | false =>
        refine q_E_F ?_
        exact q_E_x hI
    | false =>
      refine q_E_F ?_
      exact q_E_x (q_iN_F7 hI (q_rg_le (q_rg_lit (n := 1) (x := 1) rfl) (by decide) (by decide)))
  | false =>
    have g2343 := (q_rg_ltF1 (l2 := 155) (u := 2147483647) h2333 (q_rg_full _) (q_rg_lit (n := 155) (x := 155) rfl))
    refine q_E_F ?_
    cases h2344 : decide (159 < a2) with
    | true =>
      have g2345 := (q_rg_ltT2 (L := 160) (u2 := 2147483647) h2344 (q_rg_lit (n := 159) (x := 159) rfl) g2343 (by decide))
      refine q_E_T ?_
      have j2346 := dzj_N187 (s) hI (a2)
      refine q_E_L ?_
      generalize dz_N187 s a2 = r10 at j2346 ⊢
      cases h2347 : r10 with
      | true =>
        refine q_E_T ?_
        have j2348 := dzj_N161_87 (s) hI (a2)
        refine q_E_L ?_
        generalize dz_N161_87 s a2 = r11 at j2348 ⊢
        cases h2349 : r11 with
        | true =>
          refine q_E_T ?_
          have j2350 := dzj_N140_87 (s) hI (1)
          refine q_E_L ?_
          generalize dz_N140_87 s 1 = r12 at j2350 ⊢
          obtain ⟨r13, e2352, j2351⟩ := dzj_N90_65 (s) hI (r12)
          rw [e2352]
          refine q_E_B ?_
          have j2353 := dzj_N139_87 (s) hI (r13)
          refine q_E_L ?_
          generalize dz_N139_87 s r13 = r14 at j2353 ⊢
          exact q_E_x hI
        | false =>
          refine q_E_F ?_
          exact q_E_x hI
      | false =>
        refine q_E_F ?_
        exact q_E_x (q_iN_F7 hI (q_rg_le (q_rg_lit (n := 1) (x := 1) rfl) (by decide) (by decide)))
    | false =>
      have g2354 := (q_rg_ltF2 (l2 := 155) (u := 159) h2344 (q_rg_lit (n := 159) (x := 159) rfl) g2343)
      refine q_E_F ?_
      cases h2355 : decide (a2 = 155) with
      | true =>
        have g2356 := q_rg_eqT h2355 (q_rg_lit (n := 155) (x := 155) rfl)
        refine q_E_T ?_
        have j2357 := dzj_N147_87_65 (s) hI
        refine q_E_L ?_
        generalize dz_N147_87_65 s = r15 at j2357 ⊢
        have j2358 := dzj_N160_87_65 (q_sI r15.1 23 5 (r15.2 &&& 207)) (q_iN_I (i := 23) (m := 5) j2357 (by decide))
        refine q_E_L ?_
        generalize dz_N160_87_65 (q_sI r15.1 23 5 (r15.2 &&& 207)) = r16 at j2358 ⊢
        exact q_E_x j2358
      | false =>
        have g2359 := (q_rg_neL (l := 155) (u := 159) (n := 155) (L := 156) h2355 g2354 rfl (by decide) (by decide))
        refine q_E_F ?_
        cases h2360 : decide (a2 = 156) with
        | true =>
          have g2361 := q_rg_eqT h2360 (q_rg_lit (n := 156) (x := 156) rfl)
          refine q_E_T ?_
          have j2362 := dzj_N160_87_65 (s) hI
          refine q_E_L ?_
          generalize dz_N160_87_65 s = r17 at j2362 ⊢
          exact q_E_x j2362
        | false =>
          have g2363 := (q_rg_neL (l := 156) (u := 159) (n := 156) (L := 157) h2360 g2359 rfl (by decide) (by decide))
          refine q_E_F ?_
          cases h2364 : decide (a2 = 157) with
          | true =>
            have g2365 := q_rg_eqT h2364 (q_rg_lit (n := 157) (x := 157) rfl)
            refine q_E_T ?_
            obtain ⟨r18, e2367, j2366⟩ := dzj_N145_87_65 (s) hI (3)
            rw [e2367]
            refine q_E_B ?_
            exact q_E_x hI
          | false =>
            have g2368 := (q_rg_neL (l := 157) (u := 159) (n := 157) (L := 158) h2364 g2363 rfl (by decide) (by decide))
            refine q_E_F ?_
            cases h2369 : decide (a2 = 158) with
            | true =>
              have g2370 := q_rg_eqT h2369 (q_rg_lit (n := 158) (x := 158) rfl)
              refine q_E_T ?_
              obtain ⟨r19, e2372, j2371⟩ := dzj_N145_87_65 (s) hI (3)
              rw [e2372]
              refine q_E_B ?_
              have j2373 := dzj_N140_87 (s) hI (2)
              refine q_E_L ?_
              generalize dz_N140_87 s 2 = r20 at j2373 ⊢
              obtain ⟨r21, e2375, j2374⟩ := dzj_N146_87_65 (s) hI (r20 >>> ((8 &&& 31) : Int32))
              rw [e2375]
              refine q_E_B ?_
              have j2376 := dzj_N140_87 (r21) j2374 (2)
              refine q_E_L ?_
              generalize dz_N140_87 r21 2 = r22 at j2376 ⊢
              obtain ⟨r23, e2378, j2377⟩ := dzj_N146_87_65 (r21) j2374 (r22 &&& 255)
              rw [e2378]
              refine q_E_B ?_
              exact q_E_x j2377
            | false =>
              have g2379 := (q_rg_neL (l := 158) (u := 159) (n := 158) (L := 159) h2369 g2368 rfl (by decide) (by decide))
              refine q_E_F ?_
              obtain ⟨r24, e2381, j2380⟩ := dzj_N145_87_65 (s) hI (3)
              rw [e2381]
              refine q_E_B ?_
              obtain ⟨r25, e2383, j2382⟩ := dzj_N159_87_65 (s) hI (r24)
              rw [e2383]
              refine q_E_B ?_
              exact q_E_x hI
set_option maxHeartbeats 4000000 in
theorem dzj_N156_87  (s : q_S) (hI : q_iN s) (a1 : Int32) : (q_iN) (dz_N156_87 s a1) := by
  refine q_S_of (P := (q_iN)) ?_
  unfold dz_N156_87
  cases h2403 : decide ((((s.2.1 23 0) ^^^ (((s.2.1 23 0) + a1) + ((s.2.1 23 5) &&& 1))) &&& (a1 ^^^ (((s.2.1 23 0) + a1) + ((s.2.1 23 5) &&& 1)))) &&& 128 = 0) with
  | true =>
    have g2404 := q_rg_eqT h2403 (q_rg_lit (n := 0) (x := 0) rfl)
    refine q_S_T ?_
    have j2405 := dzj_N149_87_f (s) hI (64)
    refine q_S_L ?_
    generalize dz_N149_87_f s 64 = r1 at j2405 ⊢
    cases h2406 : decide (255 < ((s.2.1 23 0) + a1) + ((s.2.1 23 5) &&& 1)) with
    | true =>
      have g2407 := (q_rg_ltT2 (L := 256) (u2 := 2147483647) h2406 (q_rg_lit (n := 255) (x := 255) rfl) (q_rg_full _) (by decide))
      refine q_S_T ?_
      have j2408 := dzj_N149_87_t (r1) j2405 (1)
      refine q_S_L ?_
      generalize dz_N149_87_t r1 1 = r2 at j2408 ⊢
      have j2409 := dzj_N150_87 (r2) j2408 ((((s.2.1 23 0) + a1) + ((s.2.1 23 5) &&& 1)) &&& 255)
      refine q_S_L ?_
      generalize dz_N150_87 r2 ((((s.2.1 23 0) + a1) + ((s.2.1 23 5) &&& 1)) &&& 255) = r3 at j2409 ⊢
      exact q_E_x (q_iN_I (i := 23) (m := 0) j2409 (by decide))
    | false =>
      have g2410 := (q_rg_ltF2 (l2 := -2147483648) (u := 255) h2406 (q_rg_lit (n := 255) (x := 255) rfl) (q_rg_full _))
      refine q_S_F ?_
      have j2411 := dzj_N149_87_f (r1) j2405 (1)
      refine q_S_L ?_
      generalize dz_N149_87_f r1 1 = r4 at j2411 ⊢
      have j2412 := dzj_N150_87 (r4) j2411 ((((s.2.1 23 0) + a1) + ((s.2.1 23 5) &&& 1)) &&& 255)
      refine q_S_L ?_
      generalize dz_N150_87 r4 ((((s.2.1 23 0) + a1) + ((s.2.1 23 5) &&& 1)) &&& 255) = r5 at j2412 ⊢
      exact q_E_x (q_iN_I (i := 23) (m := 0) j2412 (by decide))
  | false =>
    have g2413 := (q_rg_neL (l := 0) (u := 128) (n := 0) (L := 1) h2403 (q_rg_and (((s.2.1 23 0) ^^^ (((s.2.1 23 0) + a1) + ((s.2.1 23 5) &&& 1))) &&& (a1 ^^^ (((s.2.1 23 0) + a1) + ((s.2.1 23 5) &&& 1)))) 128 (U := 128) (by decide) rfl) rfl (by decide) (by decide))
    refine q_S_F ?_
    have j2414 := dzj_N149_87_t (s) hI (64)
    refine q_S_L ?_
    generalize dz_N149_87_t s 64 = r6 at j2414 ⊢
    cases h2415 : decide (255 < ((s.2.1 23 0) + a1) + ((s.2.1 23 5) &&& 1)) with
    | true =>
      have g2416 := (q_rg_ltT2 (L := 256) (u2 := 2147483647) h2415 (q_rg_lit (n := 255) (x := 255) rfl) (q_rg_full _) (by decide))
      refine q_S_T ?_
      have j2417 := dzj_N149_87_t (r6) j2414 (1)
      refine q_S_L ?_
      generalize dz_N149_87_t r6 1 = r7 at j2417 ⊢
      have j2418 := dzj_N150_87 (r7) j2417 ((((s.2.1 23 0) + a1) + ((s.2.1 23 5) &&& 1)) &&& 255)
      refine q_S_L ?_
      generalize dz_N150_87 r7 ((((s.2.1 23 0) + a1) + ((s.2.1 23 5) &&& 1)) &&& 255) = r8 at j2418 ⊢
      exact q_E_x (q_iN_I (i := 23) (m := 0) j2418 (by decide))
    | false =>
      have g2419 := (q_rg_ltF2 (l2 := -2147483648) (u := 255) h2415 (q_rg_lit (n := 255) (x := 255) rfl) (q_rg_full _))
      refine q_S_F ?_
      have j2420 := dzj_N149_87_f (r6) j2414 (1)
      refine q_S_L ?_
      generalize dz_N149_87_f r6 1 = r9 at j2420 ⊢
      have j2421 := dzj_N150_87 (r9) j2420 ((((s.2.1 23 0) + a1) + ((s.2.1 23 5) &&& 1)) &&& 255)
      refine q_S_L ?_
      generalize dz_N150_87 r9 ((((s.2.1 23 0) + a1) + ((s.2.1 23 5) &&& 1)) &&& 255) = r10 at j2421 ⊢
      exact q_E_x (q_iN_I (i := 23) (m := 0) j2421 (by decide))
set_option maxHeartbeats 4000000 in
theorem dzj_N154_87_64  (s : q_S) (hI : q_iN s) (v3 : Int32) (v4 : Int32) (rv3 : q_rgz (-2147483648) 2147483637 v3) : (q_iN) (dz_N154_87_64 s v3 v4) := by
  refine q_S_of (P := (q_iN)) ?_
  unfold dz_N154_87_64
  cases h2445 : decide (9 < v4) with
  | true =>
    have g2446 := (q_rg_ltT2 (L := 10) (u2 := 2147483647) h2445 (q_rg_lit (n := 9) (x := 9) rfl) (q_rg_full _) (by decide))
    refine q_S_T ?_
    have j2447 := dzj_N149_87_t (s) hI (1)
    refine q_S_L ?_
    generalize dz_N149_87_t s 1 = r3 at j2447 ⊢
    have j2448 := dzj_N150_87 (r3) j2447 (((16 * (v4 + (-10))) + v3) &&& 255)
    refine q_S_L ?_
    generalize dz_N150_87 r3 (((16 * (v4 + (-10))) + v3) &&& 255) = r4 at j2448 ⊢
    exact q_E_x (q_iN_I (i := 23) (m := 0) j2448 (by decide))
  | false =>
    have g2449 := (q_rg_ltF2 (l2 := -2147483648) (u := 9) h2445 (q_rg_lit (n := 9) (x := 9) rfl) (q_rg_full _))
    refine q_S_F ?_
    have j2450 := dzj_N149_87_f (s) hI (1)
    refine q_S_L ?_
    generalize dz_N149_87_f s 1 = r5 at j2450 ⊢
    have j2451 := dzj_N150_87 (r5) j2450 (((16 * v4) + v3) &&& 255)
    refine q_S_L ?_
    generalize dz_N150_87 r5 (((16 * v4) + v3) &&& 255) = r6 at j2451 ⊢
    exact q_E_x (q_iN_I (i := 23) (m := 0) j2451 (by decide))
set_option maxHeartbeats 4000000 in
theorem dzj_N154_87  (s : q_S) (hI : q_iN s) (a1 : Int32) : (q_iN) (dz_N154_87 s a1) := by
  refine q_S_of (P := (q_iN)) ?_
  unfold dz_N154_87
  have j2452 : q_rgz (-2147483648) 2147483647 ((((s.2.1 23 0) - (s.2.1 23 0) / 16 * 16) + (a1 - a1 / 16 * 16)) + ((s.2.1 23 5) &&& 1)) := (q_rg_full _)
  refine q_S_L ?_
  generalize ((((s.2.1 23 0) - (s.2.1 23 0) / 16 * 16) + (a1 - a1 / 16 * 16)) + ((s.2.1 23 5) &&& 1)) = x1 at j2452 ⊢
  have j2453 := dzj_N156_87 (s) hI (a1)
  refine q_S_L ?_
  generalize dz_N156_87 s a1 = r2 at j2453 ⊢
  cases h2454 : decide ((r2.2.1 23 5) &&& 8 = 0) with
  | true =>
    have g2455 := q_rg_eqT h2454 (q_rg_lit (n := 0) (x := 0) rfl)
    refine q_S_T ?_
    exact q_E_x j2453
  | false =>
    have g2456 := (q_rg_neL (l := 0) (u := 8) (n := 0) (L := 1) h2454 (q_rg_and (r2.2.1 23 5) 8 (U := 8) (by decide) rfl) rfl (by decide) (by decide))
    refine q_S_F ?_
    cases h2457 : decide (9 < x1) with
    | true =>
      have g2458 := (q_rg_ltT2 (L := 10) (u2 := 2147483647) h2457 (q_rg_lit (n := 9) (x := 9) rfl) j2452 (by decide))
      refine q_S_T ?_
      exact q_E_x (dzj_N154_87_64 (r2) j2453 (x1 + (-10)) ((((s.2.1 23 0) / 16) + (a1 / 16)) + 1) (q_rg_le (L := -2147483648) (U := 2147483637) (q_rg_add (L := 0) (U := 2147483637) g2458 (q_rg_lit (n := -10) (x := -10) rfl) (by decide) (by decide) (by decide) (by decide)) (by decide) (by decide)))
    | false =>
      have g2459 := (q_rg_ltF2 (l2 := -2147483648) (u := 9) h2457 (q_rg_lit (n := 9) (x := 9) rfl) j2452)
      refine q_S_F ?_
      exact q_E_x (dzj_N154_87_64 (r2) j2453 (x1) (((s.2.1 23 0) / 16) + (a1 / 16)) (q_rg_le (L := -2147483648) (U := 2147483637) g2459 (by decide) (by decide)))
set_option maxHeartbeats 4000000 in
theorem dzj_N155_87_68  (s : q_S) (hI : q_iN s) (v3 : Int32) (v4 : Int32) (rv3 : q_rgz (-2147483638) 2147483647 v3) : (q_iN) (dz_N155_87_68 s v3 v4) := by
  refine q_S_of (P := (q_iN)) ?_
  unfold dz_N155_87_68
  cases h2483 : decide (v4 < 0) with
  | true =>
    have g2484 := (q_rg_ltT1 (l := -2147483648) (U := -1) h2483 (q_rg_full _) (q_rg_lit (n := 0) (x := 0) rfl) (by decide))
    refine q_S_T ?_
    have j2485 := dzj_N149_87_f (s) hI (1)
    refine q_S_L ?_
    generalize dz_N149_87_f s 1 = r3 at j2485 ⊢
    have j2486 := dzj_N150_87 (r3) j2485 (((16 * (v4 + 10)) + v3) &&& 255)
    refine q_S_L ?_
    generalize dz_N150_87 r3 (((16 * (v4 + 10)) + v3) &&& 255) = r4 at j2486 ⊢
    exact q_E_x (q_iN_I (i := 23) (m := 0) j2486 (by decide))
  | false =>
    have g2487 := (q_rg_ltF1 (l2 := 0) (u := 2147483647) h2483 (q_rg_full _) (q_rg_lit (n := 0) (x := 0) rfl))
    refine q_S_F ?_
    have j2488 := dzj_N149_87_t (s) hI (1)
    refine q_S_L ?_
    generalize dz_N149_87_t s 1 = r5 at j2488 ⊢
    have j2489 := dzj_N150_87 (r5) j2488 (((16 * v4) + v3) &&& 255)
    refine q_S_L ?_
    generalize dz_N150_87 r5 (((16 * v4) + v3) &&& 255) = r6 at j2489 ⊢
    exact q_E_x (q_iN_I (i := 23) (m := 0) j2489 (by decide))
set_option maxHeartbeats 4000000 in
theorem dzj_N155_87  (s : q_S) (hI : q_iN s) (a1 : Int32) : (q_iN) (dz_N155_87 s a1) := by
  refine q_S_of (P := (q_iN)) ?_
  unfold dz_N155_87
  have j2490 : q_rgz (-2147483648) 2147483647 (((((s.2.1 23 0) - (s.2.1 23 0) / 16 * 16) - (a1 - a1 / 16 * 16)) - 1) + ((s.2.1 23 5) &&& 1)) := (q_rg_full _)
  refine q_S_L ?_
  generalize (((((s.2.1 23 0) - (s.2.1 23 0) / 16 * 16) - (a1 - a1 / 16 * 16)) - 1) + ((s.2.1 23 5) &&& 1)) = x1 at j2490 ⊢
  have j2491 := dzj_N156_87 (s) hI ((255 : Int32) - a1)
  refine q_S_L ?_
  generalize dz_N156_87 s ((255 : Int32) - a1) = r2 at j2491 ⊢
  cases h2492 : decide ((r2.2.1 23 5) &&& 8 = 0) with
  | true =>
    have g2493 := q_rg_eqT h2492 (q_rg_lit (n := 0) (x := 0) rfl)
    refine q_S_T ?_
    exact q_E_x j2491
  | false =>
    have g2494 := (q_rg_neL (l := 0) (u := 8) (n := 0) (L := 1) h2492 (q_rg_and (r2.2.1 23 5) 8 (U := 8) (by decide) rfl) rfl (by decide) (by decide))
    refine q_S_F ?_
    cases h2495 : decide (x1 < 0) with
    | true =>
      have g2496 := (q_rg_ltT1 (l := -2147483648) (U := -1) h2495 j2490 (q_rg_lit (n := 0) (x := 0) rfl) (by decide))
      refine q_S_T ?_
      exact q_E_x (dzj_N155_87_68 (r2) j2491 (x1 + 10) ((((s.2.1 23 0) / 16) - (a1 / 16)) + (-1)) (q_rg_le (L := -2147483638) (U := 2147483647) (q_rg_add (L := -2147483638) (U := 9) g2496 (q_rg_lit (n := 10) (x := 10) rfl) (by decide) (by decide) (by decide) (by decide)) (by decide) (by decide)))
    | false =>
      have g2497 := (q_rg_ltF1 (l2 := 0) (u := 2147483647) h2495 j2490 (q_rg_lit (n := 0) (x := 0) rfl))
      refine q_S_F ?_
      exact q_E_x (dzj_N155_87_68 (r2) j2491 (x1) (((s.2.1 23 0) / 16) - (a1 / 16)) (q_rg_le (L := -2147483638) (U := 2147483647) g2497 (by decide) (by decide)))
end
