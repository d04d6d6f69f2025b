section
variable {x y z m m2 : q_S} {c d w k : Int}
/-- the line is written anew -/
theorem q_LXlin {n : Nat} {r : q_S} (h : q_LX k m x) (g : q_WL c d (q_mok m) n r z) (hn : n ≤ 16) (f : Nat → Int64) : q_LX (k + 1) z (q_sL (q_pt 2 0 71 0 x r) 172 f) := by
  obtain ⟨h1, h2, h3, h4, h5, h6, ⟨r1, r2, r3, r4, r5⟩, h8⟩ := h
  obtain ⟨g1, g2, g3, g4, g5⟩ := g
  have e17 : z.2.1 0 17 = m.2.1 0 17 := g1.2.1 0 17 rfl
  have e34 : z.2.1 0 34 = m.2.1 0 34 := g1.2.1 0 34 rfl
  have e31 : z.2.2 = m.2.2 := g1.2.2
  have hs := q_RO_of (q_R_15 (q_RO_s (q_ROk h1)) (q_eqL_15 g1))
  have s0 : (0 : Int) < (m.2.1 0 17).toInt → q_R q_TTs (q_vwS 0 x) (q_ms 0 (q_svW z) (m.2.2 31)) := fun q => q_R_15 (h3 q) (q_eqL_ms g1 0 _)
  have s1 : (1 : Int) < (m.2.1 0 17).toInt → q_R q_TTs (q_vwS 1 x) (q_ms 1 (q_svW z) (m.2.2 31)) := fun q => q_R_15 (h4 q) (q_eqL_ms g1 1 _)
  have s2 : (2 : Int) < (m.2.1 0 17).toInt → q_R q_TTs (q_vwS 2 x) (q_ms 2 (q_svW z) (m.2.2 31)) := fun q => q_R_15 (h5 q) (q_eqL_ms g1 2 _)
  unfold q_LX q_RK
  rw [e17, e31, e34]
  refine ⟨hs, h2, s0, s1, s2, h6, ⟨r1, r2, ?_, r4, r5⟩, ⟨?_, ?_⟩, g4, fun i hi => g5 i ?_⟩
  · show (x.2.1 34 5).toInt ≤ k + 1
    omega
  · show 0 ≤ (r.2.1 0 3).toInt
    omega
  · show (r.2.1 0 3).toInt ≤ 16
    omega
  · have hi' : i < (r.2.1 0 3).toInt.toNat := hi
    omega
theorem q_tWl (h : q_LX k m x) (hI : q_Iv c d w m) (a : Int32) : q_TN k (dz_X6_64_236 x a) (dz_M285_64 m a) Int32.toInt64 True := by
  have z0 : (0 : Int32).toInt = 0 := rfl
  have z4095 : (4095 : Int32).toInt = 4095 := rfl
  have z4096 : (4096 : Int32).toInt = 4096 := rfl
  by_cases l_a : a.toInt < 0
  · refine q_TNbad h 1 0 (by decide) ?_ ?_
    · unfold dz_X6_64_236
      rw [q_lt_T (show a.toInt < (0 : Int32).toInt by omega)]
      rfl
    · unfold dz_M285_64 dz_M203 q_let
      dsimp only
      rw [q_202F (v := a) (lo := 0) (hi := 4095) (Or.inl (by omega))]
      rfl
  by_cases u_a : 4095 < a.toInt
  · refine q_TNbad h 1 0 (by decide) ?_ ?_
    · unfold dz_X6_64_236
      rw [q_lt_F (show (0 : Int32).toInt ≤ a.toInt by omega), q_lt_F (show (4096 : Int32).toInt ≤ a.toInt by omega)]
      rfl
    · unfold dz_M285_64 dz_M203 q_let
      dsimp only
      rw [q_202F (v := a) (lo := 0) (hi := 4095) (Or.inr (by omega))]
      rfl
  obtain ⟨r, z2, n2, e1, e2, e3, e4⟩ := q_wlin (q_RO_s (q_ROk h.1)) (q_Ivk hI) h.2.2.2.2.2.2.2.1.1 a ⟨by omega, by omega⟩
  refine ⟨(q_sL (q_pt 2 0 71 0 x r) 172 (vp_updL ((q_pt 2 0 71 0 x r).2.2 172) 0 (r.2.1 0 3).toInt64), 0, 0), (z2, z2.2.1 0 35), ?_, ?_, q_LXlin h e3 e4 _, Nat.zero_le _, (e3.1.2.1 0 39 rfl).trans rfl, fun _ _ => ?_⟩
  · unfold dz_X6_64_236
    rw [q_lt_F (show (0 : Int32).toInt ≤ a.toInt by omega), q_lt_T (show a.toInt < (4096 : Int32).toInt by omega), q_lx_eq, e1]
    rfl
  · have e5 : dz_M285_64 m a = q_yml (q_mok m) a := by
      unfold dz_M285_64 q_yml
      rw [show dz_M203 m a = false by unfold dz_M203 q_let; rw [q_202T (v := a) (lo := 0) (hi := 4095) (by omega) (by omega)]; rfl]
      rfl
    rw [e5, e2]
  · show vp_updL ((q_pt 2 0 71 0 x r).2.2 172) 0 (r.2.1 0 3).toInt64 0 = (z2.2.1 0 35).toInt64
    rw [q_upL1 _ _ _ _ rfl, e3.2.2.2.1]
theorem q_tLat (h : q_LX k m x) (hI : q_Iv c d w m) (a : Int32) : q_TN k (dz_X7_64_236 x a) (dz_M286_64 m a) Int32.toInt64 True := by
  obtain ⟨p1, p2, p3⟩ := h.2.2.2.2.2.2.2
  have p10 := p1.1
  have p11 := p1.2
  have z0 : (0 : Int32).toInt = 0 := rfl
  have es : (m.2.1 0 35 - 1).toInt = (x.2.1 71 3).toInt - 1 := by
    rw [p2]
    exact q_subI ⟨by omega, by omega⟩ ⟨by decide, by decide⟩
  by_cases l : a.toInt < 0
  · refine q_TNbad h 1 32 (by decide) ?_ ?_
    · unfold dz_X7_64_236 q_let
      dsimp only
      rw [q_lt_T (show a.toInt < (0 : Int32).toInt by omega)]
      rfl
    · unfold dz_M286_64 q_let
      dsimp only
      rw [q_202F (v := a) (lo := 0) (hi := m.2.1 0 35 - 1) (Or.inl (by omega))]
      rfl
  by_cases u : (x.2.1 71 3).toInt ≤ a.toInt
  · refine q_TNbad h 1 32 (by decide) ?_ ?_
    · unfold dz_X7_64_236 q_let
      dsimp only
      rw [q_lt_F (show (0 : Int32).toInt ≤ a.toInt by omega), q_lt_F (show (dz_B328_64 (q_vw 2 71 0 x)).toInt ≤ a.toInt from u)]
      rfl
    · unfold dz_M286_64 q_let
      dsimp only
      rw [q_202F (v := a) (lo := 0) (hi := m.2.1 0 35 - 1) (Or.inr (by omega))]
      rfl
  have hi : a.toNatClampNeg < (x.2.1 71 3).toNatClampNeg := by
    show a.toInt.toNat < (x.2.1 71 3).toInt.toNat
    omega
  have e3 := p3 _ hi
  have rr : q_rgz 0 65535 (m.1 32 a.toNatClampNeg) := q_r32 hI _
  have rq : q_rgz 0 65535 (q_chr (x.1 72 a.toNatClampNeg)) := by rw [e3]; exact rr
  have ra : q_rgz 0 15 a := ⟨by omega, by omega⟩
  refine q_TNrd h (x.2.2 172) (q_chr (x.1 72 a.toNatClampNeg)).toInt64 (m.1 32 a.toNatClampNeg) (q_eq33_refl _) ?_ ?_ (fun _ => by rw [e3])
  · have e49 : dz_B348 (q_vw 2 71 0 x) a (x.2.1 71 3) = some () := by
      unfold dz_B348 dz_B370
      rw [q_lt_F (show (0 : Int32).toInt ≤ a.toInt by omega), q_lt_T (show a.toInt < (x.2.1 71 3).toInt by omega)]
      rfl
    have e27 : dz_B326_64 (q_vw 2 71 0 x) a = some (q_chr (x.1 72 a.toNatClampNeg)) := by
      show ((q_let (if (16 : Int32) < x.2.1 71 3 then 16 else x.2.1 71 3) fun x3 => (dz_B348 (q_vw 2 71 0 x) a x3).bind fun _ => cond (q_in a 16) (cond (decide (vp_nar .char (q_chr (x.1 72 a.toNatClampNeg)) = q_chr (x.1 72 a.toNatClampNeg))) (some (q_chr (x.1 72 a.toNatClampNeg))) none) none).bind fun r2 => cond (decide (vp_nar .char r2 = r2)) (some r2) none) = _
      rw [if_neg (show ¬ (16 : Int32) < x.2.1 71 3 from fun q => by
        have := Int32.lt_iff_toInt_lt.mp q
        have z16 : (16 : Int32).toInt = 16 := rfl
        omega)]
      unfold q_let
      dsimp only
      rw [e49, Option.bind_some, q_in_rg ra (by decide) (by decide), q_ch_rg rq]
      show cond (decide (vp_nar .char (q_chr (x.1 72 a.toNatClampNeg)) = q_chr (x.1 72 a.toNatClampNeg))) (some (q_chr (x.1 72 a.toNatClampNeg))) none = _
      rw [q_ch_rg rq]
      rfl
    unfold dz_X7_64_236
    rw [e27]
    show cond (decide (a < 0)) (some (x, 1, 1)) (cond (decide (a < x.2.1 71 3)) (cond (decide (vp_nar .char (q_chr (x.1 72 a.toNatClampNeg)) = q_chr (x.1 72 a.toNatClampNeg))) (some (q_sL x 172 (vp_updL (x.2.2 172) 0 (q_chr (x.1 72 a.toNatClampNeg)).toInt64), 0, 0)) none) (some (x, 1, 1))) = _
    rw [q_lt_F (show (0 : Int32).toInt ≤ a.toInt by omega), q_lt_T (show a.toInt < (x.2.1 71 3).toInt by omega), q_ch_rg rq]
    rfl
  · unfold dz_M286_64 q_let
    dsimp only
    rw [q_202T (v := a) (lo := 0) (hi := m.2.1 0 35 - 1) (by omega) (by omega), q_yM200]
    show cond (q_in a 40) (cond (decide (vp_nar .char (m.1 32 a.toNatClampNeg) = m.1 32 a.toNatClampNeg)) (some (q_mok m, m.1 32 a.toNatClampNeg)) none) none = _
    rw [q_in_rg (n := 40) ra (by decide) (by decide), q_ch_rg rr]
    rfl
end
