section
variable {x y z m m2 : q_S} {c d w k : Int}
/-- what differs is counted alike -/
theorem q_lpDf {s z : q_S} (u : Nat) (a : Int32) (hu : u < 3) (ha : a.toInt = u) (h1 : ∀ j, j < 4096 → s.1 3 j = z.1 1 j) (h2 : ∀ j, j < 4096 → s.1 35 j = z.1 16 (4096 * u + j)) : ∀ (n f g : Nat) (v2 v3 : Int32), v3.toInt + n = 4096 → 0 ≤ v3.toInt → n ≤ f → n ≤ g → ∃ r, dz_W111_66_98_4 (f + 1) s v2 v3 = some r ∧ dz_M306_64_4 (g + 1) z a v2 v3 = some r := by
  intro n
  induction n with
  | zero =>
    intro f g v2 v3 hn h0 hf hg
    refine ⟨v2, ?_, ?_⟩
    · rw [dzs_W111_66_98_4]
      dsimp only
      rw [q_lt_F (by show (4096 : Int) ≤ _; omega)]
      rfl
    · rw [dzs_M306_64_4]
      dsimp only
      rw [q_lt_F (by show (4096 : Int) ≤ _; omega)]
      rfl
  | succ n ih =>
    intro f g v2 v3 hn h0 hf hg
    obtain ⟨f, rfl⟩ : ∃ f', f = f' + 1 := ⟨f - 1, by omega⟩
    obtain ⟨g, rfl⟩ : ∃ g', g = g' + 1 := ⟨g - 1, by omega⟩
    have e2 : (v3 + 1).toInt = v3.toInt + 1 := q_addI ⟨by omega, by omega⟩ ⟨by decide, by decide⟩
    have em : (4096 * a).toInt = 4096 * (u : Int) := by
      rcases (by omega : u = 0 ∨ u = 1 ∨ u = 2) with rfl | rfl | rfl
      · rw [show a = 0 from Int32.toInt_inj.mp ha]; decide
      · rw [show a = 1 from Int32.toInt_inj.mp ha]; decide
      · rw [show a = 2 from Int32.toInt_inj.mp ha]; decide
    have ei : ((4096 * a) + v3).toInt = 4096 * (u : Int) + v3.toInt := by rw [q_addI ⟨by omega, by omega⟩ ⟨by omega, by omega⟩, em]
    have en : v3.toNatClampNeg < 4096 := by show v3.toInt.toNat < 4096; omega
    have ej : ((4096 * a) + v3).toNatClampNeg = 4096 * u + v3.toNatClampNeg := by
      show ((4096 * a) + v3).toInt.toNat = 4096 * u + v3.toInt.toNat
      omega
    obtain ⟨r, c1, c2⟩ := ih f g (cond (decide (z.1 1 v3.toNatClampNeg = z.1 16 (4096 * u + v3.toNatClampNeg))) v2 (v2 + 1)) (v3 + 1) (by omega) (by omega) (by omega) (by omega)
    have hin : q_in v3 4096 = true := q_in_rg (l := 0) (u := 4095) ⟨h0, by omega⟩ (by decide) (by decide)
    have hin2 : q_in ((4096 * a) + v3) 12288 = true := q_in_rg (l := 0) (u := 12287) ⟨by omega, by omega⟩ (by decide) (by decide)
    refine ⟨r, ?_, ?_⟩
    · rw [dzs_W111_66_98_4]
      generalize dz_W111_66_98_4 (f + 1) = kk at c1 ⊢
      dsimp only
      rw [q_lt_T (by show _ < (4096 : Int); omega), cond_true, hin, cond_true, h1 _ en, h2 _ en]
      cases q : decide (z.1 1 v3.toNatClampNeg = z.1 16 (4096 * u + v3.toNatClampNeg)) with
      | true => rw [q] at c1; exact c1
      | false => rw [q] at c1; exact c1
    · rw [dzs_M306_64_4]
      generalize dz_M306_64_4 (g + 1) = kk at c2 ⊢
      dsimp only
      rw [q_lt_T (by show _ < (4096 : Int); omega), cond_true, hin, cond_true, hin2, cond_true, ej]
      cases q : decide (z.1 1 v3.toNatClampNeg = z.1 16 (4096 * u + v3.toNatClampNeg)) with
      | true => rw [q] at c2; rw [cond_true, Int32.add_zero]; exact c2
      | false => rw [q] at c2; exact c2
theorem q_dfeq {s z : q_S} (u : Nat) (a : Int32) (hu : u < 3) (ha : a.toInt = u) (h1 : ∀ j, j < 4096 → s.1 3 j = z.1 1 j) (h2 : ∀ j, j < 4096 → s.1 35 j = z.1 16 (4096 * u + j)) {v r : Int32} (e1 : dz_W111_66_98 s = some v) (e2 : dz_M306_64 z a = some r) : v = r := by
  obtain ⟨r9, c1, c2⟩ := q_lpDf u a hu ha h1 h2 4096 4999 4999 0 0 (by decide) (by decide) (by decide) (by decide)
  have c1' : dz_W111_66_98 s = some r9 := c1
  have c2' : dz_M306_64 z a = some r9 := c2
  rw [e1] at c1'
  rw [e2] at c2'
  exact (Option.some.inj c1').trans (Option.some.inj c2').symm
def q_y0 (x r : q_S) (v : Int64) : q_S := q_sL (q_sI (q_pt 32 32 1 76 x r) 34 7 0) 172 (vp_updL ((q_pt 32 32 1 76 x r).2.2 172) 0 v)
theorem q_tRst0 (h : q_LX k m x) (hI : q_Iv c d w m) (hs : (0 : Int) < (m.2.1 0 17).toInt) : q_TN k (dz_X23_64_236 x 0) (dz_M307_64 m 0) Int32.toInt64 True := by
  obtain ⟨h1, h2, h3, h4, h5, h6, ⟨r1, r2, r3, r4, r5⟩, h8⟩ := h
  have hu := h3 hs
  have g3 : (m.2.1 0 17).toInt ≤ 3 := (hI.2.1 0 17).2
  obtain ⟨i6, i7⟩ := q_iNof h1 (hI.1 15 6) (hI.1 15 7)
  obtain ⟨s6, s7⟩ := q_iNof hu (hI.1 30 (8 * 0 + 6)) (hI.1 30 (8 * 0 + 7))
  obtain ⟨r, a1, a2, a3, a4, a5⟩ := q_bcm (q_vw 32 1 76 x) s6 s7
  obtain ⟨v, w1, -⟩ := dzj_W111_66_98 (q_vw 32 1 76 x) ⟨⟨i6, i7⟩, s6, s7⟩
  obtain ⟨rv, e1, e7⟩ := q_308e hI (t := 0) (a := 0) (by decide) rfl hs
  have ev : v = rv := q_dfeq (s := q_vw 32 1 76 x) (z := q_mok m) 0 0 (by decide) rfl (fun j hj => h1.r1.1 j hj) (fun j hj => hu.r1.1 j hj) w1 e7
  have tu := q_R_t hu
  have am := q_agRs hI 0 (by decide)
  have A := a2
  obtain ⟨-, -, -, -, -, -, -, -, -, -, -, -, -, -, -, -, -, -, -, -, -, -, -, -, -, -, -, -, -, -, -, e11, -, -⟩ := A
  have M1 : q_RO (q_rsd 0 (q_mok m)) (q_vwM (q_y0 x r v.toInt64)) (q_rsd 0 (q_mok m)) := by
    refine q_R_ag hu (x := q_vwS 0 x) (y := q_vwM (q_y0 x r v.toInt64)) a2 am (by show (m.1 29 (24 * 0 + 13)).toInt ≤ 40; exact (hI.1 29 (24 * 0 + 13)).2) (by show 0 ≤ (m.1 29 (24 * 0 + 14)).toInt; exact (hI.1 29 (24 * 0 + 14)).1) ?_
    exact ⟨fun j hj => Eq.trans (a2.2.2.2.2.2.2.2.2.1 j hj) (Eq.trans (tu.1 j hj) (am.2.2.2.2.2.2.2.2.1 j hj).symm), e11.trans (tu.2.1.trans (am.2.2.2.2.2.2.2.2.2.2.2.2.2.1 20 (by decide)).symm), by
      have e16 := am.2.2.2.2.2.2.2.2.2.2.2.2.2.2.2.2
      have e4 : (q_vwM (q_y0 x r v.toInt64)).2.2 0 4 = (q_vwS 0 x).2.2 0 4 := a4
      rw [Int64.add_zero]
      exact (e4.trans tu.2.2).trans e16.symm, rfl, rfl, rfl⟩
  have s1 : q_R q_TTs (q_src r) (q_ms 0 (q_svW m) (m.2.2 31)) := by rw [a3]; exact hu
  refine ⟨(q_y0 x r v.toInt64, 0, 0), (q_rsd 0 (q_mok m), rv), ?_, e1, ⟨M1, h2, fun _ => s1, h4, h5, h6, ⟨Or.inl ⟨rfl, rfl⟩, r2, by show (x.2.1 34 5).toInt ≤ k + 1; omega, r4, r5⟩, h8⟩, Nat.zero_le _, rfl, fun _ _ => by
    show vp_updL ((q_pt 32 32 1 76 x r).2.2 172) 0 v.toInt64 0 = rv.toInt64
    rw [q_upL1 _ _ _ _ rfl, ev]⟩
  have z0 : (0 : Int32).toInt = 0 := rfl
  unfold dz_X23_64_236
  rw [h2, q_lt_F (show (0 : Int32).toInt ≤ (0 : Int32).toInt by decide), q_lt_T (show (0 : Int32).toInt < (m.2.1 0 17).toInt by omega)]
  show ((dz_W111_66_98 (q_vw 32 1 76 x)).bind fun r1 => (dz_W77_64_96 (q_vw 32 1 76 x)).bind fun r2 => some ((q_sL (q_sI (q_pt 32 32 1 76 x r2) 34 7 0) 172 (vp_updL ((q_pt 32 32 1 76 x r2).2.2 172) 0 r1.toInt64)), 0, 0)) = _
  rw [w1, a1]
  rfl
def q_y1 (x r : q_S) (v : Int64) : q_S := q_sL (q_sI (q_pt 32 32 1 108 x r) 34 7 0) 172 (vp_updL ((q_pt 32 32 1 108 x r).2.2 172) 0 v)
theorem q_tRst1 (h : q_LX k m x) (hI : q_Iv c d w m) (hs : (1 : Int) < (m.2.1 0 17).toInt) : q_TN k (dz_X23_64_236 x 1) (dz_M307_64 m 1) Int32.toInt64 True := by
  obtain ⟨h1, h2, h3, h4, h5, h6, ⟨r1, r2, r3, r4, r5⟩, h8⟩ := h
  have hu := h4 hs
  have g3 : (m.2.1 0 17).toInt ≤ 3 := (hI.2.1 0 17).2
  obtain ⟨i6, i7⟩ := q_iNof h1 (hI.1 15 6) (hI.1 15 7)
  obtain ⟨s6, s7⟩ := q_iNof hu (hI.1 30 (8 * 1 + 6)) (hI.1 30 (8 * 1 + 7))
  obtain ⟨r, a1, a2, a3, a4, a5⟩ := q_bcm (q_vw 32 1 108 x) s6 s7
  obtain ⟨v, w1, -⟩ := dzj_W111_66_98 (q_vw 32 1 108 x) ⟨⟨i6, i7⟩, s6, s7⟩
  obtain ⟨rv, e1, e7⟩ := q_308e hI (t := 1) (a := 1) (by decide) rfl hs
  have ev : v = rv := q_dfeq (s := q_vw 32 1 108 x) (z := q_mok m) 1 1 (by decide) rfl (fun j hj => h1.r1.1 j hj) (fun j hj => hu.r1.1 j hj) w1 e7
  have tu := q_R_t hu
  have am := q_agRs hI 1 (by decide)
  have A := a2
  obtain ⟨-, -, -, -, -, -, -, -, -, -, -, -, -, -, -, -, -, -, -, -, -, -, -, -, -, -, -, -, -, -, -, e11, -, -⟩ := A
  have M1 : q_RO (q_rsd 1 (q_mok m)) (q_vwM (q_y1 x r v.toInt64)) (q_rsd 1 (q_mok m)) := by
    refine q_R_ag hu (x := q_vwS 1 x) (y := q_vwM (q_y1 x r v.toInt64)) a2 am (by show (m.1 29 (24 * 1 + 13)).toInt ≤ 40; exact (hI.1 29 (24 * 1 + 13)).2) (by show 0 ≤ (m.1 29 (24 * 1 + 14)).toInt; exact (hI.1 29 (24 * 1 + 14)).1) ?_
    exact ⟨fun j hj => Eq.trans (a2.2.2.2.2.2.2.2.2.1 j hj) (Eq.trans (tu.1 j hj) (am.2.2.2.2.2.2.2.2.1 j hj).symm), e11.trans (tu.2.1.trans (am.2.2.2.2.2.2.2.2.2.2.2.2.2.1 20 (by decide)).symm), by
      have e16 := am.2.2.2.2.2.2.2.2.2.2.2.2.2.2.2.2
      have e4 : (q_vwM (q_y1 x r v.toInt64)).2.2 0 4 = (q_vwS 1 x).2.2 0 4 := a4
      rw [Int64.add_zero]
      exact (e4.trans tu.2.2).trans e16.symm, rfl, rfl, rfl⟩
  have s1 : q_R q_TTs (q_src r) (q_ms 1 (q_svW m) (m.2.2 31)) := by rw [a3]; exact hu
  refine ⟨(q_y1 x r v.toInt64, 0, 0), (q_rsd 1 (q_mok m), rv), ?_, e1, ⟨M1, h2, h3, fun _ => s1, h5, h6, ⟨Or.inl ⟨rfl, rfl⟩, r2, by show (x.2.1 34 5).toInt ≤ k + 1; omega, r4, r5⟩, h8⟩, Nat.zero_le _, rfl, fun _ _ => by
    show vp_updL ((q_pt 32 32 1 108 x r).2.2 172) 0 v.toInt64 0 = rv.toInt64
    rw [q_upL1 _ _ _ _ rfl, ev]⟩
  have z0 : (1 : Int32).toInt = 1 := rfl
  unfold dz_X23_64_236
  rw [h2, q_lt_F (show (0 : Int32).toInt ≤ (1 : Int32).toInt by decide), q_lt_T (show (1 : Int32).toInt < (m.2.1 0 17).toInt by omega)]
  show ((dz_W111_66_98 (q_vw 32 1 108 x)).bind fun r1 => (dz_W77_64_96 (q_vw 32 1 108 x)).bind fun r2 => some ((q_sL (q_sI (q_pt 32 32 1 108 x r2) 34 7 0) 172 (vp_updL ((q_pt 32 32 1 108 x r2).2.2 172) 0 r1.toInt64)), 0, 0)) = _
  rw [w1, a1]
  rfl
def q_y2 (x r : q_S) (v : Int64) : q_S := q_sL (q_sI (q_pt 32 32 1 140 x r) 34 7 0) 172 (vp_updL ((q_pt 32 32 1 140 x r).2.2 172) 0 v)
theorem q_tRst2 (h : q_LX k m x) (hI : q_Iv c d w m) (hs : (2 : Int) < (m.2.1 0 17).toInt) : q_TN k (dz_X23_64_236 x 2) (dz_M307_64 m 2) Int32.toInt64 True := by
  obtain ⟨h1, h2, h3, h4, h5, h6, ⟨r1, r2, r3, r4, r5⟩, h8⟩ := h
  have hu := h5 hs
  have g3 : (m.2.1 0 17).toInt ≤ 3 := (hI.2.1 0 17).2
  obtain ⟨i6, i7⟩ := q_iNof h1 (hI.1 15 6) (hI.1 15 7)
  obtain ⟨s6, s7⟩ := q_iNof hu (hI.1 30 (8 * 2 + 6)) (hI.1 30 (8 * 2 + 7))
  obtain ⟨r, a1, a2, a3, a4, a5⟩ := q_bcm (q_vw 32 1 140 x) s6 s7
  obtain ⟨v, w1, -⟩ := dzj_W111_66_98 (q_vw 32 1 140 x) ⟨⟨i6, i7⟩, s6, s7⟩
  obtain ⟨rv, e1, e7⟩ := q_308e hI (t := 2) (a := 2) (by decide) rfl hs
  have ev : v = rv := q_dfeq (s := q_vw 32 1 140 x) (z := q_mok m) 2 2 (by decide) rfl (fun j hj => h1.r1.1 j hj) (fun j hj => hu.r1.1 j hj) w1 e7
  have tu := q_R_t hu
  have am := q_agRs hI 2 (by decide)
  have A := a2
  obtain ⟨-, -, -, -, -, -, -, -, -, -, -, -, -, -, -, -, -, -, -, -, -, -, -, -, -, -, -, -, -, -, -, e11, -, -⟩ := A
  have M1 : q_RO (q_rsd 2 (q_mok m)) (q_vwM (q_y2 x r v.toInt64)) (q_rsd 2 (q_mok m)) := by
    refine q_R_ag hu (x := q_vwS 2 x) (y := q_vwM (q_y2 x r v.toInt64)) a2 am (by show (m.1 29 (24 * 2 + 13)).toInt ≤ 40; exact (hI.1 29 (24 * 2 + 13)).2) (by show 0 ≤ (m.1 29 (24 * 2 + 14)).toInt; exact (hI.1 29 (24 * 2 + 14)).1) ?_
    exact ⟨fun j hj => Eq.trans (a2.2.2.2.2.2.2.2.2.1 j hj) (Eq.trans (tu.1 j hj) (am.2.2.2.2.2.2.2.2.1 j hj).symm), e11.trans (tu.2.1.trans (am.2.2.2.2.2.2.2.2.2.2.2.2.2.1 20 (by decide)).symm), by
      have e16 := am.2.2.2.2.2.2.2.2.2.2.2.2.2.2.2.2
      have e4 : (q_vwM (q_y2 x r v.toInt64)).2.2 0 4 = (q_vwS 2 x).2.2 0 4 := a4
      rw [Int64.add_zero]
      exact (e4.trans tu.2.2).trans e16.symm, rfl, rfl, rfl⟩
  have s1 : q_R q_TTs (q_src r) (q_ms 2 (q_svW m) (m.2.2 31)) := by rw [a3]; exact hu
  refine ⟨(q_y2 x r v.toInt64, 0, 0), (q_rsd 2 (q_mok m), rv), ?_, e1, ⟨M1, h2, h3, h4, fun _ => s1, h6, ⟨Or.inl ⟨rfl, rfl⟩, r2, by show (x.2.1 34 5).toInt ≤ k + 1; omega, r4, r5⟩, h8⟩, Nat.zero_le _, rfl, fun _ _ => by
    show vp_updL ((q_pt 32 32 1 140 x r).2.2 172) 0 v.toInt64 0 = rv.toInt64
    rw [q_upL1 _ _ _ _ rfl, ev]⟩
  have z0 : (2 : Int32).toInt = 2 := rfl
  unfold dz_X23_64_236
  rw [h2, q_lt_F (show (0 : Int32).toInt ≤ (2 : Int32).toInt by decide), q_lt_T (show (2 : Int32).toInt < (m.2.1 0 17).toInt by omega)]
  show ((dz_W111_66_98 (q_vw 32 1 140 x)).bind fun r1 => (dz_W77_64_96 (q_vw 32 1 140 x)).bind fun r2 => some ((q_sL (q_sI (q_pt 32 32 1 140 x r2) 34 7 0) 172 (vp_updL ((q_pt 32 32 1 140 x r2).2.2 172) 0 r1.toInt64)), 0, 0)) = _
  rw [w1, a1]
  rfl
theorem q_tRst (h : q_LX k m x) (hI : q_Iv c d w m) (a : Int32) : q_TN k (dz_X23_64_236 x a) (dz_M307_64 m a) Int32.toInt64 True := by
  have g : q_rgz 0 3 (m.2.1 0 17) := hI.2.1 0 17
  have g0 := g.1
  have g1 := g.2
  have z0 : (0 : Int32).toInt = 0 := rfl
  have es : ((m.2.1 0 17) - 1).toInt = (m.2.1 0 17).toInt - 1 := q_subI ⟨by omega, by omega⟩ ⟨by decide, by decide⟩
  by_cases l : a.toInt < 0
  · refine q_TNbad h 1 0 (by decide) ?_ ?_
    · unfold dz_X23_64_236
      rw [q_lt_T (by omega)]
      rfl
    · unfold dz_M307_64 q_let
      dsimp only
      rw [q_202F (v := a) (lo := 0) (hi := (m.2.1 0 17) - 1) (Or.inl (by omega))]
      rfl
  by_cases u : (m.2.1 0 17).toInt ≤ a.toInt
  · refine q_TNbad h 1 0 (by decide) ?_ ?_
    · unfold dz_X23_64_236
      rw [q_lt_F (show (0 : Int32).toInt ≤ a.toInt by omega), h.2.1, q_lt_F u]
      rfl
    · unfold dz_M307_64 q_let
      dsimp only
      rw [q_202F (v := a) (lo := 0) (hi := (m.2.1 0 17) - 1) (Or.inr (by omega))]
      rfl
  rcases (by omega : a.toInt = 0 ∨ a.toInt = 1 ∨ a.toInt = 2) with e | e | e
  · rw [show a = 0 from Int32.toInt_inj.mp e]; exact q_tRst0 h hI (by omega)
  · rw [show a = 1 from Int32.toInt_inj.mp e]; exact q_tRst1 h hI (by omega)
  · rw [show a = 2 from Int32.toInt_inj.mp e]; exact q_tRst2 h hI (by omega)
/-- startRecord -/
theorem q_tSrc (h : q_LX k m x) (hI : q_Iv c d w m) (hk : 0 ≤ k) : ∃ r0 r1, dz_X63_64 x = some r0 ∧ dz_M309_64 m = r1 ∧ q_LX (k + 1) r1.1 r0.1 ∧ r1.1.2.1 0 39 = 0 ∧ r0.2 = r1.2 := by
  obtain ⟨h1, h2, h3, h4, h5, h6, ⟨r1, r2, r3, r4, r5⟩, h8⟩ := h
  obtain ⟨i6, i7⟩ := q_iNof h1 (hI.1 15 6) (hI.1 15 7)
  obtain ⟨r, a1, a2, a3, a4, a5⟩ := q_bcm (q_vw 32 35 1 x) i6 i7
  have e183 : dz_X183_98_65 x = some (q_sI (q_sI (q_sI (q_pt 32 32 35 1 x r) 34 5 0) 34 6 0) 34 7 1) := by
    unfold dz_X183_98_65
    rw [a1]; rfl
  have s1 : q_RO m (q_src r) m := by rw [a3]; exact h1
  have M1 := q_RO_I (q_RO_I s1 34 0 rfl) 39 0 rfl
  have A := a2
  obtain ⟨-, -, -, -, -, -, -, -, -, -, -, -, -, -, -, -, -, -, -, -, -, -, -, -, -, -, e6, e7, -, -, -, -, -, -⟩ := A
  have LX : q_LX (k + 1) (q_sI (q_sI m 0 34 0) 0 39 0) (q_sI (q_sI (q_sI (q_pt 32 32 35 1 x r) 34 5 0) 34 6 0) 34 7 1) := by
    refine ⟨M1, h2, h3, h4, h5, ⟨?_, ?_⟩, ⟨Or.inr ⟨rfl, rfl⟩, by show (0 : Int) ≤ (0 : Int32).toInt; decide, by show (0 : Int32).toInt ≤ k + 1; show (0 : Int) ≤ k + 1; omega, by show (0 : Int) ≤ (0 : Int32).toInt; decide, by show (0 : Int32).toInt ≤ (0 : Int32).toInt; decide⟩, h8⟩
    · show q_rgz 0 1 (r.2.1 23 6)
      rw [e6]; exact i6
    · show q_rgz 0 1 (r.2.1 23 7)
      rw [e7]; exact i7
  rcases r1 with ⟨q1, q2⟩ | ⟨q1, q2⟩
  · refine ⟨(_, 0), (_, 0), ?_, ?_, LX, rfl, rfl⟩
    · unfold dz_X63_64
      rw [q1, e183]; rfl
    · unfold dz_M309_64
      rw [q2]; rfl
  · refine ⟨(_, x.2.1 34 5), (_, x.2.1 34 5), ?_, ?_, LX, rfl, rfl⟩
    · unfold dz_X63_64
      rw [q1, e183]; rfl
    · unfold dz_M309_64
      rw [q2]
      by_cases q : 0 < (x.2.1 34 5).toInt
      · rw [if_pos (show (0 : Int32) < x.2.1 34 5 from Int32.lt_iff_toInt_lt.mpr q)]; rfl
      · have e0 : x.2.1 34 5 = 0 := Int32.toInt_inj.mp (by show (x.2.1 34 5).toInt = 0; omega)
        rw [e0]; rfl
end
