section
section
theorem q_L7 (A B : Option q_S) (D : Int32 → Option q_S) (a b c : Bool) (h1 : D 1 = A) (h0 : D 0 = B) : cond a (cond b A B) (cond c A B) = D (q_b (cond a b c)) := by
  subst h1
  subst h0
  cases a <;> cases b <;> cases c <;> rfl
theorem q_eM (L : Nat → q_S → Int32 → Int32 → Int32 → Int32 → Int32 → Int32 → Int32 → Option q_S) (hL : L = dz_M227_64_51) (m : q_S) (X r val : Int32) (sb : Bool) (ev : dz_M225_64 m X r = some val) (hs2 : cond (decide (m.1 4 1 = 2)) (decide (1 < val)) (decide (val = 1)) = sb) : dz_M227_64 m X r = L 5000 m X r val (q_b sb) 0 (-1) 3 := by
  unfold dz_M227_64
  rw [ev, Option.bind_some, ← hs2, ← hL]
  exact q_L7 _ _ (fun s => L 5000 m X r val s 0 (-1) 3) _ _ _ rfl rfl
theorem q_nst (x : q_S) (X r val B px : Int32) (k : Nat) (v4 : Int32) (h4 : decide (v4 + 1 < X) = false) (ev2 : dz_N119_66 x X r = val) (n1 : dz_N122_66 x X r = some B) (n123 : dz_N123_66 (dz_N124_66 x val B) val B = some px) (pm : ((32 * r) + X) &&& 1023 = (32 * r) + X) : dz_N103_65_95_47 (k + 1) x r v4 X = dz_N103_65_95_47 k (q_sA (dz_N124_66 x val B) 31 (upd ((dz_N124_66 x val B).1 31) (((32 * r) + X).toNatClampNeg) px)) r v4 (X + 1) := by
  rw [dzs_N103_65_95_47]
  generalize dz_N103_65_95_47 k = K
  dsimp only
  rw [h4, cond_false]
  unfold q_let
  dsimp only
  rw [ev2, n1, Option.bind_some, n123, Option.bind_some, pm]
end
section
variable {TT : (Nat → Int32) → Int32 → (Nat → Int32) → Int32 → Int64 → Int64 → List Int32 → List (Nat → Int32) → (Nat → Int64) → Prop} {x y z m : q_S} {c d w : Int}
/-- a pixel -/
theorem q_dr1 (h : q_R TT x m) (hI : q_Iv c d w m) {X r : Int32} (hX : q_rgz 0 31 X) (hr : q_rgz 0 31 r) : ∃ y m2, (∀ k v4, decide (v4 + 1 < X) = false → dz_N103_65_95_47 (k + 1) x r v4 X = dz_N103_65_95_47 k y r v4 (X + 1)) ∧ dz_M227_64 m X r = some m2 ∧ q_R TT y m2 ∧ q_Iv c d w m2 ∧ q_XCz x y ∧ q_MC m m2 := by
  obtain ⟨m3, e3, i3⟩ := dzj_M227_64 c d w m hI X r hX hr
  suffices H : ∃ y m2, (∀ k v4, decide (v4 + 1 < X) = false → dz_N103_65_95_47 (k + 1) x r v4 X = dz_N103_65_95_47 k y r v4 (X + 1)) ∧ dz_M227_64 m X r = some m2 ∧ q_R TT y m2 ∧ q_XCz x y ∧ q_MC m m2 by
    obtain ⟨y, m2, g0, g2, g3, g4, g5⟩ := H
    rw [e3] at g2
    cases g2
    exact ⟨y, m3, g0, e3, g3, i3, g4, g5⟩
  have g1 : x.1 4 1 = m.1 4 1 := h.g 1
  have g19 : x.1 4 19 = m.1 4 19 := h.g 19
  have g28 : x.1 4 28 = m.1 4 28 := h.g 28
  obtain ⟨val, ev, rv⟩ := dzj_M225_64 c d w m hI X r hX hr
  have ev2 : dz_N119_66 x X r = val := by
    have t := q_val h hI X r
    rw [ev] at t
    exact (Option.some.inj t).symm
  obtain ⟨c0, c1, c2, c3, n1, m0, m1, m2, m3'⟩ := q_122 h X r
  obtain ⟨v1, v2⟩ := q_v3 rv
  have rv0 := rv.1
  have rv1 := rv.2
  have kv : ((3 : Int32) + val).toNatClampNeg = ((3 : Int32) + val).toInt.toNat := rfl
  have z3 : (3 : Int32).toInt = 3 := rfl
  have ek : ((3 : Int32) + val).toInt = 3 + val.toInt := by rw [q_addI ⟨by decide, by decide⟩ ⟨by omega, by omega⟩]; omega
  have gb : x.1 4 ((3 : Int32) + val).toNatClampNeg = m.1 4 ((3 : Int32) + val).toNatClampNeg := h.r2.1.1 _ (by omega) (by
    have t : ∀ j, j < 7 → q_pl j = true := by decide
    exact t _ (by omega))
  -- the place of the pixel
  have hX0 := hX.1
  have hX1 := hX.2
  have hr0 := hr.1
  have hr1 := hr.2
  have f1 : (32 * r).toInt = 32 * r.toInt := q_mulI (n := 32) rfl (by decide) (by decide) ⟨by omega, by omega⟩
  have f2 : ((32 * r) + X).toInt = 32 * r.toInt + X.toInt := by rw [q_addI ⟨by omega, by omega⟩ ⟨by omega, by omega⟩, f1]
  have i2 : q_in ((32 * r) + X) 1024 = true := q_in_rg (l := 0) (u := 1023) ⟨by omega, by omega⟩ (by decide) (by decide)
  have pm : ((32 * r) + X) &&& 1023 = (32 * r) + X := by
    apply Int32.toInt_inj.mp
    rw [q_andI 10 (by decide) (l := 0) (u := 1023) ⟨by omega, by omega⟩ (by decide) rfl]
    show ((32 * r) + X).toInt % 1024 = _
    omega
  generalize hsb : dz_N121_66 x val = sb
  have hs2 : cond (decide (m.1 4 1 = 2)) (decide (1 < val)) (decide (val = 1)) = sb := by rw [← hsb, q_solid m val, g1]
  have eM : dz_M227_64 m X r = dz_M227_64_51 5000 m X r val (q_b sb) 0 (-1) 3 := q_eM _ rfl m X r val sb ev hs2
  obtain ⟨-, -, -, -, -, tb⟩ := q_Btab c0 c1 c2 c3
  -- the colour
  generalize hB : q_B c0 c1 c2 c3 = B at *
  have hP : ∀ n : Int32, q_P x val n = cond (dz_M205 m (m.1 4 19) n && sb) (m.1 4 ((3 : Int32) + val).toNatClampNeg) ((((m.1 4) 28) + n) - (((m.1 4) 28) + n) / 16 * 16) := fun n => by
    unfold q_P
    rw [g19, g28, gb, hsb, q_hasE]
  have col : dz_M227_64 m X r = some (q_mk5 m ((32 * r) + X).toNatClampNeg (cond c0 (q_P x val 0) (cond c1 (q_P x val 1) (cond c2 (q_P x val 2) (cond c3 (q_P x val 3) (x.1 4 ((3 : Int32) + val).toNatClampNeg))))) B (!decide (B &&& (B - 1) = 0)) sb) := by
    rw [eM, q_228 m X r val (q_b sb) c0 c1 c2 c3 m0 m1 m2 m3', hB, gb]
    have one : ∀ n : Int32, decide (n < 0) = false → q_Fm m X r val (q_b sb) B n = some (q_mk5 m ((32 * r) + X).toNatClampNeg (q_P x val n) B (!decide (B &&& (B - 1) = 0)) sb) := fun n hn => by
      unfold q_Fm
      rw [hn, q_118c m X r val B n sb v2 i2, q_114c m X r val B n sb i2, hP]
      cases sb with
      | false => rw [Bool.and_false]; rfl
      | true => rw [Bool.and_true]; cases dz_M205 m (m.1 4 19) n <;> rfl
    have none_ : q_Fm m X r val (q_b sb) B (-1) = some (q_mk5 m ((32 * r) + X).toNatClampNeg (m.1 4 ((3 : Int32) + val).toNatClampNeg) B (!decide (B &&& (B - 1) = 0)) sb) := by
      unfold q_Fm
      rw [show decide ((-1 : Int32) < 0) = true from rfl, q_118c m X r val B (-1) sb v2 i2]
      rfl
    cases c0 with
    | true => exact one 0 rfl
    | false =>
      cases c1 with
      | true => exact one 1 rfl
      | false =>
        cases c2 with
        | true => exact one 2 rfl
        | false =>
          cases c3 with
          | true => exact one 3 rfl
          | false => exact none_
  -- the class' colour, read behind the hits
  have n123 := q_123 (dz_N124_66 x val B) rv c0 c1 c2 c3
  rw [hB] at n123
  have q4 := q_124 x val B _ tb
  rw [hsb] at q4
  have same : ∀ k, (Nat.beq k 29 || Nat.beq k 30) = false → (dz_N124_66 x val B).1 4 k = x.1 4 k := fun k hk => by
    have h29 : ¬ k = 29 := fun e => by subst e; cases hk
    have h30 : ¬ k = 30 := fun e => by subst e; cases hk
    rw [q4]
    cases sb <;> cases (!decide (B &&& (B - 1) = 0))
    · rfl
    · exact q_upN _ _ h29
    · exact q_upN _ _ h30
    · exact (q_upN _ _ h30).trans (q_upN _ _ h29)
  have s121 : dz_N121_66 (dz_N124_66 x val B) val = sb := by
    rw [q_solid m val, same 1 rfl, ← q_solid m val, hsb]
  have sP : ∀ n : Int32, q_P (dz_N124_66 x val B) val n = q_P x val n := fun n => by
    unfold q_P
    rw [same 19 rfl, same 28 rfl, s121, hsb, same _ (by
      have t : ∀ j, j < 7 → (Nat.beq j 29 || Nat.beq j 30) = false := by decide
      exact t _ (by omega))]
  rw [sP, sP, sP, sP, same _ (by
      have t : ∀ j, j < 7 → (Nat.beq j 29 || Nat.beq j 30) = false := by decide
      exact t _ (by omega))] at n123
  generalize (cond c0 (q_P x val 0) (cond c1 (q_P x val 1) (cond c2 (q_P x val 2) (cond c3 (q_P x val 3) (x.1 4 ((3 : Int32) + val).toNatClampNeg))))) = px at *
  have R9 := q_R_mk h ((32 * r) + X).toNatClampNeg px B (!decide (B &&& (B - 1) = 0)) sb
  rw [← q4] at R9
  have r31 : (dz_N124_66 x val B).1 31 = x.1 31 := by
    rw [q4]
    cases sb <;> cases (!decide (B &&& (B - 1) = 0)) <;> rfl
  have rest : (dz_N124_66 x val B).2 = x.2 := by
    rw [q4]
    cases sb <;> cases (!decide (B &&& (B - 1) = 0)) <;> rfl
  refine ⟨q_sA (dz_N124_66 x val B) 31 (upd (x.1 31) ((32 * r) + X).toNatClampNeg px), _, fun k v4 h4 => ?_, col, R9, ⟨fun k hk => ?_, fun k => ?_, ?_⟩, ?_⟩
  · rw [q_nst x X r val B px k v4 h4 ev2 n1 n123 pm, r31]
  · show (dz_N124_66 x val B).1 4 k = x.1 4 k
    exact same k (q_or2 hk).2
  · show (dz_N124_66 x val B).2.1 23 k = _
    rw [rest]
  · show (dz_N124_66 x val B).2.2 = _
    rw [rest]
  · unfold q_mk5
    cases sb <;> cases (!decide (B &&& (B - 1) = 0)) <;> exact ⟨rfl, rfl, rfl⟩
end
end
section
section
variable {TT : (Nat → Int32) → Int32 → (Nat → Int32) → Int32 → Int64 → Int64 → List Int32 → List (Nat → Int32) → (Nat → Int64) → Prop} {x y z m : q_S} {c d w : Int}
theorem q_NF.xc (h : q_NF x y) : q_XCz x y := ⟨fun k _ => by rw [h.1 4 rfl], fun k => by rw [h.2.1 23 rfl], h.2.2⟩
theorem q_tick (s : q_S) (b : Bool) : ∃ y, (cond b (some (q_sI s 13 3 ((s.2.1 13 3) + 1))) (some (q_sI s 18 3 ((s.2.1 18 3) + 1)))) = some y ∧ q_NF s y := by
  cases b with
  | true => exact ⟨_, rfl, q_NF_I 13 3 _ rfl⟩
  | false => exact ⟨_, rfl, q_NF_I 18 3 _ rfl⟩
/-- two pixels of a cycle -/
theorem q_drw {T : Type} (h : q_R TT x m) (hI : q_Iv c d w m) (K : q_S → Option T) : ∃ y m2, dz_N103_65_95 x = some y ∧ (q_let (dz_M221_64 m) fun r588 => q_let (dz_M201 m r588 0 31) fun r589 => cond r589 (q_let (dz_M201 m (((m.2.2 0 15) - (m.2.2 0 15) / 24 * 24).toInt32) 4 19) fun r590 => cond r590 ((dz_M227_64 m ((2 * (((m.2.2 0 15) - (m.2.2 0 15) / 24 * 24).toInt32)) - 8) r588).bind fun r591 => (dz_M227_64 r591 ((2 * (((m.2.2 0 15) - (m.2.2 0 15) / 24 * 24).toInt32)) - 7) r588).bind fun r592 => K r592) (K m)) (K m)) = K m2 ∧ q_R TT y m2 ∧ q_Iv c d w m2 ∧ q_XCz x y ∧ q_MC m m2 := by
  have er := q_row h hI
  have ec := q_colX h
  have rr := dzj_M221_64 c d w m hI
  have rr0 : -4 ≤ (dz_M221_64 m).toInt := rr.1
  have rr1 : (dz_M221_64 m).toInt ≤ 35 := rr.2
  have cc := q_rg_cyc (n := 24) hI (by decide) (b := 24) rfl
  have cc0 := cc.1
  have cc1 := cc.2
  have z0 : (0 : Int32).toInt = 0 := rfl
  have z1 : (1 : Int32).toInt = 1 := rfl
  have z2 : (2 : Int32).toInt = 2 := rfl
  have z4 : (4 : Int32).toInt = 4 := rfl
  have z7 : (7 : Int32).toInt = 7 := rfl
  have z8 : (8 : Int32).toInt = 8 := rfl
  have z19 : (19 : Int32).toInt = 19 := rfl
  have z31 : (31 : Int32).toInt = 31 := rfl
  have z32 : (32 : Int32).toInt = 32 := rfl
  obtain ⟨y0, t1, t2⟩ := q_tick x (decide (lg_cmp (((x.2.2 1 8) / 960) - ((x.2.2 1 8) / 960) / 2 * 2) 0 = 0))
  unfold dz_N103_65_95 q_let
  dsimp only
  rw [er, ec, t1]
  generalize dz_M221_64 m = r at *
  generalize ((m.2.2 0 15) - (m.2.2 0 15) / 24 * 24).toInt32 = cl at *
  by_cases k0 : r.toInt < 0
  · rw [q_lt_T (show r.toInt < (0 : Int32).toInt by omega), q_202F (Or.inl (by omega))]
    exact ⟨y0, m, rfl, rfl, q_R_NF h t2, hI, t2.xc, q_MC_refl m⟩
  rw [q_lt_F (show (0 : Int32).toInt ≤ r.toInt by omega)]
  by_cases k32 : 32 ≤ r.toInt
  · rw [q_lt_F (show (32 : Int32).toInt ≤ r.toInt by omega), q_202F (Or.inr (by omega))]
    exact ⟨y0, m, rfl, rfl, q_R_NF h t2, hI, t2.xc, q_MC_refl m⟩
  rw [q_lt_T (show r.toInt < (32 : Int32).toInt by omega), q_202T (v := r) (by omega) (by omega)]
  by_cases k4 : cl.toInt < 4
  · rw [q_lt_T (show cl.toInt < (4 : Int32).toInt by omega), q_202F (Or.inl (by omega))]
    exact ⟨y0, m, rfl, rfl, q_R_NF h t2, hI, t2.xc, q_MC_refl m⟩
  rw [q_lt_F (show (4 : Int32).toInt ≤ cl.toInt by omega)]
  by_cases k19 : 19 < cl.toInt
  · rw [q_lt_T (show (19 : Int32).toInt < cl.toInt by omega), q_202F (Or.inr (by omega))]
    exact ⟨y0, m, rfl, rfl, q_R_NF h t2, hI, t2.xc, q_MC_refl m⟩
  rw [q_lt_F (show cl.toInt ≤ (19 : Int32).toInt by omega), q_202T (v := cl) (by omega) (by omega)]
  have e1 : (cl - 4).toInt = cl.toInt - 4 := q_subI ⟨by omega, by omega⟩ ⟨by decide, by decide⟩
  have e2 : (2 * (cl - 4)).toInt = 2 * (cl.toInt - 4) := by rw [q_mulI (n := 2) rfl (by decide) (by decide) ⟨by omega, by omega⟩, e1]
  have e3 : (2 * cl).toInt = 2 * cl.toInt := q_mulI (n := 2) rfl (by decide) (by decide) ⟨by omega, by omega⟩
  have e4 : (2 * cl) - 8 = 2 * (cl - 4) := Int32.toInt_inj.mp (by rw [q_subI ⟨by omega, by omega⟩ ⟨by decide, by decide⟩]; omega)
  have e5' : (2 * (cl - 4) + 1).toInt = (2 * (cl - 4)).toInt + 1 := by rw [q_addI ⟨by omega, by omega⟩ ⟨by decide, by decide⟩]; rfl
  have e5 : (2 * cl) - 7 = 2 * (cl - 4) + 1 := Int32.toInt_inj.mp (by rw [q_subI ⟨by omega, by omega⟩ ⟨by decide, by decide⟩]; omega)
  have e6 : (2 * (cl - 4) + 1 + 1).toInt = (2 * (cl - 4)).toInt + 2 := by rw [q_addI ⟨by omega, by omega⟩ ⟨by decide, by decide⟩]; omega
  rw [e4, e5]
  generalize 2 * (cl - 4) = f at *
  obtain ⟨y1, m1, a1, a2, a3, a4, a5, a6⟩ := q_dr1 h hI (X := f) (r := r) ⟨by omega, by omega⟩ ⟨by omega, by omega⟩
  obtain ⟨y2, m2, b1, b2, b3, b4, b5, b6⟩ := q_dr1 a3 a4 (X := f + 1) (r := r) ⟨by omega, by omega⟩ ⟨by omega, by omega⟩
  obtain ⟨y3, u1, u2⟩ := q_tick y2 (decide (lg_cmp (((y2.2.2 1 8) / 960) - ((y2.2.2 1 8) / 960) / 2 * 2) 0 = 0))
  have fin : ∀ n, dz_N103_65_95_47 (n + 1) y2 r f (f + 1 + 1) = some y3 := fun n => by
    rw [dzs_N103_65_95_47]
    generalize dz_N103_65_95_47 n = K9
    dsimp only
    rw [q_lt_T (show (f + 1).toInt < (f + 1 + 1).toInt by omega), cond_true]
    exact u1
  refine ⟨y3, m2, ?_, ?_, q_R_NF b3 u2, b4, (a5.trans b5).trans u2.xc, a6.trans b6⟩
  · rw [cond_false, cond_true, cond_false, cond_false, show (5000 : Nat) = 4997 + 1 + 1 + 1 from rfl, a1 _ f (q_lt_F (by omega)), b1 _ f (q_lt_F (by omega)), fin]
  · rw [cond_true, cond_true, a2, Option.bind_some, b2, Option.bind_some]
/-- a cycle but for the processor -/
theorem q_pass (h : q_R TT x m) (hI : q_Iv c d w m) : ∃ y m2 b, dz_N83_64 x = some (y, b) ∧ dz_M234_64 m = dz_M234_64_109 m2 (q_b b) ∧ q_R TT y m2 ∧ q_Iv c d w m2 ∧ q_XCz x y ∧ q_MC m m2 := by
  obtain ⟨m1, a1, a2, a3, a4, a5⟩ := q_meet h hI
  obtain ⟨b, b1, b2⟩ := q_pic a2 a3
  have tM : dz_M234_64 m = dz_M234_64_39 m1 (((m.2.2 0 15) - (m.2.2 0 15) / 24 * 24).toInt32) := a1 (fun s => dz_M234_64_39 s (((m.2.2 0 15) - (m.2.2 0 15) / 24 * 24).toInt32))
  have tl : m.2.2 = m1.2.2 := a5.2.2.symm
  rw [tM, tl]
  obtain ⟨y2, m2, c1, c2, c3, c4, c5, c6⟩ := q_drw a2 a3 (fun s => dz_M234_64_91 s (((m1.2.2 0 15) - (m1.2.2 0 15) / 24 * 24).toInt32) (q_b b))
  obtain ⟨y3, m3, d1, d2, d3, d4, d5, d6⟩ := q_tim c3 c4
  obtain ⟨m4, e1, e2, e3, e4, e5⟩ := q_tape d3 d4
  obtain ⟨y5, m5, f1, f2, f3, f4, f5, f6⟩ := q_snd e2 e3
  have mc : q_MC m1 m4 := (c6.trans d6).trans e5
  have xc : q_XCz (dz_N101_65 x) (dz_N106_65 y3) := (c5.trans d5).trans e4
  have ecol : dz_N87_65 (dz_N106_65 y3) = ((m1.2.2 0 15) - (m1.2.2 0 15) / 24 * 24).toInt32 := by rw [q_colX e2, mc.2.2]
  have elin : dz_N86_65 (dz_N106_65 y3) / 24 = dz_M206_64 m4 := q_lineX e2 e3
  have eM : dz_M234_64_39 m1 (((m1.2.2 0 15) - (m1.2.2 0 15) / 24 * 24).toInt32) = dz_M234_64_91 m2 (((m1.2.2 0 15) - (m1.2.2 0 15) / 24 * 24).toInt32) (q_b b) := by
    unfold dz_M234_64_39
    rw [b2]
    cases b with
    | true => exact c2
    | false => exact c2
  have eM2 : dz_M234_64_91 m2 (((m1.2.2 0 15) - (m1.2.2 0 15) / 24 * 24).toInt32) (q_b b) = cond (decide (((m1.2.2 0 15) - (m1.2.2 0 15) / 24 * 24).toInt32 = 23)) (dz_M234_64_109 m5 (q_b b)) (dz_M234_64_109 m4 (q_b b)) := by
    unfold dz_M234_64_91
    rw [d2, Option.bind_some, e1, Option.bind_some, f2, Option.bind_some]
  rw [eM, eM2]
  have eX : dz_N83_64 x = cond (decide (((m1.2.2 0 15) - (m1.2.2 0 15) / 24 * 24).toInt32 = 23)) (some (y5, b)) (some (dz_N106_65 y3, b)) := by
    unfold dz_N83_64 q_let
    dsimp only
    rw [b1, Option.bind_some, c1]
    cases b with
    | true =>
      rw [cond_true, Option.bind_some, d1, Option.bind_some, ecol, elin, f1, Option.bind_some]
    | false =>
      rw [cond_false, Option.bind_some, d1, Option.bind_some, ecol, elin, f1, Option.bind_some]
  rw [eX]
  cases decide (((m1.2.2 0 15) - (m1.2.2 0 15) / 24 * 24).toInt32 = 23) with
  | true => exact ⟨y5, m5, b, rfl, rfl, f3, f4, (a4.trans xc).trans f5, (a5.trans mc).trans f6⟩
  | false => exact ⟨_, m4, b, rfl, rfl, e2, e3, a4.trans xc, a5.trans mc⟩
end
end
section
section
variable {TT : (Nat → Int32) → Int32 → (Nat → Int32) → Int32 → Int64 → Int64 → List Int32 → List (Nat → Int32) → (Nat → Int64) → Prop} {x y z m : q_S} {c d w : Int}
theorem q_eq33.trans (h : q_eq33 x y) (g : q_eq33 y z) : q_eq33 x z := ⟨fun i hi => (g.1 i hi).trans (h.1 i hi), g.2.trans h.2⟩
theorem q_a12 {a : Int32} (h : q_rgz 0 4095 a) : a &&& 4095 = a := by
  have a0 := h.1
  have a1 := h.2
  apply Int32.toInt_inj.mp
  rw [q_andI 12 (by decide) h (by decide) (show (4095 : Int32).toInt = 2 ^ 12 - 1 from rfl)]
  show a.toInt % 4096 = _
  omega
theorem q_m8z {a : Int32} {u : Int} (h : q_rgz 0 u a) : a - a / 256 * 256 = a &&& 255 := by
  apply Int32.toInt_inj.mp
  rw [q_rem_eq h.1 (by decide), q_andI 8 (by decide) h (by decide) (show (255 : Int32).toInt = 2 ^ 8 - 1 from rfl)]
  rfl
theorem q_byte (h : q_R TT x m) (hI : q_Iv c d w m) (a : Int32) : ∃ v m2, dz_N90_65 x (a &&& 4095) = some v ∧ dz_M246_64 m a = some (m2, v) ∧ q_eq33 m m2 ∧ q_R TT x m2 ∧ q_Iv c d w m2 ∧ q_rgz 0 255 v := by
  obtain ⟨v, m2, e1, e2, e3, e4, e5, e6⟩ := q_rdz h hI (a &&& 4095) (q_rg_and a 4095 (by decide) rfl)
  refine ⟨v, m2, e1, ?_, e3, e4, e5, e6⟩
  unfold dz_M246_64 dz_M212 q_let
  dsimp only
  rw [e2]; rfl
theorem q_word (h : q_R TT x m) (hI : q_Iv c d w m) (a : Int32) : ∃ lo hi m2, dz_N90_65 x (a &&& 4095) = some lo ∧ dz_N90_65 x ((a + 1) &&& 4095) = some hi ∧ dz_M247_64 m a = some (m2, (lo + (256 * hi)) &&& 4095) ∧ q_eq33 m m2 ∧ q_R TT x m2 ∧ q_Iv c d w m2 ∧ q_rgz 0 255 lo ∧ q_rgz 0 255 hi := by
  obtain ⟨v, m1, a1, a2, a3, a4, a5, a6⟩ := q_byte h hI a
  obtain ⟨u, m2, b1, b2, b3, b4, b5, b6⟩ := q_byte a4 a5 (a + 1)
  refine ⟨v, u, m2, a1, b1, ?_, a3.trans b3, b4, b5, a6, b6⟩
  unfold dz_M247_64
  rw [a2, Option.bind_some, b2, Option.bind_some]
  rfl
theorem q_p11 (a : Int32) : a + 1 + 1 = a + 2 := by rw [Int32.add_assoc]; rfl
/-- the word at a page's byte and the next in the page -/
theorem q_pgw (h : q_R TT x m) (hI : q_Iv c d w m) (p : Int32) (hp : q_rgz 0 255 p) : ∃ lo hi m2, dz_N90_65 x p = some lo ∧ dz_N90_65 x ((p + 1) &&& 255) = some hi ∧ ((dz_M246_64 m p).bind fun r621 => (dz_M246_64 r621.1 ((p + 1) - (p + 1) / 256 * 256)).bind fun r622 => q_let (dz_M212 r622.1 (r621.2 + (256 * r622.2))) fun r623 => some (r622.1, r623)) = some (m2, (lo + (256 * hi)) &&& 4095) ∧ q_eq33 m m2 ∧ q_R TT x m2 ∧ q_Iv c d w m2 := by
  have p0 := hp.1
  have p1 := hp.2
  have e1 : (p + 1).toInt = p.toInt + 1 := q_addI ⟨by omega, by omega⟩ ⟨by decide, by decide⟩
  have em : (p + 1) - (p + 1) / 256 * 256 = (p + 1) &&& 255 := q_m8z (u := 256) ⟨by omega, by omega⟩
  have e2 := q_rg_and (p + 1) 255 (U := 255) (by decide) rfl
  obtain ⟨v, m1, a1, a2, a3, a4, a5, a6⟩ := q_byte h hI p
  obtain ⟨u, m2, b1, b2, b3, b4, b5, b6⟩ := q_byte a4 a5 ((p + 1) &&& 255)
  rw [q_a12 (q_rg_le hp (by decide) (by decide))] at a1
  rw [q_a12 (q_rg_le e2 (by decide) (by decide))] at b1
  refine ⟨v, u, m2, a1, b1, ?_, a3.trans b3, b4, b5⟩
  rw [a2, Option.bind_some, em, b2, Option.bind_some]
  rfl
theorem q_R.cpu (h : q_R TT x m) : x.2.1 23 0 = m.1 14 0 ∧ x.2.1 23 1 = m.1 14 1 ∧ x.2.1 23 2 = m.1 14 2 ∧ x.2.1 23 3 = m.1 14 3 := h.r6.1
/-- addresses: the class' base, and what is behind it -/
theorem q_addr (h : q_R TT x m) (hI : q_Iv c d w m) (hP : x.2.1 23 4 = m.1 14 4) (mode : Int32) (hm : q_rgz 1 7 mode) : ∃ B m2 m3, dz_N145_87_65 x mode = some B ∧ q_rgz 0 4095 B ∧ (4 ≤ mode.toInt ∧ mode.toInt ≤ 6 → dz_M248_64 m mode (m.1 14 4) = some (m2, B)) ∧ q_eq33 m m2 ∧ q_R TT x m2 ∧ q_Iv c d w m2 ∧ dz_M249_64 m mode (m.1 14 4) = some (m3, (B + dz_N143_87 x mode) &&& 4095) ∧ q_eq33 m m3 ∧ q_R TT x m3 ∧ q_Iv c d w m3 := by
  obtain ⟨g0, g1, g2, g3⟩ := h.cpu
  have bX : q_rgz 0 255 (m.1 14 1) := hI.1 14 1
  have bX0 := bX.1
  have bX1 := bX.2
  obtain ⟨v, m1, a1, a2, a3, a4, a5, a6⟩ := q_byte h hI (m.1 14 4 + 1)
  have a60 := a6.1
  have a61 := a6.2
  obtain ⟨lo, hi, mw, w1, w2, w3, w4, w5, w6, w7, w8⟩ := q_word h hI (m.1 14 4 + 1)
  rw [a1] at w1
  cases w1
  rw [q_p11] at w2
  obtain ⟨p1, p2, mp, c1, c2, c3, c4, c5, c6⟩ := q_pgw a4 a5 v a6
  have eX : (v + m.1 14 1).toInt = v.toInt + (m.1 14 1).toInt := q_addI ⟨by omega, by omega⟩ ⟨by omega, by omega⟩
  have eX2 : (v + m.1 14 1) - (v + m.1 14 1) / 256 * 256 = (v + m.1 14 1) &&& 255 := q_m8z (u := 510) ⟨by omega, by omega⟩
  have rX := q_rg_and (v + m.1 14 1) 255 (U := 255) (by decide) rfl
  obtain ⟨s1, s2, ms, d1, d2, d3, d4, d5, d6⟩ := q_pgw a4 a5 ((v + m.1 14 1) &&& 255) rX
  have n1 : m1.1 14 = m.1 14 := a3.1 14 rfl
  have nw : mw.1 14 = m.1 14 := w4.1 14 rfl
  have np : mp.1 14 = m.1 14 := (a3.trans c4).1 14 rfl
  have rW := q_rg_and (v + (256 * hi)) 4095 (U := 4095) (by decide) rfl
  have z0 : ∀ B : Int32, q_rgz 0 4095 B → (B + 0) &&& 4095 = B := fun B hB => by rw [Int32.add_zero]; exact q_a12 hB
  have hm0 := hm.1
  have hm1 := hm.2
  unfold dz_N145_87_65 dz_N140_87 q_let
  dsimp only
  rw [hP, a1, w2, Option.bind_some, Option.bind_some, g1]
  rcases (by omega : mode.toInt = 1 ∨ mode.toInt = 2 ∨ mode.toInt = 3 ∨ mode.toInt = 4 ∨ mode.toInt = 5 ∨ mode.toInt = 6 ∨ mode.toInt = 7) with e | e | e | e | e | e | e
  · rw [show mode = 1 from Int32.toInt_inj.mp e]
    refine ⟨v, m, m1, rfl, q_rg_le a6 (by decide) (by decide), fun q => absurd q.1 (by decide), q_eq33_refl m, h, hI, ?_, a3, a4, a5⟩
    show ((dz_M246_64 m (m.1 14 4 + 1)).bind fun r629 => some (r629.1, r629.2)) = some (m1, (v + 0) &&& 4095)
    rw [a2, z0 v (q_rg_le a6 (by decide) (by decide))]; rfl
  · rw [show mode = 2 from Int32.toInt_inj.mp e]
    refine ⟨(v + m.1 14 1) &&& 255, m, m1, rfl, q_rg_le rX (by decide) (by decide), fun q => absurd q.1 (by decide), q_eq33_refl m, h, hI, ?_, a3, a4, a5⟩
    show ((dz_M246_64 m (m.1 14 4 + 1)).bind fun r630 => some (r630.1, ((r630.2 + ((r630.1.1 14) 1)) - (r630.2 + ((r630.1.1 14) 1)) / 256 * 256))) = some (m1, (((v + m.1 14 1) &&& 255) + 0) &&& 4095)
    rw [a2, z0 _ (q_rg_le rX (by decide) (by decide)), Option.bind_some, n1, eX2]
  · rw [show mode = 3 from Int32.toInt_inj.mp e]
    refine ⟨(v + 256 * hi) &&& 4095, m, mw, rfl, rW, fun q => absurd q.1 (by decide), q_eq33_refl m, h, hI, ?_, w4, w5, w6⟩
    show ((dz_M247_64 m (m.1 14 4 + 1)).bind fun r631 => some (r631.1, r631.2)) = some (mw, (((v + 256 * hi) &&& 4095) + 0) &&& 4095)
    rw [w3, z0 _ rW]; rfl
  · rw [show mode = 4 from Int32.toInt_inj.mp e]
    refine ⟨(v + 256 * hi) &&& 4095, mw, mw, rfl, rW, fun _ => ?_, w4, w5, w6, ?_, w4, w5, w6⟩
    · show ((dz_M247_64 m (m.1 14 4 + 1)).bind fun r619 => some (r619.1, r619.2)) = _
      rw [w3]; rfl
    · show (((dz_M247_64 m (m.1 14 4 + 1)).bind fun r619 => some (r619.1, r619.2)).bind fun r632 => some (r632.1, (r632.2 + ((r632.1.1 14) 1)) &&& 4095)) = some (mw, (((v + 256 * hi) &&& 4095) + x.2.1 23 1) &&& 4095)
      rw [w3, Option.bind_some, Option.bind_some, nw, g1]
  · rw [show mode = 5 from Int32.toInt_inj.mp e]
    refine ⟨(v + 256 * hi) &&& 4095, mw, mw, rfl, rW, fun _ => ?_, w4, w5, w6, ?_, w4, w5, w6⟩
    · show ((dz_M247_64 m (m.1 14 4 + 1)).bind fun r619 => some (r619.1, r619.2)) = _
      rw [w3]; rfl
    · show (((dz_M247_64 m (m.1 14 4 + 1)).bind fun r619 => some (r619.1, r619.2)).bind fun r632 => some (r632.1, (r632.2 + ((r632.1.1 14) 2)) &&& 4095)) = some (mw, (((v + 256 * hi) &&& 4095) + x.2.1 23 2) &&& 4095)
      rw [w3, Option.bind_some, Option.bind_some, nw, g2]
  · rw [show mode = 6 from Int32.toInt_inj.mp e]
    have t249 : dz_M248_64 m 6 (m.1 14 4) = some (mp, (p1 + 256 * p2) &&& 4095) := by
      show ((dz_M246_64 m (m.1 14 4 + 1)).bind fun r620 => (dz_M246_64 r620.1 r620.2).bind fun r621 => (dz_M246_64 r621.1 ((r620.2 + 1) - (r620.2 + 1) / 256 * 256)).bind fun r622 => q_let (dz_M212 r622.1 (r621.2 + (256 * r622.2))) fun r623 => some (r622.1, r623)) = _
      rw [a2, Option.bind_some]
      exact c3
    refine ⟨(p1 + 256 * p2) &&& 4095, mp, mp, ?_, q_rg_and _ 4095 (by decide) rfl, fun _ => t249, a3.trans c4, c5, c6, ?_, a3.trans c4, c5, c6⟩
    · show ((dz_N90_65 x v).bind fun r151 => (dz_N90_65 x ((v + 1) &&& 255)).bind fun r152 => some ((r151 + (256 * r152)) &&& 4095)) = _
      rw [c1, Option.bind_some, c2, Option.bind_some]
    · show ((dz_M248_64 m 6 (m.1 14 4)).bind fun r634 => some (r634.1, (r634.2 + ((r634.1.1 14) 2)) &&& 4095)) = some (mp, (((p1 + 256 * p2) &&& 4095) + x.2.1 23 2) &&& 4095)
      rw [t249, Option.bind_some, np, g2]
  · rw [show mode = 7 from Int32.toInt_inj.mp e]
    have rS := q_rg_and (s1 + 256 * s2) 4095 (U := 4095) (by decide) rfl
    refine ⟨(s1 + 256 * s2) &&& 4095, m, ms, ?_, rS, fun q => absurd q.2 (by decide), q_eq33_refl m, h, hI, ?_, a3.trans d4, d5, d6⟩
    · show ((dz_N90_65 x ((v + m.1 14 1) &&& 255)).bind fun r149 => (dz_N90_65 x ((((v + m.1 14 1) &&& 255) + 1) &&& 255)).bind fun r150 => some ((r149 + (256 * r150)) &&& 4095)) = _
      rw [d1, Option.bind_some, d2, Option.bind_some]
    · show ((dz_M246_64 m (m.1 14 4 + 1)).bind fun r636 => q_let ((r636.2 + ((r636.1.1 14) 1)) - (r636.2 + ((r636.1.1 14) 1)) / 256 * 256) fun x637 => (dz_M246_64 r636.1 x637).bind fun r638 => (dz_M246_64 r638.1 ((x637 + 1) - (x637 + 1) / 256 * 256)).bind fun r639 => q_let (dz_M212 r639.1 (r638.2 + (256 * r639.2))) fun r640 => some (r639.1, r640)) = some (ms, (((s1 + 256 * s2) &&& 4095) + 0) &&& 4095)
      rw [a2, Option.bind_some, z0 _ rS]
      unfold q_let
      dsimp only
      rw [n1, eX2]
      exact d3
end
end
section
section
variable {TT : (Nat → Int32) → Int32 → (Nat → Int32) → Int32 → Int64 → Int64 → List Int32 → List (Nat → Int32) → (Nat → Int64) → Prop} {x y z m : q_S} {c d w : Int}
/-- what a code without a mode takes, as the model says it -/
def q_oc (a : Int32) : Int32 := cond (decide (a = 138)) 3 (cond (decide (a = 140)) 3 (cond (decide (a = 157)) 3 (cond (decide (a = 139)) 4 (cond (decide (a = 141)) 4 (cond (decide (a = 159)) 5 (cond (decide (a = 155)) 6 (cond (decide (a = 156)) 6 (cond (decide (a = 158)) 6 (cond (decide (a = 154)) 7 2)))))))))
set_option maxRecDepth 16384 in
theorem q_T1 : ∀ n, n < 256 → dz_N186 q_s0 (Int32.ofNat n) = dz_M243 q_s0 (Int32.ofNat n) ∧ dz_N190 q_s0 (Int32.ofNat n) = dz_M245 q_s0 (Int32.ofNat n) ∧ dz_N187 q_s0 (Int32.ofNat n) = dz_M201 q_s0 (Int32.ofNat n) 160 167 ∧ (dz_N187 q_s0 (Int32.ofNat n) = true → decide (dz_M243 q_s0 (Int32.ofNat n) < 0) = true) ∧ (decide (dz_M243 q_s0 (Int32.ofNat n) < 0) = true → dz_N187 q_s0 (Int32.ofNat n) = false → dz_N192 q_s0 (Int32.ofNat n) = q_oc (Int32.ofNat n)) ∧ (decide (dz_M243 q_s0 (Int32.ofNat n) < 0) = false → q_rgz 0 20 (dz_M243 q_s0 (Int32.ofNat n))) := by
  unfold q_rgz
  decide
set_option maxRecDepth 16384 in
theorem q_T2 : ∀ n, n < 21 → dz_N188 q_s0 (Int32.ofNat n) = dz_M244 q_s0 (Int32.ofNat n) ∧ dz_N189 q_s0 (Int32.ofNat n) = (dz_M201 q_s0 (Int32.ofNat n) 14 15 || dz_M201 q_s0 (Int32.ofNat n) 18 19) := by decide
theorem q_ofn {a : Int32} {u : Int} (h : q_rgz 0 u a) : Int32.ofNat a.toInt.toNat = a := by
  have a0 := h.1
  have a1 := Int32.toInt_lt a
  apply Int32.toInt_inj.mp
  rw [Int32.toInt_ofNat_of_lt (by omega)]
  omega
/-- the codes: both say alike -/
theorem q_code (s t : q_S) {a : Int32} (h : q_rgz 0 255 a) : dz_N186 s a = dz_M243 t a ∧ dz_N190 s a = dz_M245 t a ∧ dz_N187 s a = dz_M201 t a 160 167 ∧ (dz_N187 s a = true → decide (dz_M243 t a < 0) = true) ∧ (decide (dz_M243 t a < 0) = true → dz_N187 s a = false → dz_N192 s a = q_oc a) ∧ (decide (dz_M243 t a < 0) = false → q_rgz 0 20 (dz_M243 t a)) := by
  have a1 := h.2
  have a0 := h.1
  have t1 := q_T1 a.toInt.toNat (by omega)
  rw [q_ofn h] at t1
  exact t1
theorem q_opw (s t : q_S) {a : Int32} (h : q_rgz 0 20 a) : dz_N188 s a = dz_M244 t a ∧ dz_N189 s a = (dz_M201 t a 14 15 || dz_M201 t a 18 19) := by
  have a1 := h.2
  have a0 := h.1
  have t1 := q_T2 a.toInt.toNat (by omega)
  rw [q_ofn h] at t1
  exact t1
/-- the byte of flags -/
theorem q_flag (h : q_R TT x m) (hI : q_Iv c d w m) : q_rgz 0 207 (x.2.1 23 5) ∧ (x.2.1 23 5).toInt = (m.1 15 5).toInt + 2 * (m.1 15 4).toInt + 4 * (m.1 15 3).toInt + 8 * (m.1 15 2).toInt + 64 * (m.1 15 1).toInt + 128 * (m.1 15 0).toInt := by
  have f := h.r6.2.2.2.2.2.2.2.2.2.1
  have b : ∀ k, 0 ≤ (m.1 15 k).toInt ∧ (m.1 15 k).toInt ≤ 1 := fun k => hI.1 15 k
  have b0 := b 0
  have b1 := b 1
  have b2 := b 2
  have b3 := b 3
  have b4 := b 4
  have b5 := b 5
  have e1 : (2 * m.1 15 4).toInt = 2 * (m.1 15 4).toInt := q_mulI (n := 2) rfl (by decide) (by decide) ⟨by omega, by omega⟩
  have e2 : (4 * m.1 15 3).toInt = 4 * (m.1 15 3).toInt := q_mulI (n := 4) rfl (by decide) (by decide) ⟨by omega, by omega⟩
  have e3 : (8 * m.1 15 2).toInt = 8 * (m.1 15 2).toInt := q_mulI (n := 8) rfl (by decide) (by decide) ⟨by omega, by omega⟩
  have e4 : (64 * m.1 15 1).toInt = 64 * (m.1 15 1).toInt := q_mulI (n := 64) rfl (by decide) (by decide) ⟨by omega, by omega⟩
  have e5 : (128 * m.1 15 0).toInt = 128 * (m.1 15 0).toInt := q_mulI (n := 128) rfl (by decide) (by decide) ⟨by omega, by omega⟩
  have s1 : (m.1 15 5 + 2 * m.1 15 4).toInt = (m.1 15 5).toInt + 2 * (m.1 15 4).toInt := by rw [q_addI ⟨by omega, by omega⟩ ⟨by omega, by omega⟩, e1]
  have s2 : (m.1 15 5 + 2 * m.1 15 4 + 4 * m.1 15 3).toInt = (m.1 15 5).toInt + 2 * (m.1 15 4).toInt + 4 * (m.1 15 3).toInt := by rw [q_addI ⟨by omega, by omega⟩ ⟨by omega, by omega⟩, s1, e2]
  have s3 : (m.1 15 5 + 2 * m.1 15 4 + 4 * m.1 15 3 + 8 * m.1 15 2).toInt = (m.1 15 5).toInt + 2 * (m.1 15 4).toInt + 4 * (m.1 15 3).toInt + 8 * (m.1 15 2).toInt := by rw [q_addI ⟨by omega, by omega⟩ ⟨by omega, by omega⟩, s2, e3]
  have s4 : (m.1 15 5 + 2 * m.1 15 4 + 4 * m.1 15 3 + 8 * m.1 15 2 + 64 * m.1 15 1).toInt = (m.1 15 5).toInt + 2 * (m.1 15 4).toInt + 4 * (m.1 15 3).toInt + 8 * (m.1 15 2).toInt + 64 * (m.1 15 1).toInt := by rw [q_addI ⟨by omega, by omega⟩ ⟨by omega, by omega⟩, s3, e4]
  have s5 : (x.2.1 23 5).toInt = (m.1 15 5).toInt + 2 * (m.1 15 4).toInt + 4 * (m.1 15 3).toInt + 8 * (m.1 15 2).toInt + 64 * (m.1 15 1).toInt + 128 * (m.1 15 0).toInt := by rw [f, q_addI ⟨by omega, by omega⟩ ⟨by omega, by omega⟩, s4, e5]
  exact ⟨⟨by omega, by omega⟩, s5⟩
/-- a bit of it: clear where the model's flag is -/
theorem q_fbit (h : q_R TT x m) (hI : q_Iv c d w m) (n k : Nat) (hk : (n = 0 ∧ k = 5) ∨ (n = 1 ∧ k = 4) ∨ (n = 2 ∧ k = 3) ∨ (n = 3 ∧ k = 2) ∨ (n = 6 ∧ k = 1) ∨ (n = 7 ∧ k = 0)) {p : Int32} (hp : p.toInt = 2 ^ n) : decide ((x.2.1 23 5) &&& p = 0) = decide (m.1 15 k = 0) := by
  obtain ⟨r, s⟩ := q_flag h hI
  have b : ∀ k, 0 ≤ (m.1 15 k).toInt ∧ (m.1 15 k).toInt ≤ 1 := fun k => hI.1 15 k
  have b0 := b 0
  have b1 := b 1
  have b2 := b 2
  have b3 := b 3
  have b4 := b 4
  have b5 := b 5
  have z0 : (0 : Int32).toInt = 0 := rfl
  have e := q_and2p n (by omega) r (by decide) hp
  have key : ((x.2.1 23 5) &&& p).toInt = 0 ↔ (m.1 15 k).toInt = 0 := by
    rw [e, s]
    rcases hk with ⟨h1, h2⟩ | ⟨h1, h2⟩ | ⟨h1, h2⟩ | ⟨h1, h2⟩ | ⟨h1, h2⟩ | ⟨h1, h2⟩ <;> subst h1 <;> subst h2 <;> simp only [Int.reducePow] <;> omega
  by_cases q : (m.1 15 k).toInt = 0
  · rw [q_eq_T (show ((x.2.1 23 5) &&& p).toInt = (0 : Int32).toInt by rw [z0]; exact key.mpr q), q_eq_T (show (m.1 15 k).toInt = (0 : Int32).toInt by rw [z0]; exact q)]
  · rw [q_eq_F (show ¬ ((x.2.1 23 5) &&& p).toInt = (0 : Int32).toInt by rw [z0]; exact fun t => q (key.mp t)), q_eq_F (show ¬ (m.1 15 k).toInt = (0 : Int32).toInt by rw [z0]; exact q)]
theorem q_b01' {a : Int32} (h : q_rgz 0 1 a) : decide (a = 1) = !decide (a = 0) := by
  have a0 := h.1
  have a1 := h.2
  rcases (by omega : a.toInt = 0 ∨ a.toInt = 1) with e | e
  · rw [show a = 0 from Int32.toInt_inj.mp e]; rfl
  · rw [show a = 1 from Int32.toInt_inj.mp e]; rfl
/-- whether a branch is taken -/
theorem q_taken (h : q_R TT x m) (hI : q_Iv c d w m) {a : Int32} (ha : q_rgz 160 167 a) : dz_N161_87 x a = dz_M251_64 m a := by
  have a0 := ha.1
  have a1 := ha.2
  have f0 := q_fbit h hI 0 5 (by omega) (p := 1) rfl
  have f1 := q_fbit h hI 1 4 (by omega) (p := 2) rfl
  have f6 := q_fbit h hI 6 1 (by omega) (p := 64) rfl
  have f7 := q_fbit h hI 7 0 (by omega) (p := 128) rfl
  have g (k : Nat) : decide (m.1 15 k = 1) = !decide (m.1 15 k = 0) := q_b01' (hI.1 15 k)
  unfold dz_N161_87 dz_M251_64
  rw [f0, f1, f6, f7, g 4, g 5, g 0, g 1]
  rcases (by omega : a.toInt = 160 ∨ a.toInt = 161 ∨ a.toInt = 162 ∨ a.toInt = 163 ∨ a.toInt = 164 ∨ a.toInt = 165 ∨ a.toInt = 166 ∨ a.toInt = 167) with e | e | e | e | e | e | e | e
  · rw [show a = 160 from Int32.toInt_inj.mp e]; cases decide (m.1 15 4 = 0) <;> rfl
  · rw [show a = 161 from Int32.toInt_inj.mp e]; cases decide (m.1 15 4 = 0) <;> rfl
  · rw [show a = 162 from Int32.toInt_inj.mp e]; cases decide (m.1 15 5 = 0) <;> rfl
  · rw [show a = 163 from Int32.toInt_inj.mp e]; cases decide (m.1 15 5 = 0) <;> rfl
  · rw [show a = 164 from Int32.toInt_inj.mp e]; cases decide (m.1 15 0 = 0) <;> rfl
  · rw [show a = 165 from Int32.toInt_inj.mp e]; cases decide (m.1 15 0 = 0) <;> rfl
  · rw [show a = 166 from Int32.toInt_inj.mp e]; cases decide (m.1 15 1 = 0) <;> rfl
  · rw [show a = 167 from Int32.toInt_inj.mp e]; cases decide (m.1 15 1 = 0) <;> rfl
end
end
section
section
variable {TT : (Nat → Int32) → Int32 → (Nat → Int32) → Int32 → Int64 → Int64 → List Int32 → List (Nat → Int32) → (Nat → Int64) → Prop} {x y z m : q_S} {c d w : Int}
theorem q_m7z {a : Int32} {u : Int} (h : q_rgz 0 u a) : a - a / 8 * 8 = a &&& 7 := by
  apply Int32.toInt_inj.mp
  rw [q_rem_eq h.1 (by decide), q_andI 3 (by decide) h (by decide) (show (7 : Int32).toInt = 2 ^ 3 - 1 from rfl)]
  rfl
/-- what an instruction with a mode takes -/
theorem q_mcy (h : q_R TT x m) (hI : q_Iv c d w m) (hP : x.2.1 23 4 = m.1 14 4) (op mode : Int32) (ho : q_rgz 0 20 op) (hm : q_rgz 0 7 mode) : ∃ n m2, (cond (decide (mode = 0)) (some 2) (cond (decide (mode < 4)) (dz_N137_87_65_127 x op mode 0) (cond (decide (6 < mode)) (dz_N137_87_65_127 x op mode 0) ((dz_N145_87_65 x mode).bind fun r153 => q_let (dz_N143_87 x mode) fun r154 => q_let (dz_N188 x op) fun r157 => cond r157 (dz_N137_87_65_120 x op mode) (cond (decide (((r153 + r154) &&& 4095) / 256 = r153 / 256)) (dz_N137_87_65_127 x op mode 0) (dz_N137_87_65_120 x op mode)))))) = some n ∧ dz_M250_64 m op mode (m.1 14 4) = some (m2, n) ∧ q_eq33 m m2 := by
  obtain ⟨w1, w2⟩ := q_opw x m ho
  have a0 := hm.1
  have a1 := hm.2
  by_cases k0 : mode.toInt = 0
  · rw [show mode = 0 from Int32.toInt_inj.mp k0]
    exact ⟨2, m, rfl, rfl, q_eq33_refl m⟩
  obtain ⟨B, m2, m3, b1, b2, b3, b4, b5, b6, b7, b8, b9, b10⟩ := q_addr h hI hP mode ⟨by omega, by omega⟩
  have i202 : ∀ (s : q_S) (a b c : Int32), dz_M201 s a b c = dz_M201 m a b c := fun _ _ _ _ => rfl
  have i245 : ∀ (s : q_S) (a : Int32), dz_M244 s a = dz_M244 m a := fun _ _ => rfl
  rcases (by omega : mode.toInt = 1 ∨ mode.toInt = 2 ∨ mode.toInt = 3 ∨ mode.toInt = 7 ∨ (4 ≤ mode.toInt ∧ mode.toInt ≤ 6)) with e | e | e | e | e
  · rw [show mode = 1 from Int32.toInt_inj.mp e]
    refine ⟨cond (dz_M201 m op 14 15 || dz_M201 m op 18 19) 5 3, m, ?_, ?_, q_eq33_refl m⟩
    · show (q_let (dz_N189 x op) fun r141 => cond r141 (some (((3 : Int32) + 0) + 2)) (some (((3 : Int32) + 0) + 0))) = _
      rw [w2]
      cases dz_M201 m op 14 15 <;> cases dz_M201 m op 18 19 <;> rfl
    · unfold dz_M250_64 dz_M250_64_28 q_let
      cases dz_M201 m op 14 15 <;> cases dz_M201 m op 18 19 <;> rfl
  · rw [show mode = 2 from Int32.toInt_inj.mp e]
    refine ⟨cond (dz_M201 m op 14 15 || dz_M201 m op 18 19) 6 4, m, ?_, ?_, q_eq33_refl m⟩
    · show (q_let (dz_N189 x op) fun r141 => cond r141 (some (((4 : Int32) + 0) + 2)) (some (((4 : Int32) + 0) + 0))) = _
      rw [w2]
      cases dz_M201 m op 14 15 <;> cases dz_M201 m op 18 19 <;> rfl
    · unfold dz_M250_64 dz_M250_64_28 q_let
      cases dz_M201 m op 14 15 <;> cases dz_M201 m op 18 19 <;> rfl
  · rw [show mode = 3 from Int32.toInt_inj.mp e]
    refine ⟨cond (dz_M201 m op 14 15 || dz_M201 m op 18 19) 6 4, m, ?_, ?_, q_eq33_refl m⟩
    · show (q_let (dz_N189 x op) fun r141 => cond r141 (some (((4 : Int32) + 0) + 2)) (some (((4 : Int32) + 0) + 0))) = _
      rw [w2]
      cases dz_M201 m op 14 15 <;> cases dz_M201 m op 18 19 <;> rfl
    · unfold dz_M250_64 dz_M250_64_28 q_let
      cases dz_M201 m op 14 15 <;> cases dz_M201 m op 18 19 <;> rfl
  · rw [show mode = 7 from Int32.toInt_inj.mp e]
    refine ⟨cond (dz_M201 m op 14 15 || dz_M201 m op 18 19) 8 6, m, ?_, ?_, q_eq33_refl m⟩
    · show (q_let (dz_N189 x op) fun r141 => cond r141 (some (((6 : Int32) + 0) + 2)) (some (((6 : Int32) + 0) + 0))) = _
      rw [w2]
      cases dz_M201 m op 14 15 <;> cases dz_M201 m op 18 19 <;> rfl
    · unfold dz_M250_64 dz_M250_64_28 q_let
      cases dz_M201 m op 14 15 <;> cases dz_M201 m op 18 19 <;> rfl
  · -- with X or Y behind
    have e249 := b3 e
    -- the model's second look
    obtain ⟨B', m4, m5, c1, c2, c3, c4, c5, c6, c7, c8, c9, c10⟩ := q_addr b5 b6 (by rw [b4.1 14 rfl]; exact hP) mode ⟨by omega, by omega⟩
    rw [b1] at c1
    cases c1
    rw [b4.1 14 rfl] at c7
    generalize hA : ((B + dz_N143_87 x mode) &&& 4095) = A at *
    have z4 : (4 : Int32).toInt = 4 := rfl
    have z6 : (6 : Int32).toInt = 6 := rfl
    have i46 : dz_M201 m mode 4 6 = true := q_202T (by omega) (by omega)
    rw [q_eq_F (show ¬ mode.toInt = (0 : Int32).toInt from k0), q_lt_F (show (4 : Int32).toInt ≤ mode.toInt by omega), q_lt_F (show mode.toInt ≤ (6 : Int32).toInt by omega), b1]
    rw [cond_false, cond_false, cond_false, Option.bind_some]
    have sym : decide (A / 256 = B / 256) = decide (B / 256 = A / 256) := by
      by_cases q : A / 256 = B / 256
      · rw [decide_eq_true q, decide_eq_true q.symm]
      · rw [decide_eq_false q, decide_eq_false (fun t => q t.symm)]
    unfold dz_M250_64 dz_M250_64_28 dz_N137_87_65_120 dz_N137_87_65_127 q_let
    dsimp only
    rw [q_eq_F (show ¬ mode.toInt = (0 : Int32).toInt from k0), i46, e249, hA, w1, w2, sym]
    simp only [Option.bind_some, c7, i245 m5, cond_true, cond_false]
    have z1 : (1 : Int32).toInt = 1 := rfl
    have m4' : (m.1 14 4) = m.1 14 4 := rfl
    rcases (by omega : mode.toInt = 4 ∨ mode.toInt = 5 ∨ mode.toInt = 6) with f | f | f
    · rw [show mode = 4 from Int32.toInt_inj.mp f]
      refine ⟨cond (dz_M201 m op 14 15 || dz_M201 m op 18 19) (cond (dz_M244 m op || !decide (B / 256 = A / 256)) 7 6) (cond (dz_M244 m op || !decide (B / 256 = A / 256)) 5 4), m5, ?_, ?_, b4.trans c8⟩
      · cases dz_M244 m op <;> cases decide (B / 256 = A / 256) <;> cases dz_M201 m op 14 15 <;> cases dz_M201 m op 18 19 <;> rfl
      · cases dz_M244 m op <;> cases decide (B / 256 = A / 256) <;> cases dz_M201 m op 14 15 <;> cases dz_M201 m op 18 19 <;> rfl
    · rw [show mode = 5 from Int32.toInt_inj.mp f]
      refine ⟨cond (dz_M201 m op 14 15 || dz_M201 m op 18 19) (cond (dz_M244 m op || !decide (B / 256 = A / 256)) 7 6) (cond (dz_M244 m op || !decide (B / 256 = A / 256)) 5 4), m5, ?_, ?_, b4.trans c8⟩
      · cases dz_M244 m op <;> cases decide (B / 256 = A / 256) <;> cases dz_M201 m op 14 15 <;> cases dz_M201 m op 18 19 <;> rfl
      · cases dz_M244 m op <;> cases decide (B / 256 = A / 256) <;> cases dz_M201 m op 14 15 <;> cases dz_M201 m op 18 19 <;> rfl
    · rw [show mode = 6 from Int32.toInt_inj.mp f]
      refine ⟨cond (dz_M201 m op 14 15 || dz_M201 m op 18 19) (cond (dz_M244 m op || !decide (B / 256 = A / 256)) 8 7) (cond (dz_M244 m op || !decide (B / 256 = A / 256)) 6 5), m5, ?_, ?_, b4.trans c8⟩
      · cases dz_M244 m op <;> cases decide (B / 256 = A / 256) <;> cases dz_M201 m op 14 15 <;> cases dz_M201 m op 18 19 <;> rfl
      · cases dz_M244 m op <;> cases decide (B / 256 = A / 256) <;> cases dz_M201 m op 14 15 <;> cases dz_M201 m op 18 19 <;> rfl
/-- where a branch goes -/
theorem q_targ (h : q_R TT x m) (hI : q_Iv c d w m) (hP : x.2.1 23 4 = m.1 14 4) : ∃ v m2, dz_N90_65 x (dz_N140_87 x 1) = some v ∧ dz_M252_64 m (m.1 14 4) = some (m2, dz_N139_87 x v) ∧ q_eq33 m m2 ∧ q_R TT x m2 ∧ q_Iv c d w m2 := by
  obtain ⟨v, m2, a1, a2, a3, a4, a5, a6⟩ := q_byte h hI (m.1 14 4 + 1)
  refine ⟨v, m2, ?_, ?_, a3, a4, a5⟩
  · unfold dz_N140_87
    rw [hP]
    exact a1
  · unfold dz_M252_64 dz_N139_87 dz_N193 q_let
    rw [a2, Option.bind_some, hP]
    dsimp only
    cases decide (127 < v) <;> rfl
theorem q_cyc1 (h : q_R TT x m) (hI : q_Iv c d w m) (hP : x.2.1 23 4 = m.1 14 4) : ∃ n m2, dz_N137_87_65 x = some n ∧ dz_M253_64 m (m.1 14 4) = some (m2, n) ∧ q_eq33 m m2 := by
  obtain ⟨v, m1, a1, a2, a3, a4, a5, a6⟩ := q_byte h hI (m.1 14 4)
  rw [q_a12 (hI.1 14 4)] at a1
  have P1 : x.2.1 23 4 = m1.1 14 4 := by rw [a3.1 14 rfl]; exact hP
  obtain ⟨t1, t2, t3, t4, t5, t6⟩ := q_code x m1 a6
  have i252 : q_rgz 160 167 v → dz_N161_87 x v = dz_M251_64 m1 v := fun q => q_taken a4 a5 q
  unfold dz_N137_87_65 dz_M253_64 q_let
  rw [hP, a1, a2, Option.bind_some, Option.bind_some]
  dsimp only
  rw [t1, t3]
  cases hb : dz_M201 m1 v 160 167 with
  | true =>
    have rb := q_p202 hb (q_rg_lit (n := 160) rfl) (q_rg_lit (n := 167) rfl)
    rw [t4 (by rw [t3]; exact hb)]
    obtain ⟨u, m2, c1, c2, c3, c4, c5⟩ := q_targ a4 a5 P1
    rw [a3.1 14 rfl] at c2
    rw [cond_true, cond_true, cond_true, c1, Option.bind_some]
    unfold dz_N138_87 q_let
    dsimp only
    rw [i252 rb]
    cases dz_M251_64 m1 v with
    | false => exact ⟨2, m1, rfl, rfl, a3⟩
    | true =>
      rw [cond_true, cond_true, c2, Option.bind_some]
      have s2 : dz_N140_87 x 2 = dz_M212 m1 (m.1 14 4 + 2) := by unfold dz_N140_87 dz_M212; rw [hP]
      have sym : decide (dz_N139_87 x u / 256 = dz_N140_87 x 2 / 256) = decide (dz_M212 m1 (m.1 14 4 + 2) / 256 = dz_N139_87 x u / 256) := by
        rw [s2]
        by_cases q : dz_N139_87 x u / 256 = dz_M212 m1 (m.1 14 4 + 2) / 256
        · rw [decide_eq_true q, decide_eq_true q.symm]
        · rw [decide_eq_false q, decide_eq_false (fun t => q t.symm)]
      rw [sym]
      cases decide (dz_M212 m1 (m.1 14 4 + 2) / 256 = dz_N139_87 x u / 256) with
      | true => exact ⟨3, m2, rfl, rfl, a3.trans c3⟩
      | false => exact ⟨4, m2, rfl, rfl, a3.trans c3⟩
  | false =>
    rw [cond_false]
    cases ho : decide (dz_M243 m1 v < 0) with
    | true =>
      rw [cond_true, cond_true, cond_false, t5 ho (by rw [t3]; exact hb)]
      refine ⟨q_oc v, m1, rfl, ?_, a3⟩
      unfold q_oc
      cases decide (v = 138) <;> cases decide (v = 140) <;> cases decide (v = 157) <;> cases decide (v = 139) <;> cases decide (v = 141) <;> cases decide (v = 159) <;> cases decide (v = 155) <;> cases decide (v = 156) <;> cases decide (v = 158) <;> cases decide (v = 154) <;> rfl
    | false =>
      rw [cond_false, cond_false]
      have ro := t6 ho
      have e7 := q_m7z a6
      have r7 := q_rg_and v 7 (U := 7) (by decide) rfl
      obtain ⟨n, m2, d1, d2, d3⟩ := q_mcy a4 a5 P1 (dz_M243 m1 v) (v &&& 7) ro r7
      rw [a3.1 14 rfl] at d2
      rw [e7, d2]
      exact ⟨n, m2, d1, rfl, a3.trans d3⟩
theorem q_o2r : ∀ n, n < 8 → q_rgz 2 6 (q_o2.getD n 0) := by
  unfold q_rgz
  decide
theorem q_o3r : ∀ n, n < 32 → q_rgz 2 7 (q_o3.getD n 0) := by
  unfold q_rgz
  decide
theorem q_r29 {v : Int32} (n : Nat) (e : v.toInt = (n : Int)) (h1 : 2 ≤ n) (h2 : n ≤ 9) : q_rgz 2 9 v := ⟨by omega, by omega⟩
theorem q_127 (s : q_S) (v3 v4 v5 : Int32) : ∃ n, dz_N137_87_65_127 s v3 v4 v5 = some n ∧ q_rgz 2 9 n := by
  have r := q_rg_and v4 7 (U := 7) (by decide) rfl
  have r0 := r.1
  have r1 := r.2
  have t := q_o2r (v4 &&& 7).toNatClampNeg (by have : (v4 &&& 7).toNatClampNeg = (v4 &&& 7).toInt.toNat := rfl; omega)
  have e : dz_N191 s v4 = q_o2.getD (v4 &&& 7).toNatClampNeg 0 := rfl
  rw [← e] at t
  have t0 := t.1
  have t1 := t.2
  have z0 : (0 : Int32).toInt = 0 := rfl
  have z1 : (1 : Int32).toInt = 1 := rfl
  have z2 : (2 : Int32).toInt = 2 := rfl
  have add : ∀ a b : Int32, q_rgz 0 1 a → q_rgz 0 2 b → q_rgz 2 9 ((dz_N191 s v4 + a) + b) := fun a b ha hb => by
    have a0 := ha.1
    have a1 := ha.2
    have b0 := hb.1
    have b1 := hb.2
    have e1 : (dz_N191 s v4 + a).toInt = (dz_N191 s v4).toInt + a.toInt := q_addI ⟨by omega, by omega⟩ ⟨by omega, by omega⟩
    have e2 : ((dz_N191 s v4 + a) + b).toInt = (dz_N191 s v4).toInt + a.toInt + b.toInt := by rw [q_addI ⟨by omega, by omega⟩ ⟨by omega, by omega⟩, e1]
    exact ⟨by omega, by omega⟩
  unfold dz_N137_87_65_127 q_let
  dsimp only
  cases decide (v5 = 0) with
  | true =>
    rw [cond_true]
    cases dz_N189 s v3 with
    | true => exact ⟨_, rfl, add 0 2 ⟨by decide, by decide⟩ ⟨by decide, by decide⟩⟩
    | false => exact ⟨_, rfl, add 0 0 ⟨by decide, by decide⟩ ⟨by decide, by decide⟩⟩
  | false =>
    rw [cond_false]
    cases dz_N189 s v3 with
    | true => exact ⟨_, rfl, add 1 2 ⟨by decide, by decide⟩ ⟨by decide, by decide⟩⟩
    | false => exact ⟨_, rfl, add 1 0 ⟨by decide, by decide⟩ ⟨by decide, by decide⟩⟩
theorem q_192 (s : q_S) (v : Int32) : q_rgz 2 9 (dz_N192 s v) := by
  have z0 : (0 : Int32).toInt = 0 := rfl
  have z32 : (32 : Int32).toInt = 32 := rfl
  unfold dz_N192
  by_cases k : (v - 128).toInt < 0
  · rw [q_lt_T (show (v - 128).toInt < (0 : Int32).toInt by omega), cond_true]
    exact ⟨by decide, by decide⟩
  · rw [q_lt_F (show (0 : Int32).toInt ≤ (v - 128).toInt by omega), cond_false]
    by_cases k2 : (v - 128).toInt < 32
    · rw [q_lt_T (show (v - 128).toInt < (32 : Int32).toInt by omega), cond_true]
      exact q_rg_le (q_o3r (v - 128).toNatClampNeg (by have : (v - 128).toNatClampNeg = (v - 128).toInt.toNat := rfl; omega)) (by decide) (by decide)
    · rw [q_lt_F (show (32 : Int32).toInt ≤ (v - 128).toInt by omega), cond_false]
      exact ⟨by decide, by decide⟩
theorem q_138 (s : q_S) (v u : Int32) : q_rgz 2 9 (dz_N138_87 s v u) := by
  unfold dz_N138_87 q_let
  dsimp only
  cases dz_N161_87 s v with
  | false => rw [cond_false]; exact ⟨by decide, by decide⟩
  | true =>
    rw [cond_true]
    cases decide (dz_N139_87 s u / 256 = dz_N140_87 s 2 / 256) with
    | true => exact ⟨by decide, by decide⟩
    | false => exact ⟨by decide, by decide⟩
/-- an instruction takes two cycles or more -/
theorem q_cpos {n : Int32} (e : dz_N137_87_65 x = some n) : q_rgz 2 9 n := by
  have i127 : ∀ v3 v4 v5 : Int32, dz_N137_87_65_127 x v3 v4 v5 = some n → q_rgz 2 9 n := fun v3 v4 v5 q => by
    obtain ⟨k, a1, a2⟩ := q_127 x v3 v4 v5
    rw [a1] at q
    cases q
    exact a2
  unfold dz_N137_87_65 at e
  cases h1 : dz_N90_65 x (x.2.1 23 4) with
  | none => rw [h1] at e; cases e
  | some v =>
    rw [h1, Option.bind_some] at e
    unfold q_let at e
    dsimp only at e
    cases h2 : dz_N187 x v with
    | true =>
      rw [h2, cond_true] at e
      cases h3 : dz_N90_65 x (dz_N140_87 x 1) with
      | none => rw [h3] at e; cases e
      | some u =>
        rw [h3, Option.bind_some] at e
        cases e
        exact q_138 x v u
    | false =>
      rw [h2, cond_false] at e
      cases h3 : decide (dz_N186 x v < 0) with
      | true =>
        rw [h3, cond_true] at e
        cases e
        exact q_192 x v
      | false =>
        rw [h3, cond_false] at e
        cases h4 : decide (v &&& 7 = 0) with
        | true =>
          rw [h4, cond_true] at e
          cases e
          exact ⟨by decide, by decide⟩
        | false =>
          rw [h4, cond_false] at e
          cases h5 : decide (v &&& 7 < 4) with
          | true => rw [h5, cond_true] at e; exact i127 _ _ _ e
          | false =>
            rw [h5, cond_false] at e
            cases h6 : decide (6 < v &&& 7) with
            | true => rw [h6, cond_true] at e; exact i127 _ _ _ e
            | false =>
              rw [h6, cond_false] at e
              cases h7 : dz_N145_87_65 x (v &&& 7) with
              | none => rw [h7] at e; cases e
              | some B =>
                rw [h7, Option.bind_some] at e
                cases h8 : dz_N188 x (dz_N186 x v) with
                | true => rw [h8, cond_true] at e; exact i127 _ _ _ e
                | false =>
                  rw [h8, cond_false] at e
                  cases h9 : decide (((B + dz_N143_87 x (v &&& 7)) &&& 4095) / 256 = B / 256) with
                  | true => rw [h9, cond_true] at e; exact i127 _ _ _ e
                  | false => rw [h9, cond_false] at e; exact i127 _ _ _ e
end
end
section
section
variable {TT : (Nat → Int32) → Int32 → (Nat → Int32) → Int32 → Int64 → Int64 → List Int32 → List (Nat → Int32) → (Nat → Int64) → Prop} {x y z m : q_S} {c d w : Int}
theorem q_R_vec (h : q_R TT x m) (v : Int32) : q_R TT (q_sI x 23 8 v) (q_sA m 14 (upd (m.1 14) 18 v)) := by
  obtain ⟨h1, h2, h3, h4, h5, ⟨p1, p2, p3, p4, p5, p6⟩, h7, h8⟩ := h
  exact ⟨h1, h2, h3, h4, h5, ⟨p1, p2, p3, p4, rfl, p6⟩, h7, h8⟩
theorem q_R_left (h : q_R TT x m) (hJ : x.2.1 23 7 = 0) (v : Int32) (hv : q_rgz 0 9 v) : q_R TT (q_sI x 23 9 v) (q_sA m 14 (upd (m.1 14) 17 v)) := by
  obtain ⟨h1, h2, h3, h4, h5, ⟨p1, p2, p3, p4, p5, p6, p7, p8, p9, p10, p11⟩, h7, h8⟩ := h
  exact ⟨h1, h2, h3, h4, h5, ⟨p1, p2, p3, p4, p5, rfl, p7, p8, p9, p10, ⟨Or.inl hJ, hv⟩⟩, h7, h8⟩
theorem q_R_fz (h : q_R TT x m) (b : Bool) : q_R TT (q_sI x 23 6 (q_b b)) (q_sA m 15 (upd (m.1 15) 6 (vp_nar .boolean (q_b b)))) := by
  have e : vp_nar .boolean (q_b b) = q_b b := by cases b <;> decide
  rw [e]
  obtain ⟨h1, h2, h3, h4, h5, ⟨p1, p2, p3, p4, p5, p6, p7, p8, p9, p10, p11⟩, h7, h8⟩ := h
  exact ⟨h1, h2, h3, h4, h5, ⟨p1, p2, rfl, p4, p5, p6, p7, p8, p9, p10, p11⟩, h7, h8⟩
theorem q_Iv_n (hI : q_Iv c d w m) (k : Nat) (v : Int32) (hv : q_rgz (q_la 14 k) (q_ha d 14 k) v) : q_Iv c d w (q_sA m 14 (upd (m.1 14) k v)) := q_Iv_A (i := 14) hI (q_hf_up (hI.1 14) hv)
/-- an instruction or an interrupt begins -/
theorem q_beg (h : q_R TT x m) (hI : q_Iv c d w m) (hJ : x.2.1 23 7 = 0) : ∃ y m2, dz_N136_87_65 x = some y ∧ dz_M276_64 m = some m2 ∧ q_R TT y m2 ∧ q_Iv c d w m2 ∧ y.2.1 23 7 = 0 ∧ q_rgz 2 9 (y.2.1 23 9) := by
  obtain ⟨m9, e9, i9⟩ := dzj_M276_64 c d w m hI
  suffices H : ∃ y m2, dz_N136_87_65 x = some y ∧ dz_M276_64 m = some m2 ∧ q_R TT y m2 ∧ y.2.1 23 7 = 0 ∧ q_rgz 2 9 (y.2.1 23 9) by
    obtain ⟨y, m2, a1, a2, a3, a4⟩ := H
    rw [e9] at a2
    cases a2
    exact ⟨y, m9, a1, e9, a3, i9, a4⟩
  have g11 : x.1 4 11 = m.1 4 11 := h.g 11
  have g10 : x.1 4 10 = m.1 14 9 := h.r2.2.1
  have fI := q_fbit h hI 2 3 (by omega) (p := 4) rfl
  have fz : x.2.1 23 6 = m.1 15 6 := h.r6.2.2.1
  have frz : ∃ y m2, some (q_sI (q_sI (q_sI x 23 6 0) 23 8 3834) 23 9 7) = some y ∧ dz_M276_64_75 (q_sA (q_sA m 14 (upd (m.1 14) 18 3834)) 15 (upd (m.1 15) 6 (vp_nar .boolean 0))) = some m2 ∧ q_R TT y m2 ∧ y.2.1 23 7 = 0 ∧ q_rgz 2 9 (y.2.1 23 9) := by
    refine ⟨_, _, rfl, rfl, ?_, hJ, ⟨by show 2 ≤ (7 : Int32).toInt; decide, by show (7 : Int32).toInt ≤ 9; decide⟩⟩
    have t := q_R_left (q_R_vec (q_R_fz h false) 3834) hJ 7 ⟨by decide, by decide⟩
    exact t
  have irq : ∃ y m2, some (q_sI (q_sI x 23 8 3838) 23 9 7) = some y ∧ dz_M276_64_75 (q_sA m 14 (upd (m.1 14) 18 3838)) = some m2 ∧ q_R TT y m2 ∧ y.2.1 23 7 = 0 ∧ q_rgz 2 9 (y.2.1 23 9) :=
    ⟨_, _, rfl, rfl, q_R_left (q_R_vec h 3838) hJ 7 ⟨by decide, by decide⟩, hJ, ⟨by show 2 ≤ (7 : Int32).toInt; decide, by show (7 : Int32).toInt ≤ 9; decide⟩⟩
  have ins : ∃ y m2, ((dz_N137_87_65 (q_sI x 23 8 0)).bind fun r159 => some (q_sI (q_sI x 23 8 0) 23 9 r159)) = some y ∧ dz_M276_64_75 (q_sA m 14 (upd (m.1 14) 18 0)) = some m2 ∧ q_R TT y m2 ∧ y.2.1 23 7 = 0 ∧ q_rgz 2 9 (y.2.1 23 9) := by
    have R1 := q_R_vec h 0
    have I1 : q_Iv c d w (q_sA m 14 (upd (m.1 14) 18 0)) := q_Iv_n hI 18 0 ⟨by show (0 : Int) ≤ 0; decide, by show (0 : Int) ≤ 4095; decide⟩
    obtain ⟨n, m2, a1, a2, a3⟩ := q_cyc1 R1 I1 (h.r6.2.1 hJ)
    refine ⟨q_sI (q_sI x 23 8 0) 23 9 n, q_sA m2 14 (upd (m2.1 14) 17 n), ?_, ?_, ?_, hJ, q_cpos a1⟩
    · rw [a1]; rfl
    · unfold dz_M276_64_75
      show ((dz_M253_64 (q_sA m 14 (upd (m.1 14) 18 0)) (m.1 14 4)).bind fun r669 => some (q_sA r669.1 14 (upd (r669.1.1 14) 17 r669.2))) = _
      have a2' : dz_M253_64 (q_sA m 14 (upd (m.1 14) 18 0)) (m.1 14 4) = some (m2, n) := a2
      rw [a2']; rfl
    · exact q_R_left (q_R_33 R1 a3) hJ n (q_rg_le (q_cpos a1) (by decide) (by decide))
  unfold dz_N136_87_65 dz_M276_64
  rw [g10, g11, hJ, fz, fI]
  cases decide ((m.1 14 9) &&& (m.1 4 11) = 0) with
  | true =>
    cases decide (m.1 15 6 = 0) with
    | true => exact ins
    | false => exact frz
  | false =>
    cases decide (m.1 15 6 = 0) with
    | false => exact frz
    | true =>
      cases decide (m.1 15 3 = 0) with
      | true => exact irq
      | false => exact ins
end
end
section
section
variable {TT : (Nat → Int32) → Int32 → (Nat → Int32) → Int32 → Int64 → Int64 → List Int32 → List (Nat → Int32) → (Nat → Int64) → Prop} {x y z m : q_S} {c d w : Int}
/-! the flags: a byte of the class, six truths of the model -/
def q_F (C Z I D V N : Bool) : Int32 := q_b C + 2 * q_b Z + 4 * q_b I + 8 * q_b D + 64 * q_b V + 128 * q_b N
set_option maxRecDepth 16384 in
theorem q_Ft : ∀ C Z I D V N, q_F C Z I D V N ||| 1 = q_F true Z I D V N ∧ q_F C Z I D V N &&& ((1 : Int32) ^^^ (-1)) = q_F false Z I D V N ∧ q_F C Z I D V N ||| 8 = q_F C Z I true V N ∧ q_F C Z I D V N &&& ((8 : Int32) ^^^ (-1)) = q_F C Z I false V N ∧ q_F C Z I D V N ||| 4 = q_F C Z true D V N ∧ q_F C Z I D V N &&& ((4 : Int32) ^^^ (-1)) = q_F C Z false D V N ∧ q_F C Z I D V N ||| 64 = q_F C Z I D true N ∧ q_F C Z I D V N &&& ((64 : Int32) ^^^ (-1)) = q_F C Z I D false N ∧ q_F C Z I D V N ||| 2 = q_F C true I D V N ∧ q_F C Z I D V N &&& ((2 : Int32) ^^^ (-1)) = q_F C false I D V N ∧ q_F C Z I D V N ||| 128 = q_F C Z I D V true ∧ q_F C Z I D V N &&& ((128 : Int32) ^^^ (-1)) = q_F C Z I D V false := by decide
set_option maxRecDepth 16384 in
theorem q_Fj : ∀ C Z I D V N, ((q_F C Z I D V N &&& (-131)) ||| 2) ||| 128 = q_F C true I D V true ∧ ((q_F C Z I D V N &&& (-131)) ||| 2) ||| 0 = q_F C true I D V false ∧ ((q_F C Z I D V N &&& (-131)) ||| 0) ||| 128 = q_F C false I D V true ∧ ((q_F C Z I D V N &&& (-131)) ||| 0) ||| 0 = q_F C false I D V false := by decide
set_option maxRecDepth 16384 in
theorem q_Fb : ∀ C Z I D V N, q_F C Z I D V N &&& 1 = q_b C ∧ decide (q_F C Z I D V N &&& 8 = 0) = !D ∧ q_F C Z I D V N ||| 32 = (((((q_b C + 2 * q_b Z) + 4 * q_b I) + 8 * q_b D) + 0) + 32) + 64 * q_b V + 128 * q_b N ∧ (q_F C Z I D V N ||| 32) ||| 16 = (((((q_b C + 2 * q_b Z) + 4 * q_b I) + 8 * q_b D) + 16) + 32) + 64 * q_b V + 128 * q_b N := by decide
theorem q_nb (b : Bool) : vp_nar .boolean (q_b b) = q_b b := by cases b <;> decide
theorem q_bOf {a : Int32} (h : q_rgz 0 1 a) : a = q_b (decide (a = 1)) := by
  have a0 := h.1
  have a1 := h.2
  rcases (by omega : a.toInt = 0 ∨ a.toInt = 1) with e | e
  · rw [show a = 0 from Int32.toInt_inj.mp e]; rfl
  · rw [show a = 1 from Int32.toInt_inj.mp e]; rfl
/-- the processor's words alone are changed -/
def q_CX (x y : q_S) : Prop := y.1 = x.1 ∧ y.2.2 = x.2.2 ∧ (∀ i, Nat.beq i 23 = false → y.2.1 i = x.2.1 i) ∧ (∀ k, (Nat.ble k 3 || Nat.beq k 5) = false → y.2.1 23 k = x.2.1 23 k)
def q_CM (m m2 : q_S) : Prop := (∀ i, (Nat.beq i 14 || Nat.beq i 15) = false → m2.1 i = m.1 i) ∧ m2.2 = m.2 ∧ (∀ k, Nat.ble k 3 = false → m2.1 14 k = m.1 14 k) ∧ (∀ k, Nat.ble k 5 = false → m2.1 15 k = m.1 15 k)
/-- what the processor's words are -/
def q_cpu (A X Y S : Int32) (C Z I D V N : Bool) (x m : q_S) : Prop := (x.2.1 23 0 = A ∧ m.1 14 0 = A) ∧ (x.2.1 23 1 = X ∧ m.1 14 1 = X) ∧ (x.2.1 23 2 = Y ∧ m.1 14 2 = Y) ∧ (x.2.1 23 3 = S ∧ m.1 14 3 = S) ∧ x.2.1 23 5 = q_F C Z I D V N ∧ m.1 15 5 = q_b C ∧ m.1 15 4 = q_b Z ∧ m.1 15 3 = q_b I ∧ m.1 15 2 = q_b D ∧ m.1 15 1 = q_b V ∧ m.1 15 0 = q_b N
theorem q_cpu_of (h : q_R TT x m) (hI : q_Iv c d w m) : ∃ A X Y S C Z I D V N, q_cpu A X Y S C Z I D V N x m ∧ q_rgz 0 255 A ∧ q_rgz 0 255 X ∧ q_rgz 0 255 Y ∧ q_rgz 0 255 S := by
  obtain ⟨g0, g1, g2, g3⟩ := h.cpu
  have f := h.r6.2.2.2.2.2.2.2.2.2.1
  have b : ∀ k, k < 6 → m.1 15 k = q_b (decide (m.1 15 k = 1)) := fun k _ => q_bOf (hI.1 15 k)
  refine ⟨_, _, _, _, _, _, _, _, _, _, ⟨⟨g0, rfl⟩, ⟨g1, rfl⟩, ⟨g2, rfl⟩, ⟨g3, rfl⟩, ?_, b 5 (by decide), b 4 (by decide), b 3 (by decide), b 2 (by decide), b 1 (by decide), b 0 (by decide)⟩, hI.1 14 0, hI.1 14 1, hI.1 14 2, hI.1 14 3⟩
  rw [f]
  unfold q_F
  rw [← b 5 (by decide), ← b 4 (by decide), ← b 3 (by decide), ← b 2 (by decide), ← b 1 (by decide), ← b 0 (by decide)]
theorem q_R_C {A X Y S : Int32} {C Z I D V N : Bool} {m2 : q_S} (h : q_R TT x m) (e : q_CX x y) (g : q_CM m m2) (q : q_cpu A X Y S C Z I D V N y m2) : q_R TT y m2 := by
  obtain ⟨e1, e2, e3, e4⟩ := e
  obtain ⟨g1, g2, g3, g4⟩ := g
  obtain ⟨q1, q2, q3, q4, q5, q6, q7, q8, q9, q10, q11⟩ := q
  have h1 := h.r1
  have h2 := h.r2
  have h3 := h.r3
  have h4 := h.r4
  have h5 := h.r5
  have h7 := h.r7
  have h8 := h.r8
  obtain ⟨p1, p2, p3, p4, p5, p6, p7, p8, p9, p10, p11⟩ := h.r6
  unfold q_R1 at h1
  unfold q_R2 at h2
  unfold q_R3 at h3
  unfold q_R4 at h4
  unfold q_R5 at h5
  unfold q_R7 at h7
  unfold q_R8 at h8
  refine ⟨?_, ?_, ?_, ?_, ?_, ⟨⟨by rw [q1.1, q1.2], by rw [q2.1, q2.2], by rw [q3.1, q3.2], by rw [q4.1, q4.2]⟩, ?_, ?_, ?_, ?_, ?_, ?_, ?_, ?_, ?_, ?_⟩, ?_, ?_⟩
  · unfold q_R1; simp only [e1, g1 1 rfl, g1 2 rfl, g1 3 rfl]; exact h1
  · unfold q_R2; simp only [e1, g1 4 rfl, g3 9 rfl, g3 10 rfl, g3 11 rfl]; exact h2
  · unfold q_R3; simp only [e1, g3 7 rfl, g3 8 rfl, g3 5 rfl, g3 6 rfl]; exact h3
  · unfold q_R4; simp only [e1, e3 8 rfl, g1 8 rfl, g3 13 rfl, g3 14 rfl, g3 16 rfl, g3 15 rfl]; exact h4
  · unfold q_R5; simp only [e1, e3 10 rfl, g1 7 rfl, g3 12 rfl]; exact h5
  · rw [e4 7 rfl, e4 4 rfl, g3 4 rfl]; exact p2
  · rw [e4 6 rfl, g4 6 rfl]; exact p3
  · rw [e4 7 rfl, g4 7 rfl]; exact p4
  · rw [e4 8 rfl, g3 18 rfl]; exact p5
  · rw [e4 9 rfl, g3 17 rfl]; exact p6
  · rw [e4 10 rfl, g3 19 rfl]; exact p7
  · exact p8
  · rw [e1, e2, e4 11 rfl, g1 9 rfl, g3 20 rfl, g2, g1 16 rfl, g1 17 rfl, g1 18 rfl, g1 19 rfl, g1 20 rfl, g1 21 rfl, g1 22 rfl, g1 23 rfl, g1 24 rfl, g1 25 rfl, g1 26 rfl, g1 27 rfl, g1 28 rfl, g1 29 rfl, g1 30 rfl, g1 31 rfl, g1 32 rfl]; exact p9
  · rw [q5, q6, q7, q8, q9, q10, q11]; rfl
  · rw [e4 7 rfl, e4 9 rfl]; exact p11
  · unfold q_R7; simp only [e1, g1 10 rfl, g1 11 rfl, g1 12 rfl, g1 13 rfl, g1 6 rfl]; exact h7
  · unfold q_R8; simp only [e1, e2, g2, g1 5 rfl]; exact h8
theorem q_CX_refl (x : q_S) : q_CX x x := ⟨rfl, rfl, fun _ _ => rfl, fun _ _ => rfl⟩
theorem q_CM_refl (x : q_S) : q_CM x x := ⟨fun _ _ => rfl, rfl, fun _ _ => rfl, fun _ _ => rfl⟩
theorem q_CX.trans (h : q_CX x y) (g : q_CX y z) : q_CX x z := ⟨g.1.trans h.1, g.2.1.trans h.2.1, fun i hi => (g.2.2.1 i hi).trans (h.2.2.1 i hi), fun i hi => (g.2.2.2 i hi).trans (h.2.2.2 i hi)⟩
theorem q_CM.trans (h : q_CM x y) (g : q_CM y z) : q_CM x z := ⟨fun i hi => (g.1 i hi).trans (h.1 i hi), g.2.1.trans h.2.1, fun i hi => (g.2.2.1 i hi).trans (h.2.2.1 i hi), fun i hi => (g.2.2.2 i hi).trans (h.2.2.2 i hi)⟩
theorem q_CX_k (k : Nat) (v : Int32) (hk : (Nat.ble k 3 || Nat.beq k 5) = true) : q_CX x (q_sI x 23 k v) := by
  refine ⟨rfl, rfl, fun i hi => q_uI_ne _ _ hi, fun j hj => ?_⟩
  show cond (Nat.beq 23 23) (cond (Nat.beq j k) v (x.2.1 23 j)) (x.2.1 23 j) = _
  cases e : Nat.beq j k with
  | false => rfl
  | true => rw [Nat.eq_of_beq_eq_true e, hk] at hj; cases hj
theorem q_CM_n (k : Nat) (v : Int32) (hk : Nat.ble k 3 = true) : q_CM m (q_sA m 14 (upd (m.1 14) k v)) := by
  refine ⟨fun i hi => q_uA_ne _ _ (q_or2 hi).1, rfl, fun j hj => ?_, fun _ _ => rfl⟩
  show upd (m.1 14) k v j = _
  exact q_upN _ _ (fun e => by rw [e, hk] at hj; cases hj)
theorem q_CM_f (k : Nat) (v : Int32) (hk : Nat.ble k 5 = true) : q_CM m (q_sA m 15 (upd (m.1 15) k v)) := by
  refine ⟨fun i hi => q_uA_ne _ _ (q_or2 hi).2, rfl, fun _ _ => rfl, fun j hj => ?_⟩
  show upd (m.1 15) k v j = _
  exact q_upN _ _ (fun e => by rw [e, hk] at hj; cases hj)
/-- judging a result: z and n -/
theorem q_jud {A X Y S : Int32} {C Z I D V N : Bool} (q : q_cpu A X Y S C Z I D V N x m) (v : Int32) : (dz_N150_87 x v).2 = v ∧ (dz_M260_64 m v).2 = v ∧ q_cpu A X Y S C (decide (v = 0)) I D V (decide (127 < v)) (dz_N150_87 x v).1 (dz_M260_64 m v).1 ∧ q_CX x (dz_N150_87 x v).1 ∧ q_CM m (dz_M260_64 m v).1 := by
  obtain ⟨q1, q2, q3, q4, q5, q6, q7, q8, q9, q10, q11⟩ := q
  obtain ⟨j1, j2, j3, j4⟩ := q_Fj C Z I D V N
  have n1 : vp_nar .boolean 1 = q_b true := by decide
  have n0 : vp_nar .boolean 0 = q_b false := by decide
  unfold dz_N150_87 dz_M260_64 q_let
  rw [q5, j1, j2, j3, j4, n1, n0]
  cases decide (v = 0) <;> cases decide (127 < v) <;> exact ⟨rfl, rfl, ⟨q1, q2, q3, q4, rfl, q6, rfl, q8, q9, q10, rfl⟩, q_CX_k 5 _ rfl, (q_CM_f 4 _ rfl).trans (q_CM_f 0 _ rfl)⟩
end
end
