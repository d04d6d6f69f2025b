section
variable {TT TT2 : (Nat → Int32) → Int32 → (Nat → Int32) → Int32 → Int64 → Int64 → List Int32 → List (Nat → Int32) → (Nat → Int64) → Prop} {x y z m : q_S} {c d w : Int} {K : Int64} {F : List Int32} {W : List (Nat → Int32)} {Q : Nat → Int64}
/-- run -/
theorem q_aRun (h : q_RO m x m) (hI : q_Iv c d w m) (n b e0 : Int32) (hn : q_rgz 1 1000 n) (hc : c + 1000 ≤ 1000000) (hd : d + 1000 ≤ 1000000) : ∃ y m2 r, dz_N79_64 x 7 n b e0 = some (y, r) ∧ dz_M235_64 m n = some (m2, r) ∧ q_RO m2 y m2 ∧ q_Act m m2 := by
  have n0 := hn.1
  have n1 := hn.2
  obtain ⟨y, m2, r, a1, a2, a3, a4⟩ := q_run82 (q_ROk h) (q_Ivk hI) n hn hc hd
  obtain ⟨g1, g2⟩ := q_actE a3
  refine ⟨y, _, r, ?_, ?_, g1, g2⟩
  · show ((dz_N82_64_f x n).bind fun r9 => some (r9.1, r9.2)) = _
    rw [a1]; rfl
  · unfold dz_M235_64 q_let
    dsimp only
    rw [q_202T (v := n) (by show (1 : Int) ≤ _; omega) (by show _ ≤ (1000 : Int); omega), q_yM200]
    exact a2
/-- step -/
theorem q_aStep (h : q_RO m x m) (hI : q_Iv c d w m) (a b e0 : Int32) (hJ : x.2.1 23 7 = 0) (hc : c + 1000 ≤ 1000000) (hd : d + 1000 ≤ 1000000) : ∃ y m2 r, dz_N79_64 x 8 a b e0 = some (y, r) ∧ dz_M236_64 m = some (m2, r) ∧ q_RO m2 y m2 ∧ q_Act m m2 := by
  obtain ⟨y, m2, r, a1, a2, a3, a4⟩ := q_stp82 (q_ROk h) (q_Ivk hI) hc hd
  obtain ⟨g1, g2⟩ := q_actE a3
  have eJ : x.2.1 23 7 = m.1 15 7 := h.r6.2.2.2.1
  refine ⟨y, _, r, ?_, ?_, g1, g2⟩
  · show ((dz_N82_64_t x 200).bind fun r9 => some (r9.1, r9.2)) = _
    rw [a1]; rfl
  · unfold dz_M236_64 q_let
    rw [← eJ, decide_eq_true hJ, cond_true, q_yM200]
    dsimp only
    rw [cond_false]
    exact a2
theorem q_R_k0 (h : q_R TT x m) (v : Int32) : q_R TT (q_sI x 23 0 v) (q_sA m 14 (upd (m.1 14) 0 v)) := by
  obtain ⟨h1, h2, h3, h4, h5, ⟨⟨p1, p2, p3, p4⟩, p5⟩, h7, h8⟩ := h
  exact ⟨h1, h2, h3, h4, h5, ⟨⟨rfl, p2, p3, p4⟩, p5⟩, h7, h8⟩
theorem q_R_k1 (h : q_R TT x m) (v : Int32) : q_R TT (q_sI x 23 1 v) (q_sA m 14 (upd (m.1 14) 1 v)) := by
  obtain ⟨h1, h2, h3, h4, h5, ⟨⟨p1, p2, p3, p4⟩, p5⟩, h7, h8⟩ := h
  exact ⟨h1, h2, h3, h4, h5, ⟨⟨p1, rfl, p3, p4⟩, p5⟩, h7, h8⟩
theorem q_R_k2 (h : q_R TT x m) (v : Int32) : q_R TT (q_sI x 23 2 v) (q_sA m 14 (upd (m.1 14) 2 v)) := by
  obtain ⟨h1, h2, h3, h4, h5, ⟨⟨p1, p2, p3, p4⟩, p5⟩, h7, h8⟩ := h
  exact ⟨h1, h2, h3, h4, h5, ⟨⟨p1, p2, rfl, p4⟩, p5⟩, h7, h8⟩
/-- setRegister -/
theorem q_X184_24 (x : q_S) (a1 a2 a3 a4 : Int32) : (dz_X184_98 x a1 a2 a3 a4).2.1 24 = x.2.1 24 := by
  unfold dz_X184_98
  cases decide (x.2.1 34 7 = 0) with
  | true => rfl
  | false =>
    rw [cond_false]
    cases decide (x.2.1 34 5 < 0) with
    | true => rfl
    | false =>
      rw [cond_false]
      cases decide (x.2.1 34 5 < 512) with
      | true => rfl
      | false => rfl
theorem q_aReg (h : q_RO m x m) (a b e0 : Int32) (ha : q_rgz 0 4 a) (b0 : 0 ≤ b.toInt) (b4 : a.toInt = 4 → b.toInt ≤ 4095) (b3 : ¬ a.toInt = 4 → b.toInt ≤ 255) (hl : (m.1 14 17).toInt ≤ 0) : ∃ y m2 r r', dz_N79_64 x 4 a b e0 = some (y, r) ∧ dz_M288_64 m a b = some (m2, r') ∧ q_RO m2 y m2 ∧ q_Act m m2 ∧ ((a.toInt = 4 → x.2.1 23 7 = 0) → r = r') := by
  have a0 := ha.1
  have a1 := ha.2
  have h0 := q_ROk h
  obtain ⟨g0, g1, g2, g3⟩ := h.cpu
  rcases (by omega : a.toInt = 0 ∨ a.toInt = 1 ∨ a.toInt = 2 ∨ a.toInt = 3 ∨ a.toInt = 4) with e | e | e | e | e
  · obtain ⟨f1, f2⟩ := q_actE (q_R_k0 h0 b)
    have := b3 (by omega)
    rw [show a = 0 from Int32.toInt_inj.mp e]
    refine ⟨_, _, x.2.1 23 0, m.1 14 0, rfl, ?_, f1, f2, fun _ => g0⟩
    unfold dz_M288_64 q_let
    dsimp only
    rw [q_202T (v := 0) (lo := 0) (hi := 4) (by decide) (by decide), q_202T (v := b) (lo := 0) (hi := 255) (by show (0 : Int) ≤ _; omega) (by show _ ≤ (255 : Int); omega), q_lt_F (show (m.1 14 17).toInt ≤ (0 : Int32).toInt from hl), q_yM200]
    rfl
  · obtain ⟨f1, f2⟩ := q_actE (q_R_k1 h0 b)
    have := b3 (by omega)
    rw [show a = 1 from Int32.toInt_inj.mp e]
    refine ⟨_, _, x.2.1 23 1, m.1 14 1, rfl, ?_, f1, f2, fun _ => g1⟩
    unfold dz_M288_64 q_let
    dsimp only
    rw [q_202T (v := 1) (lo := 0) (hi := 4) (by decide) (by decide), q_202T (v := b) (lo := 0) (hi := 255) (by show (0 : Int) ≤ _; omega) (by show _ ≤ (255 : Int); omega), q_lt_F (show (m.1 14 17).toInt ≤ (0 : Int32).toInt from hl), q_yM200]
    rfl
  · obtain ⟨f1, f2⟩ := q_actE (q_R_k2 h0 b)
    have := b3 (by omega)
    rw [show a = 2 from Int32.toInt_inj.mp e]
    refine ⟨_, _, x.2.1 23 2, m.1 14 2, rfl, ?_, f1, f2, fun _ => g2⟩
    unfold dz_M288_64 q_let
    dsimp only
    rw [q_202T (v := 2) (lo := 0) (hi := 4) (by decide) (by decide), q_202T (v := b) (lo := 0) (hi := 255) (by show (0 : Int) ≤ _; omega) (by show _ ≤ (255 : Int); omega), q_lt_F (show (m.1 14 17).toInt ≤ (0 : Int32).toInt from hl), q_yM200]
    rfl
  · obtain ⟨f1, f2⟩ := q_actE (q_R_s h0 b)
    have := b3 (by omega)
    rw [show a = 3 from Int32.toInt_inj.mp e]
    refine ⟨_, _, x.2.1 23 3, m.1 14 3, rfl, ?_, f1, f2, fun _ => g3⟩
    unfold dz_M288_64 q_let
    dsimp only
    rw [q_202T (v := 3) (lo := 0) (hi := 4) (by decide) (by decide), q_202T (v := b) (lo := 0) (hi := 255) (by show (0 : Int) ≤ _; omega) (by show _ ≤ (255 : Int); omega), q_lt_F (show (m.1 14 17).toInt ≤ (0 : Int32).toInt from hl), q_yM200]
    rfl
  · obtain ⟨f1, f2⟩ := q_actE (q_R_p h0 b)
    have := b4 e
    rw [show a = 4 from Int32.toInt_inj.mp e]
    refine ⟨_, _, x.2.1 23 4, m.1 14 4, rfl, ?_, f1, f2, fun q => h.r6.2.1 (q rfl)⟩
    unfold dz_M288_64 q_let
    dsimp only
    rw [q_202T (v := 4) (lo := 0) (hi := 4) (by decide) (by decide), q_202T (v := b) (lo := 0) (hi := 4095) (by show (0 : Int) ≤ _; omega) (by show _ ≤ (4095 : Int); omega), q_lt_F (show (m.1 14 17).toInt ≤ (0 : Int32).toInt from hl), q_yM200]
    rfl
theorem q_or14 : ∀ n, n < 16 → (Int32.ofNat n ||| 14) &&& 15 = Int32.ofNat n ||| 14 ∧ q_rgz 0 255 (Int32.ofNat n ||| 14) := by
  unfold q_rgz
  decide
theorem q_sAcm (s : q_S) (i j : Nat) (f g : Nat → Int32) (h : Nat.beq i j = false) : q_sA (q_sA s i f) j g = q_sA (q_sA s j g) i f := by
  have e : (q_sA (q_sA s i f) j g).1 = (q_sA (q_sA s j g) i f).1 := by
    funext k
    show cond (Nat.beq k j) g (cond (Nat.beq k i) f (s.1 k)) = cond (Nat.beq k i) f (cond (Nat.beq k j) g (s.1 k))
    cases e1 : Nat.beq k j with
    | false => cases Nat.beq k i <;> rfl
    | true =>
      cases e2 : Nat.beq k i with
      | false => rfl
      | true =>
        rw [← Nat.eq_of_beq_eq_true e1, ← Nat.eq_of_beq_eq_true e2, Nat.beq_refl] at h
        cases h
  exact Prod.ext e rfl
/-- freeze -/
theorem q_aFrz (h : q_RO m x m) (hI : q_Iv c d w m) (a b e0 : Int32) : ∃ y m2 r, dz_N79_64 x 6 a b e0 = some (y, r) ∧ dz_M291_64 m = (m2, r) ∧ q_RO m2 y m2 ∧ q_Act m m2 := by
  have h0 := q_ROk h
  have g : x.1 4 0 = m.1 4 0 := h.g 0
  have r0 : q_rgz 0 15 (m.1 4 0) := hI.1 4 0
  have r00 := r0.1
  have r01 := r0.2
  obtain ⟨o1, o2⟩ := q_or14 (m.1 4 0).toInt.toNat (by omega)
  rw [q_ofn r0] at o1 o2
  obtain ⟨y, m2, f1, f2, f3, f4, f5, f6⟩ := q_wr94 h0 (q_Ivk hI) 3840 ((m.1 4 0) ||| 14) ⟨by decide, by decide⟩ o2
  have e212 : dz_M211_64 (q_mok m) 0 ((m.1 4 0) ||| 14) = dz_M211_64_126 (4999 + 1) (q_mok m) 0 (((m.1 4 0) ||| 14) &&& 15) 0 := by
    show dz_M211_64_126 5000 (q_mok m) 0 (((m.1 4 0) ||| 14) &&& (((1 : Int32) <<< ((4 : Int32) &&& 31)) - 1)) 0 = _
    rw [show ((1 : Int32) <<< ((4 : Int32) &&& 31)) - 1 = 15 by decide]
  have e215 : dz_M214_64 (q_mok m) 3840 ((m.1 4 0) ||| 14) = some (q_sA (q_mok m) 4 (upd ((q_mok m).1 4) 0 ((m.1 4 0) ||| 14))) := by
    show ((dz_M211_64 (q_mok m) 0 ((m.1 4 0) ||| 14)).bind fun r4 => some r4) = _
    rw [e212, o1, q_126 0 _ 4999 _ rfl]
    rfl
  rw [e215] at f2
  cases f2
  have f7 := q_R_fz f3 true
  obtain ⟨g1, g2⟩ := q_actE f7
  refine ⟨_, _, x.1 4 0, ?_, ?_, g1, g2⟩
  · show ((dz_N81_64 x).bind fun r8 => some (r8.1, r8.2)) = _
    unfold dz_N81_64
    rw [g, f1]; rfl
  · unfold dz_M291_64 q_let
    dsimp only
    rw [g, q_sAcm _ 15 4 _ _ rfl]
    rfl
end
