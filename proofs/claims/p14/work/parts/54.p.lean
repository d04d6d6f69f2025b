section
variable {TT TT2 : (Nat → Int32) → Int32 → (Nat → Int32) → Int32 → Int64 → Int64 → List Int32 → List (Nat → Int32) → (Nat → Int64) → Prop} {x y z m : q_S} {c d w : Int} {K : Int64} {F : List Int32} {W : List (Nat → Int32)} {Q : Nat → Int64}
theorem q_in_nat {i : Int32} {n : Nat} (h : q_in i n = true) : i.toNatClampNeg < n := by
  unfold q_in at h
  rw [Bool.and_eq_true] at h
  exact of_decide_eq_true h.2
theorem q_d51 (k7 k7' : q_S → Int32 → Int32 → Int32 → Option Int32) (s s' : q_S) (h : ∀ k, k < 4 → s.1 11 k = s'.1 11 k) (hk : ∀ v2 v3 v4, k7 s v2 v3 v4 = k7' s' v2 v3 v4) : ∀ (f : Nat) (v2 v3 v4 v5 : Int32), dz_N182_74_51 k7 f s v2 v3 v4 v5 = dz_N182_74_51 k7' f s' v2 v3 v4 v5 := by
  intro f
  induction f with
  | zero => intro v2 v3 v4 v5; rfl
  | succ f ih =>
    intro v2 v3 v4 v5
    rw [dzs_N182_74_51, dzs_N182_74_51]
    dsimp only
    cases e : q_in v5 4 with
    | false => rw [hk]; rfl
    | true => rw [h v5.toNatClampNeg (q_in_nat e), hk, ih, ih]
theorem q_d16 (k7 k7' : q_S → Int32 → Int32 → Int32 → Option Int32) (s s' : q_S) (h : ∀ k, k < 4 → s.1 11 k = s'.1 11 k) (hk : ∀ v2 v3 v4, k7 s v2 v3 v4 = k7' s' v2 v3 v4) : ∀ (f : Nat) (v2 v3 v4 v5 : Int32), dz_N182_74_16 k7 f s v2 v3 v4 v5 = dz_N182_74_16 k7' f s' v2 v3 v4 v5 := by
  intro f
  induction f with
  | zero => intro v2 v3 v4 v5; rfl
  | succ f ih =>
    intro v2 v3 v4 v5
    rw [dzs_N182_74_16, dzs_N182_74_16]
    generalize e51 : dz_N182_74_51 k7 5000 s v2 v3 v4 0 = r51
    generalize e51' : dz_N182_74_51 k7' 5000 s' v2 v3 v4 0 = r51'
    have e9 : r51 = r51' := by rw [← e51, ← e51']; exact q_d51 k7 k7' s s' h hk 5000 v2 v3 v4 0
    dsimp only
    cases e : q_in v5 4 with
    | false => simp only [cond_false, ih, e9]
    | true => rw [h v5.toNatClampNeg (q_in_nat e), ih, ih, e9]
theorem q_d7 (s s' : q_S) (h : ∀ k, k < 4 → s.1 11 k = s'.1 11 k) : ∀ (f : Nat) (v2 v3 v4 : Int32), dz_N182_74_7 f s v2 v3 v4 = dz_N182_74_7 f s' v2 v3 v4 := by
  intro f
  induction f with
  | zero => intro v2 v3 v4; rfl
  | succ f ih =>
    intro v2 v3 v4
    rw [dzs_N182_74_7, dzs_N182_74_7]
    dsimp only
    rw [q_d16 (dz_N182_74_7 f) (dz_N182_74_7 f) s s' h ih 5000 v2 v3 v4 0]
theorem q_csP {f g : Nat → Int32} (h : ∀ k, k < 4 → f k = g k) (r : Int32) : q_cs f r = q_cs g r := by
  unfold q_cs dz_N182_74
  generalize (5000 : Nat) = N
  exact q_d7 (fun _ => f, fun _ _ => 0, fun _ _ => 0) (fun _ => g, fun _ _ => 0, fun _ _ => 0) h N r 0 0
/-- alike in all that the relation reads -/
def q_agX (x y : q_S) : Prop := (∀ k, k < 4096 → y.1 3 k = x.1 3 k) ∧ (∀ k, k < 48 → y.1 4 k = x.1 4 k) ∧ (∀ k, k < 512 → y.1 5 k = x.1 5 k) ∧ (∀ k, k < 2048 → y.1 6 k = x.1 6 k) ∧ (∀ k, k < 2 → y.1 7 k = x.1 7 k) ∧ (∀ k, k < 40 → y.1 9 k = x.1 9 k) ∧ (∀ k, k < 4 → y.1 11 k = x.1 11 k) ∧ (∀ k, k < 16 → y.1 12 k = x.1 12 k) ∧ (∀ k, k < 16 → y.1 24 k = x.1 24 k) ∧ (∀ k, k < 3 → y.1 26 k = x.1 26 k) ∧ (∀ k, k < 3 → y.1 27 k = x.1 27 k) ∧ (∀ k, k < 3 → y.1 28 k = x.1 28 k) ∧ (∀ k, k < 3 → y.1 29 k = x.1 29 k) ∧ (∀ k, k < 40 → y.1 30 k = x.1 30 k) ∧ (∀ k, k < 1024 → y.1 31 k = x.1 31 k) ∧ y.2.1 8 1 = x.2.1 8 1 ∧ y.2.1 8 2 = x.2.1 8 2 ∧ y.2.1 8 3 = x.2.1 8 3 ∧ y.2.1 8 4 = x.2.1 8 4 ∧ y.2.1 10 2 = x.2.1 10 2 ∧ y.2.1 23 0 = x.2.1 23 0 ∧ y.2.1 23 1 = x.2.1 23 1 ∧ y.2.1 23 2 = x.2.1 23 2 ∧ y.2.1 23 3 = x.2.1 23 3 ∧ y.2.1 23 4 = x.2.1 23 4 ∧ y.2.1 23 5 = x.2.1 23 5 ∧ y.2.1 23 6 = x.2.1 23 6 ∧ y.2.1 23 7 = x.2.1 23 7 ∧ y.2.1 23 8 = x.2.1 23 8 ∧ y.2.1 23 9 = x.2.1 23 9 ∧ y.2.1 23 10 = x.2.1 23 10 ∧ y.2.1 23 11 = x.2.1 23 11 ∧ y.2.2 1 8 = x.2.2 1 8 ∧ y.2.2 0 4 = x.2.2 0 4
def q_agM (m z : q_S) : Prop := (∀ k, k < 4096 → z.1 1 k = m.1 1 k) ∧ (∀ k, k < 512 → z.1 2 k = m.1 2 k) ∧ (∀ k, k < 2048 → z.1 3 k = m.1 3 k) ∧ (∀ k, k < 48 → z.1 4 k = m.1 4 k) ∧ (∀ k, k < 1024 → z.1 5 k = m.1 5 k) ∧ (∀ k, k < 40 → z.1 6 k = m.1 6 k) ∧ (∀ k, k < 16 → z.1 7 k = m.1 7 k) ∧ (∀ k, k < 40 → z.1 8 k = m.1 8 k) ∧ (∀ k, k < 16 → z.1 9 k = m.1 9 k) ∧ (∀ k, k < 3 → z.1 10 k = m.1 10 k) ∧ (∀ k, k < 3 → z.1 11 k = m.1 11 k) ∧ (∀ k, k < 3 → z.1 12 k = m.1 12 k) ∧ (∀ k, k < 3 → z.1 13 k = m.1 13 k) ∧ (∀ k, k < 24 → z.1 14 k = m.1 14 k) ∧ (∀ k, k < 8 → z.1 15 k = m.1 15 k) ∧ z.2.2 0 15 = m.2.2 0 15 ∧ z.2.2 0 16 = m.2.2 0 16
theorem q_R_ag (h : q_R TT x m) (ax : q_agX x y) (am : q_agM m z) (hn : (m.1 14 13).toInt ≤ 40) (hp : 0 ≤ (m.1 14 14).toInt) (t : TT2 (y.1 24) (y.2.1 23 11) (z.1 9) (z.1 14 20) (y.2.2 0 4) (z.2.2 0 16) [z.2.1 0 17, z.2.1 0 34, z.2.1 0 35, z.2.1 0 39] [z.1 16, z.1 17, z.1 18, z.1 19, z.1 20, z.1 21, z.1 22, z.1 23, z.1 24, z.1 25, z.1 26, z.1 27, z.1 28, z.1 29, z.1 30, z.1 31, z.1 32] (z.2.2 31)) : q_R TT2 y z := by
  obtain ⟨a3, a4, a5, a6, a7, a9, a11, a12, a24, a26, a27, a28, a29, a30, a31, i8_1, i8_2, i8_3, i8_4, i10_2, i23_0, i23_1, i23_2, i23_3, i23_4, i23_5, i23_6, i23_7, i23_8, i23_9, i23_10, i23_11, j8, j4⟩ := ax
  obtain ⟨m1, m2, m3, m4, m5, m6, m7, m8, m9, m10, m11, m12, m13, m14, m15, n15, n16⟩ := am
  obtain ⟨⟨h1a, h1b, h1c⟩, ⟨⟨h2a, h2b⟩, h2c, h2d, h2e⟩, h3, ⟨b1, b2, b3, b4, b5, b6, b7, b8⟩, ⟨c1, c2, c3⟩, ⟨⟨p1, p1b, p1c, p1d⟩, p2, p3, p4, p5, p6, p7, p8, p9, p10, p11⟩, ⟨h7a, h7b⟩, ⟨⟨h8a, h8b⟩, h8c⟩⟩ := h
  have f0 := m14 0 (by decide)
  have f1 := m14 1 (by decide)
  have f2 := m14 2 (by decide)
  have f3 := m14 3 (by decide)
  have f4 := m14 4 (by decide)
  have f5 := m14 5 (by decide)
  have f6 := m14 6 (by decide)
  have f7 := m14 7 (by decide)
  have f8 := m14 8 (by decide)
  have f9 := m14 9 (by decide)
  have f10 := m14 10 (by decide)
  have f11 := m14 11 (by decide)
  have f12 := m14 12 (by decide)
  have f13 := m14 13 (by decide)
  have f14 := m14 14 (by decide)
  have f15 := m14 15 (by decide)
  have f16 := m14 16 (by decide)
  have f17 := m14 17 (by decide)
  have f18 := m14 18 (by decide)
  have f19 := m14 19 (by decide)
  have kp : (m.1 14 14).toNatClampNeg = (m.1 14 14).toInt.toNat := rfl
  have kn : (m.1 14 13).toNatClampNeg = (m.1 14 13).toInt.toNat := rfl
  refine ⟨⟨fun k hk => ?_, fun k hk => ?_, fun k hk => ?_⟩, ⟨⟨fun k hk hq => ?_, fun k hk hk2 => ?_⟩, ?_, ?_, ?_⟩, ?_, ⟨fun k hk => ?_, ?_, ?_, ?_, ?_, fun k hk => ?_, ?_, ?_⟩, ⟨?_, fun r hr => ?_, fun r hr => ?_⟩, ⟨⟨?_, ?_, ?_, ?_⟩, ?_, ?_, ?_, ?_, ?_, ?_, trivial, t, ?_, ?_⟩, ⟨fun k hk => ?_, fun k hk => ?_⟩, ⟨⟨fun k hk => ?_, ?_⟩, ?_⟩⟩
  · rw [a3 k hk, m1 k hk]; exact h1a k hk
  · rw [a5 k hk, m2 k hk]; exact h1b k hk
  · rw [a6 k hk, m3 k hk]; exact h1c k hk
  · rw [a4 k (by omega), m4 k (by omega)]; exact h2a k hk hq
  · rw [a4 k hk2]; exact h2b k hk hk2
  · rw [a4 10 (by decide), f9]; exact h2c
  · rw [a4 29 (by decide), f10]; exact h2d
  · rw [a4 30 (by decide), f11]; exact h2e
  · unfold q_R3 at h3 ⊢
    rw [a4 12 (by decide), a4 13 (by decide), a4 14 (by decide), a4 15 (by decide), f7, f8, f5, f6, a7 0 (by decide), a7 1 (by decide)]
    exact h3
  · rw [a9 k hk, m8 k hk]; exact b1 k hk
  · rw [i8_1, f13]; exact b2
  · rw [i8_2, f14]; exact b3
  · rw [i8_4, f16]; exact b4
  · rw [i8_2, i8_1]; exact b5
  · rw [i8_1] at hk
    have hk' := hk
    rw [b2] at hk'
    rw [a9 k (by omega)]; exact b6 k hk
  · intro q
    rw [i8_2, i8_1] at q
    have q' := q
    rw [b2, b3] at q'
    rw [f15, i8_2, i8_3, a9 (x.2.1 8 2).toNatClampNeg (by rw [b3]; omega)]
    exact b7 q
  · intro q
    rw [i8_2, i8_1] at q
    rw [i8_3]
    exact b8 q
  · rw [i10_2, f12]; exact c1
  · rw [a11 r hr, m7 _ (by omega), m7 _ (by omega), m7 _ (by omega), m7 _ (by omega)]; exact c2 r hr
  · have r0 := hr.1
    have r1 := hr.2
    have e : r.toNatClampNeg = r.toInt.toNat := rfl
    rw [a12 _ (by omega), q_csP a11 r]
    exact c3 r hr
  · rw [i23_0, f0]; exact p1
  · rw [i23_1, f1]; exact p1b
  · rw [i23_2, f2]; exact p1c
  · rw [i23_3, f3]; exact p1d
  · rw [i23_7, i23_4, f4]; exact p2
  · rw [i23_6, m15 6 (by decide)]; exact p3
  · rw [i23_7, m15 7 (by decide)]; exact p4
  · rw [i23_8, f18]; exact p5
  · rw [i23_9, f17]; exact p6
  · rw [i23_10, f19]; exact p7
  · rw [i23_5, m15 0 (by decide), m15 1 (by decide), m15 2 (by decide), m15 3 (by decide), m15 4 (by decide), m15 5 (by decide)]; exact p10
  · rw [i23_7, i23_9]; exact p11
  · rw [a26 k hk, a27 k hk, a28 k hk, a29 k hk, m10 k hk, m11 k hk, m12 k hk, m13 k hk]; exact h7a k hk
  · rw [a30 k hk, m6 k hk]; exact h7b k hk
  · rw [a31 k hk, m5 k hk]; exact h8a k hk
  · rw [a4 1 (by decide)]; exact h8b
  · rw [j8, n15]; exact h8c
end
