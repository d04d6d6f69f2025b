section
variable {TT TT2 : (Nat → Int32) → Int32 → (Nat → Int32) → Int32 → Int64 → Int64 → List Int32 → List (Nat → Int32) → (Nat → Int64) → Prop} {x y z m : q_S} {c d w : Int} {K : Int64} {F : List Int32} {W : List (Nat → Int32)} {Q : Nat → Int64}
/-- the class' sum over pressed keys reads their rows alone -/
theorem q_c51 (k7 k7' : q_S → Int32 → Int32 → Int32 → Option Int32) (s s' : q_S) (h : s.1 11 = s'.1 11) (hk : ∀ v2 v3 v4, k7 s v2 v3 v4 = k7' s' v2 v3 v4) : ∀ (f : Nat) (v2 v3 v4 v5 : Int32), dz_N182_74_51 k7 f s v2 v3 v4 v5 = dz_N182_74_51 k7' f s' v2 v3 v4 v5 := by
  intro f
  induction f with
  | zero => intro v2 v3 v4 v5; rfl
  | succ f ih =>
    intro v2 v3 v4 v5
    rw [dzs_N182_74_51, dzs_N182_74_51]
    dsimp only
    rw [h, hk, ih, ih]
theorem q_c16 (k7 k7' : q_S → Int32 → Int32 → Int32 → Option Int32) (s s' : q_S) (h : s.1 11 = s'.1 11) (hk : ∀ v2 v3 v4, k7 s v2 v3 v4 = k7' s' v2 v3 v4) : ∀ (f : Nat) (v2 v3 v4 v5 : Int32), dz_N182_74_16 k7 f s v2 v3 v4 v5 = dz_N182_74_16 k7' f s' v2 v3 v4 v5 := by
  intro f
  induction f with
  | zero => intro v2 v3 v4 v5; rfl
  | succ f ih =>
    intro v2 v3 v4 v5
    rw [dzs_N182_74_16, dzs_N182_74_16]
    generalize e51 : dz_N182_74_51 k7 5000 s v2 v3 v4 0 = r51
    generalize e51' : dz_N182_74_51 k7' 5000 s' v2 v3 v4 0 = r51'
    have e9 : r51 = r51' := by rw [← e51, ← e51']; exact q_c51 k7 k7' s s' h hk 5000 v2 v3 v4 0
    dsimp only
    rw [h, ih, ih, e9]
theorem q_c7 (s s' : q_S) (h : s.1 11 = s'.1 11) : ∀ (f : Nat) (v2 v3 v4 : Int32), dz_N182_74_7 f s v2 v3 v4 = dz_N182_74_7 f s' v2 v3 v4 := by
  intro f
  induction f with
  | zero => intro v2 v3 v4; rfl
  | succ f ih =>
    intro v2 v3 v4
    rw [dzs_N182_74_7, dzs_N182_74_7]
    dsimp only
    rw [q_c16 (dz_N182_74_7 f) (dz_N182_74_7 f) s s' h ih 5000 v2 v3 v4 0]
theorem q_cs182 (s : q_S) (r : Int32) : dz_N182_74 s r = q_cs (s.1 11) r := by
  unfold q_cs dz_N182_74
  generalize (5000 : Nat) = N
  exact q_c7 s (fun _ => s.1 11, fun _ _ => 0, fun _ _ => 0) rfl N r 0 0
/-- the class' loop that sums the pressed keys for each choice of columns -/
theorem q_lp45 : ∀ (n f : Nat) (s : q_S) (v5 v6 : Int32), q_iN s → v6.toInt + n = 16 → 0 ≤ v6.toInt → n ≤ f → ∃ g, dz_N181_74_45 (f + 1) s v5 v6 = some (q_sA s 12 g, v5) ∧ (∀ k : Nat, (k : Int) < v6.toInt → g k = s.1 12 k) ∧ (∀ r : Int32, v6.toInt ≤ r.toInt → r.toInt ≤ 15 → q_cs (s.1 11) r = some (g r.toNatClampNeg)) := by
  intro n
  induction n with
  | zero =>
    intro f s v5 v6 hN h1 h2 h3
    refine ⟨s.1 12, ?_, fun _ _ => rfl, fun k hk hk2 => absurd hk (by omega)⟩
    rw [dzs_N181_74_45]
    dsimp only
    rw [q_lt_T (by show (15 : Int) < _; omega), cond_true, q_sAid]
  | succ n ih =>
    intro f s v5 v6 hN h1 h2 h3
    obtain ⟨f, rfl⟩ : ∃ f', f = f' + 1 := ⟨f - 1, by omega⟩
    have e1 : (v6 + 1).toInt = v6.toInt + 1 := q_addI ⟨by omega, by omega⟩ ⟨by decide, by decide⟩
    have ek : v6.toNatClampNeg = v6.toInt.toNat := rfl
    obtain ⟨r2, er, -⟩ := dzj_N182_74 s hN v6
    obtain ⟨g, a1, a2, a3⟩ := ih f (q_sA s 12 (upd (s.1 12) v6.toNatClampNeg r2)) v5 (v6 + 1) hN (by omega) (by omega) (by omega)
    have hu : ∀ k, (q_sA s 12 (upd (s.1 12) v6.toNatClampNeg r2)).1 12 k = upd (s.1 12) v6.toNatClampNeg r2 k := fun _ => rfl
    refine ⟨g, ?_, fun k hk => ?_, fun r hr hr2 => ?_⟩
    · rw [dzs_N181_74_45]
      generalize dz_N181_74_45 (f + 1) = kk at a1 ⊢
      dsimp only
      rw [q_lt_F (by show _ ≤ (15 : Int); omega), cond_false, er, Option.bind_some, q_in_rg (l := 0) (u := 15) ⟨h2, by omega⟩ (by decide) (by decide), cond_true, a1, q_sAsA]
    · rw [a2 k (by omega), hu, q_upN _ _ (by omega)]
    · by_cases e : r.toInt = v6.toInt
      · rw [show r = v6 from Int32.toInt_inj.mp e, a2 _ (by omega), hu, q_upE _ _ rfl, ← q_cs182, er]
      · exact a3 r (by omega) hr2
def q_k4 (p q r s : Bool) : Int32 := q_b p + 2 * q_b q + 4 * q_b r + 8 * q_b s
theorem q_k4t : ∀ p q r s v, (((q_k4 p q r s) &&& (((1 : Int32) <<< ((0 : Int32) &&& 31)) ^^^ (-1))) ||| (q_b v <<< ((0 : Int32) &&& 31)) = q_k4 v q r s ∧ ((q_k4 p q r s) >>> ((0 : Int32) &&& 31)) &&& 1 = q_b p) ∧ (((q_k4 p q r s) &&& (((1 : Int32) <<< ((1 : Int32) &&& 31)) ^^^ (-1))) ||| (q_b v <<< ((1 : Int32) &&& 31)) = q_k4 p v r s ∧ ((q_k4 p q r s) >>> ((1 : Int32) &&& 31)) &&& 1 = q_b q) ∧ (((q_k4 p q r s) &&& (((1 : Int32) <<< ((2 : Int32) &&& 31)) ^^^ (-1))) ||| (q_b v <<< ((2 : Int32) &&& 31)) = q_k4 p q v s ∧ ((q_k4 p q r s) >>> ((2 : Int32) &&& 31)) &&& 1 = q_b r) ∧ (((q_k4 p q r s) &&& (((1 : Int32) <<< ((3 : Int32) &&& 31)) ^^^ (-1))) ||| (q_b v <<< ((3 : Int32) &&& 31)) = q_k4 p q r v ∧ ((q_k4 p q r s) >>> ((3 : Int32) &&& 31)) &&& 1 = q_b s) := by decide
/-- key -/
theorem q_aKey (h : q_RO m x m) (hI : q_Iv c d w m) (a b : Int32) (v : Bool) (ha : q_rgz 0 3 a) (hb : q_rgz 0 3 b) : ∃ y m2 r, dz_N79_64 x 9 a b (q_b v) = some (y, q_b r) ∧ dz_M297_64 m a b (q_b v) = some (m2, r) ∧ q_RO m2 y m2 ∧ q_Act m m2 := by
  have a0 := ha.1
  have a1 := ha.2
  have b0 := hb.1
  have b1 := hb.2
  have h0 := q_ROk h
  have z0 : (0 : Int32).toInt = 0 := rfl
  have ea : a &&& 3 = a := by
    apply Int32.toInt_inj.mp
    rw [q_andI 2 (by decide) ha (by decide) (show (3 : Int32).toInt = 2 ^ 2 - 1 from rfl)]
    show a.toInt % 4 = _
    omega
  have e4 : (4 * a).toInt = 4 * a.toInt := q_mulI (n := 4) rfl (by decide) (by decide) ⟨by omega, by omega⟩
  have ei : ((4 * a) + b).toInt = 4 * a.toInt + b.toInt := by rw [q_addI ⟨by omega, by omega⟩ ⟨by omega, by omega⟩, e4]
  have ri : q_rgz 0 15 ((4 * a) + b) := ⟨by omega, by omega⟩
  have ek : ((4 * a) + b).toNatClampNeg = 4 * a.toNatClampNeg + b.toInt.toNat := by
    show ((4 * a) + b).toInt.toNat = 4 * a.toInt.toNat + b.toInt.toNat
    omega
  have ka : a.toNatClampNeg < 4 := by
    show a.toInt.toNat < 4
    omega
  have g7 : ∀ k, m.1 7 k = q_b (decide (m.1 7 k = 1)) := fun k => q_bOf (hI.1 7 k)
  have hN : q_iN x := by
    have i6 : q_rgz 0 1 (m.1 15 6) := hI.1 15 6
    have i7 : q_rgz 0 1 (m.1 15 7) := hI.1 15 7
    exact ⟨by rw [h.r6.2.2.1]; exact i6, by rw [h.r6.2.2.2.1]; exact i7⟩
  -- the row of the class, as Booleans
  generalize hA : a.toNatClampNeg = A at *
  have e11 : x.1 11 A = q_k4 (decide (m.1 7 (4 * A) = 1)) (decide (m.1 7 (4 * A + 1) = 1)) (decide (m.1 7 (4 * A + 2) = 1)) (decide (m.1 7 (4 * A + 3) = 1)) := by
    unfold q_k4
    rw [← g7, ← g7, ← g7, ← g7]
    exact h.r5.2.1 A ka
  -- the new row, and what the key was
  have row : ∃ new, ((x.1 11 A) &&& (((1 : Int32) <<< (b &&& 31)) ^^^ (-1))) ||| (q_b v <<< (b &&& 31)) = new ∧ new = upd (m.1 7) (4 * A + b.toInt.toNat) (q_b v) (4 * A) + 2 * upd (m.1 7) (4 * A + b.toInt.toNat) (q_b v) (4 * A + 1) + 4 * upd (m.1 7) (4 * A + b.toInt.toNat) (q_b v) (4 * A + 2) + 8 * upd (m.1 7) (4 * A + b.toInt.toNat) (q_b v) (4 * A + 3) ∧ ((x.1 11 A) >>> (b &&& 31)) &&& 1 = q_b (decide (m.1 7 (4 * A + b.toInt.toNat) = 1)) := by
    rw [e11]
    obtain ⟨⟨t1, t2⟩, ⟨t3, t4⟩, ⟨t5, t6⟩, t7, t8⟩ := q_k4t (decide (m.1 7 (4 * A) = 1)) (decide (m.1 7 (4 * A + 1) = 1)) (decide (m.1 7 (4 * A + 2) = 1)) (decide (m.1 7 (4 * A + 3) = 1)) v
    rcases (by omega : b.toInt = 0 ∨ b.toInt = 1 ∨ b.toInt = 2 ∨ b.toInt = 3) with e | e | e | e
    · rw [show b = 0 from Int32.toInt_inj.mp e]
      refine ⟨_, t1, ?_, t2⟩
      unfold q_k4
      rw [← g7, ← g7, ← g7]
      show _ = upd (m.1 7) (4 * A) (q_b v) (4 * A) + 2 * upd (m.1 7) (4 * A) (q_b v) (4 * A + 1) + 4 * upd (m.1 7) (4 * A) (q_b v) (4 * A + 2) + 8 * upd (m.1 7) (4 * A) (q_b v) (4 * A + 3)
      rw [q_upE _ _ rfl, q_upN _ _ (by omega), q_upN _ _ (by omega), q_upN _ _ (by omega)]
    · rw [show b = 1 from Int32.toInt_inj.mp e]
      refine ⟨_, t3, ?_, t4⟩
      unfold q_k4
      rw [← g7, ← g7, ← g7]
      show _ = upd (m.1 7) (4 * A + 1) (q_b v) (4 * A) + 2 * upd (m.1 7) (4 * A + 1) (q_b v) (4 * A + 1) + 4 * upd (m.1 7) (4 * A + 1) (q_b v) (4 * A + 2) + 8 * upd (m.1 7) (4 * A + 1) (q_b v) (4 * A + 3)
      rw [q_upN _ _ (by omega), q_upE _ _ rfl, q_upN _ _ (by omega), q_upN _ _ (by omega)]
    · rw [show b = 2 from Int32.toInt_inj.mp e]
      refine ⟨_, t5, ?_, t6⟩
      unfold q_k4
      rw [← g7, ← g7, ← g7]
      show _ = upd (m.1 7) (4 * A + 2) (q_b v) (4 * A) + 2 * upd (m.1 7) (4 * A + 2) (q_b v) (4 * A + 1) + 4 * upd (m.1 7) (4 * A + 2) (q_b v) (4 * A + 2) + 8 * upd (m.1 7) (4 * A + 2) (q_b v) (4 * A + 3)
      rw [q_upN _ _ (by omega), q_upN _ _ (by omega), q_upE _ _ rfl, q_upN _ _ (by omega)]
    · rw [show b = 3 from Int32.toInt_inj.mp e]
      refine ⟨_, t7, ?_, t8⟩
      unfold q_k4
      rw [← g7, ← g7, ← g7]
      show _ = upd (m.1 7) (4 * A + 3) (q_b v) (4 * A) + 2 * upd (m.1 7) (4 * A + 3) (q_b v) (4 * A + 1) + 4 * upd (m.1 7) (4 * A + 3) (q_b v) (4 * A + 2) + 8 * upd (m.1 7) (4 * A + 3) (q_b v) (4 * A + 3)
      rw [q_upN _ _ (by omega), q_upN _ _ (by omega), q_upN _ _ (by omega), q_upE _ _ rfl]
  obtain ⟨new, n1, n2, n3⟩ := row
  obtain ⟨g, l1, l2, l3⟩ := q_lp45 16 4999 (q_sA x 11 (upd (x.1 11) A new)) (q_b (decide (m.1 7 (4 * A + b.toInt.toNat) = 1))) 0 hN (by rw [z0]; rfl) (by omega) (by omega)
  have f3 : q_RO (q_mok m) (q_sA (q_sA x 11 (upd (x.1 11) A new)) 12 g) (q_sA (q_mok m) 7 (upd ((q_mok m).1 7) (4 * A + b.toInt.toNat) (q_b v))) := by
    obtain ⟨h1, h2, h3, h4, ⟨p1, p2, p3⟩, h6, h7, h8⟩ := h0
    refine ⟨h1, h2, h3, h4, ⟨p1, fun r hr => ?_, fun r hr => l3 r (by have := hr.1; omega) hr.2⟩, h6, h7, h8⟩
    show upd (x.1 11) A new r = upd (m.1 7) (4 * A + b.toInt.toNat) (q_b v) (4 * r) + 2 * upd (m.1 7) (4 * A + b.toInt.toNat) (q_b v) (4 * r + 1) + 4 * upd (m.1 7) (4 * A + b.toInt.toNat) (q_b v) (4 * r + 2) + 8 * upd (m.1 7) (4 * A + b.toInt.toNat) (q_b v) (4 * r + 3)
    by_cases e : r = A
    · rw [q_upE _ _ e, e]; exact n2
    · rw [q_upN _ _ e, q_upN _ _ (by omega), q_upN _ _ (by omega), q_upN _ _ (by omega), q_upN _ _ (by omega)]
      exact p2 r hr
  obtain ⟨g1, g2⟩ := q_actE f3
  refine ⟨_, _, decide (m.1 7 (4 * A + b.toInt.toNat) = 1), ?_, ?_, g1, g2⟩
  · show ((dz_N181_74 x a b (q_b v)).bind fun r11 => some (r11.1, r11.2)) = _
    unfold dz_N181_74 q_let
    dsimp only
    rw [ea, hA, n1, n3]
    have l1' : dz_N181_74_45 5000 (q_sA x 11 (upd (x.1 11) A new)) (q_b (decide (m.1 7 (4 * A + b.toInt.toNat) = 1))) 0 = _ := l1
    rw [l1']; rfl
  · have hz : q_z1 (m.1 7 (4 * A + b.toInt.toNat)) = true := q_z1_rg (hI.1 7 _)
    unfold dz_M297_64 q_let
    dsimp only
    rw [q_202T (v := a) (lo := 0) (hi := 3) (by show (0 : Int) ≤ _; omega) (by show _ ≤ (3 : Int); omega), q_202T (v := b) (lo := 0) (hi := 3) (by show (0 : Int) ≤ _; omega) (by show _ ≤ (3 : Int); omega), q_yM200, q_in_rg ri (by decide) (by decide), ek, q_nb]
    show cond (q_z1 (m.1 7 (4 * A + b.toInt.toNat))) _ none = _
    rw [hz]
    rfl
end
