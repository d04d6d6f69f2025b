section
variable {x y z m m2 : q_S} {c d w k : Int}
/-- a turn: class and model give an answer, and stand beside one another as before -/
def q_TN {T : Type} (k : Int) (ox : Option (q_S × Int32 × Nat)) (om : Option (q_S × T)) (cv : T → Int64) (ex : Prop) : Prop := ∃ r0 r1, ox = some r0 ∧ om = some r1 ∧ q_LX (k + 1) r1.1 r0.1 ∧ r0.2.2 ≤ 1 ∧ r1.1.2.1 0 39 = r0.2.1 ∧ (ex → r0.2.1 = 0 → r0.1.2.2 172 0 = cv r1.2)
theorem q_TNbad {T : Type} {cv : T → Int64} {ex : Prop} {ox : Option (q_S × Int32 × Nat)} {om : Option (q_S × T)} (h : q_LX k m x) (v : Int32) (t : T) (hv : ¬ v = 0) (e1 : ox = some (x, v, 1)) (e2 : om = some (q_sI m 0 39 v, t)) : q_TN k ox om cv ex :=
  ⟨_, _, e1, e2, q_LXbad h v, Nat.le_refl _, rfl, fun _ q => absurd q hv⟩
theorem q_TNok {T : Type} {cv : T → Int64} {ex : Prop} {ox : Option (q_S × Int32 × Nat)} {om : Option (q_S × T)} (h : q_LX k m x) (hk : k < 512) (a1 a2 a3 a4 : Int32) (f : Nat → Int64) (v : Int64) (t : T) (hy : q_RO m2 y m2) (ha : q_Act m m2) (e1 : ox = some (q_sL (q_pt 32 3 1 73 (dz_X184_98 x a1 a2 a3 a4) y) 172 (vp_updL f 0 v), 0, 0)) (e2 : om = some (m2, t)) (e3 : ex → v = cv t) : q_TN k ox om cv ex :=
  ⟨_, _, e1, e2, q_LXact h hk a1 a2 a3 a4 _ hy ha, Nat.zero_le _, ha.2.2.2.2.2, fun q _ => by
    show vp_updL f 0 v 0 = cv t
    rw [q_upL1 _ _ _ _ rfl, e3 q]⟩
theorem q_ROkp (h : q_RO m (q_vwM x) m) (a1 a2 a3 a4 : Int32) : q_RO m (q_vw 32 1 73 (dz_X184_98 x a1 a2 a3 a4)) m := by
  unfold dz_X184_98
  cases decide (x.2.1 34 7 = 0) with
  | true => exact h
  | false =>
    rw [cond_false]
    cases decide (x.2.1 34 5 < 0) with
    | true => exact h
    | false =>
      rw [cond_false]
      cases decide (x.2.1 34 5 < 512) with
      | true => exact h
      | false => exact h
theorem q_tPoke (h : q_LX k m x) (hI : q_Iv c d w m) (hk : k < 512) (a b : Int32) : q_TN k (dz_X0_64_236 x a b) (dz_M215_64 m a b) Int32.toInt64 True := by
  have z0 : (0 : Int32).toInt = 0 := rfl
  have z255 : (255 : Int32).toInt = 255 := rfl
  have z256 : (256 : Int32).toInt = 256 := rfl
  have z4095 : (4095 : Int32).toInt = 4095 := rfl
  have z4096 : (4096 : Int32).toInt = 4096 := rfl
  by_cases l_a : a.toInt < 0
  · refine q_TNbad h 1 0 (by decide) ?_ ?_
    · unfold dz_X0_64_236
      rw [q_lt_T (show a.toInt < (0 : Int32).toInt by omega)]
      rfl
    · unfold dz_M215_64 dz_M203 dz_M202 q_let
      dsimp only
      rw [q_202F (v := a) (lo := 0) (hi := 4095) (Or.inl (by omega))]
      rfl
  by_cases u_a : 4095 < a.toInt
  · refine q_TNbad h 1 0 (by decide) ?_ ?_
    · unfold dz_X0_64_236
      rw [q_lt_F (show (0 : Int32).toInt ≤ a.toInt by omega), q_lt_F (show (4096 : Int32).toInt ≤ a.toInt by omega)]
      rfl
    · unfold dz_M215_64 dz_M203 dz_M202 q_let
      dsimp only
      rw [q_202F (v := a) (lo := 0) (hi := 4095) (Or.inr (by omega))]
      rfl
  by_cases l_b : b.toInt < 0
  · refine q_TNbad h 2 0 (by decide) ?_ ?_
    · unfold dz_X0_64_236
      rw [q_lt_F (show (0 : Int32).toInt ≤ a.toInt by omega), q_lt_T (show a.toInt < (4096 : Int32).toInt by omega), q_lt_T (show b.toInt < (0 : Int32).toInt by omega)]
      rfl
    · unfold dz_M215_64 dz_M203 dz_M202 q_let
      dsimp only
      rw [q_202T (v := a) (lo := 0) (hi := 4095) (by omega) (by omega), q_202F (v := b) (lo := 0) (hi := 255) (Or.inl (by omega))]
      rfl
  by_cases u_b : 255 < b.toInt
  · refine q_TNbad h 2 0 (by decide) ?_ ?_
    · unfold dz_X0_64_236
      rw [q_lt_F (show (0 : Int32).toInt ≤ a.toInt by omega), q_lt_T (show a.toInt < (4096 : Int32).toInt by omega), q_lt_F (show (0 : Int32).toInt ≤ b.toInt by omega), q_lt_T (show (255 : Int32).toInt < b.toInt by omega)]
      rfl
    · unfold dz_M215_64 dz_M203 dz_M202 q_let
      dsimp only
      rw [q_202T (v := a) (lo := 0) (hi := 4095) (by omega) (by omega), q_202F (v := b) (lo := 0) (hi := 255) (Or.inr (by omega))]
      rfl
  obtain ⟨y, m2, r, e1, e2, e3, e4⟩ := q_aPoke (q_ROkp h.1 0 a b 0) hI a b 0 ⟨by omega, by omega⟩ ⟨by omega, by omega⟩
  refine q_TNok h hk 0 a b 0 ((q_pt 32 3 1 73 (dz_X184_98 x 0 a b 0) y).2.2 172) r.toInt64 r e3 e4 ?_ e2 (fun _ => rfl)
  unfold dz_X0_64_236 q_let
  rw [q_lt_F (show (0 : Int32).toInt ≤ a.toInt by omega), q_lt_T (show a.toInt < (4096 : Int32).toInt by omega), q_lt_F (show (0 : Int32).toInt ≤ b.toInt by omega), q_lt_F (show b.toInt ≤ (255 : Int32).toInt by omega)]
  dsimp only
  simp only [cond_true, cond_false]
  rw [e1]
  rfl
theorem q_tRom (h : q_LX k m x) (hI : q_Iv c d w m) (hk : k < 512) (a b : Int32) : q_TN k (dz_X1_64_236 x a b) (dz_M216_64 m a b) Int32.toInt64 True := by
  have z0 : (0 : Int32).toInt = 0 := rfl
  have z255 : (255 : Int32).toInt = 255 := rfl
  have z256 : (256 : Int32).toInt = 256 := rfl
  have z511 : (511 : Int32).toInt = 511 := rfl
  have z512 : (512 : Int32).toInt = 512 := rfl
  by_cases l_a : a.toInt < 0
  · refine q_TNbad h 1 0 (by decide) ?_ ?_
    · unfold dz_X1_64_236
      rw [q_lt_T (show a.toInt < (0 : Int32).toInt by omega)]
      rfl
    · unfold dz_M216_64 dz_M202 q_let
      dsimp only
      rw [q_202F (v := a) (lo := 0) (hi := 511) (Or.inl (by omega))]
      rfl
  by_cases u_a : 511 < a.toInt
  · refine q_TNbad h 1 0 (by decide) ?_ ?_
    · unfold dz_X1_64_236
      rw [q_lt_F (show (0 : Int32).toInt ≤ a.toInt by omega), q_lt_F (show (512 : Int32).toInt ≤ a.toInt by omega)]
      rfl
    · unfold dz_M216_64 dz_M202 q_let
      dsimp only
      rw [q_202F (v := a) (lo := 0) (hi := 511) (Or.inr (by omega))]
      rfl
  by_cases l_b : b.toInt < 0
  · refine q_TNbad h 2 0 (by decide) ?_ ?_
    · unfold dz_X1_64_236
      rw [q_lt_F (show (0 : Int32).toInt ≤ a.toInt by omega), q_lt_T (show a.toInt < (512 : Int32).toInt by omega), q_lt_T (show b.toInt < (0 : Int32).toInt by omega)]
      rfl
    · unfold dz_M216_64 dz_M202 q_let
      dsimp only
      rw [q_202T (v := a) (lo := 0) (hi := 511) (by omega) (by omega), q_202F (v := b) (lo := 0) (hi := 255) (Or.inl (by omega))]
      rfl
  by_cases u_b : 255 < b.toInt
  · refine q_TNbad h 2 0 (by decide) ?_ ?_
    · unfold dz_X1_64_236
      rw [q_lt_F (show (0 : Int32).toInt ≤ a.toInt by omega), q_lt_T (show a.toInt < (512 : Int32).toInt by omega), q_lt_F (show (0 : Int32).toInt ≤ b.toInt by omega), q_lt_T (show (255 : Int32).toInt < b.toInt by omega)]
      rfl
    · unfold dz_M216_64 dz_M202 q_let
      dsimp only
      rw [q_202T (v := a) (lo := 0) (hi := 511) (by omega) (by omega), q_202F (v := b) (lo := 0) (hi := 255) (Or.inr (by omega))]
      rfl
  obtain ⟨y, m2, r, e1, e2, e3, e4⟩ := q_aRom (q_ROkp h.1 1 a b 0) a b 0 ⟨by omega, by omega⟩ ⟨by omega, by omega⟩
  refine q_TNok h hk 1 a b 0 ((q_pt 32 3 1 73 (dz_X184_98 x 1 a b 0) y).2.2 172) r.toInt64 r e3 e4 ?_ e2 (fun _ => rfl)
  unfold dz_X1_64_236 q_let
  rw [q_lt_F (show (0 : Int32).toInt ≤ a.toInt by omega), q_lt_T (show a.toInt < (512 : Int32).toInt by omega), q_lt_F (show (0 : Int32).toInt ≤ b.toInt by omega), q_lt_F (show b.toInt ≤ (255 : Int32).toInt by omega)]
  dsimp only
  simp only [cond_true, cond_false]
  rw [e1]
  rfl
theorem q_tCar (h : q_LX k m x) (hI : q_Iv c d w m) (hk : k < 512) (a b e0 : Int32) : q_TN k (dz_X2_64_236 x a b e0) (dz_M217_64 m a b e0) Int32.toInt64 True := by
  have z0 : (0 : Int32).toInt = 0 := rfl
  have z3 : (3 : Int32).toInt = 3 := rfl
  have z4 : (4 : Int32).toInt = 4 := rfl
  have z255 : (255 : Int32).toInt = 255 := rfl
  have z256 : (256 : Int32).toInt = 256 := rfl
  have z511 : (511 : Int32).toInt = 511 := rfl
  have z512 : (512 : Int32).toInt = 512 := rfl
  by_cases l_a : a.toInt < 0
  · refine q_TNbad h 1 0 (by decide) ?_ ?_
    · unfold dz_X2_64_236
      rw [q_lt_T (show a.toInt < (0 : Int32).toInt by omega)]
      rfl
    · unfold dz_M217_64 dz_M202 q_let
      dsimp only
      rw [q_202F (v := a) (lo := 0) (hi := 3) (Or.inl (by omega))]
      rfl
  by_cases u_a : 3 < a.toInt
  · refine q_TNbad h 1 0 (by decide) ?_ ?_
    · unfold dz_X2_64_236
      rw [q_lt_F (show (0 : Int32).toInt ≤ a.toInt by omega), q_lt_F (show (4 : Int32).toInt ≤ a.toInt by omega)]
      rfl
    · unfold dz_M217_64 dz_M202 q_let
      dsimp only
      rw [q_202F (v := a) (lo := 0) (hi := 3) (Or.inr (by omega))]
      rfl
  by_cases l_b : b.toInt < 0
  · refine q_TNbad h 1 0 (by decide) ?_ ?_
    · unfold dz_X2_64_236
      rw [q_lt_F (show (0 : Int32).toInt ≤ a.toInt by omega), q_lt_T (show a.toInt < (4 : Int32).toInt by omega), q_lt_T (show b.toInt < (0 : Int32).toInt by omega)]
      rfl
    · unfold dz_M217_64 dz_M202 q_let
      dsimp only
      rw [q_202T (v := a) (lo := 0) (hi := 3) (by omega) (by omega), q_202F (v := b) (lo := 0) (hi := 511) (Or.inl (by omega))]
      rfl
  by_cases u_b : 511 < b.toInt
  · refine q_TNbad h 1 0 (by decide) ?_ ?_
    · unfold dz_X2_64_236
      rw [q_lt_F (show (0 : Int32).toInt ≤ a.toInt by omega), q_lt_T (show a.toInt < (4 : Int32).toInt by omega), q_lt_F (show (0 : Int32).toInt ≤ b.toInt by omega), q_lt_F (show (512 : Int32).toInt ≤ b.toInt by omega)]
      rfl
    · unfold dz_M217_64 dz_M202 q_let
      dsimp only
      rw [q_202T (v := a) (lo := 0) (hi := 3) (by omega) (by omega), q_202F (v := b) (lo := 0) (hi := 511) (Or.inr (by omega))]
      rfl
  by_cases l_e0 : e0.toInt < 0
  · refine q_TNbad h 2 0 (by decide) ?_ ?_
    · unfold dz_X2_64_236
      rw [q_lt_F (show (0 : Int32).toInt ≤ a.toInt by omega), q_lt_T (show a.toInt < (4 : Int32).toInt by omega), q_lt_F (show (0 : Int32).toInt ≤ b.toInt by omega), q_lt_T (show b.toInt < (512 : Int32).toInt by omega), q_lt_T (show e0.toInt < (0 : Int32).toInt by omega)]
      rfl
    · unfold dz_M217_64 dz_M202 q_let
      dsimp only
      rw [q_202T (v := a) (lo := 0) (hi := 3) (by omega) (by omega), q_202T (v := b) (lo := 0) (hi := 511) (by omega) (by omega), q_202F (v := e0) (lo := 0) (hi := 255) (Or.inl (by omega))]
      rfl
  by_cases u_e0 : 255 < e0.toInt
  · refine q_TNbad h 2 0 (by decide) ?_ ?_
    · unfold dz_X2_64_236
      rw [q_lt_F (show (0 : Int32).toInt ≤ a.toInt by omega), q_lt_T (show a.toInt < (4 : Int32).toInt by omega), q_lt_F (show (0 : Int32).toInt ≤ b.toInt by omega), q_lt_T (show b.toInt < (512 : Int32).toInt by omega), q_lt_F (show (0 : Int32).toInt ≤ e0.toInt by omega), q_lt_T (show (255 : Int32).toInt < e0.toInt by omega)]
      rfl
    · unfold dz_M217_64 dz_M202 q_let
      dsimp only
      rw [q_202T (v := a) (lo := 0) (hi := 3) (by omega) (by omega), q_202T (v := b) (lo := 0) (hi := 511) (by omega) (by omega), q_202F (v := e0) (lo := 0) (hi := 255) (Or.inr (by omega))]
      rfl
  obtain ⟨y, m2, r, e1, e2, e3, e4⟩ := q_aCar (q_ROkp h.1 2 a b e0) a b e0 ⟨by omega, by omega⟩ ⟨by omega, by omega⟩ ⟨by omega, by omega⟩
  refine q_TNok h hk 2 a b e0 ((q_pt 32 3 1 73 (dz_X184_98 x 2 a b e0) y).2.2 172) r.toInt64 r e3 e4 ?_ e2 (fun _ => rfl)
  unfold dz_X2_64_236 q_let
  rw [q_lt_F (show (0 : Int32).toInt ≤ a.toInt by omega), q_lt_T (show a.toInt < (4 : Int32).toInt by omega), q_lt_F (show (0 : Int32).toInt ≤ b.toInt by omega), q_lt_T (show b.toInt < (512 : Int32).toInt by omega), q_lt_F (show (0 : Int32).toInt ≤ e0.toInt by omega), q_lt_F (show e0.toInt ≤ (255 : Int32).toInt by omega)]
  dsimp only
  simp only [cond_true, cond_false]
  rw [e1]
  rfl
theorem q_tRun (h : q_LX k m x) (hI : q_Iv c d w m) (hk : k < 512) (n : Int32) (hc : c + 1000 ≤ 1000000) (hd : d + 1000 ≤ 1000000) : q_TN k (dz_X11_64_236 x n) (dz_M235_64 m n) Int32.toInt64 True := by
  have z0 : (0 : Int32).toInt = 0 := rfl
  have z1 : (1 : Int32).toInt = 1 := rfl
  have z1000 : (1000 : Int32).toInt = 1000 := rfl
  have z1001 : (1001 : Int32).toInt = 1001 := rfl
  by_cases l_n : n.toInt < 1
  · refine q_TNbad h 1 0 (by decide) ?_ ?_
    · unfold dz_X11_64_236
      rw [q_lt_T (show n.toInt < (1 : Int32).toInt by omega)]
      rfl
    · unfold dz_M235_64 q_let
      dsimp only
      rw [q_202F (v := n) (lo := 1) (hi := 1000) (Or.inl (by omega))]
      rfl
  by_cases u_n : 1000 < n.toInt
  · refine q_TNbad h 1 0 (by decide) ?_ ?_
    · unfold dz_X11_64_236
      rw [q_lt_F (show (1 : Int32).toInt ≤ n.toInt by omega), q_lt_T (show (1000 : Int32).toInt < n.toInt by omega)]
      rfl
    · unfold dz_M235_64 q_let
      dsimp only
      rw [q_202F (v := n) (lo := 1) (hi := 1000) (Or.inr (by omega))]
      rfl
  obtain ⟨y, m2, r, e1, e2, e3, e4⟩ := q_aRun (q_ROkp h.1 7 n 0 0) hI n 0 0 ⟨by omega, by omega⟩ hc hd
  refine q_TNok h hk 7 n 0 0 ((q_pt 32 3 1 73 (dz_X184_98 x 7 n 0 0) y).2.2 172) r.toInt64 r e3 e4 ?_ e2 (fun _ => rfl)
  unfold dz_X11_64_236 q_let
  rw [q_lt_F (show (1 : Int32).toInt ≤ n.toInt by omega), q_lt_F (show n.toInt ≤ (1000 : Int32).toInt by omega)]
  dsimp only
  simp only [cond_true, cond_false]
  rw [e1]
  rfl
theorem q_tJoy (h : q_LX k m x) (hI : q_Iv c d w m) (hk : k < 512) (a : Int32) : q_TN k (dz_X20_64_236 x a) (some (dz_M299_64 m a)) Int32.toInt64 True := by
  have z0 : (0 : Int32).toInt = 0 := rfl
  have z15 : (15 : Int32).toInt = 15 := rfl
  have z16 : (16 : Int32).toInt = 16 := rfl
  by_cases l_a : a.toInt < 0
  · refine q_TNbad h 1 0 (by decide) ?_ ?_
    · unfold dz_X20_64_236
      rw [q_lt_T (show a.toInt < (0 : Int32).toInt by omega)]
      rfl
    · unfold dz_M299_64 q_let
      dsimp only
      rw [q_202F (v := a) (lo := 0) (hi := 15) (Or.inl (by omega))]
      rfl
  by_cases u_a : 15 < a.toInt
  · refine q_TNbad h 1 0 (by decide) ?_ ?_
    · unfold dz_X20_64_236
      rw [q_lt_F (show (0 : Int32).toInt ≤ a.toInt by omega), q_lt_T (show (15 : Int32).toInt < a.toInt by omega)]
      rfl
    · unfold dz_M299_64 q_let
      dsimp only
      rw [q_202F (v := a) (lo := 0) (hi := 15) (Or.inr (by omega))]
      rfl
  obtain ⟨y, m2, r, e1, e2, e3, e4⟩ := q_aJoy (q_ROkp h.1 10 a 0 0) a 0 0 ⟨by omega, by omega⟩
  refine q_TNok h hk 10 a 0 0 ((q_pt 32 3 1 73 (dz_X184_98 x 10 a 0 0) y).2.2 172) r.toInt64 r e3 e4 ?_ (congrArg some e2) (fun _ => rfl)
  unfold dz_X20_64_236 q_let
  rw [q_lt_F (show (0 : Int32).toInt ≤ a.toInt by omega), q_lt_F (show a.toInt ≤ (15 : Int32).toInt by omega)]
  dsimp only
  simp only [cond_true, cond_false]
  rw [e1]
  rfl
end
