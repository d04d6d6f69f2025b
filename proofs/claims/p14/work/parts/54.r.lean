section
variable {TT TT2 : (Nat → Int32) → Int32 → (Nat → Int32) → Int32 → Int64 → Int64 → List Int32 → List (Nat → Int32) → (Nat → Int64) → Prop} {x y z m : q_S} {c d w : Int} {K : Int64} {F : List Int32} {W : List (Nat → Int32)} {Q : Nat → Int64}
/-- the model behind a save, and behind a restore -/
def q_svd (t : Nat) (m : q_S) : q_S := q_sI (q_sL (q_sL (q_sv t m) 31 (vp_updL (m.2.2 31) (2 * t) (m.2.2 0 15))) 31 (vp_updL (vp_updL (m.2.2 31) (2 * t) (m.2.2 0 15)) (2 * t + 1) (m.2.2 0 16))) 0 17 ((m.2.1 0 17) + 1)
def q_rsd (t : Nat) (m : q_S) : q_S := q_sI (q_sJ (q_sJ (q_rsz t m) 0 15 (m.2.2 31 (2 * t))) 0 16 (m.2.2 31 (2 * t + 1))) 0 34 (-1)
theorem q_ix2 {a : Int32} {t : Nat} (ht : t < 3) (hx : a.toInt = (t : Int)) : (2 * a).toNatClampNeg = 2 * t ∧ ((2 * a) + 1).toNatClampNeg = 2 * t + 1 ∧ q_in (2 * a) 6 = true ∧ q_in ((2 * a) + 1) 6 = true := by
  have e : (2 * a).toInt = 2 * a.toInt := q_mulI (n := 2) rfl (by decide) (by decide) ⟨by omega, by omega⟩
  have e1 : ((2 * a) + 1).toInt = 2 * a.toInt + 1 := by rw [q_addI ⟨by omega, by omega⟩ ⟨by decide, by decide⟩, e]; rfl
  refine ⟨?_, ?_, q_in_rg (l := 0) (u := 5) ⟨by omega, by omega⟩ (by decide) (by decide), q_in_rg (l := 0) (u := 5) ⟨by omega, by omega⟩ (by decide) (by decide)⟩
  · show (2 * a).toInt.toNat = 2 * t
    omega
  · show ((2 * a) + 1).toInt.toNat = 2 * t + 1
    omega
theorem q_306e (hI : q_Iv c d w m) {t : Nat} (ht : t < 3) (hx : (m.2.1 0 17).toInt = (t : Int)) : dz_M305_64 m = some (q_svd t (q_mok m), m.2.1 0 17) := by
  obtain ⟨k1, k2, k3, k4⟩ := q_ix2 ht hx
  have z3 : (3 : Int32).toInt = 3 := rfl
  obtain ⟨r, e1, e2⟩ := q_sv_run c d w (q_mok m) (q_Ivk hI) (m.2.1 0 17) t ht hx rfl (fun r1487 => cond (q_in (2 * (m.2.1 0 17)) 6) (cond (q_in ((2 * (m.2.1 0 17)) + 1) 6) (q_let ((q_sL r1487 31 (vp_updL (r1487.2.2 31) ((2 * (m.2.1 0 17)).toNatClampNeg) (r1487.2.2 0 15)))) fun r1488 => some ((q_sI (q_sL r1488 31 (vp_updL (r1488.2.2 31) (((2 * (m.2.1 0 17)) + 1).toNatClampNeg) (r1487.2.2 0 16))) 0 17 ((r1488.2.1 0 17) + 1)), (m.2.1 0 17))) none) none) (fun r => r = (q_svd t (q_mok m), m.2.1 0 17)) ⟨_, by rw [k3, k4, k1, k2]; rfl, rfl⟩
  rw [e2] at e1
  unfold dz_M305_64
  rw [q_eq_F (by omega), cond_false, q_yM200]
  exact e1
theorem q_308e (hI : q_Iv c d w m) {t : Nat} {a : Int32} (ht : t < 3) (hx : a.toInt = (t : Int)) (hs : (t : Int) < (m.2.1 0 17).toInt) : ∃ r, dz_M307_64 m a = some (q_rsd t (q_mok m), r) ∧ dz_M306_64 (q_mok m) a = some r := by
  obtain ⟨k1, k2, k3, k4⟩ := q_ix2 ht hx
  have z0 : (0 : Int32).toInt = 0 := rfl
  have g : q_rgz 0 3 (m.2.1 0 17) := hI.2.1 0 17
  have g1 := g.2
  have es : ((m.2.1 0 17) - 1).toInt = (m.2.1 0 17).toInt - 1 := q_subI ⟨by omega, by omega⟩ ⟨by decide, by decide⟩
  obtain ⟨r0, er, -⟩ := dzj_M306_64 c d w (q_mok m) (q_Ivk hI) a ⟨by omega, by omega⟩
  obtain ⟨r, e1, e2⟩ := q_rs_run (q_mok m) a t ht hx (fun r1526 => cond (q_in (2 * a) 6) (cond (q_in ((2 * a) + 1) 6) (some ((q_sI (q_sJ (q_sJ r1526 0 15 ((r1526.2.2 31) ((2 * a).toNatClampNeg))) 0 16 ((r1526.2.2 31) (((2 * a) + 1).toNatClampNeg))) 0 34 (-1)), r0)) none) none) (fun r => r = (q_rsd t (q_mok m), r0)) ⟨_, by rw [k3, k4, k1, k2]; rfl, rfl⟩
  rw [e2] at e1
  refine ⟨r0, ?_, er⟩
  unfold dz_M307_64 q_let
  rw [q_202T (v := a) (by omega) (by omega)]
  dsimp only
  rw [cond_true, q_yM200]
  dsimp only
  rw [cond_false, er]
  exact e1
def q_TTs (f : Nat → Int32) (n : Int32) (g : Nat → Int32) (k : Int32) (a b : Int64) (_F2 : List Int32) (_W2 : List (Nat → Int32)) (_Q2 : Nat → Int64) : Prop := (∀ j, j < 16 → f j = g j) ∧ n = k ∧ a = b
def q_mz (i : Nat) : Nat := [0, 4096, 512, 2048, 48, 1024, 40, 16, 40, 16, 3, 3, 3, 3, 24, 8].getD i 0
/-- the model that a save keeps, out of the saved rows -/
def q_ms (t : Nat) (W : List (Nat → Int32)) (Q : Nat → Int64) : q_S := (fun i k => W.getD (i - 1) (fun _ => 0) (q_mz i * t + k), fun _ _ => 0, fun _ k => cond (Nat.beq k 15) (Q (2 * t)) (Q (2 * t + 1)))
theorem q_nr1 {a : Int32} (h : q_rgz 0 1 a) : vp_nar .boolean a = a := by
  rw [q_bOf h, q_nb]
theorem q_upL1 (f : Nat → Int64) (i j : Nat) (v : Int64) (h : j = i) : vp_updL f i v j = v := if_pos h
theorem q_upL0 (f : Nat → Int64) (i j : Nat) (v : Int64) (h : ¬ j = i) : vp_updL f i v j = f j := if_neg h
theorem q_agRs (hI : q_Iv c d w m) (t : Nat) (ht : t < 3) : q_agM (q_ms t (q_svW m) (m.2.2 31)) (q_rsd t (q_mok m)) := by
  refine ⟨?_, ?_, ?_, ?_, ?_, ?_, ?_, ?_, ?_, ?_, ?_, ?_, ?_, ?_, ?_, ?_, ?_⟩
  · intro k hk
    show va_cpy (m.1 16) (m.1 1) (4096 * t) 0 4096 k = m.1 16 (4096 * t + k)
    exact q_cpyI hk
  · intro k hk
    show va_cpy (m.1 17) (m.1 2) (512 * t) 0 512 k = m.1 17 (512 * t + k)
    exact q_cpyI hk
  · intro k hk
    show va_cpy (m.1 18) (m.1 3) (2048 * t) 0 2048 k = m.1 18 (2048 * t + k)
    exact q_cpyI hk
  · intro k hk
    show va_cpy (m.1 19) (m.1 4) (48 * t) 0 48 k = m.1 19 (48 * t + k)
    exact q_cpyI hk
  · intro k hk
    show va_cpy (m.1 20) (m.1 5) (1024 * t) 0 1024 k = m.1 20 (1024 * t + k)
    exact q_cpyI hk
  · intro k hk
    show va_cpy (m.1 21) (m.1 6) (40 * t) 0 40 k = m.1 21 (40 * t + k)
    exact q_cpyI hk
  · intro k hk
    show va_cpy (fun i => vp_nar .boolean (m.1 22 i)) (m.1 7) (16 * t) 0 16 k = m.1 22 (16 * t + k)
    rw [q_cpyI hk]
    exact q_nr1 (hI.1 22 _)
  · intro k hk
    show va_cpy (m.1 23) (m.1 8) (40 * t) 0 40 k = m.1 23 (40 * t + k)
    exact q_cpyI hk
  · intro k hk
    show va_cpy (m.1 24) (m.1 9) (16 * t) 0 16 k = m.1 24 (16 * t + k)
    exact q_cpyI hk
  · intro k hk
    show va_cpy (m.1 25) (m.1 10) (3 * t) 0 3 k = m.1 25 (3 * t + k)
    exact q_cpyI hk
  · intro k hk
    show va_cpy (m.1 26) (m.1 11) (3 * t) 0 3 k = m.1 26 (3 * t + k)
    exact q_cpyI hk
  · intro k hk
    show va_cpy (m.1 27) (m.1 12) (3 * t) 0 3 k = m.1 27 (3 * t + k)
    exact q_cpyI hk
  · intro k hk
    show va_cpy (m.1 28) (m.1 13) (3 * t) 0 3 k = m.1 28 (3 * t + k)
    exact q_cpyI hk
  · intro k hk
    show va_cpy (m.1 29) (m.1 14) (24 * t) 0 24 k = m.1 29 (24 * t + k)
    exact q_cpyI hk
  · intro k hk
    show va_cpy (fun i => vp_nar .boolean (m.1 30 i)) (m.1 15) (8 * t) 0 8 k = m.1 30 (8 * t + k)
    rw [q_cpyI hk]
    exact q_nr1 (hI.1 30 _)
  · rfl
  · rfl
theorem q_agSv (hI : q_Iv c d w m) (t : Nat) : q_agM m (q_ms t (q_svW (q_svd t (q_mok m))) ((q_svd t (q_mok m)).2.2 31)) := by
  refine ⟨?_, ?_, ?_, ?_, ?_, ?_, ?_, ?_, ?_, ?_, ?_, ?_, ?_, ?_, ?_, ?_, ?_⟩
  · intro k hk
    show va_cpy (m.1 1) (m.1 16) 0 (4096 * t) 4096 (4096 * t + k) = m.1 1 k
    exact q_cpyO hk
  · intro k hk
    show va_cpy (m.1 2) (m.1 17) 0 (512 * t) 512 (512 * t + k) = m.1 2 k
    exact q_cpyO hk
  · intro k hk
    show va_cpy (m.1 3) (m.1 18) 0 (2048 * t) 2048 (2048 * t + k) = m.1 3 k
    exact q_cpyO hk
  · intro k hk
    show va_cpy (m.1 4) (m.1 19) 0 (48 * t) 48 (48 * t + k) = m.1 4 k
    exact q_cpyO hk
  · intro k hk
    show va_cpy (m.1 5) (m.1 20) 0 (1024 * t) 1024 (1024 * t + k) = m.1 5 k
    exact q_cpyO hk
  · intro k hk
    show va_cpy (m.1 6) (m.1 21) 0 (40 * t) 40 (40 * t + k) = m.1 6 k
    exact q_cpyO hk
  · intro k hk
    show va_cpy (fun i => vp_nar .boolean (m.1 7 i)) (m.1 22) 0 (16 * t) 16 (16 * t + k) = m.1 7 k
    rw [q_cpyO hk]
    exact q_nr1 (hI.1 7 _)
  · intro k hk
    show va_cpy (m.1 8) (m.1 23) 0 (40 * t) 40 (40 * t + k) = m.1 8 k
    exact q_cpyO hk
  · intro k hk
    show va_cpy (m.1 9) (m.1 24) 0 (16 * t) 16 (16 * t + k) = m.1 9 k
    exact q_cpyO hk
  · intro k hk
    show va_cpy (m.1 10) (m.1 25) 0 (3 * t) 3 (3 * t + k) = m.1 10 k
    exact q_cpyO hk
  · intro k hk
    show va_cpy (m.1 11) (m.1 26) 0 (3 * t) 3 (3 * t + k) = m.1 11 k
    exact q_cpyO hk
  · intro k hk
    show va_cpy (m.1 12) (m.1 27) 0 (3 * t) 3 (3 * t + k) = m.1 12 k
    exact q_cpyO hk
  · intro k hk
    show va_cpy (m.1 13) (m.1 28) 0 (3 * t) 3 (3 * t + k) = m.1 13 k
    exact q_cpyO hk
  · intro k hk
    show va_cpy (m.1 14) (m.1 29) 0 (24 * t) 24 (24 * t + k) = m.1 14 k
    exact q_cpyO hk
  · intro k hk
    show va_cpy (fun i => vp_nar .boolean (m.1 15 i)) (m.1 30) 0 (8 * t) 8 (8 * t + k) = m.1 15 k
    rw [q_cpyO hk]
    exact q_nr1 (hI.1 15 _)
  · show vp_updL (vp_updL (m.2.2 31) (2 * t) (m.2.2 0 15)) (2 * t + 1) (m.2.2 0 16) (2 * t) = m.2.2 0 15
    rw [q_upL0 _ _ _ _ (by omega), q_upL1 _ _ _ _ rfl]
  · show vp_updL (vp_updL (m.2.2 31) (2 * t) (m.2.2 0 15)) (2 * t + 1) (m.2.2 0 16) (2 * t + 1) = m.2.2 0 16
    rw [q_upL1 _ _ _ _ rfl]
theorem q_agSu (t u : Nat) (hu : ¬ u = t) : q_agM (q_ms u (q_svW m) (m.2.2 31)) (q_ms u (q_svW (q_svd t (q_mok m))) ((q_svd t (q_mok m)).2.2 31)) := by
  refine ⟨?_, ?_, ?_, ?_, ?_, ?_, ?_, ?_, ?_, ?_, ?_, ?_, ?_, ?_, ?_, ?_, ?_⟩
  · intro k hk
    show va_cpy (m.1 1) (m.1 16) 0 (4096 * t) 4096 (4096 * u + k) = m.1 16 (4096 * u + k)
    exact q_cpyN (by omega)
  · intro k hk
    show va_cpy (m.1 2) (m.1 17) 0 (512 * t) 512 (512 * u + k) = m.1 17 (512 * u + k)
    exact q_cpyN (by omega)
  · intro k hk
    show va_cpy (m.1 3) (m.1 18) 0 (2048 * t) 2048 (2048 * u + k) = m.1 18 (2048 * u + k)
    exact q_cpyN (by omega)
  · intro k hk
    show va_cpy (m.1 4) (m.1 19) 0 (48 * t) 48 (48 * u + k) = m.1 19 (48 * u + k)
    exact q_cpyN (by omega)
  · intro k hk
    show va_cpy (m.1 5) (m.1 20) 0 (1024 * t) 1024 (1024 * u + k) = m.1 20 (1024 * u + k)
    exact q_cpyN (by omega)
  · intro k hk
    show va_cpy (m.1 6) (m.1 21) 0 (40 * t) 40 (40 * u + k) = m.1 21 (40 * u + k)
    exact q_cpyN (by omega)
  · intro k hk
    show va_cpy (fun i => vp_nar .boolean (m.1 7 i)) (m.1 22) 0 (16 * t) 16 (16 * u + k) = m.1 22 (16 * u + k)
    exact q_cpyN (by omega)
  · intro k hk
    show va_cpy (m.1 8) (m.1 23) 0 (40 * t) 40 (40 * u + k) = m.1 23 (40 * u + k)
    exact q_cpyN (by omega)
  · intro k hk
    show va_cpy (m.1 9) (m.1 24) 0 (16 * t) 16 (16 * u + k) = m.1 24 (16 * u + k)
    exact q_cpyN (by omega)
  · intro k hk
    show va_cpy (m.1 10) (m.1 25) 0 (3 * t) 3 (3 * u + k) = m.1 25 (3 * u + k)
    exact q_cpyN (by omega)
  · intro k hk
    show va_cpy (m.1 11) (m.1 26) 0 (3 * t) 3 (3 * u + k) = m.1 26 (3 * u + k)
    exact q_cpyN (by omega)
  · intro k hk
    show va_cpy (m.1 12) (m.1 27) 0 (3 * t) 3 (3 * u + k) = m.1 27 (3 * u + k)
    exact q_cpyN (by omega)
  · intro k hk
    show va_cpy (m.1 13) (m.1 28) 0 (3 * t) 3 (3 * u + k) = m.1 28 (3 * u + k)
    exact q_cpyN (by omega)
  · intro k hk
    show va_cpy (m.1 14) (m.1 29) 0 (24 * t) 24 (24 * u + k) = m.1 29 (24 * u + k)
    exact q_cpyN (by omega)
  · intro k hk
    show va_cpy (fun i => vp_nar .boolean (m.1 15 i)) (m.1 30) 0 (8 * t) 8 (8 * u + k) = m.1 30 (8 * u + k)
    exact q_cpyN (by omega)
  · show vp_updL (vp_updL (m.2.2 31) (2 * t) (m.2.2 0 15)) (2 * t + 1) (m.2.2 0 16) (2 * u) = m.2.2 31 (2 * u)
    rw [q_upL0 _ _ _ _ (by omega), q_upL0 _ _ _ _ (by omega)]
  · show vp_updL (vp_updL (m.2.2 31) (2 * t) (m.2.2 0 15)) (2 * t + 1) (m.2.2 0 16) (2 * u + 1) = m.2.2 31 (2 * u + 1)
    rw [q_upL0 _ _ _ _ (by omega), q_upL0 _ _ _ _ (by omega)]
end
