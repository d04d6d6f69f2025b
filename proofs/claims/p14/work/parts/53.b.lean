section
section
variable {TT : (Nat → Int32) → Int32 → (Nat → Int32) → Int32 → Int64 → Int64 → List Int32 → List (Nat → Int32) → (Nat → Int64) → Prop} {x y z m : q_S} {c d w : Int}
/-- the model when a pulse is over -/
def q_wF (m : q_S) (t : Int32) : q_S :=
  let r4 := q_sA m 14 (upd (m.1 14) 15 (m.1 14 15 - 1))
  let r5 := q_sA r4 14 (upd (r4.1 14) 14 (m.1 14 14 + 1))
  let r6 := q_sA r5 14 (upd (r5.1 14) 16 ((1 : Int32) - m.1 14 16))
  let r7 := q_sA r6 14 (upd (r6.1 14) 9 ((m.1 14 9) ||| 8))
  q_sA r7 14 (upd (r7.1 14) 15 t)
theorem q_209 (m : q_S) : dz_M208_64 m = decide (m.1 14 14 < m.1 14 13) := by
  unfold dz_M208_64
  cases decide (m.1 14 14 < m.1 14 13) <;> rfl
theorem q_231 (m : q_S) : dz_M230_64 m = cond (decide (m.1 4 44 = 0)) (some m) (cond (decide (m.1 14 14 < m.1 14 13)) (cond (decide (0 < m.1 14 15 - 1)) (some (q_sA m 14 (upd (m.1 14) 15 (m.1 14 15 - 1)))) (cond (decide (m.1 14 14 + 1 < m.1 14 13)) (cond (q_in (m.1 14 14 + 1) 40) (some (q_wF m (m.1 8 (m.1 14 14 + 1).toNatClampNeg))) none) (some (q_wF m 0)))) (some m)) := by
  unfold dz_M230_64
  rw [q_209]
  cases decide (m.1 4 44 = 0) with
  | true => rfl
  | false =>
    cases decide (m.1 14 14 < m.1 14 13) with
    | false => rfl
    | true =>
      show cond (decide (0 < m.1 14 15 - 1)) (some (q_sA m 14 (upd (m.1 14) 15 (m.1 14 15 - 1)))) (cond (cond (decide (m.1 14 14 + 1 < m.1 14 13)) true false) (cond (q_in (m.1 14 14 + 1) 40) (some (q_wF m (m.1 8 (m.1 14 14 + 1).toNatClampNeg))) none) (some (q_wF m 0))) = _
      cases decide (m.1 14 14 + 1 < m.1 14 13) <;> rfl
theorem q_tape (h : q_R TT x m) (hI : q_Iv c d w m) : ∃ m2, dz_M230_64 m = some m2 ∧ q_R TT (dz_N106_65 x) m2 ∧ q_Iv c d w m2 ∧ q_XCz x (dz_N106_65 x) ∧ q_MC m m2 := by
  obtain ⟨m3, e3, i3⟩ := dzj_M230_64 c d w m hI
  suffices H : ∃ m2, dz_M230_64 m = some m2 ∧ q_R TT (dz_N106_65 x) m2 ∧ q_XCz x (dz_N106_65 x) ∧ q_MC m m2 by
    obtain ⟨m2, g2, g3, g4, g5⟩ := H
    rw [e3] at g2
    cases g2
    exact ⟨m3, e3, g3, i3, g4, g5⟩
  have g44 : x.1 4 44 = m.1 4 44 := h.g 44
  have b44 : q_rgz 0 1 (m.1 4 44) := hI.1 4 44
  have z0 : (0 : Int32).toInt = 0 := rfl
  have z1 : (1 : Int32).toInt = 1 := rfl
  have z40 : (40 : Int32).toInt = 40 := rfl
  obtain ⟨t1, t2, t3, t4, t5, t6, t7, t8⟩ := h.r4
  have bo : q_rgz 0 40 (m.1 14 14) := hI.1 14 14
  have bn : q_rgz 0 40 (m.1 14 13) := hI.1 14 13
  have bo0 := bo.1
  have bo1 := bo.2
  have bn0 := bn.1
  have bn1 := bn.2
  rw [q_231]
  unfold dz_N106_65
  rw [g44]
  by_cases k : (m.1 4 44).toInt = 0
  · rw [q_eq_T (show (m.1 4 44).toInt = (0 : Int32).toInt by rw [k]; rfl), q_eq_F (show ¬ (m.1 4 44).toInt = (1 : Int32).toInt by rw [k]; decide)]
    exact ⟨m, rfl, h, q_XC_refl x, q_MC_refl m⟩
  · have b1 := b44.1
    have b2 := b44.2
    rw [q_eq_F (show ¬ (m.1 4 44).toInt = (0 : Int32).toInt by omega), q_eq_T (show (m.1 4 44).toInt = (1 : Int32).toInt by omega)]
    by_cases ho : (m.1 14 14).toInt < (m.1 14 13).toInt
    · have hx : (x.2.1 8 2).toInt < (x.2.1 8 1).toInt := by rw [t2, t3]; exact ho
      obtain ⟨u1, u2, u3⟩ := t7 hx
      have ln : q_rgz 1 999 (x.1 9 (x.2.1 8 2).toNatClampNeg) := t6 _ (by
        have e1 : (x.2.1 8 2).toNatClampNeg = (x.2.1 8 2).toInt.toNat := rfl
        have e2 : (x.2.1 8 1).toNatClampNeg = (x.2.1 8 1).toInt.toNat := rfl
        rw [e1, e2, t2, t3] at *
        omega)
      have l1 := ln.1
      have l2 := ln.2
      have e1 : (x.2.1 8 3 + 1).toInt = (x.2.1 8 3).toInt + 1 := q_addI ⟨by omega, by omega⟩ ⟨by decide, by decide⟩
      have e2 : (m.1 14 15 - 1).toInt = (m.1 14 15).toInt - 1 := q_subI ⟨by omega, by omega⟩ ⟨by decide, by decide⟩
      rw [q_lt_T ho]
      have nX : dz_N177_72 x = cond (decide ((x.2.1 8 3) + 1 < (x.1 9) ((x.2.1 8 2).toNatClampNeg))) (((q_sI x 8 3 ((x.2.1 8 3) + 1)), false)) (((q_sI (q_sI (q_sI x 8 3 0) 8 2 ((x.2.1 8 2) + 1)) 8 4 ((1 : Int32) - (x.2.1 8 4))), true)) := by
        unfold dz_N177_72
        rw [q_lt_F (show (0 : Int32).toInt ≤ (x.2.1 8 2).toInt by rw [t3]; omega), q_lt_T hx, q_lt_T (show (x.2.1 8 2).toInt < (40 : Int32).toInt by rw [t3]; omega)]; rfl
      unfold q_let
      rw [nX]
      by_cases ht : 0 < (m.1 14 15 - 1).toInt
      · rw [q_lt_T (show (0 : Int32).toInt < (m.1 14 15 - 1).toInt by omega), q_lt_T (show (x.2.1 8 3 + 1).toInt < (x.1 9 (x.2.1 8 2).toNatClampNeg).toInt by omega)]
        refine ⟨_, rfl, ?_, ⟨fun _ _ => rfl, fun _ => rfl, rfl⟩, ⟨rfl, rfl, rfl⟩⟩
        refine ⟨h.r1, h.r2, h.r3, ⟨t1, t2, t3, t4, t5, t6, fun _ => ⟨?_, ?_, ?_⟩, fun q => absurd hx q⟩, h.r5, h.r6, h.r7, h.r8⟩
        · show (m.1 14 15 - 1).toInt = (x.1 9 (x.2.1 8 2).toNatClampNeg).toInt - (x.2.1 8 3 + 1).toInt
          omega
        · show 0 ≤ (x.2.1 8 3 + 1).toInt
          omega
        · show (x.2.1 8 3 + 1).toInt < (x.1 9 (x.2.1 8 2).toNatClampNeg).toInt
          omega
      · rw [q_lt_F (show (m.1 14 15 - 1).toInt ≤ (0 : Int32).toInt by omega), q_lt_F (show (x.1 9 (x.2.1 8 2).toNatClampNeg).toInt ≤ (x.2.1 8 3 + 1).toInt by omega)]
        have e4 : (m.1 14 14 + 1).toInt = (m.1 14 14).toInt + 1 := q_addI ⟨by omega, by omega⟩ ⟨by decide, by decide⟩
        have fin : ∀ T : Int32, ((m.1 14 14 + 1).toInt < (m.1 14 13).toInt → T = m.1 8 (m.1 14 14 + 1).toNatClampNeg) → q_R TT (q_sA (q_sI (q_sI (q_sI x 8 3 0) 8 2 (x.2.1 8 2 + 1)) 8 4 (1 - x.2.1 8 4)) 4 (upd (x.1 4) 10 (x.1 4 10 ||| 8))) (q_wF m T) := by
          intro T hT
          refine ⟨h.r1, ?_, h.r3, ⟨t1, t2, ?_, ?_, ?_, t6, fun q => ?_, fun _ => rfl⟩, h.r5, h.r6, h.r7, h.r8⟩
          · have q := (q_R_fl h ((m.1 14 9) ||| 8)).r2
            rw [h.r2.2.1]
            exact q
          · show x.2.1 8 2 + 1 = m.1 14 14 + 1
            rw [t3]
          · show 1 - x.2.1 8 4 = 1 - m.1 14 16
            rw [t4]
          · show (x.2.1 8 2 + 1).toInt ≤ (x.2.1 8 1).toInt
            rw [t3, t2, e4]; omega
          · have q2 : (x.2.1 8 2 + 1).toInt < (x.2.1 8 1).toInt := q
            rw [t3, t2] at q2
            show T.toInt = (x.1 9 (x.2.1 8 2 + 1).toNatClampNeg).toInt - (0 : Int32).toInt ∧ 0 ≤ (0 : Int32).toInt ∧ (0 : Int32).toInt < (x.1 9 (x.2.1 8 2 + 1).toNatClampNeg).toInt
            have n1 : (m.1 14 14 + 1).toNatClampNeg = (m.1 14 14 + 1).toInt.toNat := rfl
            have n2 : (x.2.1 8 1).toNatClampNeg = (x.2.1 8 1).toInt.toNat := rfl
            have l9 := t6 (x.2.1 8 2 + 1).toNatClampNeg (by rw [t3, n1, n2, t2]; omega)
            have l91 := l9.1
            rw [hT q2, t3, t1 _ (by rw [n1]; omega), z0]
            rw [t3, t1 _ (by rw [n1]; omega)] at l91
            exact ⟨by omega, by decide, by omega⟩
        by_cases hn : (m.1 14 14 + 1).toInt < (m.1 14 13).toInt
        · rw [q_lt_T hn, q_in_rg (n := 40) (l := 0) (u := 39) ⟨by omega, by omega⟩ (by decide) (by decide)]
          exact ⟨_, rfl, fin _ (fun _ => rfl), ⟨fun k hk => q_upN _ _ (fun e => by subst e; cases hk), fun _ => rfl, rfl⟩, ⟨rfl, rfl, rfl⟩⟩
        · rw [q_lt_F (show (m.1 14 13).toInt ≤ (m.1 14 14 + 1).toInt by omega)]
          exact ⟨_, rfl, fin _ (fun q => absurd q hn), ⟨fun k hk => q_upN _ _ (fun e => by subst e; cases hk), fun _ => rfl, rfl⟩, ⟨rfl, rfl, rfl⟩⟩
    · rw [q_lt_F (show (m.1 14 13).toInt ≤ (m.1 14 14).toInt by omega)]
      have nX : dz_N177_72 x = (x, false) := by
        unfold dz_N177_72
        rw [q_lt_F (show (0 : Int32).toInt ≤ (x.2.1 8 2).toInt by rw [t3]; omega), q_lt_F (show (x.2.1 8 1).toInt ≤ (x.2.1 8 2).toInt by rw [t2, t3]; omega)]; rfl
      unfold q_let
      rw [nX]
      exact ⟨m, rfl, h, q_XC_refl x, q_MC_refl m⟩
/-- the line's flag -/
theorem q_meet (h : q_R TT x m) (hI : q_Iv c d w m) : ∃ m2, (∀ K : q_S → Option (q_S × Bool), cond (decide (((m.2.2 0 15) - (m.2.2 0 15) / 24 * 24).toInt32 = 0)) (q_let (dz_M206_64 m) fun r586 => cond (decide (r586 = (m.1 4) 9)) (K (q_sA m 14 (upd (m.1 14) 9 (((m.1 14) 9) ||| 1)))) (K m)) (K m) = K m2) ∧ q_R TT (dz_N101_65 x) m2 ∧ q_Iv c d w m2 ∧ q_XCz x (dz_N101_65 x) ∧ q_MC m m2 := by
  have g9 : x.1 4 9 = m.1 4 9 := h.g 9
  have ln := q_lineX h hI
  unfold dz_N101_65 dz_N86_65 q_let
  dsimp only
  rw [q_colX h]
  cases decide (((m.2.2 0 15) - (m.2.2 0 15) / 24 * 24).toInt32 = 0) with
  | false => exact ⟨m, fun _ => rfl, h, hI, q_XC_refl x, q_MC_refl m⟩
  | true =>
    rw [ln, g9]
    cases decide (dz_M206_64 m = m.1 4 9) with
    | false => exact ⟨m, fun _ => rfl, h, hI, q_XC_refl x, q_MC_refl m⟩
    | true =>
      refine ⟨_, fun _ => rfl, ?_, ?_, q_XC_10 _, ⟨rfl, rfl, rfl⟩⟩
      · show q_R TT (q_sA x 4 (upd (x.1 4) 10 ((x.1 4 10) ||| 1))) _
        rw [h.r2.2.1]
        exact q_R_fl h _
      · exact q_Iv_A (i := 14) hI (q_hf_up (hI.1 14) (q_sn9 (q_rg_or (l := 0) (u := 15) (n := 4) (W := 15) (hI.1 14 9) (q_rg_lit (n := 1) (x := 1) rfl) (by decide) (by decide) (by decide) (by decide) (by decide))))
end
end
section
section
variable {TT : (Nat → Int32) → Int32 → (Nat → Int32) → Int32 → Int64 → Int64 → List Int32 → List (Nat → Int32) → (Nat → Int64) → Prop} {x y z m : q_S} {c d w : Int}
/-- what a voice leaves as it is: all but rows 26 to 30 of the class, 6 and 10 to 13 of the model -/
def q_VX (x y : q_S) : Prop := (∀ i, (Nat.ble 26 i && Nat.ble i 30) = false → y.1 i = x.1 i) ∧ y.2 = x.2
def q_VM (m m2 : q_S) : Prop := (∀ i, (Nat.beq i 6 || (Nat.ble 10 i && Nat.ble i 13)) = false → m2.1 i = m.1 i) ∧ m2.2 = m.2
theorem q_R_V {x2 m2 : q_S} (h : q_R TT x m) (e : q_VX x x2) (g : q_VM m m2) (hp : q_R7 x2 m2) : q_R TT x2 m2 := by
  obtain ⟨e1, e2⟩ := e
  obtain ⟨g1, g2⟩ := g
  have h1 := h.r1
  have h2 := h.r2
  have h3 := h.r3
  have h4 := h.r4
  have h5 := h.r5
  have h6 := h.r6
  have h8 := h.r8
  unfold q_R1 at h1
  unfold q_R2 at h2
  unfold q_R3 at h3
  unfold q_R4 at h4
  unfold q_R5 at h5
  unfold q_R6 at h6
  unfold q_R8 at h8
  refine ⟨?_, ?_, ?_, ?_, ?_, ?_, hp, ?_⟩
  · unfold q_R1; simp only [e1 3 rfl, e1 5 rfl, e1 6 rfl, g1 1 rfl, g1 2 rfl, g1 3 rfl]; exact h1
  · unfold q_R2; simp only [e1 4 rfl, g1 4 rfl, g1 14 rfl]; exact h2
  · unfold q_R3; simp only [e1 4 rfl, e1 7 rfl, g1 14 rfl]; exact h3
  · unfold q_R4; simp only [e1 9 rfl, e2, g1 8 rfl, g1 14 rfl]; exact h4
  · unfold q_R5; simp only [e1 11 rfl, e1 12 rfl, e2, g1 7 rfl, g1 14 rfl]; exact h5
  · unfold q_R6; simp only [e1 24 rfl, e2, g1 9 rfl, g1 14 rfl, g1 15 rfl, g2, g1 16 rfl, g1 17 rfl, g1 18 rfl, g1 19 rfl, g1 20 rfl, g1 21 rfl, g1 22 rfl, g1 23 rfl, g1 24 rfl, g1 25 rfl, g1 26 rfl, g1 27 rfl, g1 28 rfl, g1 29 rfl, g1 30 rfl, g1 31 rfl, g1 32 rfl]; exact h6
  · unfold q_R8; simp only [e1 31 rfl, e1 4 rfl, e2, g2, g1 5 rfl]; exact h8
theorem q_VX.trans (h : q_VX x y) (g : q_VX y z) : q_VX x z := ⟨fun i hi => (g.1 i hi).trans (h.1 i hi), g.2.trans h.2⟩
theorem q_VM.trans (h : q_VM x y) (g : q_VM y z) : q_VM x z := ⟨fun i hi => (g.1 i hi).trans (h.1 i hi), g.2.trans h.2⟩
theorem q_VX_refl (x : q_S) : q_VX x x := ⟨fun _ _ => rfl, rfl⟩
theorem q_VM_refl (x : q_S) : q_VM x x := ⟨fun _ _ => rfl, rfl⟩
theorem q_VX_A (i : Nat) (f : Nat → Int32) (hi : (Nat.ble 26 i && Nat.ble i 30) = true) : q_VX x (q_sA x i f) := by
  refine ⟨fun j hj => ?_, rfl⟩
  refine q_uA_ne _ _ ?_
  cases e : Nat.beq j i with
  | false => rfl
  | true => rw [Nat.eq_of_beq_eq_true e, hi] at hj; cases hj
theorem q_VM_A (i : Nat) (f : Nat → Int32) (hi : (Nat.beq i 6 || (Nat.ble 10 i && Nat.ble i 13)) = true) : q_VM m (q_sA m i f) := by
  refine ⟨fun j hj => ?_, rfl⟩
  refine q_uA_ne _ _ ?_
  cases e : Nat.beq j i with
  | false => rfl
  | true => rw [Nat.eq_of_beq_eq_true e, hi] at hj; cases hj
/-- two rows that are alike below n stay alike -/
theorem q_up2 {f g : Nat → Int32} {n k : Nat} {u v : Int32} (h : ∀ j, j < n → f j = g j) (e : u = v) : ∀ j, j < n → upd f k u j = upd g k v j := fun j hj => by
  by_cases q : j = k
  · rw [q_upE _ _ q, q_upE _ _ q, e]
  · rw [q_upN _ _ q, q_upN _ _ q]; exact h j hj
/-- .. where the one is not written because it would stay as it is -/
theorem q_up1 {f g : Nat → Int32} {n k : Nat} {v : Int32} (h : ∀ j, j < n → f j = g j) (e : k < n → f k = v) : ∀ j, j < n → f j = upd g k v j := fun j hj => by
  by_cases q : j = k
  · rw [q_upE _ _ q]; subst q; exact e hj
  · rw [q_upN _ _ q]; exact h j hj
def q_vv (x m : q_S) : Prop := (∀ k, k < 3 → x.1 26 k = m.1 10 k) ∧ (∀ k, k < 3 → x.1 27 k = m.1 11 k) ∧ (∀ k, k < 3 → x.1 28 k = m.1 12 k) ∧ (∀ k, k < 3 → x.1 29 k = m.1 13 k) ∧ (∀ k, k < 40 → x.1 30 k = m.1 6 k)
theorem q_vv_of (h : q_R7 x m) : q_vv x m := ⟨fun k hk => (h.1 k hk).1, fun k hk => (h.1 k hk).2.1, fun k hk => (h.1 k hk).2.2.1, fun k hk => (h.1 k hk).2.2.2, h.2⟩
theorem q_vv_to (h : q_vv x m) : q_R7 x m := ⟨fun k hk => ⟨h.1 k hk, h.2.1 k hk, h.2.2.1 k hk, h.2.2.2.1 k hk⟩, h.2.2.2.2⟩
theorem q_noise {n : Int32} (h : q_rgz 0 32767 n) : (decide (n &&& 3 = 1) || decide (n &&& 3 = 2)) = !decide (n - n / 2 * 2 = (n / 2) - (n / 2) / 2 * 2) := by
  have a := h.1
  have b := h.2
  have e1 : (n &&& 3).toInt = n.toInt % 4 := q_andI 2 (by decide) h (by decide) rfl
  have e2 : (n - n / 2 * 2).toInt = n.toInt % 2 := q_rem_eq a (by decide)
  have e3 : (n / 2).toInt = n.toInt / 2 := q_toInt_div a (by decide)
  have e4 : ((n / 2) - (n / 2) / 2 * 2).toInt = n.toInt / 2 % 2 := by rw [q_rem_eq (by omega) (by decide), e3]; rfl
  have z1 : (1 : Int32).toInt = 1 := rfl
  have z2 : (2 : Int32).toInt = 2 := rfl
  rcases (by omega : n.toInt % 4 = 0 ∨ n.toInt % 4 = 1 ∨ n.toInt % 4 = 2 ∨ n.toInt % 4 = 3) with q | q | q | q
  · rw [q_eq_F (by omega), q_eq_F (show ¬ (n &&& 3).toInt = (2 : Int32).toInt by omega), q_eq_T (by rw [e2, e4]; omega)]; rfl
  · rw [q_eq_T (show (n &&& 3).toInt = (1 : Int32).toInt by omega), q_eq_F (show ¬ (n - n / 2 * 2).toInt = ((n / 2) - (n / 2) / 2 * 2).toInt by rw [e2, e4]; omega)]; rfl
  · rw [q_eq_F (by omega), q_eq_T (show (n &&& 3).toInt = (2 : Int32).toInt by omega), q_eq_F (show ¬ (n - n / 2 * 2).toInt = ((n / 2) - (n / 2) / 2 * 2).toInt by rw [e2, e4]; omega)]; rfl
  · rw [q_eq_F (by omega), q_eq_F (show ¬ (n &&& 3).toInt = (2 : Int32).toInt by omega), q_eq_T (by rw [e2, e4]; omega)]; rfl
theorem q_vk {v : Int32} (hv : q_rgz 0 2 v) : q_in v 3 = true ∧ v.toNatClampNeg < 3 ∧ decide (v < 0) = false ∧ decide (v < 3) = true := by
  have a := hv.1
  have b := hv.2
  have e : v.toNatClampNeg = v.toInt.toNat := rfl
  have z0 : (0 : Int32).toInt = 0 := rfl
  have z3 : (3 : Int32).toInt = 3 := rfl
  exact ⟨q_in_rg hv (by decide) (by decide), by omega, q_lt_F (by omega), q_lt_T (by omega)⟩
/-- the phase and the noise -/
theorem q_turn (h : q_vv x m) (hI : q_Iv c d w m) {v : Int32} (hv : q_rgz 0 2 v) {p1 p2 : Int32} : ∃ y m1, dz_N169_89 x v (p1 + 256 * p2) = some y ∧ q_vv y m1 ∧ q_VX x y ∧ q_VM m m1 ∧ m1.1 11 = m.1 11 ∧
    (∀ f : q_S → Option q_S, (q_let ((((m.1 10) (v.toNatClampNeg)) + p1) + (256 * p2)) fun x570 => cond (decide (65535 < x570)) (cond (decide (((m.1 13) (v.toNatClampNeg)) - ((m.1 13) (v.toNatClampNeg)) / 2 * 2 = (((m.1 13) (v.toNatClampNeg)) / 2) - (((m.1 13) (v.toNatClampNeg)) / 2) / 2 * 2)) (f (q_sA (q_sA m 10 (upd (m.1 10) (v.toNatClampNeg) (x570 - x570 / 65536 * 65536))) 13 (upd (m.1 13) (v.toNatClampNeg) ((((m.1 13) (v.toNatClampNeg)) / 2) + 0)))) (f (q_sA (q_sA m 10 (upd (m.1 10) (v.toNatClampNeg) (x570 - x570 / 65536 * 65536))) 13 (upd (m.1 13) (v.toNatClampNeg) ((((m.1 13) (v.toNatClampNeg)) / 2) + 16384))))) (f (q_sA m 10 (upd (m.1 10) (v.toNatClampNeg) (x570 - x570 / 65536 * 65536))))) = f m1) := by
  obtain ⟨i3, k3, n1, n2⟩ := q_vk hv
  obtain ⟨h1, h2, h3, h4, h5⟩ := h
  have nn := q_noise (hI.1 13 v.toNatClampNeg : q_rgz 0 32767 _)
  unfold dz_N169_89 dz_N169_89_59
  rw [n1, n2, i3, h1 _ k3, h4 _ k3, ← Int32.add_assoc]
  unfold q_let
  dsimp only
  generalize ((m.1 10) (v.toNatClampNeg) + p1) + 256 * p2 = S
  generalize v.toNatClampNeg = k at *
  cases decide (65535 < S) with
  | false =>
    refine ⟨q_sA x 26 (upd (x.1 26) k (S - S / 65536 * 65536)), q_sA m 10 (upd (m.1 10) k (S - S / 65536 * 65536)), rfl, ⟨q_up2 h1 rfl, h2, h3, h4, h5⟩, q_VX_A _ _ rfl, q_VM_A _ _ rfl, rfl, fun f => rfl⟩
  | true =>
    cases q : decide (m.1 13 k - m.1 13 k / 2 * 2 = m.1 13 k / 2 - m.1 13 k / 2 / 2 * 2) with
    | true =>
      rw [q] at nn
      have q1 : decide (m.1 13 k &&& 3 = 1) = false := by
        cases e : decide (m.1 13 k &&& 3 = 1) with
        | false => rfl
        | true => rw [e] at nn; cases nn
      have q2 : decide (m.1 13 k &&& 3 = 2) = false := by
        cases e : decide (m.1 13 k &&& 3 = 2) with
        | false => rfl
        | true => rw [e, Bool.or_true] at nn; cases nn
      rw [q1, q2]
      refine ⟨q_sA (q_sA x 26 (upd (x.1 26) k (S - S / 65536 * 65536))) 29 (upd (x.1 29) k (m.1 13 k / 2 + 0)), q_sA (q_sA m 10 (upd (m.1 10) k (S - S / 65536 * 65536))) 13 (upd (m.1 13) k (m.1 13 k / 2 + 0)), rfl, ⟨q_up2 h1 rfl, h2, h3, q_up2 h4 rfl, h5⟩, (q_VX_A _ _ rfl).trans (q_VX_A _ _ rfl), (q_VM_A _ _ rfl).trans (q_VM_A _ _ rfl), rfl, fun f => rfl⟩
    | false =>
      rw [q] at nn
      refine ⟨q_sA (q_sA x 26 (upd (x.1 26) k (S - S / 65536 * 65536))) 29 (upd (x.1 29) k (m.1 13 k / 2 + 16384)), q_sA (q_sA m 10 (upd (m.1 10) k (S - S / 65536 * 65536))) 13 (upd (m.1 13) k (m.1 13 k / 2 + 16384)), ?_, ⟨q_up2 h1 rfl, h2, h3, q_up2 h4 rfl, h5⟩, (q_VX_A _ _ rfl).trans (q_VX_A _ _ rfl), (q_VM_A _ _ rfl).trans (q_VM_A _ _ rfl), rfl, fun f => rfl⟩
      cases e : decide (m.1 13 k &&& 3 = 1) with
      | true => rfl
      | false =>
        rw [e, Bool.false_or] at nn
        rw [nn]; rfl
theorem q_swell (h : q_vv x m) (hl : ∀ k, q_rgz 0 15 (m.1 11 k)) (hg : ∀ k, q_rgz 0 255 (m.1 4 k)) (e4 : ∀ k, 32 ≤ k → k < 44 → x.1 4 k = m.1 4 k) {v b : Int32} (hv : q_rgz 0 2 v) (hb : b.toInt = 32 + 4 * v.toInt) : ∃ y m2, dz_M231_64_93 m v b = some m2 ∧ q_vv y m2 ∧ q_VX x y ∧ q_VM m m2 ∧
    (∀ f : q_S → Option q_S, (cond (q_in (b + 2) 48) (cond (decide (((x.1 4) ((b + 2).toNatClampNeg)) &&& 1 = 1)) (cond (q_in (b + 3) 48) ((dz_N170_89_t x v ((x.1 4) ((b + 3).toNatClampNeg))).bind f) none) (cond (q_in (b + 3) 48) ((dz_N170_89_f x v ((x.1 4) ((b + 3).toNatClampNeg))).bind f) none)) none) = f y) := by
  obtain ⟨i3, k3, n1, n2⟩ := q_vk hv
  obtain ⟨h1, h2, h3, h4, h5⟩ := h
  have a := hv.1
  have a2 := hv.2
  have z2 : (2 : Int32).toInt = 2 := rfl
  have z3 : (3 : Int32).toInt = 3 := rfl
  have e2 : (b + 2).toInt = 34 + 4 * v.toInt := by rw [q_addI ⟨by omega, by omega⟩ ⟨by decide, by decide⟩, hb]; omega
  have e3 : (b + 3).toInt = 35 + 4 * v.toInt := by rw [q_addI ⟨by omega, by omega⟩ ⟨by decide, by decide⟩, hb]; omega
  have i2 : q_in (b + 2) 48 = true := q_in_rg (l := 0) (u := 47) ⟨by omega, by omega⟩ (by decide) (by decide)
  have i4 : q_in (b + 3) 48 = true := q_in_rg (l := 0) (u := 47) ⟨by omega, by omega⟩ (by decide) (by decide)
  have k2 : (b + 2).toNatClampNeg = (b + 2).toInt.toNat := rfl
  have k4 : (b + 3).toNatClampNeg = (b + 3).toInt.toNat := rfl
  have g2 : x.1 4 (b + 2).toNatClampNeg = m.1 4 (b + 2).toNatClampNeg := e4 _ (by omega) (by omega)
  have g3 : x.1 4 (b + 3).toNatClampNeg = m.1 4 (b + 3).toNatClampNeg := e4 _ (by omega) (by omega)
  unfold dz_M231_64_93 dz_N170_89_t dz_N170_89_t_80 dz_N170_89_f dz_N170_89_f_80
  rw [i2, i4, i3, g2, g3, n1, n2, q_cT (s := m) 0 (by decide) (hg _) (by decide) (k := 0) rfl rfl, h3 _ k3, h2 _ k3]
  have lv := hl v.toNatClampNeg
  have lv0 := lv.1
  have lv1 := lv.2
  have w1 : upd (x.1 28) v.toNatClampNeg (m.1 12 v.toNatClampNeg + 1) v.toNatClampNeg = m.1 12 v.toNatClampNeg + 1 := q_upE _ _ rfl
  have w2 : upd (m.1 12) v.toNatClampNeg (m.1 12 v.toNatClampNeg + 1) v.toNatClampNeg = m.1 12 v.toNatClampNeg + 1 := q_upE _ _ rfl
  rw [w1, w2]
  unfold q_let
  dsimp only
  generalize m.1 4 (b + 3).toNatClampNeg = r
  have z15 : (15 : Int32).toInt = 15 := rfl
  have z0 : (0 : Int32).toInt = 0 := rfl
  have p1 : (m.1 11 v.toNatClampNeg + 1).toInt = (m.1 11 v.toNatClampNeg).toInt + 1 := q_addI ⟨by omega, by omega⟩ ⟨by decide, by decide⟩
  have p2 : (m.1 11 v.toNatClampNeg - 1).toInt = (m.1 11 v.toNatClampNeg).toInt - 1 := q_subI ⟨by omega, by omega⟩ ⟨by decide, by decide⟩
  have up : (if m.1 11 v.toNatClampNeg + 1 < (15 : Int32) then m.1 11 v.toNatClampNeg + 1 else (15 : Int32)) = cond (decide (m.1 11 v.toNatClampNeg < 15)) (m.1 11 v.toNatClampNeg + 1) (m.1 11 v.toNatClampNeg) := by
    apply Int32.toInt_inj.mp
    by_cases q : (m.1 11 v.toNatClampNeg).toInt < 14
    · rw [if_pos (Int32.lt_iff_toInt_lt.mpr (by omega)), q_lt_T (show (m.1 11 v.toNatClampNeg).toInt < (15 : Int32).toInt by omega)]; rfl
    · rw [if_neg (fun z => by have := Int32.lt_iff_toInt_lt.mp z; omega)]
      by_cases q2 : (m.1 11 v.toNatClampNeg).toInt < 15
      · rw [q_lt_T (show (m.1 11 v.toNatClampNeg).toInt < (15 : Int32).toInt by omega), cond_true]; omega
      · rw [q_lt_F (show (15 : Int32).toInt ≤ (m.1 11 v.toNatClampNeg).toInt by omega), cond_false]; omega
  have dn : (if (0 : Int32) < m.1 11 v.toNatClampNeg - 1 then m.1 11 v.toNatClampNeg - 1 else (0 : Int32)) = cond (decide (0 < m.1 11 v.toNatClampNeg)) (m.1 11 v.toNatClampNeg - 1) (m.1 11 v.toNatClampNeg) := by
    apply Int32.toInt_inj.mp
    by_cases q : 1 < (m.1 11 v.toNatClampNeg).toInt
    · rw [if_pos (Int32.lt_iff_toInt_lt.mpr (by omega)), q_lt_T (show (0 : Int32).toInt < (m.1 11 v.toNatClampNeg).toInt by omega)]; rfl
    · rw [if_neg (fun z => by have := Int32.lt_iff_toInt_lt.mp z; omega)]
      by_cases q2 : 0 < (m.1 11 v.toNatClampNeg).toInt
      · rw [q_lt_T (show (0 : Int32).toInt < (m.1 11 v.toNatClampNeg).toInt by omega), cond_true]; omega
      · rw [q_lt_F (show (m.1 11 v.toNatClampNeg).toInt ≤ (0 : Int32).toInt by omega), cond_false]; omega
  have xl : x.1 27 v.toNatClampNeg = m.1 11 v.toNatClampNeg := h2 _ k3
  generalize v.toNatClampNeg = k at *
  have o2 := @q_up2
  cases dz_M205 m (m.1 4 (b + 2).toNatClampNeg) 0 with
  | true =>
    cases decide (r - r / 16 * 16 < m.1 12 k + 1) with
    | false => exact ⟨q_sA x 28 (upd (x.1 28) k (m.1 12 k + 1)), _, rfl, ⟨h1, h2, q_up2 h3 rfl, h4, h5⟩, q_VX_A _ _ rfl, q_VM_A _ _ rfl, fun f => rfl⟩
    | true =>
      show ∃ y m2, some (q_sA (q_sA (q_sA m 12 (upd (m.1 12) k (m.1 12 k + 1))) 12 (upd (upd (m.1 12) k (m.1 12 k + 1)) k 0)) 11 (upd (m.1 11) k (if m.1 11 k + 1 < (15 : Int32) then m.1 11 k + 1 else (15 : Int32)))) = some m2 ∧ _
      rw [up]
      cases decide (m.1 11 k < 15) with
      | true => exact ⟨q_sA (q_sA x 28 (upd (upd (x.1 28) k (m.1 12 k + 1)) k 0)) 27 (upd (x.1 27) k (m.1 11 k + 1)), _, rfl, ⟨h1, q_up2 h2 rfl, q_up2 (q_up2 h3 rfl) rfl, h4, h5⟩, (q_VX_A _ _ rfl).trans (q_VX_A _ _ rfl), ((q_VM_A _ _ rfl).trans (q_VM_A _ _ rfl)).trans (q_VM_A _ _ rfl), fun f => rfl⟩
      | false => exact ⟨q_sA x 28 (upd (upd (x.1 28) k (m.1 12 k + 1)) k 0), _, rfl, ⟨h1, q_up1 h2 (fun _ => xl), q_up2 (q_up2 h3 rfl) rfl, h4, h5⟩, q_VX_A _ _ rfl, ((q_VM_A _ _ rfl).trans (q_VM_A _ _ rfl)).trans (q_VM_A _ _ rfl), fun f => rfl⟩
  | false =>
    cases decide (r / 16 < m.1 12 k + 1) with
    | false => exact ⟨q_sA x 28 (upd (x.1 28) k (m.1 12 k + 1)), _, rfl, ⟨h1, h2, q_up2 h3 rfl, h4, h5⟩, q_VX_A _ _ rfl, q_VM_A _ _ rfl, fun f => rfl⟩
    | true =>
      show ∃ y m2, some (q_sA (q_sA (q_sA m 12 (upd (m.1 12) k (m.1 12 k + 1))) 12 (upd (upd (m.1 12) k (m.1 12 k + 1)) k 0)) 11 (upd (m.1 11) k (if (0 : Int32) < m.1 11 k - 1 then m.1 11 k - 1 else (0 : Int32)))) = some m2 ∧ _
      rw [dn]
      have tX : ∀ f : q_S → Option q_S, (cond (decide ((0 : Int32) = 0)) (cond true (cond (decide (0 < (q_sA x 28 (upd (upd (x.1 28) k (m.1 12 k + 1)) k 0)).1 27 k)) (some (q_sA (q_sA x 28 (upd (upd (x.1 28) k (m.1 12 k + 1)) k 0)) 27 (upd ((q_sA x 28 (upd (upd (x.1 28) k (m.1 12 k + 1)) k 0)).1 27) k ((q_sA x 28 (upd (upd (x.1 28) k (m.1 12 k + 1)) k 0)).1 27 k - 1)))) (some (q_sA x 28 (upd (upd (x.1 28) k (m.1 12 k + 1)) k 0)))) none) (some (q_sA x 28 (upd (upd (x.1 28) k (m.1 12 k + 1)) k 0)))).bind f = (cond (decide (0 < m.1 11 k)) (some (q_sA (q_sA x 28 (upd (upd (x.1 28) k (m.1 12 k + 1)) k 0)) 27 (upd (x.1 27) k (m.1 11 k - 1)))) (some (q_sA x 28 (upd (upd (x.1 28) k (m.1 12 k + 1)) k 0)))).bind f := fun f => by
        show (cond (decide (0 < x.1 27 k)) (some (q_sA (q_sA x 28 (upd (upd (x.1 28) k (m.1 12 k + 1)) k 0)) 27 (upd (x.1 27) k (x.1 27 k - 1)))) (some (q_sA x 28 (upd (upd (x.1 28) k (m.1 12 k + 1)) k 0)))).bind f = _
        rw [xl]
      cases q : decide (0 < m.1 11 k) with
      | true =>
        refine ⟨q_sA (q_sA x 28 (upd (upd (x.1 28) k (m.1 12 k + 1)) k 0)) 27 (upd (x.1 27) k (m.1 11 k - 1)), _, rfl, ⟨h1, q_up2 h2 rfl, q_up2 (q_up2 h3 rfl) rfl, h4, h5⟩, (q_VX_A _ _ rfl).trans (q_VX_A _ _ rfl), ((q_VM_A _ _ rfl).trans (q_VM_A _ _ rfl)).trans (q_VM_A _ _ rfl), fun f => (tX f).trans (by rw [q]; rfl)⟩
      | false =>
        refine ⟨q_sA x 28 (upd (upd (x.1 28) k (m.1 12 k + 1)) k 0), _, rfl, ⟨h1, q_up1 h2 (fun _ => xl), q_up2 (q_up2 h3 rfl) rfl, h4, h5⟩, q_VX_A _ _ rfl, ((q_VM_A _ _ rfl).trans (q_VM_A _ _ rfl)).trans (q_VM_A _ _ rfl), fun f => (tX f).trans (by rw [q]; rfl)⟩
end
end
section
section
variable {TT : (Nat → Int32) → Int32 → (Nat → Int32) → Int32 → Int64 → Int64 → List Int32 → List (Nat → Int32) → (Nat → Int64) → Prop} {x y z m : q_S} {c d w : Int}
theorem q_wave {g : Int32} (h : q_rgz 0 255 g) : (g >>> ((1 &&& 31 : Int32))) &&& 3 = (g / 2) - (g / 2) / 4 * 4 ∧ q_rgz 0 3 ((g / 2) - (g / 2) / 4 * 4) := by
  have a := h.1
  have b := h.2
  have e1 : (g >>> ((1 &&& 31 : Int32))).toInt = g.toInt / 2 := q_shrI 1 rfl (by decide)
  have e2 : (g / 2).toInt = g.toInt / 2 := q_toInt_div a (by decide)
  have e3 : ((g / 2) - (g / 2) / 4 * 4).toInt = g.toInt / 2 % 4 := by rw [q_rem_eq (by omega) (by decide), e2]; rfl
  refine ⟨?_, ⟨by omega, by omega⟩⟩
  apply Int32.toInt_inj.mp
  rw [e3, q_andI 2 (by decide) (l := 0) (u := 127) ⟨by omega, by omega⟩ (by decide) rfl, e1]
  rfl
theorem q_233 (m : q_S) {v W : Int32} (hv : q_rgz 0 2 v) (hW : ((m.1 4 ((34 : Int32) + 4 * v).toNatClampNeg) / 2) - ((m.1 4 ((34 : Int32) + 4 * v).toNatClampNeg) / 2) / 4 * 4 = W) (rW : q_rgz 0 3 W) (i1 : q_in ((34 : Int32) + 4 * v) 48 = true) (i2 : q_in ((v + 2) - (v + 2) / 3 * 3) 3 = true) : dz_M232_64 m v = some (cond (dz_M205 m (m.1 4 ((34 : Int32) + 4 * v).toNatClampNeg) 3) (cond (decide (m.1 10 (((v + 2) - (v + 2) / 3 * 3).toNatClampNeg) < 32768)) (dz_N172 m W (m.1 10 v.toNatClampNeg) (m.1 13 v.toNatClampNeg)) (15 - dz_N172 m W (m.1 10 v.toNatClampNeg) (m.1 13 v.toNatClampNeg))) (dz_N172 m W (m.1 10 v.toNatClampNeg) (m.1 13 v.toNatClampNeg))) := by
  obtain ⟨i3, k3, n1, n2⟩ := q_vk hv
  unfold dz_M232_64 q_let dz_N172
  rw [i1, i3, i2]
  dsimp only
  rw [hW]
  have a := rW.1
  have b := rW.2
  generalize dz_M205 m (m.1 4 ((34 : Int32) + 4 * v).toNatClampNeg) 3 = R
  generalize decide (m.1 10 (((v + 2) - (v + 2) / 3 * 3).toNatClampNeg) < 32768) = Q
  rcases (by omega : W.toInt = 0 ∨ W.toInt = 1 ∨ W.toInt = 2 ∨ W.toInt = 3) with e | e | e | e
  · rw [show W = 0 from Int32.toInt_inj.mp e]
    cases R <;> cases Q <;> rfl
  · rw [show W = 1 from Int32.toInt_inj.mp e]
    show (cond (decide (m.1 10 v.toNatClampNeg < 32768)) _ _) = some (cond R (cond Q (cond (decide (m.1 10 v.toNatClampNeg < 32768)) (0 : Int32) 15) (15 - (cond (decide (m.1 10 v.toNatClampNeg < 32768)) (0 : Int32) 15))) (cond (decide (m.1 10 v.toNatClampNeg < 32768)) (0 : Int32) 15))
    cases decide (m.1 10 v.toNatClampNeg < 32768) <;> cases R <;> cases Q <;> first | rfl | exact congrArg some (show (15 : Int32) = 15 - 0 by decide) | exact congrArg some (show (0 : Int32) = 15 - 15 by decide)
  · rw [show W = 2 from Int32.toInt_inj.mp e]
    cases R <;> cases Q <;> rfl
  · rw [show W = 3 from Int32.toInt_inj.mp e]
    cases R <;> cases Q <;> first | rfl | exact congrArg some (show (15 : Int32) = 15 - 0 by decide) | exact congrArg some (show (0 : Int32) = 15 - 15 by decide)
theorem q_give (h : q_vv x m) (hg : ∀ k, q_rgz 0 255 (m.1 4 k)) (e4 : ∀ k, 32 ≤ k → k < 44 → x.1 4 k = m.1 4 k) {v : Int32} (hv : q_rgz 0 2 v) : ∃ r, dz_N171_89 x v (x.1 4 ((((32 : Int32) + (4 * v)) + 2).toNatClampNeg)) = some r ∧ dz_M232_64 m v = some r ∧ q_in (((32 : Int32) + (4 * v)) + 2) 48 = true := by
  obtain ⟨i3, k3, n1, n2⟩ := q_vk hv
  obtain ⟨h1, h2, h3, h4, h5⟩ := h
  have a := hv.1
  have b := hv.2
  have e0 : (4 * v).toInt = 4 * v.toInt := q_mulI (n := 4) rfl (by decide) (by decide) ⟨by omega, by omega⟩
  have z32 : (32 : Int32).toInt = 32 := rfl
  have z34 : (34 : Int32).toInt = 34 := rfl
  have z2 : (2 : Int32).toInt = 2 := rfl
  have e1 : ((32 : Int32) + (4 * v)).toInt = 32 + 4 * v.toInt := by rw [q_addI ⟨by decide, by decide⟩ ⟨by omega, by omega⟩]; omega
  have e2 : (((32 : Int32) + (4 * v)) + 2).toInt = 34 + 4 * v.toInt := by rw [q_addI ⟨by omega, by omega⟩ ⟨by decide, by decide⟩]; omega
  have e3 : ((34 : Int32) + (4 * v)).toInt = 34 + 4 * v.toInt := by rw [q_addI ⟨by decide, by decide⟩ ⟨by omega, by omega⟩]; omega
  have ee : ((32 : Int32) + (4 * v)) + 2 = (34 : Int32) + 4 * v := Int32.toInt_inj.mp (by omega)
  have i1 : q_in ((34 : Int32) + 4 * v) 48 = true := q_in_rg (l := 0) (u := 47) ⟨by omega, by omega⟩ (by decide) (by decide)
  have kn : ((34 : Int32) + 4 * v).toNatClampNeg = ((34 : Int32) + 4 * v).toInt.toNat := rfl
  have g : x.1 4 ((34 : Int32) + 4 * v).toNatClampNeg = m.1 4 ((34 : Int32) + 4 * v).toNatClampNeg := e4 _ (by omega) (by omega)
  rw [ee, g]
  have hh := hg ((34 : Int32) + 4 * v).toNatClampNeg
  obtain ⟨w1, w2⟩ := q_wave hh
  have e5 : (v + 2).toInt = v.toInt + 2 := q_addI ⟨by omega, by omega⟩ ⟨by decide, by decide⟩
  have e6 : ((v + 2) - (v + 2) / 3 * 3).toInt = (v.toInt + 2) % 3 := by rw [q_rem_eq (by omega) (by decide), e5]; rfl
  have i2 : q_in ((v + 2) - (v + 2) / 3 * 3) 3 = true := q_in_rg (l := 0) (u := 2) ⟨by omega, by omega⟩ (by decide) (by decide)
  refine ⟨_, ?_, q_233 m hv rfl w2 i1 i2, i1⟩
  have c8 := q_cT (s := m) (p := 8) (k := 3) 3 (by decide) hh (by decide) rfl rfl
  unfold dz_N171_89 q_let
  rw [n1, n2, w1, c8, h1 _ k3, h4 _ k3]
  have h172 : ∀ (p q r : Int32), dz_N172 x p q r = dz_N172 m p q r := fun _ _ _ => rfl
  rw [h172]
  generalize dz_N172 m (m.1 4 ((34 : Int32) + 4 * v).toNatClampNeg / 2 - m.1 4 ((34 : Int32) + 4 * v).toNatClampNeg / 2 / 4 * 4) (m.1 10 v.toNatClampNeg) (m.1 13 v.toNatClampNeg) = o
  generalize dz_M205 m (m.1 4 ((34 : Int32) + 4 * v).toNatClampNeg) 3 = R
  dsimp only
  have kA : ((v + 2) - (v + 2) / 3 * 3).toNatClampNeg = ((v + 2) - (v + 2) / 3 * 3).toInt.toNat := rfl
  by_cases k0 : v.toInt = 0
  · rw [q_eq_T (show v.toInt = (0 : Int32).toInt by rw [k0]; rfl), h1 2 (by decide), show ((v + 2) - (v + 2) / 3 * 3).toNatClampNeg = 2 by omega]
    cases R <;> cases decide (m.1 10 2 < 32768) <;> rfl
  · have e7 : (v - 1).toInt = v.toInt - 1 := q_subI ⟨by omega, by omega⟩ ⟨by decide, by decide⟩
    have kB : (v - 1).toNatClampNeg = (v - 1).toInt.toNat := rfl
    have z0 : (0 : Int32).toInt = 0 := rfl
    rw [q_eq_F (show ¬ v.toInt = (0 : Int32).toInt by omega), q_in_rg (x := v - 1) (n := 3) (l := 0) (u := 2) ⟨by omega, by omega⟩ (by decide) (by decide), h1 (v - 1).toNatClampNeg (by omega), show ((v + 2) - (v + 2) / 3 * 3).toNatClampNeg = (v - 1).toNatClampNeg by omega]
    cases R <;> cases decide (m.1 10 (v - 1).toNatClampNeg < 32768) <;> rfl
/-- one voice's turn in both loops -/
theorem q_vstep (h : q_vv x m) (hI : q_Iv c d w m) (e4 : ∀ k, 32 ≤ k → k < 44 → x.1 4 k = m.1 4 k) {v : Int32} (hv : q_rgz 0 2 v) : ∃ y m2, (∀ n ln, dz_N168_89_68_20 (n + 1) x ln v = dz_N168_89_68_20 n y ln (v + 1)) ∧ (∀ n, dz_M233_64_2 (n + 1) m v = dz_M233_64_2 n m2 (v + 1)) ∧ q_vv y m2 ∧ q_VX x y ∧ q_VM m m2 ∧ q_Iv c d w m2 := by
  obtain ⟨i3, k3, n1, n2⟩ := q_vk hv
  have a := hv.1
  have b := hv.2
  have e0 : (4 * v).toInt = 4 * v.toInt := q_mulI (n := 4) rfl (by decide) (by decide) ⟨by omega, by omega⟩
  have z32 : (32 : Int32).toInt = 32 := rfl
  have z1 : (1 : Int32).toInt = 1 := rfl
  have z2 : (2 : Int32).toInt = 2 := rfl
  have z3 : (3 : Int32).toInt = 3 := rfl
  have e1 : ((32 : Int32) + (4 * v)).toInt = 32 + 4 * v.toInt := by rw [q_addI ⟨by decide, by decide⟩ ⟨by omega, by omega⟩]; omega
  have e2 : (((32 : Int32) + (4 * v)) + 1).toInt = 33 + 4 * v.toInt := by rw [q_addI ⟨by omega, by omega⟩ ⟨by decide, by decide⟩]; omega
  have i1 : q_in ((32 : Int32) + (4 * v)) 48 = true := q_in_rg (l := 0) (u := 47) ⟨by omega, by omega⟩ (by decide) (by decide)
  have i2 : q_in (((32 : Int32) + (4 * v)) + 1) 48 = true := q_in_rg (l := 0) (u := 47) ⟨by omega, by omega⟩ (by decide) (by decide)
  have kA : ((32 : Int32) + (4 * v)).toNatClampNeg = ((32 : Int32) + (4 * v)).toInt.toNat := rfl
  have kB : (((32 : Int32) + (4 * v)) + 1).toNatClampNeg = (((32 : Int32) + (4 * v)) + 1).toInt.toNat := rfl
  have g1 := e4 ((32 : Int32) + (4 * v)).toNatClampNeg (by omega) (by omega)
  have g2 := e4 (((32 : Int32) + (4 * v)) + 1).toNatClampNeg (by omega) (by omega)
  obtain ⟨y1, m1, t1, t2, t3, t4, t5, t6⟩ := q_turn h hI hv (p1 := m.1 4 ((32 : Int32) + (4 * v)).toNatClampNeg) (p2 := m.1 4 (((32 : Int32) + (4 * v)) + 1).toNatClampNeg)
  have x4 : y1.1 4 = x.1 4 := t3.1 4 rfl
  have m4 : m1.1 4 = m.1 4 := t4.1 4 rfl
  obtain ⟨y, m2, s1, s2, s3, s4, s5⟩ := q_swell t2 (fun k => by rw [t5]; exact hI.1 11 k) (fun k => by rw [m4]; exact q_rg_le (hI.1 4 k) (Int.le_refl _) (by show q_hg k ≤ 255; unfold q_hg; cases Nat.beq k 0 <;> cases Nat.beq k 44 <;> decide)) (fun k p q => by rw [x4, m4]; exact e4 k p q) hv e1
  have eM : dz_M231_64 m v = some m2 := by
    unfold dz_M231_64
    rw [i3, i1, i2]
    rw [cond_true, cond_true, cond_true, ← s1]
    exact t6 (fun s => dz_M231_64_93 s v ((32 : Int32) + (4 * v)))
  obtain ⟨m3, q1, q2⟩ := dzj_M231_64 c d w m hI v hv
  rw [eM] at q1
  cases q1
  refine ⟨y, m2, fun n ln => ?_, fun n => ?_, s2, t3.trans s3, t4.trans s4, q2⟩
  · rw [dzs_N168_89_68_20]
    dsimp only
    rw [n2, i1, i2, g1, g2, t1]
    exact s5 (fun r => dz_N168_89_68_20 n r ln (v + 1))
  · rw [dzs_M233_64_2]
    dsimp only
    rw [n2, eM]
    rfl
theorem q_gstep (h : q_vv x m) (hI : q_Iv c d w m) (e4 : ∀ k, 32 ≤ k → k < 44 → x.1 4 k = m.1 4 k) {v : Int32} (hv : q_rgz 0 2 v) (acc : Int32) : ∃ acc2, (∀ n ln, dz_N168_89_68_92 (n + 1) x ln acc v = dz_N168_89_68_92 n x ln acc2 (v + 1)) ∧ (∀ n, dz_M233_64_22 (n + 1) m acc v = dz_M233_64_22 n m acc2 (v + 1)) := by
  obtain ⟨i3, k3, n1, n2⟩ := q_vk hv
  obtain ⟨r, r1, r2, r3⟩ := q_give h (fun k => q_rg_le (hI.1 4 k) (Int.le_refl _) (by show q_hg k ≤ 255; unfold q_hg; cases Nat.beq k 0 <;> cases Nat.beq k 44 <;> decide)) e4 hv
  refine ⟨acc + r * m.1 11 v.toNatClampNeg, fun n ln => ?_, fun n => ?_⟩
  · rw [dzs_N168_89_68_92]
    dsimp only
    rw [n2, r3, r1, i3, h.2.1 _ k3]
    rfl
  · rw [dzs_M233_64_22]
    dsimp only
    rw [n2, r2, i3]
    rfl
theorem q_snd (h : q_R TT x m) (hI : q_Iv c d w m) : ∃ y m2, dz_N168_89_68 x (dz_M206_64 m) = some y ∧ dz_M233_64 m = some m2 ∧ q_R TT y m2 ∧ q_Iv c d w m2 ∧ q_XCz x y ∧ q_MC m m2 := by
  have e4 : ∀ k, 32 ≤ k → k < 44 → x.1 4 k = m.1 4 k := fun k p q => h.r2.1.1 k (by omega) (by
    have t : ∀ n, n < 44 → 32 ≤ n → q_pl n = true := by decide
    exact t k q p)
  have ln := dzj_M206_64 c d w m hI
  have ln0 : 0 ≤ (dz_M206_64 m).toInt := ln.1
  have ln1 : (dz_M206_64 m).toInt ≤ 39 := ln.2
  obtain ⟨y1, m1, a1, a2, a3, a4, a5, a6⟩ := q_vstep (q_vv_of h.r7) hI e4 (v := 0) ⟨by decide, by decide⟩
  have f1 : ∀ k, 32 ≤ k → k < 44 → y1.1 4 k = m1.1 4 k := fun k p q => by rw [a4.1 4 rfl, a5.1 4 rfl]; exact e4 k p q
  obtain ⟨y2, m2, b1, b2, b3, b4, b5, b6⟩ := q_vstep a3 a6 f1 (v := 0 + 1) ⟨by decide, by decide⟩
  have f2 : ∀ k, 32 ≤ k → k < 44 → y2.1 4 k = m2.1 4 k := fun k p q => by rw [b4.1 4 rfl, b5.1 4 rfl]; exact f1 k p q
  obtain ⟨y3, m3, c1, c2, c3, c4, c5, c6⟩ := q_vstep b3 b6 f2 (v := 0 + 1 + 1) ⟨by decide, by decide⟩
  have f3 : ∀ k, 32 ≤ k → k < 44 → y3.1 4 k = m3.1 4 k := fun k p q => by rw [c4.1 4 rfl, c5.1 4 rfl]; exact f2 k p q
  obtain ⟨s1, d1, d2⟩ := q_gstep c3 c6 f3 (v := 0) ⟨by decide, by decide⟩ 0
  obtain ⟨s2, g1, g2⟩ := q_gstep c3 c6 f3 (v := 0 + 1) ⟨by decide, by decide⟩ s1
  obtain ⟨s3, k1, k2⟩ := q_gstep c3 c6 f3 (v := 0 + 1 + 1) ⟨by decide, by decide⟩ s2
  have vx := (a4.trans b4).trans c4
  have vm := (a5.trans b5).trans c5
  have el : dz_M206_64 m3 = dz_M206_64 m := by unfold dz_M206_64; rw [vm.2]
  have i40 : q_in (dz_M206_64 m) 40 = true := q_in_rg ln (by decide) (by decide)
  have kl : (dz_M206_64 m).toNatClampNeg = (dz_M206_64 m).toInt.toNat := rfl
  have z0 : (0 : Int32).toInt = 0 := rfl
  have z40 : (40 : Int32).toInt = 40 := rfl
  have eM : dz_M233_64 m = some (q_sA m3 6 (upd (m3.1 6) (dz_M206_64 m).toNatClampNeg (s3 / 15))) := by
    have fin : ∀ n, dz_M233_64_22 (n + 1) m3 s3 (0 + 1 + 1 + 1) = some (q_sA m3 6 (upd (m3.1 6) (dz_M206_64 m).toNatClampNeg (s3 / 15))) := fun n => by
      rw [dzs_M233_64_22]
      generalize dz_M233_64_22 n = k
      show (q_let (dz_M206_64 m3) fun r583 => cond (q_in r583 40) (some (q_sA m3 6 (upd (m3.1 6) (r583.toNatClampNeg) (s3 / 15)))) none) = _
      rw [el]
      unfold q_let
      dsimp only
      rw [i40]; rfl
    have f2 : ∀ n, dz_M233_64_2 (n + 1) m3 (0 + 1 + 1 + 1) = dz_M233_64_22 5000 m3 0 0 := fun n => by
      rw [dzs_M233_64_2]
      generalize dz_M233_64_2 n = k
      generalize dz_M233_64_22 5000 = k2
      rfl
    unfold dz_M233_64
    rw [show (5000 : Nat) = 4996 + 1 + 1 + 1 + 1 from rfl, a2, b2, c2, f2, show (5000 : Nat) = 4996 + 1 + 1 + 1 + 1 from rfl, d2, g2, k2, fin]
  have eX : dz_N168_89_68 x (dz_M206_64 m) = some (q_sA y3 30 (upd (y3.1 30) (dz_M206_64 m).toNatClampNeg (s3 / 15))) := by
    have fin : ∀ n, dz_N168_89_68_92 (n + 1) y3 (dz_M206_64 m) s3 (0 + 1 + 1 + 1) = some (q_sA y3 30 (upd (y3.1 30) (dz_M206_64 m).toNatClampNeg (s3 / 15))) := fun n => by
      rw [dzs_N168_89_68_92]
      generalize dz_N168_89_68_92 n = k
      show (cond (q_in (dz_M206_64 m) 40) (some (q_sA y3 30 (upd (y3.1 30) ((dz_M206_64 m).toNatClampNeg) (s3 / 15)))) none) = _
      rw [i40]; rfl
    have f2 : ∀ n, dz_N168_89_68_20 (n + 1) y3 (dz_M206_64 m) (0 + 1 + 1 + 1) = dz_N168_89_68_92 5000 y3 (dz_M206_64 m) 0 0 := fun n => by
      rw [dzs_N168_89_68_20]
      generalize dz_N168_89_68_20 n = k
      generalize dz_N168_89_68_92 5000 = k2
      rfl
    unfold dz_N168_89_68
    rw [q_lt_F (show (0 : Int32).toInt ≤ (dz_M206_64 m).toInt by omega), q_lt_T (show (dz_M206_64 m).toInt < (40 : Int32).toInt by omega), cond_false, cond_true, show (5000 : Nat) = 4996 + 1 + 1 + 1 + 1 from rfl, a1, b1, c1, f2, show (5000 : Nat) = 4996 + 1 + 1 + 1 + 1 from rfl, d1, g1, k1, fin]
  obtain ⟨m9, q1, q2⟩ := dzj_M233_64 c d w m hI
  rw [eM] at q1
  cases q1
  have vx2 := vx.trans (q_VX_A 30 (upd (y3.1 30) (dz_M206_64 m).toNatClampNeg (s3 / 15)) rfl)
  have vm2 := vm.trans (q_VM_A 6 (upd (m3.1 6) (dz_M206_64 m).toNatClampNeg (s3 / 15)) rfl)
  obtain ⟨p1, p2, p3, p4, p5⟩ := c3
  refine ⟨_, _, eX, eM, q_R_V h vx2 vm2 (q_vv_to ⟨p1, p2, p3, p4, q_up2 p5 rfl⟩), q2, ⟨fun k _ => by rw [vx2.1 4 rfl], fun k => by rw [vx2.2], by rw [vx2.2]⟩, ⟨vm2.1 4 rfl, vm2.1 15 rfl, by rw [vm2.2]⟩⟩
end
end
section
section
variable {TT : (Nat → Int32) → Int32 → (Nat → Int32) → Int32 → Int64 → Int64 → List Int32 → List (Nat → Int32) → (Nat → Int64) → Prop} {x y z m : q_S} {c d w : Int}
theorem q_hasE (s : q_S) (a k : Int32) : dz_M205 s a k = decide ((a >>> (k &&& 31)) &&& 1 = 1) := by
  unfold dz_M205
  cases decide ((a >>> (k &&& 31)) &&& 1 = 1) <;> rfl
theorem q_118 (x : q_S) (n : Int32) : dz_N118_66 x 17 n = ((x.1 4 17) >>> (n &&& 31)) &&& 1 ∧ dz_N118_66 x 18 n = ((x.1 4 18) >>> (n &&& 31)) &&& 1 ∧ dz_N118_66 x 19 n = ((x.1 4 19) >>> (n &&& 31)) &&& 1 := ⟨rfl, rfl, rfl⟩
theorem q_reg255 (hI : q_Iv c d w m) (k : Nat) : q_rgz 0 255 (m.1 4 k) := q_rg_le (hI.1 4 k) (Int.le_refl _) (by show q_hg k ≤ 255; unfold q_hg; cases Nat.beq k 0 <;> cases Nat.beq k 44 <;> decide)
theorem q_up4 {g : Int32} (h : q_rgz 0 255 g) : g >>> ((2 &&& 31 : Int32)) = g / 4 ∧ g &&& 3 = g - g / 4 * 4 := by
  constructor
  · apply Int32.toInt_inj.mp
    rw [q_shrI 2 rfl (by decide), q_toInt_div h.1 (by decide)]; rfl
  · apply Int32.toInt_inj.mp
    rw [q_andI 2 (by decide) h (by decide) rfl, q_rem_eq h.1 (by decide)]; rfl
theorem q_row (h : q_R TT x m) (hI : q_Iv c d w m) : (dz_N86_65 x) / 24 - 4 = dz_M221_64 m := by
  show ((((x.2.2 1 8) - (x.2.2 1 8) / 960 * 960).toInt32) / 24) - 4 = dz_M206_64 m - 4
  rw [q_lineX h hI]
/-- a sprite among the rows -/
theorem q_among (h : q_R TT x m) (hI : q_Iv c d w m) (n r : Int32) (hn : q_rgz 0 3 n) : ∃ b, dz_N117_66 x n r = some b ∧ (cond (dz_M222_64 m n) ((dz_M223_64 m n r).bind fun r522 => cond r522 (some true) (some false)) (some false)) = some b := by
  have a := hn.1
  have b := hn.2
  have an : n &&& 3 = n := by
    apply Int32.toInt_inj.mp
    rw [q_andI 2 (by decide) hn (by decide) rfl]
    show n.toInt % 4 = n.toInt
    omega
  have i1 : q_in ((24 : Int32) + n) 48 = true := q_in_rg (q_rg_add (L := 24) (U := 27) (q_rg_lit (n := 24) (x := 24) rfl) hn (by decide) (by decide) (by decide) (by decide)) (by decide) (by decide)
  have e1 : ((24 : Int32) + n).toInt = 24 + n.toInt := q_addI ⟨by decide, by decide⟩ ⟨by omega, by omega⟩
  have kn : ((24 : Int32) + n).toNatClampNeg = ((24 : Int32) + n).toInt.toNat := rfl
  have g : x.1 4 ((24 : Int32) + n).toNatClampNeg = m.1 4 ((24 : Int32) + n).toNatClampNeg := h.r2.1.1 _ (by omega) (by
    have t : ∀ j, j < 28 → 24 ≤ j → q_pl j = true := by decide
    exact t _ (by omega) (by omega))
  have g17 : x.1 4 17 = m.1 4 17 := h.g 17
  have g18 : x.1 4 18 = m.1 4 18 := h.g 18
  obtain ⟨q17, q18, -⟩ := q_118 x n
  unfold dz_N117_66 dz_M222_64 dz_M223_64 q_let
  rw [an, i1]
  dsimp only
  rw [q17, q18, g, g17, g18, q_hasE m (m.1 4 17) n, q_hasE m (m.1 4 18) n]
  rcases q_01 ((m.1 4 18) >>> (n &&& 31)) with e | e
  · rw [e]
    have e8 : (8 : Int32) <<< ((0 : Int32) &&& 31) = 8 := by decide
    rw [e8]
    cases decide ((m.1 4 17) >>> (n &&& 31) &&& 1 = 1) with
    | false => exact ⟨false, rfl, rfl⟩
    | true =>
      cases decide (r < m.1 4 ((24 : Int32) + n).toNatClampNeg) with
      | true => exact ⟨false, rfl, rfl⟩
      | false => cases decide (r < m.1 4 ((24 : Int32) + n).toNatClampNeg + 8) <;> exact ⟨_, rfl, rfl⟩
  · rw [e]
    have e8 : (8 : Int32) <<< ((1 : Int32) &&& 31) = 16 := by decide
    rw [e8]
    cases decide ((m.1 4 17) >>> (n &&& 31) &&& 1 = 1) with
    | false => exact ⟨false, rfl, rfl⟩
    | true =>
      cases decide (r < m.1 4 ((24 : Int32) + n).toNatClampNeg) with
      | true => exact ⟨false, rfl, rfl⟩
      | false => cases decide (r < m.1 4 ((24 : Int32) + n).toNatClampNeg + 16) <;> exact ⟨_, rfl, rfl⟩
/-- whether the next cycle is of the picture -/
theorem q_pic (h : q_R TT x m) (hI : q_Iv c d w m) : ∃ b, dz_N102_65 x = some b ∧ dz_M224_64 m = some b := by
  have er := q_row h hI
  have ec := q_colX h
  have g1 : x.1 4 1 = m.1 4 1 := h.g 1
  have g2 : x.1 4 2 = m.1 4 2 := h.g 2
  have m1 : q_rgz 0 3 (m.1 4 1) := by rw [← g1]; exact h.r8.1.2
  have m10 := m1.1
  have m11 := m1.2
  have rr := dzj_M221_64 c d w m hI
  have rr0 : -4 ≤ (dz_M221_64 m).toInt := rr.1
  have rr1 : (dz_M221_64 m).toInt ≤ 35 := rr.2
  have cc := q_rg_cyc (n := 24) hI (by decide) (b := 24) rfl
  have cc0 := cc.1
  have cc1 := cc.2
  have z0 : (0 : Int32).toInt = 0 := rfl
  have z1 : (1 : Int32).toInt = 1 := rfl
  have z2 : (2 : Int32).toInt = 2 := rfl
  have z3 : (3 : Int32).toInt = 3 := rfl
  have z4 : (4 : Int32).toInt = 4 := rfl
  have z8 : (8 : Int32).toInt = 8 := rfl
  have z20 : (20 : Int32).toInt = 20 := rfl
  have z31 : (31 : Int32).toInt = 31 := rfl
  have z32 : (32 : Int32).toInt = 32 := rfl
  have u4 := (q_up4 (q_reg255 hI 2)).1
  unfold dz_N102_65 dz_M224_64 q_let
  dsimp only
  rw [er, ec]
  generalize dz_M221_64 m = r at *
  generalize ((m.2.2 0 15) - (m.2.2 0 15) / 24 * 24).toInt32 = cl at *
  suffices H : ∃ b, dz_N116_66 x r cl = some b ∧ (cond (dz_M201 m r 0 31) (cond (decide (m.1 4 1 = 0)) (cond (decide (cl < 8)) (cond (decide ((r + (((m.1 4) 2) / 4)) - (r + (((m.1 4) 2) / 4)) / 8 * 8 = 0)) (some true) (some false)) (dz_M224_64_64 m r cl)) (dz_M224_64_64 m r cl)) (some false)) = some b by
    obtain ⟨b, e1, e2⟩ := H
    refine ⟨b, ?_, e2⟩
    rw [e1]
    cases b <;> rfl
  unfold dz_N116_66
  by_cases k0 : r.toInt < 0
  · rw [q_lt_T (show r.toInt < (0 : Int32).toInt by omega), q_202F (Or.inl (by omega))]
    exact ⟨false, rfl, rfl⟩
  rw [q_lt_F (show (0 : Int32).toInt ≤ r.toInt by omega)]
  by_cases k32 : 32 ≤ r.toInt
  · rw [q_lt_F (show (32 : Int32).toInt ≤ r.toInt by omega), q_202F (Or.inr (by omega))]
    exact ⟨false, rfl, rfl⟩
  rw [q_lt_T (show r.toInt < (32 : Int32).toInt by omega), q_202T (by omega) (by omega)]
  by_cases k20 : 20 ≤ cl.toInt
  · -- the sprites' cycles
    have e20 : (cl - 20).toInt = cl.toInt - 20 := q_subI ⟨by omega, by omega⟩ ⟨by decide, by decide⟩
    obtain ⟨b, b1, b2⟩ := q_among h hI (cl - 20) r ⟨by omega, by omega⟩
    have eM : dz_M224_64_64 m r cl = some b := by
      unfold dz_M224_64_64 dz_M224_64_85 q_let
      rw [q_lt_F (show (4 : Int32).toInt ≤ cl.toInt by omega), q_lt_F (show (20 : Int32).toInt ≤ cl.toInt by omega)]
      dsimp only [cond_false]
      rw [b2]
      cases dz_M201 m (m.1 4 1) 1 2 <;> rfl
    have eN : dz_N116_66_24 x r cl = some b := by
      unfold dz_N116_66_24
      rw [q_lt_F (show (20 : Int32).toInt ≤ cl.toInt by omega)]
      dsimp only [cond_false]
      rw [b1]
      cases b <;> rfl
    rw [eM, eN, q_lt_F (show (8 : Int32).toInt ≤ cl.toInt by omega), q_lt_F (show (20 : Int32).toInt ≤ cl.toInt by omega)]
    refine ⟨b, rfl, ?_⟩
    cases decide (m.1 4 1 = 0) <;> rfl
  · have eM : dz_M224_64_64 m r cl = some (dz_M201 m (m.1 4 1) 1 2 && decide (cl < 4)) := by
      unfold dz_M224_64_64 dz_M224_64_85 q_let
      rw [q_lt_T (show cl.toInt < (20 : Int32).toInt by omega)]
      cases dz_M201 m (m.1 4 1) 1 2 <;> cases decide (cl < 4) <;> rfl
    rw [eM]
    by_cases k8 : 8 ≤ cl.toInt
    · rw [q_lt_F (show (8 : Int32).toInt ≤ cl.toInt by omega), q_lt_T (show cl.toInt < (20 : Int32).toInt by omega), q_lt_F (show (4 : Int32).toInt ≤ cl.toInt by omega), Bool.and_false]
      refine ⟨false, rfl, ?_⟩
      cases decide (m.1 4 1 = 0) <;> rfl
    · rw [q_lt_T (show cl.toInt < (8 : Int32).toInt by omega)]
      unfold dz_N116_66_24 dz_N115_66 q_let
      rw [q_lt_T (show cl.toInt < (20 : Int32).toInt by omega), g1, g2, u4]
      dsimp only
      by_cases w0 : (m.1 4 1).toInt = 0
      · rw [q_eq_T (show (m.1 4 1).toInt = (0 : Int32).toInt by omega)]
        cases decide ((r + (((m.1 4) 2) / 4)) - (r + (((m.1 4) 2) / 4)) / 8 * 8 = 0) <;> exact ⟨_, rfl, rfl⟩
      · rw [q_eq_F (show ¬ (m.1 4 1).toInt = (0 : Int32).toInt by omega)]
        by_cases w3 : (m.1 4 1).toInt = 3
        · rw [q_eq_T (show (m.1 4 1).toInt = (3 : Int32).toInt by omega), q_202F (Or.inr (by omega))]
          exact ⟨_, rfl, rfl⟩
        · rw [q_eq_F (show ¬ (m.1 4 1).toInt = (3 : Int32).toInt by omega), q_202T (by omega) (by omega)]
          cases decide (cl < 4) <;> exact ⟨_, rfl, rfl⟩
end
end
section
section
variable {TT : (Nat → Int32) → Int32 → (Nat → Int32) → Int32 → Int64 → Int64 → List Int32 → List (Nat → Int32) → (Nat → Int64) → Prop} {x y z m : q_S} {c d w : Int}
theorem q_andlit (a : Int32) : q_in (a &&& 4095) 4096 = true := q_in_rg (q_rg_and a 4095 (U := 4095) (by decide) rfl) (by decide) (by decide)
theorem q_ramA (h : q_R TT x m) (a : Int32) : x.1 3 (a &&& 4095).toNatClampNeg = m.1 1 (a &&& 4095).toNatClampNeg := by
  have e := q_rg_and a 4095 (U := 4095) (by decide) rfl
  have a0 := e.1
  have a1 := e.2
  have k : (a &&& 4095).toNatClampNeg = (a &&& 4095).toInt.toNat := rfl
  exact h.r1.1 _ (by omega)
/-- the value of a pixel -/
theorem q_val (h : q_R TT x m) (hI : q_Iv c d w m) (a r : Int32) : dz_M225_64 m a r = some (dz_N119_66 x a r) := by
  have g1 : x.1 4 1 = m.1 4 1 := h.g 1
  have g2 : x.1 4 2 = m.1 4 2 := h.g 2
  have g7 : x.1 4 7 = m.1 4 7 := h.g 7
  have g8 : x.1 4 8 = m.1 4 8 := h.g 8
  have m1 : q_rgz 0 3 (m.1 4 1) := by rw [← g1]; exact h.r8.1.2
  have m10 := m1.1
  have m11 := m1.2
  obtain ⟨u4, u3⟩ := q_up4 (q_reg255 hI 2)
  unfold dz_M225_64 dz_N119_66 dz_N114_66 dz_N115_66 dz_N120_66 dz_M212 q_let
  dsimp only
  rw [g1, g2, g7, g8, u4, u3]
  generalize (a + (m.1 4 2 - m.1 4 2 / 4 * 4)) - (a + (m.1 4 2 - m.1 4 2 / 4 * 4)) / 32 * 32 = U
  generalize (r + m.1 4 2 / 4) - (r + m.1 4 2 / 4) / 32 * 32 = V
  simp only [q_andlit, q_ramA h, cond_true]
  rcases (by omega : (m.1 4 1).toInt = 0 ∨ (m.1 4 1).toInt = 1 ∨ (m.1 4 1).toInt = 2 ∨ (m.1 4 1).toInt = 3) with e | e | e | e
  · rw [show m.1 4 1 = 0 from Int32.toInt_inj.mp e]; rfl
  · rw [show m.1 4 1 = 1 from Int32.toInt_inj.mp e]; rfl
  · rw [show m.1 4 1 = 2 from Int32.toInt_inj.mp e]; rfl
  · rw [show m.1 4 1 = 3 from Int32.toInt_inj.mp e]; rfl
theorem q_sh0 (a : Int32) : a >>> ((0 : Int32) &&& 31) = a := by
  rw [show ((0 : Int32) &&& 31) = 0 from by decide, Int32.shiftRight_zero]
/-- whether a sprite covers a pixel -/
theorem q_cov (h : q_R TT x m) (n a r : Int32) (hn : q_rgz 0 3 n) : ∃ b, dz_M226_64 m n a r = some b ∧ ∀ k v3, dz_N122_66_5 (k + 1) x a r v3 n = dz_N122_66_5 k x a r (cond b (v3 ||| ((1 : Int32) <<< (n &&& 31))) v3) (n + 1) := by
  have a0 := hn.1
  have a1 := hn.2
  have z4 : (4 : Int32).toInt = 4 := rfl
  have z0 : (0 : Int32).toInt = 0 := rfl
  have z7 : (7 : Int32).toInt = 7 := rfl
  have z8 : (8 : Int32).toInt = 8 := rfl
  have i1 : q_in ((20 : Int32) + n) 48 = true := q_in_rg (q_rg_add (L := 20) (U := 23) (q_rg_lit (n := 20) (x := 20) rfl) hn (by decide) (by decide) (by decide) (by decide)) (by decide) (by decide)
  have i2 : q_in ((24 : Int32) + n) 48 = true := q_in_rg (q_rg_add (L := 24) (U := 27) (q_rg_lit (n := 24) (x := 24) rfl) hn (by decide) (by decide) (by decide) (by decide)) (by decide) (by decide)
  have e1 : ((20 : Int32) + n).toInt = 20 + n.toInt := q_addI ⟨by decide, by decide⟩ ⟨by omega, by omega⟩
  have e2 : ((24 : Int32) + n).toInt = 24 + n.toInt := q_addI ⟨by decide, by decide⟩ ⟨by omega, by omega⟩
  have k1 : ((20 : Int32) + n).toNatClampNeg = ((20 : Int32) + n).toInt.toNat := rfl
  have k2 : ((24 : Int32) + n).toNatClampNeg = ((24 : Int32) + n).toInt.toNat := rfl
  have t : ∀ j, j < 28 → 20 ≤ j → q_pl j = true := by decide
  have gx : x.1 4 ((20 : Int32) + n).toNatClampNeg = m.1 4 ((20 : Int32) + n).toNatClampNeg := h.r2.1.1 _ (by omega) (t _ (by omega) (by omega))
  have gy : x.1 4 ((24 : Int32) + n).toNatClampNeg = m.1 4 ((24 : Int32) + n).toNatClampNeg := h.r2.1.1 _ (by omega) (t _ (by omega) (by omega))
  have g17 : x.1 4 17 = m.1 4 17 := h.g 17
  have g18 : x.1 4 18 = m.1 4 18 := h.g 18
  have g7 : x.1 4 7 = m.1 4 7 := h.g 7
  obtain ⟨q17, q18, -⟩ := q_118 x n
  -- where the sprite's corner is known
  have key : ∀ p q : Int32, ∃ b, dz_M226_64_62 m n p q = some b ∧ ∀ (k : q_S → Int32 → Int32 → Int32 → Int32 → Option Int32) (v3 : Int32), (cond (decide (p < 0)) (k x a r v3 (n + 1)) (cond (decide (p < 8)) (cond (decide (q < 0)) (k x a r v3 (n + 1)) (cond (decide (q < 8)) (q_let (dz_N120_66 x ((((256 * ((x.1 4) 7)) + 128) + (8 * n)) + q)) fun r83 => q_let (v3 ||| (((r83 >>> (((7 : Int32) - p) &&& 31)) &&& 1) <<< (n &&& 31))) fun x84 => k x a r x84 (n + 1)) (k x a r v3 (n + 1)))) (k x a r v3 (n + 1)))) = k x a r (cond b (v3 ||| ((1 : Int32) <<< (n &&& 31))) v3) (n + 1) := by
    intro p q
    unfold dz_M226_64_62 q_let
    dsimp only
    by_cases p0 : p.toInt < 0
    · rw [q_202F (Or.inl (by omega)), q_lt_T (show p.toInt < (0 : Int32).toInt by omega)]
      exact ⟨false, rfl, fun _ _ => rfl⟩
    by_cases p8 : 8 ≤ p.toInt
    · rw [q_202F (Or.inr (by omega)), q_lt_F (show (0 : Int32).toInt ≤ p.toInt by omega), q_lt_F (show (8 : Int32).toInt ≤ p.toInt by omega)]
      exact ⟨false, rfl, fun _ _ => rfl⟩
    rw [q_202T (v := p) (by omega) (by omega), q_lt_F (show (0 : Int32).toInt ≤ p.toInt by omega), q_lt_T (show p.toInt < (8 : Int32).toInt by omega)]
    by_cases q0 : q.toInt < 0
    · rw [q_202F (Or.inl (by omega)), q_lt_T (show q.toInt < (0 : Int32).toInt by omega)]
      exact ⟨false, rfl, fun _ _ => rfl⟩
    by_cases q8 : 8 ≤ q.toInt
    · rw [q_202F (Or.inr (by omega)), q_lt_F (show (0 : Int32).toInt ≤ q.toInt by omega), q_lt_F (show (8 : Int32).toInt ≤ q.toInt by omega)]
      exact ⟨false, rfl, fun _ _ => rfl⟩
    rw [q_202T (v := q) (by omega) (by omega), q_lt_F (show (0 : Int32).toInt ≤ q.toInt by omega), q_lt_T (show q.toInt < (8 : Int32).toInt by omega)]
    unfold dz_M212 dz_N120_66
    rw [q_andlit, g7, q_ramA h, q_hasE]
    generalize m.1 1 (((((256 * ((m.1 4) 7)) + 128) + (8 * n)) + q) &&& 4095).toNatClampNeg = bits
    rcases q_01 (bits >>> (((7 : Int32) - p) &&& 31)) with e | e
    · rw [e]
      refine ⟨false, rfl, fun k v3 => ?_⟩
      have s0 : (0 : Int32) <<< (n &&& 31) = 0 := Int32.zero_shiftLeft
      show k x a r (v3 ||| ((0 : Int32) <<< (n &&& 31))) (n + 1) = k x a r v3 (n + 1)
      rw [s0, Int32.or_zero]
    · rw [e]
      exact ⟨true, rfl, fun _ _ => rfl⟩
  have nS : ∀ (k : Nat) (v3 : Int32), dz_N122_66_5 (k + 1) x a r v3 n = (fun k5 : q_S → Int32 → Int32 → Int32 → Int32 → Option Int32 => (q_let ((a - (m.1 4 ((20 : Int32) + n).toNatClampNeg)) >>> ((((m.1 4 18) >>> (n &&& 31)) &&& 1) &&& 31)) fun x80 => (q_let ((r - (m.1 4 ((24 : Int32) + n).toNatClampNeg)) >>> ((((m.1 4 18) >>> (n &&& 31)) &&& 1) &&& 31)) fun x81 => cond (decide (((m.1 4 17) >>> (n &&& 31)) &&& 1 = 1)) (cond (decide (x80 < 0)) (k5 x a r v3 (n + 1)) (cond (decide (x80 < 8)) (cond (decide (x81 < 0)) (k5 x a r v3 (n + 1)) (cond (decide (x81 < 8)) (q_let (dz_N120_66 x ((((256 * ((x.1 4) 7)) + 128) + (8 * n)) + x81)) fun r83 => q_let (v3 ||| (((r83 >>> (((7 : Int32) - x80) &&& 31)) &&& 1) <<< (n &&& 31))) fun x84 => k5 x a r x84 (n + 1)) (k5 x a r v3 (n + 1)))) (k5 x a r v3 (n + 1)))) (k5 x a r v3 (n + 1))))) (dz_N122_66_5 k) := by
    intro k v3
    rw [dzs_N122_66_5]
    generalize dz_N122_66_5 k = K
    dsimp only
    rw [q_lt_T (show n.toInt < (4 : Int32).toInt by omega), i1, i2, q18, q17, gx, gy, g17, g18]
    simp only [cond_true, q_let]
  unfold dz_M226_64 dz_M222_64 q_let
  rw [q_hasE, q_hasE]
  dsimp only
  rw [i1, i2]
  cases hon : decide (((m.1 4 17) >>> (n &&& 31)) &&& 1 = 1) with
  | false =>
    refine ⟨false, rfl, fun k v3 => ?_⟩
    rw [nS]
    unfold q_let
    dsimp only
    rw [hon]
    rfl
  | true =>
    rcases q_01 ((m.1 4 18) >>> (n &&& 31)) with e | e
    · obtain ⟨b, b1, b2⟩ := key (a - (m.1 4 ((20 : Int32) + n).toNatClampNeg)) (r - (m.1 4 ((24 : Int32) + n).toNatClampNeg))
      rw [e]
      refine ⟨b, b1, fun k v3 => ?_⟩
      rw [nS, hon, e]
      unfold q_let
      dsimp only
      rw [q_sh0, q_sh0]
      exact b2 _ _
    · obtain ⟨b, b1, b2⟩ := key ((a - (m.1 4 ((20 : Int32) + n).toNatClampNeg)) >>> ((1 : Int32) &&& 31)) ((r - (m.1 4 ((24 : Int32) + n).toNatClampNeg)) >>> ((1 : Int32) &&& 31))
      rw [e]
      refine ⟨b, b1, fun k v3 => ?_⟩
      rw [nS, hon, e]
      exact b2 _ _
end
end
section
section
variable {TT : (Nat → Int32) → Int32 → (Nat → Int32) → Int32 → Int64 → Int64 → List Int32 → List (Nat → Int32) → (Nat → Int64) → Prop} {x y z m : q_S} {c d w : Int}
def q_bs (c : Bool) (n v : Int32) : Int32 := cond c (v ||| ((1 : Int32) <<< (n &&& 31))) v
/-- the bits of the sprites, from the first on, from the last on; the first one -/
def q_B (c0 c1 c2 c3 : Bool) : Int32 := q_bs c3 3 (q_bs c2 2 (q_bs c1 1 (q_bs c0 0 0)))
def q_Bm (c0 c1 c2 c3 : Bool) : Int32 := q_bs c0 0 (q_bs c1 1 (q_bs c2 2 (q_bs c3 3 0)))
def q_Fi (c0 c1 c2 c3 : Bool) : Int32 := cond c0 0 (cond c1 1 (cond c2 2 (cond c3 3 (-1))))
def q_s0 : q_S := (fun _ _ => 0, fun _ _ => 0, fun _ _ => 0)
theorem q_Btab : ∀ c0 c1 c2 c3, q_Bm c0 c1 c2 c3 = q_B c0 c1 c2 c3 ∧ decide ((q_B c0 c1 c2 c3 >>> ((0 : Int32) &&& 31)) &&& 1 = 1) = c0 ∧ decide ((q_B c0 c1 c2 c3 >>> ((1 : Int32) &&& 31)) &&& 1 = 1) = c1 ∧ decide ((q_B c0 c1 c2 c3 >>> ((2 : Int32) &&& 31)) &&& 1 = 1) = c2 ∧ decide ((q_B c0 c1 c2 c3 >>> ((3 : Int32) &&& 31)) &&& 1 = 1) = c3 ∧ decide (1 < dz_N322 q_s0 (q_B c0 c1 c2 c3)) = !decide ((q_B c0 c1 c2 c3) &&& (q_B c0 c1 c2 c3 - 1) = 0) := by decide
theorem q_R_px (h : q_R TT x m) (k : Nat) (v : Int32) : q_R TT (q_sA x 31 (upd (x.1 31) k v)) (q_sA m 5 (upd (m.1 5) k v)) := by
  obtain ⟨h1, h2, h3, h4, h5, h6, h7, ⟨h8, h9⟩, h10⟩ := h
  exact ⟨h1, h2, h3, h4, h5, h6, h7, ⟨q_up2 h8 rfl, h9⟩, h10⟩
theorem q_solid (m : q_S) (v : Int32) : dz_N121_66 x v = cond (decide (x.1 4 1 = 2)) (decide (1 < v)) (decide (v = 1)) := by
  unfold dz_N121_66
  have z1 : (1 : Int32).toInt = 1 := rfl
  have z2 : (2 : Int32).toInt = 2 := rfl
  cases decide (x.1 4 1 = 2) with
  | false => cases decide (v = 1) <;> rfl
  | true =>
    by_cases k : v.toInt < 2
    · rw [q_lt_T (show v.toInt < (2 : Int32).toInt by omega), q_lt_F (show v.toInt ≤ (1 : Int32).toInt by omega)]; rfl
    · rw [q_lt_F (show (2 : Int32).toInt ≤ v.toInt by omega), q_lt_T (show (1 : Int32).toInt < v.toInt by omega)]; rfl
/-- the colour of a sprite's pixel, or what lies before it -/
def q_P (z : q_S) (v n : Int32) : Int32 := cond (decide (((z.1 4 19) >>> (n &&& 31)) &&& 1 = 1) && dz_N121_66 z v) (z.1 4 ((3 : Int32) + v).toNatClampNeg) ((((z.1 4) 28) + n) - (((z.1 4) 28) + n) / 16 * 16)
theorem q_v3 {v : Int32} (hv : q_rgz 0 3 v) : v &&& 3 = v ∧ q_in ((3 : Int32) + v) 48 = true := by
  have a := hv.1
  have b := hv.2
  constructor
  · apply Int32.toInt_inj.mp
    rw [q_andI 2 (by decide) hv (by decide) rfl]
    show v.toInt % 4 = v.toInt
    omega
  · exact q_in_rg (q_rg_add (L := 3) (U := 6) (q_rg_lit (n := 3) (x := 3) rfl) hv (by decide) (by decide) (by decide) (by decide)) (by decide) (by decide)
theorem q_123s (z : q_S) {v : Int32} (hv : q_rgz 0 3 v) (spr n : Int32) (hn : q_rgz 0 3 n) (k : Nat) : dz_N123_66_2 (k + 1) z v spr n = cond (decide ((spr >>> (n &&& 31)) &&& 1 = 1)) (some (q_P z v n)) (dz_N123_66_2 k z v spr (n + 1)) := by
  obtain ⟨v1, v2⟩ := q_v3 hv
  have z4 : (4 : Int32).toInt = 4 := rfl
  have n1 := hn.2
  rw [dzs_N123_66_2]
  dsimp only
  rw [q_lt_T (show n.toInt < (4 : Int32).toInt by omega), v1, v2, (q_118 z n).2.2]
  unfold q_let dz_N123_66_39 q_P
  dsimp only
  cases decide ((spr >>> (n &&& 31)) &&& 1 = 1) with
  | false => rfl
  | true => cases decide (((z.1 4 19) >>> (n &&& 31)) &&& 1 = 1) <;> cases dz_N121_66 z v <;> rfl
theorem q_123e (z : q_S) {v : Int32} (hv : q_rgz 0 3 v) (spr : Int32) (k : Nat) : dz_N123_66_2 (k + 1) z v spr 4 = some (z.1 4 ((3 : Int32) + v).toNatClampNeg) := by
  obtain ⟨v1, v2⟩ := q_v3 hv
  rw [dzs_N123_66_2]
  dsimp only
  rw [show decide ((4 : Int32) < 4) = false from rfl, v1, v2]
  rfl
theorem q_123 (z : q_S) {v : Int32} (hv : q_rgz 0 3 v) (c0 c1 c2 c3 : Bool) : dz_N123_66 z v (q_B c0 c1 c2 c3) = some (cond c0 (q_P z v 0) (cond c1 (q_P z v 1) (cond c2 (q_P z v 2) (cond c3 (q_P z v 3) (z.1 4 ((3 : Int32) + v).toNatClampNeg))))) := by
  obtain ⟨-, t0, t1, t2, t3, -⟩ := q_Btab c0 c1 c2 c3
  unfold dz_N123_66
  rw [show (5000 : Nat) = 4995 + 1 + 1 + 1 + 1 + 1 from rfl, q_123s z hv _ 0 ⟨by decide, by decide⟩, show (0 : Int32) + 1 = 1 from rfl, q_123s z hv _ 1 ⟨by decide, by decide⟩, show (1 : Int32) + 1 = 2 from rfl, q_123s z hv _ 2 ⟨by decide, by decide⟩, show (2 : Int32) + 1 = 3 from rfl, q_123s z hv _ 3 ⟨by decide, by decide⟩, show (3 : Int32) + 1 = 4 from rfl, q_123e z hv, t0, t1, t2, t3]
  cases c0 <;> cases c1 <;> cases c2 <;> cases c3 <;> rfl
theorem q_122 (h : q_R TT x m) (a r : Int32) : ∃ c0 c1 c2 c3, dz_N122_66 x a r = some (q_B c0 c1 c2 c3) ∧ dz_M226_64 m 0 a r = some c0 ∧ dz_M226_64 m 1 a r = some c1 ∧ dz_M226_64 m 2 a r = some c2 ∧ dz_M226_64 m 3 a r = some c3 := by
  obtain ⟨c0, e0, f0⟩ := q_cov h 0 a r ⟨by decide, by decide⟩
  obtain ⟨c1, e1, f1⟩ := q_cov h 1 a r ⟨by decide, by decide⟩
  obtain ⟨c2, e2, f2⟩ := q_cov h 2 a r ⟨by decide, by decide⟩
  obtain ⟨c3, e3, f3⟩ := q_cov h 3 a r ⟨by decide, by decide⟩
  refine ⟨c0, c1, c2, c3, ?_, e0, e1, e2, e3⟩
  have fin : ∀ k v, dz_N122_66_5 (k + 1) x a r v 4 = some v := fun k v => by
    rw [dzs_N122_66_5]
    generalize dz_N122_66_5 k = K
    rfl
  unfold dz_N122_66
  rw [show (5000 : Nat) = 4995 + 1 + 1 + 1 + 1 + 1 from rfl, f0, show (0 : Int32) + 1 = 1 from rfl, f1, show (1 : Int32) + 1 = 2 from rfl, f2, show (2 : Int32) + 1 = 3 from rfl, f3, show (3 : Int32) + 1 = 4 from rfl, fin]
  rfl
/-- the model's end of a pixel -/
def q_Fm (m : q_S) (a r v s b f : Int32) : Option q_S := cond (decide (f < 0)) (dz_M227_64_118 m a r v s b f) (cond (decide (s = 0)) (dz_M227_64_114 m a r v s b f) (cond (dz_M205 m ((m.1 4) 19) f) (dz_M227_64_118 m a r v s b f) (dz_M227_64_114 m a r v s b f)))
theorem q_228s (m : q_S) (a r v s b f n : Int32) (c : Bool) (hn : decide (n < 0) = false) (hc : dz_M226_64 m n a r = some c) (k : Nat) : dz_M227_64_51 (k + 1) m a r v s b f n = dz_M227_64_51 k m a r v s (q_bs c n b) (cond c n f) (n + (-1)) := by
  rw [dzs_M227_64_51]
  dsimp only
  rw [hn, hc]
  cases c <;> rfl
theorem q_228 (m : q_S) (a r v s : Int32) (c0 c1 c2 c3 : Bool) (e0 : dz_M226_64 m 0 a r = some c0) (e1 : dz_M226_64 m 1 a r = some c1) (e2 : dz_M226_64 m 2 a r = some c2) (e3 : dz_M226_64 m 3 a r = some c3) : dz_M227_64_51 5000 m a r v s 0 (-1) 3 = q_Fm m a r v s (q_B c0 c1 c2 c3) (q_Fi c0 c1 c2 c3) := by
  have fin : ∀ k b f, dz_M227_64_51 (k + 1) m a r v s b f (-1) = q_Fm m a r v s b f := fun k b f => by
    rw [dzs_M227_64_51]
    generalize dz_M227_64_51 k = K
    rfl
  rw [show (5000 : Nat) = 4995 + 1 + 1 + 1 + 1 + 1 from rfl, q_228s m a r v s _ _ 3 c3 rfl e3, show (3 : Int32) + (-1) = 2 from rfl, q_228s m a r v s _ _ 2 c2 rfl e2, show (2 : Int32) + (-1) = 1 from rfl, q_228s m a r v s _ _ 1 c1 rfl e1, show (1 : Int32) + (-1) = 0 from rfl, q_228s m a r v s _ _ 0 c0 rfl e0, show (0 : Int32) + (-1) = -1 from rfl, fin, ← (q_Btab c0 c1 c2 c3).1]
  cases c0 <;> cases c1 <;> cases c2 <;> cases c3 <;> rfl
end
end
section
section
variable {TT : (Nat → Int32) → Int32 → (Nat → Int32) → Int32 → Int64 → Int64 → List Int32 → List (Nat → Int32) → (Nat → Int64) → Prop} {x y z m : q_S} {c d w : Int}
def q_mk5 (m : q_S) (K : Nat) (px b : Int32) (hit sb : Bool) : q_S :=
  cond hit (cond sb (q_sA (q_sA (q_sA m 5 (upd (m.1 5) K px)) 14 (upd (m.1 14) 10 (((m.1 14) 10) ||| b))) 14 (upd (upd (m.1 14) 10 (((m.1 14) 10) ||| b)) 11 (((m.1 14) 11) ||| b))) (q_sA (q_sA m 5 (upd (m.1 5) K px)) 14 (upd (m.1 14) 10 (((m.1 14) 10) ||| b)))) (cond sb (q_sA (q_sA m 5 (upd (m.1 5) K px)) 14 (upd (m.1 14) 11 (((m.1 14) 11) ||| b))) (q_sA m 5 (upd (m.1 5) K px)))
theorem q_118c (m : q_S) (a r v b f : Int32) (sb : Bool) (i1 : q_in ((3 : Int32) + v) 48 = true) (i2 : q_in ((32 * r) + a) 1024 = true) : dz_M227_64_118 m a r v (q_b sb) b f = some (q_mk5 m ((32 * r) + a).toNatClampNeg ((m.1 4) (((3 : Int32) + v).toNatClampNeg)) b (!decide (b &&& (b - 1) = 0)) sb) := by
  unfold dz_M227_64_118
  rw [i1, i2]
  cases decide (b &&& (b - 1) = 0) <;> cases sb <;> rfl
theorem q_114c (m : q_S) (a r v b f : Int32) (sb : Bool) (i2 : q_in ((32 * r) + a) 1024 = true) : dz_M227_64_114 m a r v (q_b sb) b f = some (q_mk5 m ((32 * r) + a).toNatClampNeg ((((m.1 4) 28) + f) - (((m.1 4) 28) + f) / 16 * 16) b (!decide (b &&& (b - 1) = 0)) sb) := by
  unfold dz_M227_64_114
  rw [i2]
  cases decide (b &&& (b - 1) = 0) <;> cases sb <;> rfl
theorem q_R_mk (h : q_R TT x m) (K : Nat) (px b : Int32) (hit sb : Bool) : q_R TT (q_sA (cond sb (q_sA (cond hit (q_sA x 4 (upd (x.1 4) 29 (((x.1 4) 29) ||| b))) x) 4 (upd ((cond hit (q_sA x 4 (upd (x.1 4) 29 (((x.1 4) 29) ||| b))) x).1 4) 30 ((((cond hit (q_sA x 4 (upd (x.1 4) 29 (((x.1 4) 29) ||| b))) x).1 4) 30) ||| b))) (cond hit (q_sA x 4 (upd (x.1 4) 29 (((x.1 4) 29) ||| b))) x)) 31 (upd (x.1 31) K px)) (q_mk5 m K px b hit sb) := by
  have g29 : x.1 4 29 = m.1 14 10 := h.r2.2.2.1
  have g30 : x.1 4 30 = m.1 14 11 := h.r2.2.2.2
  have p := q_R_px h K px
  unfold q_mk5
  cases hit with
  | false =>
    cases sb with
    | false => exact p
    | true =>
      have q := q_R_h2 p (((m.1 14) 11) ||| b)
      show q_R TT (q_sA (q_sA x 4 (upd (x.1 4) 30 ((x.1 4 30) ||| b))) 31 (upd (x.1 31) K px)) _
      rw [g30]
      exact q
  | true =>
    have q1 := q_R_h1 p (((m.1 14) 10) ||| b)
    cases sb with
    | false =>
      show q_R TT (q_sA (q_sA x 4 (upd (x.1 4) 29 ((x.1 4 29) ||| b))) 31 (upd (x.1 31) K px)) _
      rw [g29]
      exact q1
    | true =>
      have q2 := q_R_h2 q1 (((m.1 14) 11) ||| b)
      show q_R TT (q_sA (q_sA (q_sA x 4 (upd (x.1 4) 29 ((x.1 4 29) ||| b))) 4 (upd (upd (x.1 4) 29 ((x.1 4 29) ||| b)) 30 ((x.1 4 30) ||| b))) 31 (upd (x.1 31) K px)) _
      rw [g29, g30]
      exact q2
theorem q_124 (x : q_S) (v b : Int32) (hit : Bool) (hh : decide (1 < dz_N322 q_s0 b) = hit) : dz_N124_66 x v b = cond (dz_N121_66 x v) (q_sA (cond hit (q_sA x 4 (upd (x.1 4) 29 (((x.1 4) 29) ||| b))) x) 4 (upd ((cond hit (q_sA x 4 (upd (x.1 4) 29 (((x.1 4) 29) ||| b))) x).1 4) 30 ((((cond hit (q_sA x 4 (upd (x.1 4) 29 (((x.1 4) 29) ||| b))) x).1 4) 30) ||| b))) (cond hit (q_sA x 4 (upd (x.1 4) 29 (((x.1 4) 29) ||| b))) x) := by
  unfold dz_N124_66 dz_N124_66_19 q_let
  dsimp only
  rw [show dz_N322 x b = dz_N322 q_s0 b from rfl, hh]
  cases hit with
  | true =>
    show cond (dz_N121_66 x v) _ _ = _
    cases dz_N121_66 x v <;> rfl
  | false => cases dz_N121_66 x v <;> rfl
end
end
