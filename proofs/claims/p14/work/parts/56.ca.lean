section
variable {TT : (Nat → Int32) → Int32 → (Nat → Int32) → Int32 → Int64 → Int64 → List Int32 → List (Nat → Int32) → (Nat → Int64) → Prop} {x y z m m2 b b2 : q_S} {c d w k : Int} {n : Nat}
theorem q_ps_ps {T : Type} (n n2 b1 b2 k : Nat) (f g : Nat → T) (e : T) : q_ps n n2 b1 b2 k f (q_ps n n2 b1 b2 k g e) = q_ps n n2 b1 b2 k f e := by
  unfold q_ps
  cases (Nat.ble b1 k && Nat.blt k (b1 + n)) with
  | true => rfl
  | false =>
    cases (Nat.ble b2 k && Nat.blt k (b2 + n2)) with
    | true => rfl
    | false => rfl
theorem q_ptB (s r t : q_S) : q_pt 2 0 71 0 (q_pt 2 0 71 0 s r) t = q_pt 2 0 71 0 s t := by
  unfold q_pt
  simp only [q_ps_ps]
theorem q_psB {T : Type} (j : Nat) (f : Nat → T) (e : T) : q_ps 2 0 71 0 (q_eN 32 1 73 j) f e = e := by
  refine q_ps_out (fun i hi q => ?_) f e
  rw [q_eN1 (show i < 2 by omega)] at q
  rcases Nat.lt_or_ge j 32 with g | g
  · rw [q_eN1 g] at q; omega
  · rw [q_eN2 g] at q; omega
theorem q_vwB (s r : q_S) : q_vw 32 1 73 (q_pt 2 0 71 0 s r) = q_vw 32 1 73 s := by
  unfold q_vw q_pt
  simp only [q_psB]
theorem q_WL33 (h : q_WL c d m n b z) (e : q_eq33 z y) (hI : q_Iv c d n y) : q_WL c d m n b y :=
  ⟨q_eqL_33 h.1 e, hI, h.2.2.1, by rw [e.2]; exact h.2.2.2.1, by rw [e.1 32 rfl]; exact h.2.2.2.2⟩
theorem q_yw328 (hc : 0 ≤ (b.2.1 0 3).toInt) : ∃ r, dz_B327_64 b 0 = some r ∧ r.2.1 0 3 = 0 := by
  have e1 : dz_B331_64 b 0 = some b := q_b332 (by decide) (by decide)
  unfold dz_B327_64 dz_B334_64
  rw [show decide ((0 : Int32) < 0) = false by decide, cond_false, e1, Option.bind_some, q_lt_F (show (0 : Int32).toInt ≤ (b.2.1 0 3).toInt from hc), cond_false]
  cases decide (0 < b.2.1 0 3) with
  | true => exact ⟨_, rfl, rfl⟩
  | false => exact ⟨_, rfl, rfl⟩
/-- the operand's number and what is behind it -/
theorem q_yw27 (h : q_WL c d m n b z) {l W a : Int32} (hl : q_rgz 0 7 l) (hW : q_rgz 0 4095 W) (hn : n ≤ 9 ∨ n ≤ 10 ∧ W.toInt ≤ 255) (hr : ∀ (u : Int) z, q_eqL m z → q_Iv c d u z → ∃ z2, cond (dz_M201 z l 3 5) (dz_M247_64 z (a + 1)) (dz_M246_64 z (a + 1)) = some (z2, W) ∧ q_eq33 z z2 ∧ q_Iv c d u z2) : ∃ b2 z2 n2, dz_B196_64_34 b l W = some b2 ∧ dz_M282_64_27 z l a = some z2 ∧ q_WL c d m n2 b2 z2 ∧ n2 ≤ 16 := by
  obtain ⟨z1, p1, p2, p3⟩ := hr n z h.1 h.2.1
  have w1 := q_WL33 h p2 p3
  obtain ⟨b3, z3, n3, d1, d2, d3, d4, d5⟩ := q_wD w1 W hW (by omega)
  obtain ⟨b4, z4, n4, t1, t2, t3, t4⟩ := q_wT d3 l hl (by
    rcases hn with q | q
    · omega
    · have := d5 q.2
      omega)
  refine ⟨b4, z4, n4, ?_, ?_, t3, t4⟩
  · unfold dz_B196_64_34
    rw [d1]
    exact t1
  · unfold dz_M282_64_27 q_let
    dsimp only
    cases e : dz_M201 z l 3 5 with
    | true =>
      rw [e, cond_true] at p1
      rw [cond_true, p1, Option.bind_some]
      dsimp only
      rw [d2, Option.bind_some]
      exact t2
    | false =>
      rw [e, cond_false] at p1
      rw [cond_false, p1, Option.bind_some]
      dsimp only
      rw [d2, Option.bind_some]
      exact t2
/-- the operand of a code with a mode -/
theorem q_yw283 (h : q_WL c d m n b z) (hn : n ≤ 8) {l W a : Int32} (hl : q_rgz 0 7 l) (hW : q_rgz 0 4095 W) (hb : W.toInt ≤ 255 ∨ 3 ≤ l.toInt ∧ l.toInt ≤ 5) (hr : ∀ (u : Int) z, q_eqL m z → q_Iv c d u z → ∃ z2, cond (dz_M201 z l 3 5) (dz_M247_64 z (a + 1)) (dz_M246_64 z (a + 1)) = some (z2, W) ∧ q_eq33 z z2 ∧ q_Iv c d u z2) : ∃ b2 z2 n2, dz_B196_64 b l W = some b2 ∧ dz_M282_64 z l a = some z2 ∧ q_WL c d m n2 b2 z2 ∧ n2 ≤ 16 := by
  have l0 := hl.1
  have l1 := hl.2
  have z0 : (0 : Int32).toInt = 0 := rfl
  have z5 : (5 : Int32).toInt = 5 := rfl
  have z6 : (6 : Int32).toInt = 6 := rfl
  obtain ⟨e1, c1, w1⟩ := q_wC h (by omega) 32 ⟨by decide, by decide⟩
  by_cases q0 : l.toInt = 0
  · obtain ⟨e2, c2, w2⟩ := q_wC w1 (by omega) 35 ⟨by decide, by decide⟩
    obtain ⟨b2, z2, n2, f1, f2, f3, f4⟩ := q_yw27 w2 hl hW (by omega) hr
    refine ⟨b2, z2, n2, ?_, ?_, f3, f4⟩
    · unfold dz_B196_64
      rw [e1, Option.bind_some, q_eq_T (show l.toInt = (0 : Int32).toInt by omega), cond_true, e2, Option.bind_some]
      exact f1
    · unfold dz_M282_64
      rw [c1, Option.bind_some, q_eq_T (show l.toInt = (0 : Int32).toInt by omega), cond_true, c2, Option.bind_some]
      unfold dz_M282_64_16
      rw [q_lt_F (show l.toInt ≤ (5 : Int32).toInt by omega), cond_false]
      exact f2
  by_cases q6 : l.toInt < 6
  · obtain ⟨b2, z2, n2, f1, f2, f3, f4⟩ := q_yw27 w1 hl hW (by omega) hr
    refine ⟨b2, z2, n2, ?_, ?_, f3, f4⟩
    · unfold dz_B196_64
      rw [e1, Option.bind_some, q_eq_F (show ¬ l.toInt = (0 : Int32).toInt by omega), cond_false, q_lt_T (show l.toInt < (6 : Int32).toInt by omega), cond_true]
      exact f1
    · unfold dz_M282_64
      rw [c1, Option.bind_some, q_eq_F (show ¬ l.toInt = (0 : Int32).toInt by omega), cond_false]
      unfold dz_M282_64_16
      rw [q_lt_F (show l.toInt ≤ (5 : Int32).toInt by omega), cond_false]
      exact f2
  · obtain ⟨e2, c2, w2⟩ := q_wC w1 (by omega) 40 ⟨by decide, by decide⟩
    obtain ⟨b2, z2, n2, f1, f2, f3, f4⟩ := q_yw27 w2 hl hW (by omega) hr
    refine ⟨b2, z2, n2, ?_, ?_, f3, f4⟩
    · unfold dz_B196_64
      rw [e1, Option.bind_some, q_eq_F (show ¬ l.toInt = (0 : Int32).toInt by omega), cond_false, q_lt_F (show (6 : Int32).toInt ≤ l.toInt by omega), cond_false, e2, Option.bind_some]
      exact f1
    · unfold dz_M282_64
      rw [c1, Option.bind_some, q_eq_F (show ¬ l.toInt = (0 : Int32).toInt by omega), cond_false]
      unfold dz_M282_64_16
      rw [q_lt_T (show (5 : Int32).toInt < l.toInt by omega), cond_true, c2, Option.bind_some]
      exact f2
theorem q_tl2a : ∀ i, i < 29 → dz_N190 q_s0 (Int32.ofNat (128 + i)) = 1 ∧ dz_M245 q_s0 (Int32.ofNat (128 + i)) = 1 := by decide +kernel
theorem q_tl2b : ∀ i, i < 3 → dz_N190 q_s0 (Int32.ofNat (157 + i)) = 3 ∧ dz_M245 q_s0 (Int32.ofNat (157 + i)) = 3 ∧ dz_N187 q_s0 (Int32.ofNat (157 + i)) = false ∧ dz_N196 q_s0 (Int32.ofNat (157 + i)) = cond (decide (Int32.ofNat (157 + i) = 159)) 8 3 := by decide +kernel
theorem q_tl2c : ∀ i, i < 8 → dz_N190 q_s0 (Int32.ofNat (160 + i)) = 2 ∧ dz_M245 q_s0 (Int32.ofNat (160 + i)) = 2 ∧ dz_N187 q_s0 (Int32.ofNat (160 + i)) = true ∧ decide (Int32.ofNat (160 + i) = 159) = false := by decide +kernel
theorem q_ln2 (s t : q_S) {a : Int32} (h1 : 128 ≤ a.toInt) (h2 : a.toInt < 168) : (a.toInt < 157 → dz_N190 s a = 1 ∧ dz_M245 t a = 1) ∧ (157 ≤ a.toInt → a.toInt < 160 → dz_N190 s a = 3 ∧ dz_M245 t a = 3 ∧ dz_N187 s a = false ∧ dz_N196 s a = cond (decide (a = 159)) 8 3) ∧ (160 ≤ a.toInt → dz_N190 s a = 2 ∧ dz_M245 t a = 2 ∧ dz_N187 s a = true ∧ decide (a = 159) = false) := by
  have e : Int32.ofNat a.toInt.toNat = a := q_ofn (u := 167) ⟨by omega, by omega⟩
  refine ⟨fun q => ?_, fun q1 q2 => ?_, fun q => ?_⟩
  · have t1 := q_tl2a (a.toInt.toNat - 128) (by omega)
    rw [show 128 + (a.toInt.toNat - 128) = a.toInt.toNat by omega, e] at t1
    exact t1
  · have t1 := q_tl2b (a.toInt.toNat - 157) (by omega)
    rw [show 157 + (a.toInt.toNat - 157) = a.toInt.toNat by omega, e] at t1
    exact t1
  · have t1 := q_tl2c (a.toInt.toNat - 160) (by omega)
    rw [show 160 + (a.toInt.toNat - 160) = a.toInt.toNat by omega, e] at t1
    exact t1
theorem q_196_3 (b : q_S) (W : Int32) : dz_B196_64 b 3 W = (dz_B324_64 b 32).bind fun r2 => (dz_B325_64 r2 W).bind fun r4 => some r4 := rfl
theorem q_196_8 (b : q_S) (W : Int32) : dz_B196_64 b 8 W = (dz_B324_64 b 32).bind fun r2 => (dz_B324_64 r2 40).bind fun r3 => (dz_B325_64 r3 W).bind fun r4 => (dz_B324_64 r4 41).bind fun r10 => some r10 := rfl
/-- the line, as the class writes it, its puts taken together -/
def q_lx (x : q_S) (a : Int32) : Option q_S := (dz_N90_65 (q_vw 32 1 73 x) a).bind fun r2 => (dz_N90_65 (q_vw 32 1 73 x) ((a + 1) &&& 4095)).bind fun r4 => (dz_B327_64 (q_vw 2 71 0 x) 0).bind fun r5 => (dz_B325_64 (q_vw 2 71 0 (q_pt 2 0 71 0 x r5)) a).bind fun r6 => (dz_B324_64 (q_vw 2 71 0 (q_pt 2 0 71 0 x r6)) 32).bind fun r7 => (dz_B193_64 (q_vw 2 71 0 (q_pt 2 0 71 0 x r7)) r2).bind fun r8 => cond (decide (dz_N190 (q_vw 32 1 73 x) r2 = 1)) (some (q_pt 2 0 71 0 x r8)) (cond (dz_N187 (q_vw 32 1 73 x) r2) ((dz_B324_64 (q_vw 2 71 0 (q_pt 2 0 71 0 x r8)) 32).bind fun r10 => (dz_B325_64 (q_vw 2 71 0 (q_pt 2 0 71 0 x r10)) (dz_N193 (q_vw 32 1 73 x) a r4)).bind fun r12 => some (q_pt 2 0 71 0 x r12)) (cond (decide (dz_N190 (q_vw 32 1 73 x) r2 = 2)) ((dz_B196_64 (q_vw 2 71 0 (q_pt 2 0 71 0 x r8)) (dz_N196 (q_vw 32 1 73 x) r2) r4).bind fun r14 => some (q_pt 2 0 71 0 x r14)) ((dz_N92_65 (q_vw 32 1 73 x) (a + 1)).bind fun r15 => (dz_B196_64 (q_vw 2 71 0 (q_pt 2 0 71 0 x r8)) (dz_N196 (q_vw 32 1 73 x) r2) r15).bind fun r17 => some (q_pt 2 0 71 0 x r17))))
theorem q_lx_eq (x : q_S) (a : Int32) : dz_X194_135_66 x a = q_lx x a := by
  unfold dz_X194_135_66 q_lx q_let
  simp only [q_ptB, q_vwB]
/-- the line, as the model writes it -/
def q_yml (s : q_S) (a1 : Int32) : Option (q_S × Int32) := (dz_M246_64 s a1).bind fun r18 => (dz_M280_64 (q_sI r18.1 0 35 0) a1).bind fun r19 => (dz_M279_64 r19 32).bind fun r20 => q_let (dz_M284 r20 r18.2) fun r21 => cond r21 ((dz_M279_64 r20 106).bind fun r22 => (dz_M279_64 r22 97).bind fun r23 => (dz_M279_64 r23 109).bind fun r24 => some (r24, (r24.2.1 0 35))) ((dz_M281_64 r20 r18.2).bind fun r25 => q_let (dz_M243 r25 r18.2) fun r26 => cond (decide (r26 < 0)) ((dz_M283_64 r25 r18.2 a1).bind fun r27 => some (r27, (r27.2.1 0 35))) ((dz_M282_64 r25 (r18.2 - r18.2 / 8 * 8) a1).bind fun r28 => some (r28, (r28.2.1 0 35))))
end
