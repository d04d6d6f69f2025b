section
variable {TT : (Nat → Int32) → Int32 → (Nat → Int32) → Int32 → Int64 → Int64 → List Int32 → List (Nat → Int32) → (Nat → Int64) → Prop} {x y z m m2 b b2 : q_S} {c d w k : Int} {n : Nat}
theorem q_wlin (h : q_R q_TTs (q_vw 32 1 73 x) m) (hI : q_Iv c d w m) (hc : 0 ≤ (x.2.1 71 3).toInt) (a : Int32) (ha : q_rgz 0 4095 a) : ∃ r z2 n2, q_lx x a = some (q_pt 2 0 71 0 x r) ∧ q_yml m a = some (z2, z2.2.1 0 35) ∧ q_WL c d m n2 r z2 ∧ n2 ≤ 16 := by
  have rA1 : q_rgz 0 4095 ((a + 1) &&& 4095) := q_rg_and _ 4095 (by decide) rfl
  have rA2 : q_rgz 0 4095 ((a + 1 + 1) &&& 4095) := q_rg_and _ 4095 (by decide) rfl
  obtain ⟨v, m1, e1, e2, e3, e4, e5, rv⟩ := q_rdz h hI a ha
  obtain ⟨nr, -, f1, -, -, -, -, rn⟩ := q_rdz h hI ((a + 1) &&& 4095) rA1
  obtain ⟨hi, -, g1, -, -, -, -, rh⟩ := q_rdz h hI ((a + 1 + 1) &&& 4095) rA2
  have rd1 : ∀ (u : Int) z, q_eqL m z → q_Iv c d u z → ∃ z2, dz_M246_64 z (a + 1) = some (z2, nr) ∧ q_eq33 z z2 ∧ q_Iv c d u z2 := fun u z q qI => by
    obtain ⟨v', z2, a1, a2, a3, -, a5, -⟩ := q_rdz (q_R_15 h (q_eqL_15 q)) qI ((a + 1) &&& 4095) rA1
    rw [f1] at a1
    cases a1
    refine ⟨z2, ?_, a3, a5⟩
    show (dz_M213_64 z ((a + 1) &&& 4095)).bind (fun r4 => some (r4.1, r4.2)) = _
    rw [a2]; rfl
  have rd2 : ∀ (u : Int) z, q_eqL m z → q_Iv c d u z → ∃ z2, dz_M246_64 z (a + 1 + 1) = some (z2, hi) ∧ q_eq33 z z2 ∧ q_Iv c d u z2 := fun u z q qI => by
    obtain ⟨v', z2, a1, a2, a3, -, a5, -⟩ := q_rdz (q_R_15 h (q_eqL_15 q)) qI ((a + 1 + 1) &&& 4095) rA2
    rw [g1] at a1
    cases a1
    refine ⟨z2, ?_, a3, a5⟩
    show (dz_M213_64 z ((a + 1 + 1) &&& 4095)).bind (fun r4 => some (r4.1, r4.2)) = _
    rw [a2]; rfl
  have rdw : ∀ (u : Int) z, q_eqL m z → q_Iv c d u z → ∃ z2, dz_M247_64 z (a + 1) = some (z2, (nr + (256 * hi)) &&& 4095) ∧ q_eq33 z z2 ∧ q_Iv c d u z2 := fun u z q qI => by
    obtain ⟨z2, a1, a2, a3⟩ := rd1 u z q qI
    obtain ⟨z3, b1, b2, b3⟩ := rd2 u z2 (q_eqL_33 q a2) a3
    refine ⟨z3, ?_, a2.trans b2, b3⟩
    unfold dz_M247_64
    rw [a1, Option.bind_some]
    dsimp only
    rw [b1]; rfl
  have rdb : ∀ (u : Int) z, q_eqL m z → q_Iv c d u z → ∃ z2, dz_M252_64 z a = some (z2, dz_N193 (q_vw 32 1 73 x) a nr) ∧ q_eq33 z z2 ∧ q_Iv c d u z2 := fun u z q qI => by
    obtain ⟨z2, a1, a2, a3⟩ := rd1 u z q qI
    refine ⟨z2, ?_, a2, a3⟩
    unfold dz_M252_64 dz_N193
    rw [a1, Option.bind_some]
    dsimp only
    cases decide (127 < nr) <;> rfl
  have e92 : dz_N92_65 (q_vw 32 1 73 x) (a + 1) = some ((nr + (256 * hi)) &&& 4095) := by
    unfold dz_N92_65
    rw [f1, Option.bind_some, g1]
    rfl
  have rW : q_rgz 0 4095 ((nr + (256 * hi)) &&& 4095) := q_rg_and _ 4095 (by decide) rfl
  have rT : q_rgz 0 4095 (dz_N193 (q_vw 32 1 73 x) a nr) := by
    unfold dz_N193
    cases decide (127 < nr) with
    | true => exact q_rg_and _ 4095 (by decide) rfl
    | false => exact q_rg_and _ 4095 (by decide) rfl
  have eM : dz_M246_64 m a = some (m1, v) := by
    show (dz_M213_64 m (a &&& 4095)).bind (fun r4 => some (r4.1, r4.2)) = _
    rw [q_a12 ha, e2]; rfl
  obtain ⟨r5, a5, k5⟩ := q_yw328 (b := q_vw 2 71 0 x) hc
  have W0 : q_WL c d m 0 (q_vw 2 71 0 (q_pt 2 0 71 0 x r5)) (q_sI m1 0 35 0) := by
    refine ⟨q_eqL_I (q_eqL_33 (q_eqL_r m) e3) 0, q_Iv_w0 e5 ⟨by decide, by decide⟩, ?_, ?_, fun i hi => absurd hi (Nat.not_lt_zero i)⟩
    · show (r5.2.1 0 3).toInt = ((0 : Nat) : Int)
      rw [k5]; rfl
    · show (0 : Int32) = r5.2.1 0 3
      rw [k5]
  obtain ⟨r6, z6, n6, a6, c6, w6, l6, -⟩ := q_wD W0 a ha (Or.inl (by omega))
  have w6' : q_WL c d m n6 (q_vw 2 71 0 (q_pt 2 0 71 0 x r6)) z6 := w6
  obtain ⟨a7, c7, w7⟩ := q_wC w6' (by omega) 32 ⟨by decide, by decide⟩
  generalize q_bp (q_vw 2 71 0 (q_pt 2 0 71 0 x r6)) n6 32 = r7 at a7 w7
  generalize q_zp z6 n6 32 = z7 at c7 w7
  have w7' : q_WL c d m (n6 + 1) (q_vw 2 71 0 (q_pt 2 0 71 0 x r7)) z7 := w7
  have EX : ∀ T : Option q_S, ((dz_B193_64 (q_vw 2 71 0 (q_pt 2 0 71 0 x r7)) v).bind fun r8 => cond (decide (dz_N190 (q_vw 32 1 73 x) v = 1)) (some (q_pt 2 0 71 0 x r8)) (cond (dz_N187 (q_vw 32 1 73 x) v) ((dz_B324_64 (q_vw 2 71 0 (q_pt 2 0 71 0 x r8)) 32).bind fun r10 => (dz_B325_64 (q_vw 2 71 0 (q_pt 2 0 71 0 x r10)) (dz_N193 (q_vw 32 1 73 x) a nr)).bind fun r12 => some (q_pt 2 0 71 0 x r12)) (cond (decide (dz_N190 (q_vw 32 1 73 x) v = 2)) ((dz_B196_64 (q_vw 2 71 0 (q_pt 2 0 71 0 x r8)) (dz_N196 (q_vw 32 1 73 x) v) nr).bind fun r14 => some (q_pt 2 0 71 0 x r14)) ((dz_N92_65 (q_vw 32 1 73 x) (a + 1)).bind fun r15 => (dz_B196_64 (q_vw 2 71 0 (q_pt 2 0 71 0 x r8)) (dz_N196 (q_vw 32 1 73 x) v) r15).bind fun r17 => some (q_pt 2 0 71 0 x r17))))) = T → q_lx x a = T := fun T q => by
    unfold q_lx
    rw [e1, Option.bind_some, f1, Option.bind_some, a5, Option.bind_some, a6, Option.bind_some, a7, Option.bind_some]
    exact q
  have EM : ∀ T : Option (q_S × Int32), (cond (dz_M284 z7 v) ((dz_M279_64 z7 106).bind fun r22 => (dz_M279_64 r22 97).bind fun r23 => (dz_M279_64 r23 109).bind fun r24 => some (r24, (r24.2.1 0 35))) ((dz_M281_64 z7 v).bind fun r25 => cond (decide (dz_M243 r25 v < 0)) ((dz_M283_64 r25 v a).bind fun r27 => some (r27, (r27.2.1 0 35))) ((dz_M282_64 r25 (v - v / 8 * 8) a).bind fun r28 => some (r28, (r28.2.1 0 35))))) = T → q_yml m a = T := fun T q => by
    unfold q_yml q_let
    rw [eM, Option.bind_some]
    dsimp only
    rw [c6, Option.bind_some, c7, Option.bind_some]
    exact q
  obtain ⟨t1, t2, t3⟩ := q_lnc z7 rv
  cases hj : dz_M284 z7 v with
  | true =>
    obtain ⟨r8, z1, z2, z3, p1, p2, p3, p4, p5⟩ := q_wJ w7' (by omega) v rv hj
    obtain ⟨i1, -⟩ := t1 hj
    have i1' : dz_N190 (q_vw 32 1 73 x) v = 1 := i1
    refine ⟨r8, z3, _, EX _ ?_, EM _ ?_, p5, by omega⟩
    · rw [p1, Option.bind_some, i1']
      rfl
    · rw [hj, cond_true, p2, Option.bind_some, p3, Option.bind_some, p4]
      rfl
  | false =>
    obtain ⟨r8, z8, p1, p2, p3⟩ := q_wN w7' (by omega) v rv hj
    have w8 : q_WL c d m (n6 + 1 + 3) (q_vw 2 71 0 (q_pt 2 0 71 0 x r8)) z8 := p3
    cases ho : decide (dz_M243 z7 v < 0) with
    | true =>
      have ho' : decide (dz_M243 z8 v < 0) = true := ho
      obtain ⟨-, -, -, -, j1, j2⟩ := t2 hj ho
      obtain ⟨u1, u2, u3⟩ := q_ln2 (q_vw 32 1 73 x) z8 j1 j2
      by_cases q1 : v.toInt < 157
      · obtain ⟨i1, i2⟩ := u1 q1
        refine ⟨r8, z8, _, EX _ ?_, EM _ ?_, p3, by omega⟩
        · rw [p1, Option.bind_some, i1]
          rfl
        · rw [hj, cond_false, p2, Option.bind_some, ho', cond_true]
          unfold dz_M283_64 q_let
          rw [i2]
          rfl
      by_cases q2 : v.toInt < 160
      · obtain ⟨i1, i2, i3, i4⟩ := u2 (by omega) q2
        obtain ⟨a10, c10, w10⟩ := q_wC w8 (by omega) 32 ⟨by decide, by decide⟩
        cases h9 : decide (v = 159) with
        | true =>
          obtain ⟨a11, c11, w11⟩ := q_wC w10 (by omega) 40 ⟨by decide, by decide⟩
          obtain ⟨z12, p12, s12, I12⟩ := rdw _ _ w11.1 w11.2.1
          obtain ⟨b13, z13, n13, a13, c13, w13, l13, -⟩ := q_wD (q_WL33 w11 s12 I12) _ rW (Or.inl (by omega))
          obtain ⟨a14, c14, w14⟩ := q_wC w13 (by omega) 41 ⟨by decide, by decide⟩
          refine ⟨_, _, _, EX _ ?_, EM _ ?_, w14, by omega⟩
          · rw [p1, Option.bind_some, i1, i3, i4, h9, e92]
            show ((dz_B196_64 (q_vw 2 71 0 (q_pt 2 0 71 0 x r8)) 8 ((nr + (256 * hi)) &&& 4095)).bind fun r17 => some (q_pt 2 0 71 0 x r17)) = _
            rw [q_196_8, a10, Option.bind_some, a11, Option.bind_some, a13, Option.bind_some, a14]
            rfl
          · rw [hj, cond_false, p2, Option.bind_some, ho', cond_true]
            unfold dz_M283_64 q_let
            rw [i2]
            show (((dz_M279_64 z8 32).bind fun r4 => cond (decide (v = 159)) ((dz_M279_64 r4 40).bind fun r5 => dz_M283_64_28 r5 v a) (dz_M283_64_28 r4 v a)).bind fun r27 => some (r27, (r27.2.1 0 35))) = _
            rw [c10, Option.bind_some, h9, cond_true, c11, Option.bind_some]
            unfold dz_M283_64_28 q_let
            rw [show dz_M245 (q_zp (q_zp z8 (n6 + 1 + 3) 32) (n6 + 1 + 3 + 1) 40) v = 3 from i2, h9]
            show (((dz_M247_64 (q_zp (q_zp z8 (n6 + 1 + 3) 32) (n6 + 1 + 3 + 1) 40) (a + 1)).bind fun r10 => (dz_M280_64 r10.1 r10.2).bind fun r11 => (dz_M279_64 r11 41).bind fun r12 => some r12).bind fun r27 => some (r27, (r27.2.1 0 35))) = _
            rw [p12, Option.bind_some]
            dsimp only
            rw [c13, Option.bind_some, c14]
            rfl
        | false =>
          obtain ⟨z12, p12, s12, I12⟩ := rdw _ _ w10.1 w10.2.1
          obtain ⟨b13, z13, n13, a13, c13, w13, l13, -⟩ := q_wD (q_WL33 w10 s12 I12) _ rW (Or.inl (by omega))
          refine ⟨_, _, _, EX _ ?_, EM _ ?_, w13, by omega⟩
          · rw [p1, Option.bind_some, i1, i3, i4, h9, e92]
            show ((dz_B196_64 (q_vw 2 71 0 (q_pt 2 0 71 0 x r8)) 3 ((nr + (256 * hi)) &&& 4095)).bind fun r17 => some (q_pt 2 0 71 0 x r17)) = _
            rw [q_196_3, a10, Option.bind_some, a13]
            rfl
          · rw [hj, cond_false, p2, Option.bind_some, ho', cond_true]
            unfold dz_M283_64 q_let
            rw [i2]
            show (((dz_M279_64 z8 32).bind fun r4 => cond (decide (v = 159)) ((dz_M279_64 r4 40).bind fun r5 => dz_M283_64_28 r5 v a) (dz_M283_64_28 r4 v a)).bind fun r27 => some (r27, (r27.2.1 0 35))) = _
            rw [c10, Option.bind_some, h9, cond_false]
            unfold dz_M283_64_28 q_let
            rw [show dz_M245 (q_zp z8 (n6 + 1 + 3) 32) v = 3 from i2, h9]
            show (((dz_M247_64 (q_zp z8 (n6 + 1 + 3) 32) (a + 1)).bind fun r10 => (dz_M280_64 r10.1 r10.2).bind fun r11 => some r11).bind fun r27 => some (r27, (r27.2.1 0 35))) = _
            rw [p12, Option.bind_some]
            dsimp only
            rw [c13]
            rfl
      · obtain ⟨i1, i2, i3, i4⟩ := u3 (by omega)
        obtain ⟨a10, c10, w10⟩ := q_wC w8 (by omega) 32 ⟨by decide, by decide⟩
        have w10' : q_WL c d m (n6 + 1 + 3 + 1) (q_vw 2 71 0 (q_pt 2 0 71 0 x (q_bp (q_vw 2 71 0 (q_pt 2 0 71 0 x r8)) (n6 + 1 + 3) 32))) (q_zp z8 (n6 + 1 + 3) 32) := w10
        obtain ⟨z12, p12, s12, I12⟩ := rdb _ _ w10.1 w10.2.1
        obtain ⟨b13, z13, n13, a13, c13, w13, l13, -⟩ := q_wD (q_WL33 w10' s12 I12) _ rT (Or.inl (by omega))
        refine ⟨_, _, _, EX _ ?_, EM _ ?_, w13, by omega⟩
        · rw [p1, Option.bind_some, i1, i3]
          show ((dz_B324_64 (q_vw 2 71 0 (q_pt 2 0 71 0 x r8)) 32).bind fun r10 => (dz_B325_64 (q_vw 2 71 0 (q_pt 2 0 71 0 x r10)) (dz_N193 (q_vw 32 1 73 x) a nr)).bind fun r12 => some (q_pt 2 0 71 0 x r12)) = _
          rw [a10, Option.bind_some, a13]
          rfl
        · rw [hj, cond_false, p2, Option.bind_some, ho', cond_true]
          unfold dz_M283_64 q_let
          rw [i2]
          show (((dz_M279_64 z8 32).bind fun r4 => cond (decide (v = 159)) ((dz_M279_64 r4 40).bind fun r5 => dz_M283_64_28 r5 v a) (dz_M283_64_28 r4 v a)).bind fun r27 => some (r27, (r27.2.1 0 35))) = _
          rw [c10, Option.bind_some, i4, cond_false]
          unfold dz_M283_64_28 q_let
          rw [show dz_M245 (q_zp z8 (n6 + 1 + 3) 32) v = 2 from i2, i4]
          show (((dz_M252_64 (q_zp z8 (n6 + 1 + 3) 32) a).bind fun r7 => (dz_M280_64 r7.1 r7.2).bind fun r8 => some r8).bind fun r27 => some (r27, (r27.2.1 0 35))) = _
          rw [p12, Option.bind_some]
          dsimp only
          rw [c13]
          rfl
    | false =>
      have ho' : decide (dz_M243 z8 v < 0) = false := ho
      obtain ⟨-, -, -, -, j5, j6, j7, -, j9⟩ := t3 ho
      have j5' : dz_N187 (q_vw 32 1 73 x) v = false := j5
      have j6' : dz_N196 (q_vw 32 1 73 x) v = v - v / 8 * 8 := j6
      cases hm : dz_M201 z7 (v - v / 8 * 8) 3 5 with
      | true =>
        have g35 : q_rgz 3 5 (v - v / 8 * 8) := q_p202 hm (q_rg_lit (n := 3) rfl) (q_rg_lit (n := 5) rfl)
        rw [hm] at j9
        have j9' : dz_N190 (q_vw 32 1 73 x) v = 3 := j9
        obtain ⟨b13, z13, n13, a13, c13, w13, l13⟩ := q_yw283 w8 (by omega) (a := a) j7 rW (Or.inr ⟨g35.1, g35.2⟩) (fun u z q qI => by
          rw [show dz_M201 z (v - v / 8 * 8) 3 5 = true from hm, cond_true]
          exact rdw u z q qI)
        refine ⟨_, _, _, EX _ ?_, EM _ ?_, w13, l13⟩
        · rw [p1, Option.bind_some, j9', j5', j6', e92]
          show ((dz_B196_64 (q_vw 2 71 0 (q_pt 2 0 71 0 x r8)) (v - v / 8 * 8) ((nr + (256 * hi)) &&& 4095)).bind fun r17 => some (q_pt 2 0 71 0 x r17)) = _
          rw [a13]
          rfl
        · rw [hj, cond_false, p2, Option.bind_some, ho', cond_false, c13]
          rfl
      | false =>
        rw [hm] at j9
        have j9' : dz_N190 (q_vw 32 1 73 x) v = 2 := j9
        obtain ⟨b13, z13, n13, a13, c13, w13, l13⟩ := q_yw283 w8 (by omega) (a := a) j7 (q_rg_le rn (by decide) (by decide)) (Or.inl rn.2) (fun u z q qI => by
          rw [show dz_M201 z (v - v / 8 * 8) 3 5 = false from hm, cond_false]
          exact rd1 u z q qI)
        refine ⟨_, _, _, EX _ ?_, EM _ ?_, w13, l13⟩
        · rw [p1, Option.bind_some, j9', j5', j6']
          show ((dz_B196_64 (q_vw 2 71 0 (q_pt 2 0 71 0 x r8)) (v - v / 8 * 8) nr).bind fun r14 => some (q_pt 2 0 71 0 x r14)) = _
          rw [a13]
          rfl
        · rw [hj, cond_false, p2, Option.bind_some, ho', cond_false, c13]
          rfl
end
