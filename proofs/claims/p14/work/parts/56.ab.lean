section
variable {TT : (Nat → Int32) → Int32 → (Nat → Int32) → Int32 → Int64 → Int64 → List Int32 → List (Nat → Int32) → (Nat → Int64) → Prop} {x y z m m2 b b2 : q_S} {c d w k : Int} {n : Nat}
theorem q_wC (h : q_WL c d m n b z) (hn : n < 16) (v : Int32) (hv : q_rgz 0 127 v) : dz_B324_64 b v = some (q_bp b n v) ∧ dz_M279_64 z v = some (q_zp z n v) ∧ q_WL c d m (n + 1) (q_bp b n v) (q_zp z n v) := by
  obtain ⟨h1, h2, h3, h4, h5⟩ := h
  have v0 := hv.1
  have v1 := hv.2
  have z255 : (255 : Int32).toInt = 255 := rfl
  obtain ⟨l1, l2, l3⟩ := q_l7r hv
  have e1 : (b.2.1 0 3 + 1).toInt = n + 1 := by rw [q_addI ⟨by omega, by omega⟩ ⟨by decide, by decide⟩, h3]; rfl
  have hN : (b.2.1 0 3).toNatClampNeg = n := by show (b.2.1 0 3).toInt.toNat = n; omega
  have rc : q_rgz 0 15 (b.2.1 0 3) := ⟨by omega, by omega⟩
  have eM : dz_M279_64 z v = some (q_zp z n v) := by
    unfold dz_M279_64
    rw [h4, q_in_rg rc (by decide) (by decide), l3, hN, ← h4]
    rfl
  have eZ : q_Iv c d ((n + 1 : Nat) : Int) (q_zp z n v) := by
    obtain ⟨r, er, hr⟩ := dzj_M279_64 c d n z h2 v (by omega)
    rw [eM] at er
    cases er
    exact q_Iv_mono hr (Int.le_refl _) (Int.le_refl _) (by omega)
  refine ⟨?_, eM, q_eqL_I (q_eqL_A h1 _) _, eZ, ?_, ?_, fun i hi => ?_⟩
  · have eb : dz_B352 b v = true := by
      unfold dz_B352
      rw [q_lt_F (by omega)]
      rfl
    unfold dz_B324_64 dz_B338_64
    rw [q_b332 (by omega) (by omega), Option.bind_some]
    show ((cond (dz_B352 b v) (cond (q_in (b.2.1 0 3) 16) (some (q_sA (q_sI b 0 3 ((b.2.1 0 3) + 1)) 1 (upd (b.1 1) ((b.2.1 0 3).toNatClampNeg) (vp_nar .byte v.toInt8.toInt32)))) none) (dz_B338_64_45 b v)).bind fun r2 => some r2) = _
    rw [eb, cond_true, q_in_rg rc (by decide) (by decide), hN]
    rfl
  · show (b.2.1 0 3 + 1).toInt = ((n + 1 : Nat) : Int)
    omega
  · show z.2.1 0 35 + 1 = b.2.1 0 3 + 1
    rw [h4]
  · show q_chr (upd (b.1 1) n (vp_nar .byte v.toInt8.toInt32) i) = upd (z.1 32) n v i
    by_cases q : i = n
    · simp only [upd, if_pos q]
      exact l1
    · simp only [upd, if_neg q]
      exact h5 i (by omega)
/-- another builder with the same letters -/
theorem q_WLt (h : q_WL c d m n b z) (e3 : (b2.2.1 0 3).toInt = n) (hc : ∀ i, i < n → q_chr (b2.1 1 i) = z.1 32 i) : q_WL c d m n b2 z := by
  obtain ⟨h1, h2, h3, h4, h5⟩ := h
  exact ⟨h1, h2, e3, by rw [h4]; exact Int32.toInt_inj.mp (by omega), hc⟩
/-- two letters at once -/
theorem q_wS2 (h : q_WL c d m n b z) (hn : n + 2 ≤ 16) (src : Nat → Int32) (r0 : q_rgz 0 127 (src 0)) (r1 : q_rgz 0 127 (src 1)) : ∃ z1 z2, dz_M279_64 z (src 0) = some z1 ∧ dz_M279_64 z1 (src 1) = some z2 ∧ q_WL c d m (n + 2) (q_sI (q_sA b 1 (va_cpy src (b.1 1) 0 n 2)) 0 3 (b.2.1 0 3 + 2)) z2 := by
  obtain ⟨-, m1, w1⟩ := q_wC h (by omega) _ r0
  obtain ⟨-, m2, w2⟩ := q_wC w1 (by omega) _ r1
  have h3 := h.2.2.1
  refine ⟨_, _, m1, m2, q_WLt w2 ?_ fun i hi => ?_⟩
  · show (b.2.1 0 3 + 2).toInt = ((n + 2 : Nat) : Int)
    rw [q_addI ⟨by omega, by omega⟩ ⟨by decide, by decide⟩, h3]; rfl
  · show q_chr (va_cpy src (b.1 1) 0 n 2 i) = upd (upd (z.1 32) n (src 0)) (n + 1) (src 1) i
    rcases (by omega : i < n ∨ i = n ∨ i = n + 1) with q | q | q
    · simp only [va_cpy, upd, if_neg (show ¬ (n ≤ i ∧ i < n + 2) by omega), if_neg (show ¬ i = n by omega), if_neg (show ¬ i = n + 1 by omega)]
      exact h.2.2.2.2 i q
    · simp only [va_cpy, upd, if_pos (show n ≤ i ∧ i < n + 2 by omega), if_pos q, if_neg (show ¬ i = n + 1 by omega), show 0 + (i - n) = 0 by omega]
      exact (q_l7r r0).2.1
    · simp only [va_cpy, upd, if_pos (show n ≤ i ∧ i < n + 2 by omega), if_pos q, show 0 + (i - n) = 1 by omega]
      exact (q_l7r r1).2.1
/-- three letters at once -/
theorem q_wS3 (h : q_WL c d m n b z) (hn : n + 3 ≤ 16) (src : Nat → Int32) (r0 : q_rgz 0 127 (src 0)) (r1 : q_rgz 0 127 (src 1)) (r2 : q_rgz 0 127 (src 2)) : ∃ z1 z2 z3, dz_M279_64 z (src 0) = some z1 ∧ dz_M279_64 z1 (src 1) = some z2 ∧ dz_M279_64 z2 (src 2) = some z3 ∧ q_WL c d m (n + 3) (q_sI (q_sA b 1 (va_cpy src (b.1 1) 0 n 3)) 0 3 (b.2.1 0 3 + 3)) z3 := by
  obtain ⟨-, m1, w1⟩ := q_wC h (by omega) _ r0
  obtain ⟨-, m2, w2⟩ := q_wC w1 (by omega) _ r1
  obtain ⟨-, m3, w3⟩ := q_wC w2 (by omega) _ r2
  have h3 := h.2.2.1
  refine ⟨_, _, _, m1, m2, m3, q_WLt w3 ?_ fun i hi => ?_⟩
  · show (b.2.1 0 3 + 3).toInt = ((n + 3 : Nat) : Int)
    rw [q_addI ⟨by omega, by omega⟩ ⟨by decide, by decide⟩, h3]; rfl
  · show q_chr (va_cpy src (b.1 1) 0 n 3 i) = upd (upd (upd (z.1 32) n (src 0)) (n + 1) (src 1)) (n + 1 + 1) (src 2) i
    rcases (by omega : i < n ∨ i = n ∨ i = n + 1 ∨ i = n + 1 + 1) with q | q | q | q
    · simp only [va_cpy, upd, if_neg (show ¬ (n ≤ i ∧ i < n + 3) by omega), if_neg (show ¬ i = n by omega), if_neg (show ¬ i = n + 1 by omega), if_neg (show ¬ i = n + 1 + 1 by omega)]
      exact h.2.2.2.2 i q
    · simp only [va_cpy, upd, if_pos (show n ≤ i ∧ i < n + 3 by omega), if_pos q, if_neg (show ¬ i = n + 1 by omega), if_neg (show ¬ i = n + 1 + 1 by omega), show 0 + (i - n) = 0 by omega]
      exact (q_l7r r0).2.1
    · simp only [va_cpy, upd, if_pos (show n ≤ i ∧ i < n + 3 by omega), if_pos q, if_neg (show ¬ i = n + 1 + 1 by omega), show 0 + (i - n) = 1 by omega]
      exact (q_l7r r1).2.1
    · simp only [va_cpy, upd, if_pos (show n ≤ i ∧ i < n + 3 by omega), if_pos q, show 0 + (i - n) = 2 by omega]
      exact (q_l7r r2).2.1
theorem q_sl0 (a : Int32) : a <<< ((0 &&& 31 : Int32)) = a := by
  rw [show (0 &&& 31 : Int32) = 0 by decide]
  exact Int32.shiftLeft_zero
end
