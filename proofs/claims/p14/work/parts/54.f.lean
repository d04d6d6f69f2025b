section
variable {TT TT2 : (Nat → Int32) → Int32 → (Nat → Int32) → Int32 → Int64 → Int64 → List Int32 → List (Nat → Int32) → (Nat → Int64) → Prop} {x y z m : q_S} {c d w : Int} {K : Int64} {F : List Int32} {W : List (Nat → Int32)} {Q : Nat → Int64}
/-- the traces -/
def q_TT0 (K : Int64) (F : List Int32) (W : List (Nat → Int32)) (Q : Nat → Int64) (f : Nat → Int32) (n : Int32) (g : Nat → Int32) (k : Int32) (a b : Int64) (F2 : List Int32) (W2 : List (Nat → Int32)) (Q2 : Nat → Int64) : Prop := (∀ j, j < 16 → f j = g j) ∧ n = k ∧ a + K = b ∧ F2 = F ∧ W2 = W ∧ Q2 = Q
theorem q_R_dn (h : q_R TT x m) : q_R TT (q_sI x 23 10 (x.2.1 23 10 + 1)) (q_sA m 14 (upd (m.1 14) 19 (m.1 14 19 + 1))) := by
  obtain ⟨h1, h2, h3, h4, h5, ⟨p1, p2, p3, p4, p5, p6, p7, p8, p9, p10, p11⟩, h7, h8⟩ := h
  refine ⟨h1, h2, h3, h4, h5, ⟨p1, p2, p3, p4, p5, p6, ?_, p8, p9, p10, p11⟩, h7, h8⟩
  show x.2.1 23 10 + 1 = m.1 14 19 + 1
  rw [p7]
theorem q_R_cx (h : q_R TT x m) (f : Nat → Int32) (n : Int32) (t : TT2 f n (m.1 9) (m.1 14 20) (x.2.2 0 4) (m.2.2 0 16) [m.2.1 0 17, m.2.1 0 34, m.2.1 0 35, m.2.1 0 39] [m.1 16, m.1 17, m.1 18, m.1 19, m.1 20, m.1 21, m.1 22, m.1 23, m.1 24, m.1 25, m.1 26, m.1 27, m.1 28, m.1 29, m.1 30, m.1 31, m.1 32] (m.2.2 31)) : q_R TT2 (q_sI (q_sA x 24 f) 23 11 n) m := by
  obtain ⟨h1, h2, h3, h4, h5, ⟨p1, p2, p3, p4, p5, p6, p7, p8, p9, p10, p11⟩, h7, h8⟩ := h
  exact ⟨h1, h2, h3, h4, h5, ⟨p1, p2, p3, p4, p5, p6, p7, p8, t, p10, p11⟩, h7, h8⟩
theorem q_R_cm (h : q_R TT x m) (g : Nat → Int32) (k : Int32) (t : TT2 (x.1 24) (x.2.1 23 11) g k (x.2.2 0 4) (m.2.2 0 16) [m.2.1 0 17, m.2.1 0 34, m.2.1 0 35, m.2.1 0 39] [m.1 16, m.1 17, m.1 18, m.1 19, m.1 20, m.1 21, m.1 22, m.1 23, m.1 24, m.1 25, m.1 26, m.1 27, m.1 28, m.1 29, m.1 30, m.1 31, m.1 32] (m.2.2 31)) : q_R TT2 x (q_sA (q_sA m 9 g) 14 (upd (m.1 14) 20 k)) := by
  obtain ⟨h1, h2, h3, h4, h5, ⟨p1, p2, p3, p4, p5, p6, p7, p8, p9, p10, p11⟩, h7, h8⟩ := h
  exact ⟨h1, h2, h3, h4, h5, ⟨p1, p2, p3, p4, p5, p6, p7, p8, t, p10, p11⟩, h7, h8⟩
theorem q_R_t (h : q_R TT x m) : TT (x.1 24) (x.2.1 23 11) (m.1 9) (m.1 14 20) (x.2.2 0 4) (m.2.2 0 16) [m.2.1 0 17, m.2.1 0 34, m.2.1 0 35, m.2.1 0 39] [m.1 16, m.1 17, m.1 18, m.1 19, m.1 20, m.1 21, m.1 22, m.1 23, m.1 24, m.1 25, m.1 26, m.1 27, m.1 28, m.1 29, m.1 30, m.1 31, m.1 32] (m.2.2 31) := h.r6.2.2.2.2.2.2.2.2.1
/-- the last cycle of an instruction or of an interrupt -/
theorem q_fnsh (h : q_R (q_TT0 K F W Q) x m) (hI : q_Iv c d w m) (hd : c ≤ 1000000 ∧ d ≤ 1000000) (hJ : x.2.1 23 7 = 0) (hL : x.2.1 23 9 = 0) : ∃ y m2, dz_N142_87_65 x = some y ∧ (cond (decide (0 < m.1 14 18)) ((dz_M259_64 (q_sA m 14 (upd (m.1 14) 19 (m.1 14 19 + 1))) (m.1 14 18) (m.1 14 4) 0).bind fun r4 => some r4) ((dz_M275_64 (q_sA m 14 (upd (m.1 14) 19 (m.1 14 19 + 1))) (m.1 14 4)).bind fun r5 => some r5)) = some m2 ∧ q_R (q_TT0 K F W Q) y m2 := by
  have hP := h.r6.2.1 hJ
  have z0 : (0 : Int32).toInt = 0 := rfl
  have rV : q_rgz 0 4095 (m.1 14 18) := hI.1 14 18
  have rV0 := rV.1
  have rP : q_rgz 0 4095 (m.1 14 4) := hI.1 14 4
  have eV : x.2.1 23 8 = m.1 14 18 := h.r6.2.2.2.2.1
  have R1 := q_R_dn h
  have r19 : q_rgz (q_la 14 19) (q_ha d 14 19) (m.1 14 19 + 1) := q_rg_full _
  have I1 : q_Iv c d w (q_sA m 14 (upd (m.1 14) 19 (m.1 14 19 + 1))) := q_Iv_n hI 19 _ r19
  unfold dz_N142_87_65
  rw [eV]
  by_cases k : (m.1 14 18).toInt = 0
  · rw [q_eq_T (show (m.1 14 18).toInt = (0 : Int32).toInt by omega), q_lt_F (show (m.1 14 18).toInt ≤ (0 : Int32).toInt by omega), cond_true, cond_false]
    have t := q_R_t h
    obtain ⟨t1, t2, t3⟩ := t
    have rk0 : 0 ≤ (m.1 14 20).toInt := (hI.1 14 20).1
    have e16 : (m.1 14 20) &&& 15 = (m.1 14 20) - (m.1 14 20) / 16 * 16 := by
      have hb := Int32.toInt_lt (m.1 14 20)
      apply Int32.toInt_inj.mp
      rw [q_rem_eq rk0 (by decide), q_andI 4 (by decide) (l := 0) (u := 2147483647) ⟨rk0, by omega⟩ (by decide) (show (15 : Int32).toInt = 2 ^ 4 - 1 from rfl)]
      rfl
    have R2 := q_R_cx (TT2 := fun f n g k a b F2 W2 Q2 => q_TT0 K F W Q f n (upd g ((k - k / 16 * 16).toNatClampNeg) (m.1 14 4)) (k + 1) a b F2 W2 Q2) R1 (upd (x.1 24) (((x.2.1 23 11) &&& 15).toNatClampNeg) (x.2.1 23 4)) (x.2.1 23 11 + 1) (by
      refine ⟨fun j hj => ?_, ?_, t3⟩
      · show upd (x.1 24) (((x.2.1 23 11) &&& 15).toNatClampNeg) (x.2.1 23 4) j = upd (m.1 9) (((m.1 14 20) - (m.1 14 20) / 16 * 16).toNatClampNeg) (m.1 14 4) j
        rw [t2, e16, hP]
        by_cases q : j = ((m.1 14 20) - (m.1 14 20) / 16 * 16).toNatClampNeg
        · rw [q_upE _ _ q, q_upE _ _ q]
        · rw [q_upN _ _ q, q_upN _ _ q]; exact t1 j hj
      · show x.2.1 23 11 + 1 = m.1 14 20 + 1
        rw [t2])
    obtain ⟨y, m2, a1, a2, a3⟩ := q_ins R2 I1 hJ hL
    obtain ⟨m9, e9, -⟩ := dzj_M275_64 c d w _ I1 (m.1 14 4) hd
    have a2' : dz_M275_64 (q_sA m 14 (upd (m.1 14) 19 (m.1 14 19 + 1))) (m.1 14 4) = dz_M275_64_194 m2 (m.1 14 4) := a2
    refine ⟨y, m9, a1, by rw [e9]; rfl, ?_⟩
    rw [a2'] at e9
    unfold dz_M275_64_194 at e9
    cases hq : q_in (((m2.1 14) 20) - ((m2.1 14) 20) / 16 * 16) 16 with
    | false => rw [hq] at e9; cases e9
    | true =>
      rw [hq, cond_true] at e9
      cases e9
      exact q_R_cm a3 _ _ (q_R_t a3)
  · rw [q_eq_F (show ¬ (m.1 14 18).toInt = (0 : Int32).toInt by omega), q_lt_T (show (0 : Int32).toInt < (m.1 14 18).toInt by omega), cond_false, cond_true]
    obtain ⟨y, m2, b1, b2, b3, b4⟩ := q_int R1 I1 (m.1 14 4) (m.1 14 18) false rP
    have b1' : dz_N148_87_65 (q_sI x 23 10 (x.2.1 23 10 + 1)) (x.2.1 23 4) (x.2.1 23 5 ||| 32) (m.1 14 18) = some y := by rw [hP]; exact b1
    have b2' : dz_M259_64 (q_sA m 14 (upd (m.1 14) 19 (m.1 14 19 + 1))) (m.1 14 18) (m.1 14 4) 0 = some m2 := b2
    exact ⟨y, m2, by rw [b1']; rfl, by rw [b2']; rfl, b3⟩
end
