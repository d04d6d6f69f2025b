section
variable {TT TT2 : (Nat → Int32) → Int32 → (Nat → Int32) → Int32 → Int64 → Int64 → List Int32 → List (Nat → Int32) → (Nat → Int64) → Prop} {x y z m : q_S} {c d w : Int} {K : Int64} {F : List Int32} {W : List (Nat → Int32)} {Q : Nat → Int64}
theorem q_205A (z : q_S) : (dz_M204_64 z).1 = z.1 := by
  rw [q_yM205]
  cases decide (z.2.1 0 34 < 0) <;> rfl
/-- addPulse -/
theorem q_aPul (h : q_RO m x m) (hI : q_Iv c d w m) (a b e0 : Int32) (ha : q_rgz 1 999 a) (hn : (m.1 14 13).toInt < 40) : ∃ y m2 r, dz_N79_64 x 11 a b e0 = some (y, r) ∧ dz_M300_64 m a = some (m2, r) ∧ q_RO m2 y m2 ∧ q_Act m m2 := by
  have a0 := ha.1
  have a1 := ha.2
  have h0 := q_ROk h
  have z0 : (0 : Int32).toInt = 0 := rfl
  have z1 : (1 : Int32).toInt = 1 := rfl
  have z40 : (40 : Int32).toInt = 40 := rfl
  have n0 : 0 ≤ (m.1 14 13).toInt := (hI.1 14 13).1
  have pl0 : 0 ≤ (m.1 14 14).toInt := (hI.1 14 14).1
  have e2 : x.2.1 8 1 = m.1 14 13 := h.r4.2.1
  have ek : (m.1 14 13).toNatClampNeg = (m.1 14 13).toInt.toNat := rfl
  have ep : (m.1 14 14).toNatClampNeg = (m.1 14 14).toInt.toNat := rfl
  have en : ((m.1 14 13) + 1).toInt = (m.1 14 13).toInt + 1 := q_addI ⟨by omega, by omega⟩ ⟨by decide, by decide⟩
  have ekn : ((m.1 14 13) + 1).toNatClampNeg = ((m.1 14 13) + 1).toInt.toNat := rfl
  -- the tape of both, whatever the time left is
  have tp : ∀ t : Int32, (if (m.1 14 14).toInt < (m.1 14 13).toInt then t = m.1 14 15 else t = a) → q_RO (q_mok m) (q_sI (q_sA x 9 (upd (x.1 9) (m.1 14 13).toNatClampNeg a)) 8 1 ((m.1 14 13) + 1)) (q_sA (q_sA (q_sA (q_mok m) 14 (upd ((q_mok m).1 14) 15 t)) 8 (upd ((q_mok m).1 8) (m.1 14 13).toNatClampNeg a)) 14 (upd (upd ((q_mok m).1 14) 15 t) 13 ((m.1 14 13) + 1))) := fun t ht => by
    obtain ⟨h1, h2, h3, ⟨b1, b2, b3, b4, b5, b6, b7, b8⟩, h5, h6, h7, h8⟩ := h0
    have b2' : x.2.1 8 1 = m.1 14 13 := b2
    have b3' : x.2.1 8 2 = m.1 14 14 := b3
    rw [b2', b3'] at b5
    rw [b2'] at b6
    rw [b2', b3'] at b7 b8
    refine ⟨h1, h2, h3, ⟨fun k hk => ?_, rfl, b3, b4, ?_, fun k hk => ?_, fun q => ?_, fun q => ?_⟩, h5, h6, h7, h8⟩
    · show upd (x.1 9) (m.1 14 13).toNatClampNeg a k = upd (m.1 8) (m.1 14 13).toNatClampNeg a k
      by_cases e : k = (m.1 14 13).toNatClampNeg
      · rw [q_upE _ _ e, q_upE _ _ e]
      · rw [q_upN _ _ e, q_upN _ _ e]; exact b1 k hk
    · show (x.2.1 8 2).toInt ≤ ((m.1 14 13) + 1).toInt
      rw [b3']; omega
    · have hk' : k < ((m.1 14 13) + 1).toNatClampNeg := hk
      show q_rgz 1 999 (upd (x.1 9) (m.1 14 13).toNatClampNeg a k)
      by_cases e : k = (m.1 14 13).toNatClampNeg
      · rw [q_upE _ _ e]; exact ha
      · rw [q_upN _ _ e]; exact b6 k (by omega)
    · show t.toInt = (upd (x.1 9) (m.1 14 13).toNatClampNeg a (x.2.1 8 2).toNatClampNeg).toInt - (x.2.1 8 3).toInt ∧ 0 ≤ (x.2.1 8 3).toInt ∧ (x.2.1 8 3).toInt < (upd (x.1 9) (m.1 14 13).toNatClampNeg a (x.2.1 8 2).toNatClampNeg).toInt
      rw [b3']
      by_cases e : (m.1 14 14).toInt < (m.1 14 13).toInt
      · rw [if_pos e] at ht
        rw [q_upN _ _ (by omega), ht]
        exact b7 e
      · rw [if_neg e] at ht
        have e9 : (m.1 14 14).toInt = (m.1 14 13).toInt := by omega
        rw [q_upE _ _ (by omega), ht, b8 e, z0]
        omega
    · have q' : ¬ (x.2.1 8 2).toInt < ((m.1 14 13) + 1).toInt := q
      rw [b3'] at q'
      omega
  have eX : dz_N79_64 x 11 a b e0 = some (q_sI (q_sA x 9 (upd (x.1 9) (m.1 14 13).toNatClampNeg a)) 8 1 ((m.1 14 13) + 1), (m.1 14 13) + 1) := by
    show some (dz_N175_72 x a) = _
    unfold dz_N175_72
    rw [e2, q_lt_F (show (0 : Int32).toInt ≤ (m.1 14 13).toInt by omega), q_lt_T (show (m.1 14 13).toInt < (40 : Int32).toInt by omega)]
    rfl
  have hin : q_in (m.1 14 13) 40 = true := q_in_rg (l := 0) (u := 39) ⟨n0, by omega⟩ (by decide) (by decide)
  have eM : dz_M300_64 m a = cond (decide (m.1 14 14 < m.1 14 13)) (dz_M300_64_56 (q_mok m) a) (dz_M300_64_56 (q_sA (q_mok m) 14 (upd ((q_mok m).1 14) 15 a)) a) := by
    unfold dz_M300_64 q_let
    dsimp only
    rw [q_202T (v := a) (by show (1 : Int) ≤ _; omega) (by show _ ≤ (999 : Int); omega), q_eq_F (show ¬ (m.1 14 13).toInt = (40 : Int32).toInt by omega), q_yM200]
    dsimp only
    rw [cond_true, cond_false, cond_false, q_209]
    rfl
  by_cases e : (m.1 14 14).toInt < (m.1 14 13).toInt
  · have t := tp (m.1 14 15) (by rw [if_pos e])
    have es : q_sA (q_sA (q_mok m) 8 (upd ((q_mok m).1 8) (m.1 14 13).toNatClampNeg a)) 14 (upd ((q_mok m).1 14) 13 ((m.1 14 13) + 1)) = q_sA (q_sA (q_sA (q_mok m) 14 (upd ((q_mok m).1 14) 15 (m.1 14 15))) 8 (upd ((q_mok m).1 8) (m.1 14 13).toNatClampNeg a)) 14 (upd (upd ((q_mok m).1 14) 15 (m.1 14 15)) 13 ((m.1 14 13) + 1)) := by
      have eu : upd ((q_mok m).1 14) 15 (m.1 14 15) = (q_mok m).1 14 := by
        funext k
        by_cases e9 : k = 15
        · rw [q_upE _ _ e9, e9]; rfl
        · rw [q_upN _ _ e9]
      rw [eu]
      have ei : q_sA (q_mok m) 14 ((q_mok m).1 14) = q_mok m := by
        refine Prod.ext ?_ rfl
        funext k
        show cond (Nat.beq k 14) ((q_mok m).1 14) ((q_mok m).1 k) = (q_mok m).1 k
        cases e9 : Nat.beq k 14 with
        | false => rfl
        | true => rw [Nat.eq_of_beq_eq_true e9]; rfl
      rw [ei]
    rw [← es] at t
    obtain ⟨g1, g2⟩ := q_actE t
    refine ⟨_, _, (m.1 14 13) + 1, eX, ?_, g1, g2⟩
    rw [eM, q_lt_T e, cond_true]
    unfold dz_M300_64_56 q_let
    dsimp only
    rw [q_205A]
    show cond (q_in (m.1 14 13) 40) _ none = _
    rw [hin]
    rfl
  · have t := tp a (by rw [if_neg e])
    obtain ⟨g1, g2⟩ := q_actE t
    refine ⟨_, _, (m.1 14 13) + 1, eX, ?_, g1, g2⟩
    rw [eM, q_lt_F (by omega), cond_false]
    unfold dz_M300_64_56 q_let
    dsimp only
    rw [q_205A]
    show cond (q_in (m.1 14 13) 40) _ none = _
    rw [hin]
    rfl
/-- rewind -/
theorem q_aRew (h : q_RO m x m) (hI : q_Iv c d w m) (a b e0 : Int32) : ∃ y m2 r, dz_N79_64 x 12 a b e0 = some (y, r) ∧ dz_M301_64 m = (m2, r) ∧ q_RO m2 y m2 ∧ q_Act m m2 := by
  have h0 := q_ROk h
  have z0 : (0 : Int32).toInt = 0 := rfl
  have n0 : 0 ≤ (m.1 14 13).toInt := (hI.1 14 13).1
  have ek : (m.1 14 13).toNatClampNeg = (m.1 14 13).toInt.toNat := rfl
  have tp : ∀ t : Int32, (if 0 < (m.1 14 13).toInt then t = m.1 8 0 else t = 0) → q_RO (q_mok m) (q_sI (q_sI x 8 2 0) 8 3 0) (q_sA (q_sA (q_mok m) 14 (upd ((q_mok m).1 14) 14 0)) 14 (upd (upd ((q_mok m).1 14) 14 0) 15 t)) := fun t ht => by
    obtain ⟨h1, h2, h3, ⟨b1, b2, b3, b4, b5, b6, b7, b8⟩, h5, h6, h7, h8⟩ := h0
    have b2' : x.2.1 8 1 = m.1 14 13 := b2
    rw [b2'] at b6
    refine ⟨h1, h2, h3, ⟨b1, b2, rfl, b4, ?_, (fun k hk => b6 k (by have hk' : k < (x.2.1 8 1).toNatClampNeg := hk; rw [b2'] at hk'; exact hk')), fun q => ?_, fun q => rfl⟩, h5, h6, h7, h8⟩
    · show (0 : Int32).toInt ≤ (x.2.1 8 1).toInt
      rw [b2']; omega
    · show t.toInt = (x.1 9 0).toInt - (0 : Int32).toInt ∧ (0 : Int) ≤ (0 : Int32).toInt ∧ (0 : Int32).toInt < (x.1 9 0).toInt
      have q' : (0 : Int32).toInt < (x.2.1 8 1).toInt := q
      rw [b2'] at q'
      rw [if_pos (by omega)] at ht
      have r := b6 0 (by omega)
      have r1 := r.1
      have e1 : x.1 9 0 = m.1 8 0 := b1 0 (by omega)
      rw [ht, ← e1]
      omega
  have eM : dz_M301_64 m = cond (decide ((0 : Int32) < m.1 14 13)) (dz_M204_64 (q_sA (q_sA (q_mok m) 14 (upd ((q_mok m).1 14) 14 0)) 14 (upd (upd ((q_mok m).1 14) 14 0) 15 (m.1 8 0))), m.1 14 14) (dz_M204_64 (q_sA (q_sA (q_mok m) 14 (upd ((q_mok m).1 14) 14 0)) 14 (upd (upd ((q_mok m).1 14) 14 0) 15 0)), m.1 14 14) := by
    unfold dz_M301_64 q_let
    rw [q_209]
    rfl
  have eX : dz_N79_64 x 12 a b e0 = some (q_sI (q_sI x 8 2 0) 8 3 0, m.1 14 14) := by
    show some (q_sI (q_sI x 8 2 0) 8 3 0, x.2.1 8 2) = _
    rw [h.r4.2.2.1]
  rw [eM]
  by_cases e : 0 < (m.1 14 13).toInt
  · obtain ⟨g1, g2⟩ := q_actE (tp (m.1 8 0) (by rw [if_pos e]))
    exact ⟨_, _, m.1 14 14, eX, by rw [q_lt_T (by omega), cond_true], g1, g2⟩
  · obtain ⟨g1, g2⟩ := q_actE (tp 0 (by rw [if_neg e]))
    exact ⟨_, _, m.1 14 14, eX, by rw [q_lt_F (by omega), cond_false], g1, g2⟩
end
