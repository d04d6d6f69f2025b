section
variable {z L : Nat} {xs : Nat → Int32} {S : q_S} {c n k : Nat} {i : Int32}
theorem q_sall (h : q_IV k S) (hk : k < 512) (hx : q_XS L i) : q_NX z L xs i S c n k := by
  have r : q_rgz 0 63 (xs i.toNatClampNeg &&& 63) := q_rg_and (xs i.toNatClampNeg) 63 (by decide) rfl
  have r0 := r.1
  have r1 := r.2
  have key : ∀ j : Nat, j < 64 → (xs i.toNatClampNeg &&& 63).toInt = j → q_NX z L xs i S c n k := by
    intro j hj e
    by_cases g0_64 : j < 32
    · by_cases g0_32 : j < 16
      · by_cases g0_16 : j < 8
        · by_cases g0_8 : j < 4
          · by_cases g0_4 : j < 2
            · by_cases g0_2 : j < 1
              · exact q_st0 h hk hx (Int32.toInt_inj.mp (by show _ = (0 : Int); omega))
              · exact q_st1 h hk hx (Int32.toInt_inj.mp (by show _ = (1 : Int); omega))
            · by_cases g2_4 : j < 3
              · exact q_st2 h hk hx (Int32.toInt_inj.mp (by show _ = (2 : Int); omega))
              · exact q_st3 h hk hx (Int32.toInt_inj.mp (by show _ = (3 : Int); omega))
          · by_cases g4_8 : j < 6
            · by_cases g4_6 : j < 5
              · exact q_st4 h hk hx (Int32.toInt_inj.mp (by show _ = (4 : Int); omega))
              · exact q_st5 h hk hx (Int32.toInt_inj.mp (by show _ = (5 : Int); omega))
            · by_cases g6_8 : j < 7
              · exact q_st6 h hk hx (Int32.toInt_inj.mp (by show _ = (6 : Int); omega))
              · exact q_st7 h hk hx (Int32.toInt_inj.mp (by show _ = (7 : Int); omega))
        · by_cases g8_16 : j < 12
          · by_cases g8_12 : j < 10
            · by_cases g8_10 : j < 9
              · exact q_st8 h hk hx (Int32.toInt_inj.mp (by show _ = (8 : Int); omega))
              · exact q_st9 h hk hx (Int32.toInt_inj.mp (by show _ = (9 : Int); omega))
            · by_cases g10_12 : j < 11
              · exact q_st10 h hk hx (Int32.toInt_inj.mp (by show _ = (10 : Int); omega))
              · exact q_st11 h hk hx (Int32.toInt_inj.mp (by show _ = (11 : Int); omega))
          · by_cases g12_16 : j < 14
            · by_cases g12_14 : j < 13
              · exact q_st12 h hk hx (Int32.toInt_inj.mp (by show _ = (12 : Int); omega))
              · exact q_st13 h hk hx (Int32.toInt_inj.mp (by show _ = (13 : Int); omega))
            · by_cases g14_16 : j < 15
              · exact q_st14 h hk hx (Int32.toInt_inj.mp (by show _ = (14 : Int); omega))
              · exact q_st15 h hk hx (Int32.toInt_inj.mp (by show _ = (15 : Int); omega))
      · by_cases g16_32 : j < 24
        · by_cases g16_24 : j < 20
          · by_cases g16_20 : j < 18
            · by_cases g16_18 : j < 17
              · exact q_st16 h hk hx (Int32.toInt_inj.mp (by show _ = (16 : Int); omega))
              · exact q_st17 h hk hx (Int32.toInt_inj.mp (by show _ = (17 : Int); omega))
            · by_cases g18_20 : j < 19
              · exact q_st18 h hk hx (Int32.toInt_inj.mp (by show _ = (18 : Int); omega))
              · exact q_st19 h hk hx (Int32.toInt_inj.mp (by show _ = (19 : Int); omega))
          · by_cases g20_24 : j < 22
            · by_cases g20_22 : j < 21
              · exact q_st20 h hk hx (Int32.toInt_inj.mp (by show _ = (20 : Int); omega))
              · exact q_st21 h hk hx (Int32.toInt_inj.mp (by show _ = (21 : Int); omega))
            · by_cases g22_24 : j < 23
              · exact q_st22 h hk hx (Int32.toInt_inj.mp (by show _ = (22 : Int); omega))
              · exact q_st23 h hk hx (Int32.toInt_inj.mp (by show _ = (23 : Int); omega))
        · by_cases g24_32 : j < 28
          · by_cases g24_28 : j < 26
            · by_cases g24_26 : j < 25
              · exact q_st24 h hk hx (Int32.toInt_inj.mp (by show _ = (24 : Int); omega))
              · exact q_st25 h hk hx (Int32.toInt_inj.mp (by show _ = (25 : Int); omega))
            · by_cases g26_28 : j < 27
              · have hv : xs i.toNatClampNeg &&& 63 = 26 := Int32.toInt_inj.mp (by show _ = (26 : Int); omega)
                cases hc0 : decide (xs ((i + 3).toNatClampNeg) = 0) with
                | true => exact q_st26t h hk hx hv hc0
                | false => exact q_st26f h hk hx hv hc0
              · exact q_st27 h hk hx (Int32.toInt_inj.mp (by show _ = (27 : Int); omega))
          · by_cases g28_32 : j < 30
            · by_cases g28_30 : j < 29
              · exact q_st28 h hk hx (Int32.toInt_inj.mp (by show _ = (28 : Int); omega))
              · exact q_st29 h hk hx (Int32.toInt_inj.mp (by show _ = (29 : Int); omega))
            · by_cases g30_32 : j < 31
              · exact q_st30 h hk hx (Int32.toInt_inj.mp (by show _ = (30 : Int); omega))
              · exact q_st31 h hk hx (Int32.toInt_inj.mp (by show _ = (31 : Int); omega))
    · by_cases g32_64 : j < 48
      · by_cases g32_48 : j < 40
        · by_cases g32_40 : j < 36
          · by_cases g32_36 : j < 34
            · by_cases g32_34 : j < 33
              · exact q_st32 h hk hx (Int32.toInt_inj.mp (by show _ = (32 : Int); omega))
              · exact q_st33 h hk hx (Int32.toInt_inj.mp (by show _ = (33 : Int); omega))
            · by_cases g34_36 : j < 35
              · exact q_st34 h hk hx (Int32.toInt_inj.mp (by show _ = (34 : Int); omega))
              · exact q_st35 h hk hx (Int32.toInt_inj.mp (by show _ = (35 : Int); omega))
          · by_cases g36_40 : j < 38
            · by_cases g36_38 : j < 37
              · exact q_st36 h hk hx (Int32.toInt_inj.mp (by show _ = (36 : Int); omega))
              · exact q_st37 h hk hx (Int32.toInt_inj.mp (by show _ = (37 : Int); omega))
            · by_cases g38_40 : j < 39
              · exact q_st38 h hk hx (Int32.toInt_inj.mp (by show _ = (38 : Int); omega))
              · exact q_st39 h hk hx (Int32.toInt_inj.mp (by show _ = (39 : Int); omega))
        · by_cases g40_48 : j < 44
          · by_cases g40_44 : j < 42
            · by_cases g40_42 : j < 41
              · exact q_st40 h hk hx (Int32.toInt_inj.mp (by show _ = (40 : Int); omega))
              · exact q_st41 h hk hx (Int32.toInt_inj.mp (by show _ = (41 : Int); omega))
            · by_cases g42_44 : j < 43
              · exact q_st42 h hk hx (Int32.toInt_inj.mp (by show _ = (42 : Int); omega))
              · exact q_st43 h hk hx (Int32.toInt_inj.mp (by show _ = (43 : Int); omega))
          · by_cases g44_48 : j < 46
            · by_cases g44_46 : j < 45
              · exact q_st44 h hk hx (Int32.toInt_inj.mp (by show _ = (44 : Int); omega))
              · exact q_st45 h hk hx (Int32.toInt_inj.mp (by show _ = (45 : Int); omega))
            · by_cases g46_48 : j < 47
              · exact q_st46 h hk hx (Int32.toInt_inj.mp (by show _ = (46 : Int); omega))
              · exact q_st47 h hk hx (Int32.toInt_inj.mp (by show _ = (47 : Int); omega))
      · by_cases g48_64 : j < 56
        · by_cases g48_56 : j < 52
          · by_cases g48_52 : j < 50
            · by_cases g48_50 : j < 49
              · exact q_st48 h hk hx (Int32.toInt_inj.mp (by show _ = (48 : Int); omega))
              · exact q_st49 h hk hx (Int32.toInt_inj.mp (by show _ = (49 : Int); omega))
            · by_cases g50_52 : j < 51
              · exact q_st50 h hk hx (Int32.toInt_inj.mp (by show _ = (50 : Int); omega))
              · exact q_st51 h hk hx (Int32.toInt_inj.mp (by show _ = (51 : Int); omega))
          · by_cases g52_56 : j < 54
            · by_cases g52_54 : j < 53
              · exact q_st52 h hk hx (Int32.toInt_inj.mp (by show _ = (52 : Int); omega))
              · exact q_st53 h hk hx (Int32.toInt_inj.mp (by show _ = (53 : Int); omega))
            · by_cases g54_56 : j < 55
              · exact q_st54 h hk hx (Int32.toInt_inj.mp (by show _ = (54 : Int); omega))
              · exact q_st55 h hk hx (Int32.toInt_inj.mp (by show _ = (55 : Int); omega))
        · by_cases g56_64 : j < 60
          · by_cases g56_60 : j < 58
            · by_cases g56_58 : j < 57
              · exact q_st56 h hk hx (Int32.toInt_inj.mp (by show _ = (56 : Int); omega))
              · exact q_st57 h hk hx (Int32.toInt_inj.mp (by show _ = (57 : Int); omega))
            · by_cases g58_60 : j < 59
              · exact q_st58 h hk hx (Int32.toInt_inj.mp (by show _ = (58 : Int); omega))
              · exact q_st59 h hk hx (Int32.toInt_inj.mp (by show _ = (59 : Int); omega))
          · by_cases g60_64 : j < 62
            · by_cases g60_62 : j < 61
              · exact q_st60 h hk hx (Int32.toInt_inj.mp (by show _ = (60 : Int); omega))
              · exact q_st61 h hk hx (Int32.toInt_inj.mp (by show _ = (61 : Int); omega))
            · by_cases g62_64 : j < 63
              · exact q_st62 h hk hx (Int32.toInt_inj.mp (by show _ = (62 : Int); omega))
              · exact q_st63 h hk hx (Int32.toInt_inj.mp (by show _ = (63 : Int); omega))
  exact key (xs i.toNatClampNeg &&& 63).toInt.toNat (by omega) (by omega)
theorem q_lwA (hL : L ≤ 2048) : ∀ (t k : Nat) (i : Int32) (S : q_S) (c n : Nat), i.toInt = 4 * k → L ≤ 4 * (k + t) → k ≤ 512 → q_IV k S → ∃ S2 c2 n2, q_Ru (q_TBs z L xs) 20 376 (23, [(4, .int i), (3, .ref 270), (2, .ref 236), (1, .ref 64), (0, .ref 0)], [], (q_kL S c n)) (.inl (some (.int 1)), q_kL S2 c2 n2) ∧ c2 ≤ c + t ∧ n2 ≤ n + 6 * t := by
  intro t
  have e4 : (4 : Int32).toInt = 4 := rfl
  have eL : (Int32.ofNat L).toInt = L := Int32.toInt_ofNat_of_lt (by omega)
  have eLm : (Int32.ofNat L - 4).toInt = (L : Int) - 4 := by rw [q_subI ⟨by omega, by omega⟩ ⟨by decide, by decide⟩, eL]; rfl
  induction t with
  | zero =>
    intro k i S c n hi hk h5 h
    exact ⟨S, c, n, q_lwE z L xs S c n i (q_lt_T (by omega)), Nat.le_refl _, Nat.le_refl _⟩
  | succ t ih =>
    intro k i S c n hi hk h5 h
    by_cases q : (L : Int) - 4 < i.toInt
    · exact ⟨S, c, n, q_lwE z L xs S c n i (q_lt_T (by omega)), by omega, by omega⟩
    · have e1 : (i + 1).toInt = i.toInt + 1 := q_addI ⟨by omega, by omega⟩ ⟨by decide, by decide⟩
      have e2 : (i + 2).toInt = i.toInt + 2 := q_addI ⟨by omega, by omega⟩ ⟨by decide, by decide⟩
      have e3 : (i + 3).toInt = i.toInt + 3 := q_addI ⟨by omega, by omega⟩ ⟨by decide, by decide⟩
      have e9 : (i + 4).toInt = i.toInt + 4 := q_addI ⟨by omega, by omega⟩ ⟨by decide, by decide⟩
      have hx : q_XS L i := ⟨q_in_rg (l := 0) (u := (L : Int) - 1) ⟨by omega, by omega⟩ (by decide) (by omega), q_in_rg (l := 0) (u := (L : Int) - 1) ⟨by omega, by omega⟩ (by decide) (by omega), q_in_rg (l := 0) (u := (L : Int) - 1) ⟨by omega, by omega⟩ (by decide) (by omega), q_in_rg (l := 0) (u := (L : Int) - 1) ⟨by omega, by omega⟩ (by decide) (by omega), q_lt_F (by omega)⟩
      obtain ⟨S2, c2, n2, g1, g2, g3, g4⟩ := q_sall (z := z) (xs := xs) (c := c) (n := n) h (by omega) hx
      obtain ⟨S3, c3, n3, f1, f2, f3⟩ := ih (k + 1) (i + 4) S2 c2 n2 (by omega) (by omega) (by omega) g1
      exact ⟨S3, c3, n3, g4 _ f1, by omega, by omega⟩
end
