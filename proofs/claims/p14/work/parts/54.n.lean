section
variable {TT TT2 : (Nat → Int32) → Int32 → (Nat → Int32) → Int32 → Int64 → Int64 → List Int32 → List (Nat → Int32) → (Nat → Int64) → Prop} {x y z m : q_S} {c d w : Int} {K : Int64} {F : List Int32} {W : List (Nat → Int32)} {Q : Nat → Int64}
theorem q_NFI (h : q_NF x y) (i k : Nat) (v : Int32) : q_NF (q_sI x i k v) (q_sI y i k v) := by
  refine ⟨h.1, fun j hj => ?_, h.2.2⟩
  funext n
  show cond (Nat.beq j i) (cond (Nat.beq n k) v (y.2.1 j n)) (y.2.1 j n) = cond (Nat.beq j i) (cond (Nat.beq n k) v (x.2.1 j n)) (x.2.1 j n)
  rw [h.2.1 j hj]
theorem q_NFA (h : q_NF x y) (i : Nat) {f g : Nat → Int32} (e : g = f) : q_NF (q_sA x i f) (q_sA y i g) := by
  refine ⟨fun j hj => ?_, h.2.1, h.2.2⟩
  show cond (Nat.beq j i) g (y.1 j) = cond (Nat.beq j i) f (x.1 j)
  rw [e, h.1 j hj]
/-- the class' machine after a reset, before the new P -/
def q_xr (x : q_S) (g4 : Nat → Int32) : q_S := q_sI (q_sI (q_sI (q_sI (q_sI (q_sI (q_sI (q_sI (q_sA (q_sA x 4 g4) 7 (upd (upd (x.1 7) 0 0) 1 0)) 23 0 0) 23 1 0) 23 2 0) 23 3 255) 23 5 4) 23 6 0) 23 7 0) 23 9 0
def q_mr (m : q_S) (f4 f14 f15 : Nat → Int32) : q_S := q_sA (q_sA (q_sA m 4 f4) 14 (upd (upd f14 3 255) 17 0)) 15 f15
theorem q_xrR (h : q_RO m x m) {g4 f4 f14 f15 : Nat → Int32} (a1 : ∀ k : Nat, k < 48 → g4 k = 0) (a2 : ∀ k : Nat, k < 48 → f4 k = 0) (a3 : ∀ k : Nat, k < 12 → f14 k = 0) (a4 : ∀ k : Nat, 12 ≤ k → f14 k = m.1 14 k) (a5 : ∀ k : Nat, k < 8 → f15 k = q_b (Nat.beq k 3)) : q_R (q_TT0 0 (q_svF m) (q_svW m) (m.2.2 31)) (q_sI (q_xr x g4) 23 4 0) (q_mr m f4 f14 f15) := by
  have hJ0 : m.1 15 7 = m.1 15 7 := rfl
  have t := q_R_t h
  obtain ⟨h1, h2, h3, h4, h5, ⟨p1, p2, p3, p4, p5, p6, p7, p8, p9, p10, p11⟩, h7, h8⟩ := h
  have u14 : ∀ k, k ≠ 3 → k ≠ 17 → (q_mr m f4 f14 f15).1 14 k = f14 k := fun k b1 b2 => by
    show upd (upd f14 3 255) 17 0 k = f14 k
    rw [q_upN _ _ b2, q_upN _ _ b1]
  have e7 : (q_sI (q_xr x g4) 23 4 0).1 7 0 = 0 ∧ (q_sI (q_xr x g4) 23 4 0).1 7 1 = 0 := by
    constructor
    · show upd (upd (x.1 7) 0 0) 1 0 0 = 0
      rw [q_upN _ _ (by decide), q_upE _ _ rfl]
    · show upd (upd (x.1 7) 0 0) 1 0 1 = 0
      rw [q_upE _ _ rfl]
  refine ⟨h1, ?_, ?_, ?_, ?_, ?_, h7, ?_⟩
  · refine ⟨⟨fun k hk _ => ?_, fun k hk hk2 => a1 k hk2⟩, ?_, ?_, ?_⟩
    · show g4 k = f4 k
      rw [a1 k (by omega), a2 k (by omega)]
    · rw [u14 9 (by decide) (by decide), a3 9 (by decide)]; exact a1 10 (by decide)
    · rw [u14 10 (by decide) (by decide), a3 10 (by decide)]; exact a1 29 (by decide)
    · rw [u14 11 (by decide) (by decide), a3 11 (by decide)]; exact a1 30 (by decide)
  · have g12 : (q_sI (q_xr x g4) 23 4 0).1 4 12 = 0 := a1 12 (by decide)
    have g13 : (q_sI (q_xr x g4) 23 4 0).1 4 13 = 0 := a1 13 (by decide)
    have g14 : (q_sI (q_xr x g4) 23 4 0).1 4 14 = 0 := a1 14 (by decide)
    have g15 : (q_sI (q_xr x g4) 23 4 0).1 4 15 = 0 := a1 15 (by decide)
    unfold q_R3
    rw [g12, g13, g14, g15, u14 7 (by decide) (by decide), u14 8 (by decide) (by decide), u14 5 (by decide) (by decide), u14 6 (by decide) (by decide), a3 7 (by decide), a3 8 (by decide), a3 5 (by decide), a3 6 (by decide), e7.1, e7.2]
    exact ⟨⟨⟨by decide, by decide⟩, ⟨by decide, by decide⟩, ⟨by decide, by decide⟩, ⟨by decide, by decide⟩⟩, by decide, by decide, rfl, rfl⟩
  · unfold q_R4
    rw [u14 13 (by decide) (by decide), u14 14 (by decide) (by decide), u14 16 (by decide) (by decide), u14 15 (by decide) (by decide), a4 13 (by decide), a4 14 (by decide), a4 16 (by decide), a4 15 (by decide)]
    exact h4
  · unfold q_R5
    rw [u14 12 (by decide) (by decide), a4 12 (by decide)]
    exact h5
  · have e3 : (q_mr m f4 f14 f15).1 14 3 = 255 := by
      show upd (upd f14 3 255) 17 0 3 = 255
      rw [q_upN _ _ (by decide), q_upE _ _ rfl]
    have e17 : (q_mr m f4 f14 f15).1 14 17 = 0 := by
      show upd (upd f14 3 255) 17 0 17 = 0
      rw [q_upE _ _ rfl]
    unfold q_R6
    rw [e3, e17, u14 0 (by decide) (by decide), u14 1 (by decide) (by decide), u14 2 (by decide) (by decide), u14 4 (by decide) (by decide), u14 18 (by decide) (by decide), u14 19 (by decide) (by decide), u14 20 (by decide) (by decide), a3 0 (by decide), a3 1 (by decide), a3 2 (by decide), a3 4 (by decide), a4 18 (by decide), a4 19 (by decide), a4 20 (by decide)]
    have c6 : (q_mr m f4 f14 f15).1 15 6 = 0 := a5 6 (by decide)
    have c7 : (q_mr m f4 f14 f15).1 15 7 = 0 := a5 7 (by decide)
    have c5 : (q_mr m f4 f14 f15).1 15 5 = 0 := a5 5 (by decide)
    have c4 : (q_mr m f4 f14 f15).1 15 4 = 0 := a5 4 (by decide)
    have c3 : (q_mr m f4 f14 f15).1 15 3 = 1 := a5 3 (by decide)
    have c2 : (q_mr m f4 f14 f15).1 15 2 = 0 := a5 2 (by decide)
    have c1 : (q_mr m f4 f14 f15).1 15 1 = 0 := a5 1 (by decide)
    have c0 : (q_mr m f4 f14 f15).1 15 0 = 0 := a5 0 (by decide)
    rw [c6, c7, c5, c4, c3, c2, c1, c0]
    exact ⟨⟨rfl, rfl, rfl, rfl⟩, fun _ => rfl, rfl, rfl, p5, rfl, p7, p8, t, by show (4 : Int32) = 0 + 2 * 0 + 4 * 1 + 8 * 0 + 64 * 0 + 128 * 0; decide, Or.inl rfl, by show q_rgz 0 9 (0 : Int32); exact ⟨by decide, by decide⟩⟩
  · exact ⟨⟨h8.1.1, by rw [show (q_sI (q_xr x g4) 23 4 0).1 4 1 = 0 from a1 1 (by decide)]; exact ⟨by decide, by decide⟩⟩, h8.2⟩
theorem q_rgla {i k : Nat} (hk : q_la i k ≤ 0) (hk2 : 0 ≤ q_ha d i k) : q_rgz (q_la i k) (q_ha d i k) 0 := ⟨hk, hk2⟩
theorem q_xrI (hI : q_Iv c d w m) {f4 f14 f15 : Nat → Int32} (a2 : ∀ k : Nat, k < 48 → f4 k = 0) (b2 : ∀ k : Nat, 48 ≤ k → f4 k = m.1 4 k) (a3 : ∀ k : Nat, k < 12 → f14 k = 0) (a4 : ∀ k : Nat, 12 ≤ k → f14 k = m.1 14 k) (a5 : ∀ k : Nat, k < 8 → f15 k = q_b (Nat.beq k 3)) (b5 : ∀ k : Nat, 8 ≤ k → f15 k = m.1 15 k) : q_Iv c d w (q_mr m f4 f14 f15) := by
  refine q_Iv_A (i := 15) (q_Iv_A (i := 14) (q_Iv_A (i := 4) hI fun k => ?_) (q_hf_up (q_hf_up (fun k => ?_) ?_) ?_)) fun k => ?_
  · by_cases e : k < 48
    · rw [a2 k e]
      refine ⟨by show (0 : Int) ≤ 0; decide, ?_⟩
      show (0 : Int) ≤ q_hg k
      unfold q_hg
      cases Nat.beq k 0 <;> cases Nat.beq k 44 <;> decide
    · rw [b2 k (by omega)]; exact hI.1 4 k
  · by_cases e : k < 12
    · rw [a3 k e]
      rcases (by omega : k = 0 ∨ k = 1 ∨ k = 2 ∨ k = 3 ∨ k = 4 ∨ k = 5 ∨ k = 6 ∨ k = 7 ∨ k = 8 ∨ k = 9 ∨ k = 10 ∨ k = 11) with e | e | e | e | e | e | e | e | e | e | e | e <;> subst e <;> first | exact ⟨by show (0 : Int) ≤ 0; decide, by show (0 : Int) ≤ 255; decide⟩ | exact ⟨by show (0 : Int) ≤ 0; decide, by show (0 : Int) ≤ 4095; decide⟩ | exact ⟨by show (0 : Int) ≤ 0; decide, by show (0 : Int) ≤ 65535; decide⟩ | exact ⟨by show (0 : Int) ≤ 0; decide, by show (0 : Int) ≤ 15; decide⟩
    · rw [a4 k (by omega)]; exact hI.1 14 k
  · exact ⟨by show (0 : Int) ≤ 255; decide, by show (255 : Int) ≤ 255; decide⟩
  · exact q_rg_full _
  · by_cases e : k < 8
    · rw [a5 k e]
      show q_rgz 0 1 _
      cases Nat.beq k 3 <;> exact ⟨by decide, by decide⟩
    · rw [b5 k (by omega)]; exact hI.1 15 k
theorem q_92P (x : q_S) (v : Int32) : dz_N92_65 (q_sI x 23 4 v) 3836 = dz_N92_65 x 3836 := rfl
/-- reset -/
theorem q_aRes (h : q_RO m x m) (hI : q_Iv c d w m) (a b e0 : Int32) : ∃ y m2 r, dz_N79_64 x 5 a b e0 = some (y, r) ∧ dz_M290_64 m = some (m2, r) ∧ q_RO m2 y m2 ∧ q_Act m m2 := by
  have h0 := q_ROk h
  have z0 : (0 : Int32).toInt = 0 := rfl
  obtain ⟨g4, b1, b2, b3⟩ := q_lp4 0 48 4999 x 0 (by rw [z0]; rfl) (by omega) (by omega)
  obtain ⟨f4, c1, c2, c3⟩ := q_lpM7 48 4999 (q_mok m) 0 (by rw [z0]; rfl) (by omega) (by omega)
  obtain ⟨f14, d1, d2, d3⟩ := q_lpM28 12 4999 (q_sA (q_mok m) 4 f4) 0 (by rw [z0]; rfl) (by omega) (by omega)
  obtain ⟨f15, e1, e2, e3⟩ := q_lpM66 8 4999 (q_z28 (q_sA (q_mok m) 4 f4) f14) 0 (by rw [z0]; rfl) (by omega) (by omega)
  have R1 : q_RO (q_mok m) (q_sI (q_xr x g4) 23 4 0) (q_mr (q_mok m) f4 f14 f15) := q_xrR h0 (fun k hk => b3 k (by omega) hk) (fun k hk => c3 k (by omega) hk) (fun k hk => d3 k (by omega) hk) (fun k hk => d2 k (Or.inr hk)) (fun k hk => e3 k (by omega) hk)
  have I1 : q_Iv c d w (q_mr (q_mok m) f4 f14 f15) := q_xrI (q_Ivk hI) (fun k hk => c3 k (by omega) hk) (fun k hk => c2 k (Or.inr hk)) (fun k hk => d3 k (by omega) hk) (fun k hk => d2 k (Or.inr hk)) (fun k hk => e3 k (by omega) hk) (fun k hk => e2 k (Or.inr hk))
  have e113 : dz_N113_66 x = some (q_sA x 4 g4) := by
    show ((dz_N317_68_5 (4999 + 1) x 0 0 48).bind fun r2 => some r2) = _
    rw [b1]; rfl
  have key : ∃ r3, dz_N96_65 x = some (q_sA r3 7 (upd (upd (r3.1 7) 0 0) 1 0)) ∧ q_NF (q_sA x 4 g4) r3 := by
    unfold dz_N96_65 q_let
    rw [e113, Option.bind_some]
    dsimp only
    rw [q_N318b, q_N318b]
    cases decide (lg_cmp ((((q_sA x 4 g4).2.2 1 8) / 960) - (((q_sA x 4 g4).2.2 1 8) / 960) / 2 * 2) 0 = 0) with
    | true => exact ⟨_, rfl, q_kp77 _ _ _⟩
    | false => exact ⟨_, rfl, q_kp82 _ _ _⟩
  obtain ⟨r3, k1, k2⟩ := key
  have nf := q_NFI (q_NFI (q_NFI (q_NFI (q_NFI (q_NFI (q_NFI (q_NFI (q_NFA k2 7 (f := upd (upd (x.1 7) 0 0) 1 0) (g := upd (upd (r3.1 7) 0 0) 1 0) (by rw [k2.1 7 rfl]; rfl)) 23 0 0) 23 1 0) 23 2 0) 23 3 255) 23 5 4) 23 6 0) 23 7 0) 23 9 0
  have nf2 : q_NF (q_xr x g4) _ := nf
  generalize hs : q_sI (q_sI (q_sI (q_sI (q_sI (q_sI (q_sI (q_sI (q_sA r3 7 (upd (upd (r3.1 7) 0 0) 1 0)) 23 0 0) 23 1 0) 23 2 0) 23 3 255) 23 5 4) 23 6 0) 23 7 0) 23 9 0 = s at nf2
  have R2 : q_RO (q_mok m) (q_sI s 23 4 0) (q_mr (q_mok m) f4 f14 f15) := q_R_NF R1 (q_NFI nf2 23 4 0)
  obtain ⟨lo, hi, m2, w1, w2, w3, w4, w5, w6, w7, w8⟩ := q_word R2 I1 3836
  have e92 : dz_N92_65 s 3836 = some ((lo + 256 * hi) &&& 4095) := by
    rw [← q_92P s 0]
    unfold dz_N92_65
    rw [w1, Option.bind_some, w2, Option.bind_some]
  have R3 : q_RO (q_mok m) (q_sI (q_sI s 23 4 0) 23 4 ((lo + 256 * hi) &&& 4095)) (q_sA m2 14 (upd (m2.1 14) 4 ((lo + 256 * hi) &&& 4095))) := q_R_p w5 _
  have eI : q_sI (q_sI s 23 4 0) 23 4 ((lo + 256 * hi) &&& 4095) = q_sI s 23 4 ((lo + 256 * hi) &&& 4095) := by
    have e : (q_sI (q_sI s 23 4 0) 23 4 ((lo + 256 * hi) &&& 4095)).2.1 = (q_sI s 23 4 ((lo + 256 * hi) &&& 4095)).2.1 := by
      funext i n
      show cond (Nat.beq i 23) (cond (Nat.beq n 4) ((lo + 256 * hi) &&& 4095) (cond (Nat.beq i 23) (cond (Nat.beq n 4) 0 (s.2.1 i n)) (s.2.1 i n))) (cond (Nat.beq i 23) (cond (Nat.beq n 4) 0 (s.2.1 i n)) (s.2.1 i n)) = cond (Nat.beq i 23) (cond (Nat.beq n 4) ((lo + 256 * hi) &&& 4095) (s.2.1 i n)) (s.2.1 i n)
      cases Nat.beq i 23 <;> cases Nat.beq n 4 <;> rfl
    exact Prod.ext rfl (Prod.ext e rfl)
  rw [eI] at R3
  obtain ⟨g1, g2⟩ := q_actE R3
  refine ⟨_, _, (lo + 256 * hi) &&& 4095, ?_, ?_, g1, g2⟩
  · show ((dz_N80_64 x).bind fun r7 => some (r7.1, r7.2)) = _
    unfold dz_N80_64 dz_N135_87_65
    rw [k1, Option.bind_some, hs, e92]
    rfl
  · have e291 : dz_M290_64 m = q_z66 (q_mr (q_mok m) f4 f14 f15) := by
      show dz_M290_64_7 (4999 + 1) (q_mok m) 0 = _
      rw [c1]
      show dz_M290_64_28 (4999 + 1) (q_sA (q_mok m) 4 f4) 0 = _
      rw [d1]
      show dz_M290_64_66 (4999 + 1) (q_z28 (q_sA (q_mok m) 4 f4) f14) 0 = _
      rw [e1]
      rfl
    rw [e291]
    unfold q_z66 q_let
    rw [w3, Option.bind_some]
    dsimp only
    rw [q_205A]
    have eu : (q_sA m2 14 (upd (m2.1 14) 4 ((lo + 256 * hi) &&& 4095))).1 14 4 = (lo + 256 * hi) &&& 4095 := by
      show upd (m2.1 14) 4 ((lo + 256 * hi) &&& 4095) 4 = _
      exact q_upE _ _ rfl
    rw [eu]
end
