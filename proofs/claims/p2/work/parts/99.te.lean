section
variable {x y z m s : q_S} {c d w k : Int} {r0 : q_S × Int32 × Nat}
theorem q_rc1 {b : Bool} {c : Int32} {n : Nat} {o : Option (q_S × Int32 × Nat)} (e : cond b (some (x, c, n)) o = some r0) : r0.1 = x ∨ o = some r0 := by
  cases b with
  | true => cases e; exact Or.inl rfl
  | false => exact Or.inr e
theorem q_rc2 {b : Bool} {c : Int32} {n : Nat} {o : Option (q_S × Int32 × Nat)} (e : cond b o (some (x, c, n)) = some r0) : r0.1 = x ∨ o = some r0 := by
  cases b with
  | true => exact Or.inr e
  | false => cases e; exact Or.inl rfl
theorem q_rc3 {b : Bool} {o p : Option (q_S × Int32 × Nat)} (e : cond b o p = some r0) : o = some r0 ∨ p = some r0 := by
  cases b with
  | true => exact Or.inl e
  | false => exact Or.inr e
theorem q_rpE (hp : q_RZ x) (e : r0.1 = x) : q_RZ r0.1 := by rw [e]; exact hp
theorem q_rpR {T : Type} {o : Option T} {f : T → Nat → Int64} {a : Int32} {b : Nat} (hR : q_iN (q_vw 32 35 73 x)) (hp : q_RZ x) (e : (o.bind fun r => some (q_sL x 172 (f r), a, b)) = some r0) : q_RZ r0.1 := by
  cases o with
  | none => cases e
  | some r => cases e; exact q_RZL _ hR hp
/-- an action's end -/
theorem q_rpA {a1 a2 a3 a4 : Int32} {f : q_S × Int32 → Nat → Int64} {p : Int32} {n : Nat} (h : q_LX k m x) (hI : q_Iv c d w m) (hk : k < 512) (hp : q_RZ x) (e : ((dz_N79_64 (q_vw 32 1 73 (dz_X184_98 x a1 a2 a3 a4)) a1 a2 a3 a4).bind fun r3 => some ((q_sL (q_pt 32 3 1 73 (dz_X184_98 x a1 a2 a3 a4) r3.1) 172 (f r3)), p, n)) = some r0) : q_RZ r0.1 := by
  have hM : q_iN (q_vw 32 1 73 x) := q_iNof h.1 (hI.1 15 6) (hI.1 15 7)
  cases e1 : dz_N79_64 (q_vw 32 1 73 (dz_X184_98 x a1 a2 a3 a4)) a1 a2 a3 a4 with
  | none => rw [e1] at e; cases e
  | some w =>
    obtain ⟨y, r⟩ := w
    rw [e1] at e
    cases e
    exact q_RZact hM h.2.2.2.2.2.1 h.2.2.2.2.2.2.1 hk hp e1 rfl rfl rfl rfl rfl rfl rfl rfl rfl
theorem q_rpA2 {a1 a2 a3 a4 : Int32} {g : q_S × Int32} (h : q_LX k m x) (hI : q_Iv c d w m) (hk : k < 512) (hp : q_RZ x) (e : ((dz_N79_64 (q_vw 32 1 73 (dz_X184_98 x a1 a2 a3 a4)) a1 a2 a3 a4).bind fun r4 => some ((q_pt 32 3 1 73 (dz_X184_98 x a1 a2 a3 a4) r4.1), r4.2)) = some g) : q_RZ g.1 := by
  have hM : q_iN (q_vw 32 1 73 x) := q_iNof h.1 (hI.1 15 6) (hI.1 15 7)
  cases e1 : dz_N79_64 (q_vw 32 1 73 (dz_X184_98 x a1 a2 a3 a4)) a1 a2 a3 a4 with
  | none => rw [e1] at e; cases e
  | some w =>
    obtain ⟨y, r⟩ := w
    rw [e1] at e
    cases e
    exact q_RZact hM h.2.2.2.2.2.1 h.2.2.2.2.2.2.1 hk hp e1 rfl rfl rfl rfl rfl rfl rfl rfl rfl
theorem q_rpK {a1 a2 a3 a4 : Int32} {f g : q_S × Int32 → Nat → Int64} (h : q_LX k m x) (hI : q_Iv c d w m) (hk : k < 512) (hp : q_RZ x) (e : ((dz_N79_64 (q_vw 32 1 73 (dz_X184_98 x a1 a2 a3 a4)) a1 a2 a3 a4).bind fun r3 => cond (decide (r3.2 = 1)) (some ((q_sL (q_pt 32 3 1 73 (dz_X184_98 x a1 a2 a3 a4) r3.1) 172 (f r3)), 0, 0)) (some ((q_sL (q_pt 32 3 1 73 (dz_X184_98 x a1 a2 a3 a4) r3.1) 172 (g r3)), 0, 0))) = some r0) : q_RZ r0.1 := by
  have hM : q_iN (q_vw 32 1 73 x) := q_iNof h.1 (hI.1 15 6) (hI.1 15 7)
  cases e1 : dz_N79_64 (q_vw 32 1 73 (dz_X184_98 x a1 a2 a3 a4)) a1 a2 a3 a4 with
  | none => rw [e1] at e; cases e
  | some w =>
    obtain ⟨y, r⟩ := w
    rw [e1, Option.bind_some] at e
    rcases q_rc3 e with e | e
    · cases e
      exact q_RZact hM h.2.2.2.2.2.1 h.2.2.2.2.2.2.1 hk hp e1 rfl rfl rfl rfl rfl rfl rfl rfl rfl
    · cases e
      exact q_RZact hM h.2.2.2.2.2.1 h.2.2.2.2.2.2.1 hk hp e1 rfl rfl rfl rfl rfl rfl rfl rfl rfl
theorem q_rp0 (h : q_LX k m x) (hI : q_Iv c d w m) (hk : k < 512) (hp : q_RZ x) (a b : Int32) (e : dz_X0_64_236 x a b = some r0) : q_RZ r0.1 := by
  unfold dz_X0_64_236 at e
  unfold q_let at e
  dsimp only at e
  rcases q_rc1 e with e | e
  · exact q_rpE hp e
  rcases q_rc2 e with e | e
  · exact q_rpE hp e
  rcases q_rc1 e with e | e
  · exact q_rpE hp e
  rcases q_rc1 e with e | e
  · exact q_rpE hp e
  exact q_rpA h hI hk hp e
theorem q_rp1 (h : q_LX k m x) (hI : q_Iv c d w m) (hk : k < 512) (hp : q_RZ x) (a b : Int32) (e : dz_X1_64_236 x a b = some r0) : q_RZ r0.1 := by
  unfold dz_X1_64_236 at e
  unfold q_let at e
  dsimp only at e
  rcases q_rc1 e with e | e
  · exact q_rpE hp e
  rcases q_rc2 e with e | e
  · exact q_rpE hp e
  rcases q_rc1 e with e | e
  · exact q_rpE hp e
  rcases q_rc1 e with e | e
  · exact q_rpE hp e
  exact q_rpA h hI hk hp e
theorem q_rp2 (h : q_LX k m x) (hI : q_Iv c d w m) (hk : k < 512) (hp : q_RZ x) (a b e0 : Int32) (e : dz_X2_64_236 x a b e0 = some r0) : q_RZ r0.1 := by
  unfold dz_X2_64_236 at e
  unfold q_let at e
  dsimp only at e
  rcases q_rc1 e with e | e
  · exact q_rpE hp e
  rcases q_rc2 e with e | e
  · exact q_rpE hp e
  rcases q_rc1 e with e | e
  · exact q_rpE hp e
  rcases q_rc2 e with e | e
  · exact q_rpE hp e
  rcases q_rc1 e with e | e
  · exact q_rpE hp e
  rcases q_rc1 e with e | e
  · exact q_rpE hp e
  exact q_rpA h hI hk hp e
theorem q_rp3 (h : q_LX k m x) (hI : q_Iv c d w m) (hk : k < 512) (hp : q_RZ x) (a : Int32) (e : dz_X3_64_236 x a = some r0) : q_RZ r0.1 := by
  unfold dz_X3_64_236 at e
  rcases q_rc1 e with e | e
  · exact q_rpE hp e
  rcases q_rc2 e with e | e
  · exact q_rpE hp e
  exact q_rpR h.2.2.2.2.2.1 hp e
theorem q_rp4 (h : q_LX k m x) (hI : q_Iv c d w m) (hk : k < 512) (hp : q_RZ x) (a : Int32) (e : some (dz_X4_64_236 x a) = some r0) : q_RZ r0.1 := by
  have e := Option.some.inj e
  rw [← e]
  unfold dz_X4_64_236
  cases decide (a < 0) <;> cases decide (a < 4096) <;> first | exact hp | exact q_RZL _ h.2.2.2.2.2.1 hp
theorem q_rp5 (h : q_LX k m x) (hI : q_Iv c d w m) (hk : k < 512) (hp : q_RZ x) (a b e0 : Int32) (e : dz_X5_64_236 x a b e0 = some r0) : q_RZ r0.1 := by
  unfold dz_X5_64_236 q_let at e
  dsimp only at e
  rcases q_rc1 e with e | e
  · exact q_rpE hp e
  rcases q_rc2 e with e | e
  · exact q_rpE hp e
  rcases q_rc1 e with e | e
  · exact q_rpE hp e
  rcases q_rc1 e with e | e
  · exact q_rpE hp e
  rcases q_rc1 e with e | e
  · exact q_rpE hp e
  rcases q_rc1 e with e | e
  · exact q_rpE hp e
  rcases q_rc3 e with e | e
  · rcases q_rc1 e with e | e
    · exact q_rpE hp e
    exact q_rpA h hI hk hp e
  · exact q_rpA h hI hk hp e
theorem q_rp6 (h : q_LX k m x) (hI : q_Iv c d w m) (hk : k < 512) (hp : q_RZ x) (a : Int32) (e : dz_X6_64_236 x a = some r0) : q_RZ r0.1 := by
  have z0 : (0 : Int32).toInt = 0 := rfl
  have z4096 : (4096 : Int32).toInt = 4096 := rfl
  by_cases l : a.toInt < 0
  · unfold dz_X6_64_236 at e
    rw [q_lt_T (show a.toInt < (0 : Int32).toInt by omega)] at e
    cases e; exact hp
  by_cases u : 4095 < a.toInt
  · unfold dz_X6_64_236 at e
    rw [q_lt_F (show (0 : Int32).toInt ≤ a.toInt by omega), q_lt_F (show (4096 : Int32).toInt ≤ a.toInt by omega)] at e
    cases e; exact hp
  obtain ⟨r, z2, n2, e1, -⟩ := q_wlin (q_RO_s (q_ROk h.1)) (q_Ivk hI) h.2.2.2.2.2.2.2.1.1 a ⟨by omega, by omega⟩
  unfold dz_X6_64_236 at e
  rw [q_lt_F (show (0 : Int32).toInt ≤ a.toInt by omega), q_lt_T (show a.toInt < (4096 : Int32).toInt by omega), q_lx_eq, e1] at e
  cases e
  exact q_RZt (x := x) rfl rfl rfl rfl rfl rfl rfl rfl rfl h.2.2.2.2.2.1 hp
theorem q_rp7 (h : q_LX k m x) (hI : q_Iv c d w m) (hk : k < 512) (hp : q_RZ x) (a : Int32) (e : dz_X7_64_236 x a = some r0) : q_RZ r0.1 := by
  unfold dz_X7_64_236 q_let at e
  dsimp only at e
  rcases q_rc1 e with e | e
  · exact q_rpE hp e
  rcases q_rc2 e with e | e
  · exact q_rpE hp e
  cases e1 : dz_B327_64 (q_vw 2 71 0 x) a with
  | none => rw [e1] at e; cases e
  | some v =>
    rw [e1, Option.bind_some] at e
    cases e2 : decide (vp_nar .char v = v) with
    | true => rw [e2] at e; cases e; exact q_RZL _ h.2.2.2.2.2.1 hp
    | false => rw [e2] at e; cases e
theorem q_rp8 (h : q_LX k m x) (hI : q_Iv c d w m) (hk : k < 512) (hp : q_RZ x) (a b e0 : Int32) (e : dz_X8_64_236 x a b e0 = some r0) : q_RZ r0.1 := by
  unfold dz_X8_64_236 at e
  rcases q_rc1 e with e | e
  · exact q_rpE hp e
  rcases q_rc2 e with e | e
  · exact q_rpE hp e
  rcases q_rc1 e with e | e
  · exact q_rpE hp e
  rcases q_rc2 e with e | e
  · exact q_rpE hp e
  rcases q_rc1 e with e | e
  · exact q_rpE hp e
  rcases q_rc1 e with e | e
  · exact q_rpE hp e
  exact q_rpR h.2.2.2.2.2.1 hp e
theorem q_rp9 (h : q_LX k m x) (hI : q_Iv c d w m) (hk : k < 512) (hp : q_RZ x) (a : Int32) (e : some (dz_X9_64_236 x a) = some r0) : q_RZ r0.1 := by
  have e := Option.some.inj e
  rw [← e]
  unfold dz_X9_64_236 q_let
  cases decide (a < 0) <;> cases decide (a < 5) <;> first | exact hp | exact q_RZL _ h.2.2.2.2.2.1 hp
theorem q_rp10 (h : q_LX k m x) (hI : q_Iv c d w m) (hk : k < 512) (hp : q_RZ x) (a b : Int32) (e : dz_X10_64_236 x a b = some r0) : q_RZ r0.1 := by
  unfold dz_X10_64_236 q_let at e
  dsimp only at e
  rcases q_rc1 e with e | e
  · exact q_rpE hp e
  rcases q_rc2 e with e | e
  · exact q_rpE hp e
  rcases q_rc3 e with e | e
  · rcases q_rc1 e with e | e
    · exact q_rpE hp e
    rcases q_rc1 e with e | e
    · exact q_rpE hp e
    rcases q_rc1 e with e | e
    · exact q_rpE hp e
    exact q_rpA h hI hk hp e
  · rcases q_rc1 e with e | e
    · exact q_rpE hp e
    rcases q_rc1 e with e | e
    · exact q_rpE hp e
    rcases q_rc1 e with e | e
    · exact q_rpE hp e
    exact q_rpA h hI hk hp e
theorem q_rp14 (h : q_LX k m x) (hI : q_Iv c d w m) (hk : k < 512) (hp : q_RZ x) (a : Int32) (e : dz_X11_64_236 x a = some r0) : q_RZ r0.1 := by
  unfold dz_X11_64_236 at e
  unfold q_let at e
  dsimp only at e
  rcases q_rc1 e with e | e
  · exact q_rpE hp e
  rcases q_rc1 e with e | e
  · exact q_rpE hp e
  exact q_rpA h hI hk hp e
theorem q_rp15 (h : q_LX k m x) (hI : q_Iv c d w m) (hk : k < 512) (hp : q_RZ x) (e : dz_X12_64_236 x = some r0) : q_RZ r0.1 := by
  unfold dz_X12_64_236 at e
  unfold q_let at e
  dsimp only at e
  rcases q_rc2 e with e | e
  · exact q_rpE hp e
  exact q_rpA h hI hk hp e
theorem q_rp21 (h : q_LX k m x) (hI : q_Iv c d w m) (hk : k < 512) (hp : q_RZ x) (a : Int32) (e : some (dz_X13_64_236 x a) = some r0) : q_RZ r0.1 := by
  have e := Option.some.inj e
  rw [← e]
  unfold dz_X13_64_236
  cases decide (x.2.1 24 11 < 16) <;> cases decide (a < 0) <;> cases decide (a < x.2.1 24 11) <;> cases decide (a < 16) <;> first | exact hp | exact q_RZL _ h.2.2.2.2.2.1 hp
theorem q_rp22 (h : q_LX k m x) (hI : q_Iv c d w m) (hk : k < 512) (hp : q_RZ x) (a b : Int32) (e : some (dz_X14_64_236 x a b) = some r0) : q_RZ r0.1 := by
  have e := Option.some.inj e
  rw [← e]
  unfold dz_X14_64_236
  cases decide (a < 0) <;> cases decide (a < 32) <;> cases decide (b < 0) <;> cases decide (b < 32) <;> first | exact hp | exact q_RZL _ h.2.2.2.2.2.1 hp
theorem q_ME_NS {s y : q_S} (h : q_NS s y) : q_ME s y := by
  obtain ⟨e2, e1⟩ := h
  unfold q_ME q_ML q_cP
  rw [e2]
  simp only [e1 0 rfl, e1 1 rfl, e1 2 rfl, e1 3 rfl, e1 4 rfl, e1 5 rfl, e1 6 rfl, e1 7 rfl, e1 8 rfl, e1 9 rfl, e1 10 rfl, e1 11 rfl, e1 12 rfl, e1 13 rfl, e1 14 rfl, e1 15 rfl, e1 16 rfl, e1 17 rfl, e1 18 rfl, e1 19 rfl, e1 20 rfl, e1 21 rfl, e1 22 rfl, e1 23 rfl, e1 24 rfl, e1 25 rfl, e1 26 rfl, e1 27 rfl, e1 28 rfl, e1 29 rfl, e1 30 rfl, e1 31 rfl]
theorem q_rp23 (h : q_LX k m x) (hI : q_Iv c d w m) (hk : k < 512) (hp : q_RZ x) (a b : Int32) (e : dz_X15_64_236 x a b = some r0) : q_RZ r0.1 := by
  unfold dz_X15_64_236 at e
  rcases q_rc1 e with e | e
  · exact q_rpE hp e
  rcases q_rc2 e with e | e
  · exact q_rpE hp e
  rcases q_rc1 e with e | e
  · exact q_rpE hp e
  rcases q_rc2 e with e | e
  · exact q_rpE hp e
  cases e1 : dz_N108_65_96 (q_vw 32 1 73 x) a b with
  | none => rw [e1] at e; cases e
  | some w =>
    obtain ⟨y, v⟩ := w
    rw [e1] at e
    cases e
    have mM : q_ME (q_vw 32 1 73 x) y := q_ME_NS (q_ns108 _ _ _ _ _ e1)
    exact q_RZt (x := x) rfl rfl rfl rfl rfl rfl rfl rfl mM h.2.2.2.2.2.1 hp
theorem q_rp24 (h : q_LX k m x) (hI : q_Iv c d w m) (hk : k < 512) (hp : q_RZ x) (a : Int32) (e : some (dz_X16_64_236 x a) = some r0) : q_RZ r0.1 := by
  have e := Option.some.inj e
  rw [← e]
  unfold dz_X16_64_236
  cases decide (a < 0) <;> cases decide (a < 40) <;> first | exact hp | exact q_RZL _ h.2.2.2.2.2.1 hp
theorem q_rp25 (h : q_LX k m x) (hI : q_Iv c d w m) (hk : k < 512) (hp : q_RZ x) (a : Int32) (e : some (dz_X17_64_236 x a) = some r0) : q_RZ r0.1 := by
  have e := Option.some.inj e
  rw [← e]
  unfold dz_X17_64_236
  cases decide (a < 0) <;> cases decide (a < 3) <;> first | exact hp | exact q_RZL _ h.2.2.2.2.2.1 hp
theorem q_rp26f (h : q_LX k m x) (hI : q_Iv c d w m) (hk : k < 512) (hp : q_RZ x) (a b : Int32) (e : dz_X18_64_f_236 x a b = some r0) : q_RZ r0.1 := by
  unfold dz_X18_64_f_236 at e
  unfold q_let at e
  dsimp only at e
  rcases q_rc1 e with e | e
  · exact q_rpE hp e
  rcases q_rc2 e with e | e
  · exact q_rpE hp e
  rcases q_rc1 e with e | e
  · exact q_rpE hp e
  rcases q_rc2 e with e | e
  · exact q_rpE hp e
  exact q_rpK h hI hk hp e
theorem q_rp26t (h : q_LX k m x) (hI : q_Iv c d w m) (hk : k < 512) (hp : q_RZ x) (a b : Int32) (e : dz_X18_64_t_236 x a b = some r0) : q_RZ r0.1 := by
  unfold dz_X18_64_t_236 at e
  unfold q_let at e
  dsimp only at e
  rcases q_rc1 e with e | e
  · exact q_rpE hp e
  rcases q_rc2 e with e | e
  · exact q_rpE hp e
  rcases q_rc1 e with e | e
  · exact q_rpE hp e
  rcases q_rc2 e with e | e
  · exact q_rpE hp e
  exact q_rpK h hI hk hp e
theorem q_rp27 (h : q_LX k m x) (hI : q_Iv c d w m) (hk : k < 512) (hp : q_RZ x) (a : Int32) (e : some (dz_X19_64_236 x a) = some r0) : q_RZ r0.1 := by
  have e := Option.some.inj e
  rw [← e]
  unfold dz_X19_64_236
  cases decide (a < 0) <;> cases decide (15 < a) <;> first | exact hp | exact q_RZL _ h.2.2.2.2.2.1 hp
theorem q_rp28 (h : q_LX k m x) (hI : q_Iv c d w m) (hk : k < 512) (hp : q_RZ x) (a : Int32) (e : dz_X20_64_236 x a = some r0) : q_RZ r0.1 := by
  unfold dz_X20_64_236 at e
  unfold q_let at e
  dsimp only at e
  rcases q_rc1 e with e | e
  · exact q_rpE hp e
  rcases q_rc1 e with e | e
  · exact q_rpE hp e
  exact q_rpA h hI hk hp e
theorem q_rp29 (h : q_LX k m x) (hI : q_Iv c d w m) (hk : k < 512) (hp : q_RZ x) (a : Int32) (e : dz_X21_64_236 x a = some r0) : q_RZ r0.1 := by
  unfold dz_X21_64_236 at e
  unfold q_let at e
  dsimp only at e
  rcases q_rc1 e with e | e
  · exact q_rpE hp e
  rcases q_rc1 e with e | e
  · exact q_rpE hp e
  rcases q_rc2 e with e | e
  · exact q_rpE hp e
  exact q_rpA h hI hk hp e
theorem q_srM {s r : q_S} (h : q_src r = q_src s) : q_ML (q_src r) = q_ML (q_src s) := by rw [h]
theorem q_rp32 (h : q_LX k m x) (hI : q_Iv c d w m) (hk : k < 512) (hp : q_RZ x) (e : dz_X22_64_236 x = some r0) : q_RZ r0.1 := by
  obtain ⟨i6, i7⟩ := q_iNof h.1 (hI.1 15 6) (hI.1 15 7)
  unfold dz_X22_64_236 at e
  rcases q_rc1 e with e | e
  · exact q_rpE hp e
  rcases q_rc2 e with e | e
  · exact q_rpE hp e
  rcases q_rc3 e with e | e
  · obtain ⟨r, a1, a2, a3, a4, a5⟩ := q_bcm (q_vw 32 76 1 x) i6 i7
    rw [a1] at e
    cases e
    have mM : q_ME (q_vw 32 1 73 x) (q_src r) := (q_srM a3).symm
    exact q_RZt (x := x) rfl rfl rfl rfl rfl rfl rfl rfl mM h.2.2.2.2.2.1 hp
  rcases q_rc3 e with e | e
  · obtain ⟨r, a1, a2, a3, a4, a5⟩ := q_bcm (q_vw 32 108 1 x) i6 i7
    rw [a1] at e
    cases e
    have mM : q_ME (q_vw 32 1 73 x) (q_src r) := (q_srM a3).symm
    exact q_RZt (x := x) rfl rfl rfl rfl rfl rfl rfl rfl mM h.2.2.2.2.2.1 hp
  rcases q_rc3 e with e | e
  · obtain ⟨r, a1, a2, a3, a4, a5⟩ := q_bcm (q_vw 32 140 1 x) i6 i7
    rw [a1] at e
    cases e
    have mM : q_ME (q_vw 32 1 73 x) (q_src r) := (q_srM a3).symm
    exact q_RZt (x := x) rfl rfl rfl rfl rfl rfl rfl rfl mM h.2.2.2.2.2.1 hp
  · cases e
theorem q_rp33 (h : q_LX k m x) (hI : q_Iv c d w m) (hk : k < 512) (hp : q_RZ x) (a : Int32) (e : dz_X23_64_236 x a = some r0) : q_RZ r0.1 := by
  unfold dz_X23_64_236 at e
  rcases q_rc1 e with e | e
  · exact q_rpE hp e
  rcases q_rc2 e with e | e
  · exact q_rpE hp e
  rcases q_rc2 e with e | e
  · exact q_rpE hp e
  rcases q_rc3 e with e | e
  · rcases q_rc2 e with e | e
    · exact q_rpE hp e
    cases e1 : dz_W111_66_98 (q_vw 32 1 76 x) with
    | none => rw [e1] at e; cases e
    | some v =>
      rw [e1, Option.bind_some] at e
      cases e2 : dz_W77_64_96 (q_vw 32 1 76 x) with
      | none => rw [e2] at e; cases e
      | some r => rw [e2] at e; cases e; exact q_RZ0 rfl
  rcases q_rc3 e with e | e
  · rcases q_rc2 e with e | e
    · exact q_rpE hp e
    cases e1 : dz_W111_66_98 (q_vw 32 1 108 x) with
    | none => rw [e1] at e; cases e
    | some v =>
      rw [e1, Option.bind_some] at e
      cases e2 : dz_W77_64_96 (q_vw 32 1 108 x) with
      | none => rw [e2] at e; cases e
      | some r => rw [e2] at e; cases e; exact q_RZ0 rfl
  rcases q_rc3 e with e | e
  · rcases q_rc2 e with e | e
    · exact q_rpE hp e
    cases e1 : dz_W111_66_98 (q_vw 32 1 140 x) with
    | none => rw [e1] at e; cases e
    | some v =>
      rw [e1, Option.bind_some] at e
      cases e2 : dz_W77_64_96 (q_vw 32 1 140 x) with
      | none => rw [e2] at e; cases e
      | some r => rw [e2] at e; cases e; exact q_RZ0 rfl
  · cases e
theorem q_rp34 (h : q_LX k m x) (hI : q_Iv c d w m) (hk : k < 512) (hp : q_RZ x) (a : Int32) (e : dz_X24_64_236 x a = some r0) : q_RZ r0.1 := by
  unfold dz_X24_64_236 at e
  rcases q_rc1 e with e | e
  · exact q_rpE hp e
  rcases q_rc2 e with e | e
  · exact q_rpE hp e
  rcases q_rc2 e with e | e
  · exact q_rpE hp e
  rcases q_rc3 e with e | e
  · rcases q_rc2 e with e | e
    · exact q_rpE hp e
    exact q_rpR h.2.2.2.2.2.1 hp e
  rcases q_rc3 e with e | e
  · rcases q_rc2 e with e | e
    · exact q_rpE hp e
    exact q_rpR h.2.2.2.2.2.1 hp e
  rcases q_rc3 e with e | e
  · rcases q_rc2 e with e | e
    · exact q_rpE hp e
    exact q_rpR h.2.2.2.2.2.1 hp e
  · cases e
theorem q_rp36 (h : q_LX k m x) (hI : q_Iv c d w m) (hk : k < 512) (hp : q_RZ x) (e : some (dz_X25_64_236 x) = some r0) : q_RZ r0.1 := by
  have e := Option.some.inj e
  rw [← e]
  unfold dz_X25_64_236
  cases decide (x.2.1 34 7 = 0) <;> first | exact hp | exact q_RZL _ h.2.2.2.2.2.1 hp
theorem q_rp12 (h : q_LX k m x) (hI : q_Iv c d w m) (hk : k < 512) (hp : q_RZ x) {g : q_S × Int32} (e : dz_X40_64 x = some g) : q_RZ g.1 := q_rpA2 h hI hk hp e
theorem q_rp13 (h : q_LX k m x) (hI : q_Iv c d w m) (hk : k < 512) (hp : q_RZ x) {g : q_S × Int32} (e : dz_X41_64 x = some g) : q_RZ g.1 := q_rpA2 h hI hk hp e
theorem q_rp30 (h : q_LX k m x) (hI : q_Iv c d w m) (hk : k < 512) (hp : q_RZ x) {g : q_S × Int32} (e : dz_X58_64 x = some g) : q_RZ g.1 := q_rpA2 (a1 := 12) (a2 := 0) (a3 := 0) (a4 := 0) h hI hk hp e
theorem q_tcC {t n : Nat} {F f g : Nat → Int32} (h : F = va_cpy f g 0 0 n) : q_tc (.inl (t, n, .inl F)) = q_tc (.inl (t, n, .inl f)) := by
  rw [h]
  have e : (fun k => cond (Nat.blt k n) (va_cpy f g 0 0 n k) 0) = (fun k => cond (Nat.blt k n) (f k) 0) := by
    funext k
    rcases Nat.lt_or_ge k n with q | q
    · rw [q_tmT q]
      show va_cpy f g 0 0 n k = f k
      unfold va_cpy
      rw [if_pos ⟨Nat.zero_le _, by omega⟩, Nat.zero_add, Nat.sub_zero]
    · rw [q_bltF q]
      rfl
  show (Sum.inl (t, n, Sum.inl (fun k => cond (Nat.blt k n) (va_cpy f g 0 0 n k) 0)) : q_C) = Sum.inl (t, n, Sum.inl (fun k => cond (Nat.blt k n) (f k) 0))
  rw [e]
theorem q_lc {a b : q_C} {l l2 : List q_C} (h : q_tc a = q_tc b) (t : l.map q_tc = l2.map q_tc) : (a :: l).map q_tc = (b :: l2).map q_tc := by
  rw [List.map_cons, List.map_cons, h, t]
theorem q_77M (s : q_S) (h6 : q_rgz 0 1 (s.2.1 55 6)) (h7 : q_rgz 0 1 (s.2.1 55 7)) {r : q_S} (e : dz_W77_64_96 s = some r) : q_ME r (q_src s) := by
  unfold dz_W77_64_96 dz_W131_87_119 q_let at e
  dsimp only at e
  rw [show q_z1 ((dz_W85_65_97 s).2.1 55 6) = true from q_z1_rg h6, show q_z1 ((dz_W85_65_97 s).2.1 55 7) = true from q_z1_rg h7] at e
  cases e
  unfold q_ME q_ML q_cP
  exact (q_lc rfl (q_lc rfl (q_lc rfl (q_lc (q_tcC rfl) (q_lc (q_tcC rfl) (q_lc (q_tcC rfl) (q_lc (q_tcC rfl) (q_lc (q_tcC rfl) (q_lc rfl (q_lc (q_tcC rfl) (q_lc rfl (q_lc (q_tcC rfl) (q_lc (q_tcC rfl) (q_lc rfl (q_lc rfl (q_lc (q_tcC rfl) (q_lc (q_tcC rfl) (q_lc (q_tcC rfl) (q_lc rfl (q_lc rfl (q_lc (q_tcC rfl) (q_lc (q_tcC rfl) (q_lc (q_tcC rfl) (q_lc rfl (q_lc (q_tcC rfl) (q_lc rfl (q_lc (q_tcC rfl) (q_lc (q_tcC rfl) (q_lc (q_tcC rfl) (q_lc (q_tcC rfl) (q_lc (q_tcC rfl) (q_lc (q_tcC rfl) rfl))))))))))))))))))))))))))))))))
theorem q_rp35 (h : q_LX k m x) (hI : q_Iv c d w m) (hk : k < 512) (hp : q_RZ x) {g : q_S × Int32} (e : dz_X63_64 x = some g) : q_RZ g.1 := by
  obtain ⟨i6, i7⟩ := q_iNof h.1 (hI.1 15 6) (hI.1 15 7)
  obtain ⟨r, a1, a2, a3, a4, a5⟩ := q_bcm (q_vw 32 35 1 x) i6 i7
  have mM : q_ME r (q_src r) := (q_77M (q_vw 32 35 1 x) i6 i7 a1).trans (q_srM a3).symm
  have e9 : dz_X183_98_65 x = some (q_sI (q_sI (q_sI (q_pt 32 32 35 1 x r) 34 5 0) 34 6 0) 34 7 1) := by
    unfold dz_X183_98_65
    rw [a1]
    rfl
  unfold dz_X63_64 q_let at e
  rw [e9] at e
  have eg : g.1 = q_sI (q_sI (q_sI (q_pt 32 32 35 1 x r) 34 5 0) 34 6 0) 34 7 1 := by
    have e : cond (decide (x.2.1 34 7 = 0)) (some (q_sI (q_sI (q_sI (q_pt 32 32 35 1 x r) 34 5 0) 34 6 0) 34 7 1, (0 : Int32))) (some (q_sI (q_sI (q_sI (q_pt 32 32 35 1 x r) 34 5 0) 34 6 0) 34 7 1, x.2.1 34 5)) = some g := e
    cases k9 : decide (x.2.1 34 7 = 0) with
    | true => rw [k9] at e; cases e; rfl
    | false => rw [k9] at e; cases e; rfl
  rw [eg]
  intro _
  exact mM
end
