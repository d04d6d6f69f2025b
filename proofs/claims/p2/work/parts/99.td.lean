section
variable {TB : Nat → Option (Nat × Nat × (Nat → Int32))} {d k : Nat} {as : List Value} {h h2 : q_H} {o o2 : q_Out}
theorem q_Ca_det (e1 : q_Ca TB d k as h o) (e2 : q_Ca TB d k as h o2) : o = o2 := by
  obtain ⟨n1, e1⟩ := e1
  obtain ⟨n2, e2⟩ := e2
  have f1 := q_up_x (Nat.le_max_left n1 n2) (Nat.le_refl d) k as h o e1
  have f2 := q_up_x (Nat.le_max_right n1 n2) (Nat.le_refl d) k as h o2 e2
  rw [f1] at f2
  exact Option.some.inj f2
theorem q_Ca_tm (e : q_Ca TB d k as h o) : q_Ca TB d k as (q_th h) (o.1, q_th o.2) := by
  obtain ⟨n, e⟩ := e
  exact ⟨n, q_tm_exec (fun k => q_mtab_tm k) n d k as h o e⟩
theorem q_cong (hh : q_th h = q_th h2) (e1 : q_Ca TB d k as h o) (e2 : q_Ca TB d k as h2 o2) : o.1 = o2.1 ∧ q_th o.2 = q_th o2.2 := by
  have f1 := q_Ca_tm e1
  have f2 := q_Ca_tm e2
  rw [hh] at f1
  have t := q_Ca_det f1 f2
  exact Prod.mk.inj t
end
section
variable {x y z m s t s2 y2 e e2 : q_S} {c d w k : Int} {n j : Nat}
/-- two machines are alike in every cell -/
def q_ML (s : q_S) : List q_C := (q_cP s.1 s.2.1 s.2.2).map q_tc
def q_ME (s t : q_S) : Prop := q_ML s = q_ML t
theorem q_79c (h : q_ME s t) {a1 a2 a3 a4 r r2 : Int32} (f1 : dz_N79_64 s a1 a2 a3 a4 = some (y, r)) (f2 : dz_N79_64 t a1 a2 a3 a4 = some (y2, r2)) : r = r2 ∧ q_ME y y2 := by
  have hh : q_th (q_kP s 0 0) = q_th (q_kP t 0 0) := congrArg (fun l => ((l, 0, 0) : q_H)) h
  obtain ⟨c1, c2⟩ := q_cong hh (dzt_P79_64 s 0 0 a1 a2 a3 a4 (y, r) f1) (dzt_P79_64 t 0 0 a1 a2 a3 a4 (y2, r2) f2)
  exact ⟨Value.int.inj (Option.some.inj (Sum.inl.inj c1)), congrArg Prod.fst c2⟩
theorem q_90c (h : q_ME s t) {a r r2 : Int32} (f1 : dz_N90_65 s a = some r) (f2 : dz_N90_65 t a = some r2) : r = r2 := by
  have hh : q_th (q_kP s 0 0) = q_th (q_kP t 0 0) := congrArg (fun l => ((l, 0, 0) : q_H)) h
  obtain ⟨c1, -⟩ := q_cong hh (dzt_P90_65 s 0 0 a r f1) (dzt_P90_65 t 0 0 a r2 f2)
  exact Value.int.inj (Option.some.inj (Sum.inl.inj c1))
theorem q_MEr {u n : Nat} {f g : Nat → Int32} (h : (some (q_tc (.inl (u, n, .inl f))) : Option q_C) = some (q_tc (.inl (u, n, .inl g)))) {k : Nat} (hk : k < n) : f k = g k := by
  have h1 : (fun k => cond (Nat.blt k n) (f k) 0) = (fun k => cond (Nat.blt k n) (g k) 0) := Sum.inl.inj (Prod.mk.inj (Prod.mk.inj (Sum.inl.inj (Option.some.inj h))).2).2
  have h2 : cond (Nat.blt k n) (f k) 0 = cond (Nat.blt k n) (g k) 0 := congrFun h1 k
  rw [q_tmT hk] at h2
  exact h2
theorem q_ME3 (h : q_ME s t) {k : Nat} (hk : k < 4096) : s.1 3 k = t.1 3 k := q_MEr (u := 0) (n := 4096) (congrArg (fun l : List q_C => l[3]?) h) hk
theorem q_ME30 (h : q_ME s t) {k : Nat} (hk : k < 40) : s.1 30 k = t.1 30 k := q_MEr (u := 0) (n := 40) (congrArg (fun l : List q_C => l[30]?) h) hk
theorem q_ME31 (h : q_ME s t) {k : Nat} (hk : k < 1024) : s.1 31 k = t.1 31 k := q_MEr (u := 0) (n := 1024) (congrArg (fun l : List q_C => l[31]?) h) hk
def q_fld (c : Option q_C) (j : Nat) : Option Value := match c with
  | some (Sum.inr (_, l)) => l[j]?
  | _ => none
theorem q_MEf (h : q_ME s t) : s.2.1 23 0 = t.2.1 23 0 ∧ s.2.1 23 1 = t.2.1 23 1 ∧ s.2.1 23 2 = t.2.1 23 2 ∧ s.2.1 23 3 = t.2.1 23 3 ∧ s.2.1 23 4 = t.2.1 23 4 ∧ s.2.1 23 5 = t.2.1 23 5 ∧ s.2.1 23 6 = t.2.1 23 6 ∧ s.2.1 23 7 = t.2.1 23 7 := by
  have h1 := congrArg (fun l : List q_C => l[23]?) h
  have f : ∀ j : Nat, q_fld ((q_ML s)[23]?) j = q_fld ((q_ML t)[23]?) j := fun j => congrArg (fun c => q_fld c j) h1
  exact ⟨Value.int.inj (Option.some.inj (show some (Value.int (s.2.1 23 0)) = some (Value.int (t.2.1 23 0)) from f 0)), Value.int.inj (Option.some.inj (show some (Value.int (s.2.1 23 1)) = some (Value.int (t.2.1 23 1)) from f 1)), Value.int.inj (Option.some.inj (show some (Value.int (s.2.1 23 2)) = some (Value.int (t.2.1 23 2)) from f 2)), Value.int.inj (Option.some.inj (show some (Value.int (s.2.1 23 3)) = some (Value.int (t.2.1 23 3)) from f 3)), Value.int.inj (Option.some.inj (show some (Value.int (s.2.1 23 4)) = some (Value.int (t.2.1 23 4)) from f 4)), Value.int.inj (Option.some.inj (show some (Value.int (s.2.1 23 5)) = some (Value.int (t.2.1 23 5)) from f 5)), Value.int.inj (Option.some.inj (show some (Value.int (s.2.1 23 6)) = some (Value.int (t.2.1 23 6)) from f 6)), Value.int.inj (Option.some.inj (show some (Value.int (s.2.1 23 7)) = some (Value.int (t.2.1 23 7)) from f 7))⟩
theorem q_MEi (h : q_ME s t) (i : q_iN t) : q_iN s := by
  obtain ⟨-, -, -, -, -, -, e6, e7⟩ := q_MEf h
  exact ⟨by rw [e6]; exact i.1, by rw [e7]; exact i.2⟩
theorem q_MEs (h : q_ME s t) : q_ME t s := Eq.symm h
/-- the calls j to j + n - 1 that stand in x's rows lead from s to e -/
def q_Pl (x : q_S) (n : Nat) : Nat → q_S → q_S → Prop := Nat.rec (motive := fun _ => Nat → q_S → q_S → Prop) (fun _ s e => q_ME s e) (fun _ r j s e => ∃ y v, dz_N79_64 s (x.1 67 j) (x.1 68 j) (x.1 69 j) (x.1 70 j) = some (y, v) ∧ r (j + 1) y e) n
theorem q_PlS : ∀ (n j : Nat) (s t e : q_S), q_ME s t → q_iN t → q_Pl x n j s e → q_Pl x n j t e := by
  intro n
  induction n with
  | zero => intro j s t e h i p; exact (q_MEs h).trans p
  | succ n ih =>
    intro j s t e h i p
    obtain ⟨y, v, f, p⟩ := p
    obtain ⟨⟨y2, v2⟩, f2, i2⟩ := dzj_N79_64 t i (x.1 67 j) (x.1 68 j) (x.1 69 j) (x.1 70 j)
    exact ⟨y2, v2, f2, ih _ _ _ _ (q_79c h f f2).2 i2 p⟩
theorem q_PlE : ∀ (n j : Nat) (s e e2 : q_S), q_ME e e2 → q_Pl x n j s e → q_Pl x n j s e2 := by
  intro n
  induction n with
  | zero => intro j s e e2 h p; exact Eq.trans p h
  | succ n ih =>
    intro j s e e2 h p
    obtain ⟨y, v, f, p⟩ := p
    exact ⟨y, v, f, ih _ _ _ _ h p⟩
theorem q_PlX (h7 : z.1 67 = x.1 67) (h8 : z.1 68 = x.1 68) (h9 : z.1 69 = x.1 69) (h0 : z.1 70 = x.1 70) : ∀ (n j : Nat) (s e : q_S), q_Pl x n j s e → q_Pl z n j s e := by
  intro n
  induction n with
  | zero => intro j s e p; exact p
  | succ n ih =>
    intro j s e p
    obtain ⟨y, v, f, p⟩ := p
    exact ⟨y, v, by rw [h7, h8, h9, h0]; exact f, ih _ _ _ p⟩
/-- one more call behind them -/
theorem q_PlA {J : Nat} {a1 a2 a3 a4 r : Int32} (hr : ∀ i, i < J → z.1 67 i = x.1 67 i ∧ z.1 68 i = x.1 68 i ∧ z.1 69 i = x.1 69 i ∧ z.1 70 i = x.1 70 i) (hJ : z.1 67 J = a1 ∧ z.1 68 J = a2 ∧ z.1 69 J = a3 ∧ z.1 70 J = a4) (i : q_iN e) (f : dz_N79_64 e a1 a2 a3 a4 = some (y, r)) : ∀ (n j : Nat) (s : q_S), j + n = J → q_Pl x n j s e → q_Pl z (n + 1) j s y := by
  intro n
  induction n with
  | zero =>
    intro j s hj p
    obtain rfl : j = J := hj
    obtain ⟨⟨y2, v2⟩, f2, -⟩ := dzj_N79_64 s (q_MEi p i) a1 a2 a3 a4
    exact ⟨y2, v2, by rw [hJ.1, hJ.2.1, hJ.2.2.1, hJ.2.2.2]; exact f2, (q_79c p f2 f).2⟩
  | succ n ih =>
    intro j s hj p
    obtain ⟨y2, v, g, p⟩ := p
    obtain ⟨b1, b2, b3, b4⟩ := hr j (by omega)
    exact ⟨y2, v, by rw [b1, b2, b3, b4]; exact g, ih (j + 1) y2 (by omega) p⟩
/-- the recording: played from where it stands, it is the machine -/
def q_RZ (x : q_S) : Prop := x.2.1 34 7 = 1 → q_Pl x ((x.2.1 34 5).toInt - (x.2.1 34 6).toInt).toNat (x.2.1 34 6).toNatClampNeg (q_vw 32 35 73 x) (q_vw 32 1 73 x)
theorem q_RZt (h7 : z.1 67 = x.1 67) (h8 : z.1 68 = x.1 68) (h9 : z.1 69 = x.1 69) (h0 : z.1 70 = x.1 70) (i5 : z.2.1 34 5 = x.2.1 34 5) (i6 : z.2.1 34 6 = x.2.1 34 6) (i7 : z.2.1 34 7 = x.2.1 34 7) (mR : q_ME (q_vw 32 35 73 x) (q_vw 32 35 73 z)) (mM : q_ME (q_vw 32 1 73 x) (q_vw 32 1 73 z)) (i : q_iN (q_vw 32 35 73 z)) (h : q_RZ x) : q_RZ z := by
  intro q
  rw [i5, i6]
  exact q_PlX h7 h8 h9 h0 _ _ _ _ (q_PlS _ _ _ _ _ mR i (q_PlE _ _ _ _ _ mM (h (i7.symm.trans q))))
theorem q_RZ0 (h : x.2.1 34 7 = 0) : q_RZ x := fun q => by rw [h] at q; exact absurd q (by decide)
/-- an action -/
theorem q_RZact {a1 a2 a3 a4 r : Int32} (hi : q_iN (q_vw 32 1 73 x)) (hR : q_iN (q_vw 32 35 73 x)) (hk : q_RK k x m) (hk5 : k < 512) (h : q_RZ x) (f : dz_N79_64 (q_vw 32 1 73 (dz_X184_98 x a1 a2 a3 a4)) a1 a2 a3 a4 = some (y, r)) (w7 : z.1 67 = (dz_X184_98 x a1 a2 a3 a4).1 67) (w8 : z.1 68 = (dz_X184_98 x a1 a2 a3 a4).1 68) (w9 : z.1 69 = (dz_X184_98 x a1 a2 a3 a4).1 69) (w0 : z.1 70 = (dz_X184_98 x a1 a2 a3 a4).1 70) (i5 : z.2.1 34 5 = (dz_X184_98 x a1 a2 a3 a4).2.1 34 5) (i6 : z.2.1 34 6 = (dz_X184_98 x a1 a2 a3 a4).2.1 34 6) (i7 : z.2.1 34 7 = (dz_X184_98 x a1 a2 a3 a4).2.1 34 7) (mR : q_ME (q_vw 32 35 73 (dz_X184_98 x a1 a2 a3 a4)) (q_vw 32 35 73 z)) (mM : q_ME y (q_vw 32 1 73 z)) : q_RZ z := by
  rcases q_keep hk hk5 a1 a2 a3 a4 with ⟨e0, e1, -⟩ | ⟨e0, e1, -⟩
  · rw [e0] at i7
    exact q_RZ0 (i7.trans e1)
  · obtain ⟨-, r2, r3, r4, r5⟩ := hk
    rw [e0] at f w7 w8 w9 w0 i5 i6 i7 mR
    have e5 : ((x.2.1 34 5) + 1).toInt = (x.2.1 34 5).toInt + 1 := q_addI ⟨by omega, by omega⟩ ⟨by decide, by decide⟩
    have en : (x.2.1 34 5).toNatClampNeg = (x.2.1 34 6).toNatClampNeg + ((x.2.1 34 5).toInt - (x.2.1 34 6).toInt).toNat := by
      show (x.2.1 34 5).toInt.toNat = (x.2.1 34 6).toInt.toNat + _
      omega
    have j5 : z.2.1 34 5 = (x.2.1 34 5) + 1 := i5
    have j6 : z.2.1 34 6 = x.2.1 34 6 := i6
    have z7 : z.1 67 = upd (x.1 67) ((x.2.1 34 5).toNatClampNeg) a1 := w7
    have z8 : z.1 68 = upd (x.1 68) ((x.2.1 34 5).toNatClampNeg) a2 := w8
    have z9 : z.1 69 = upd (x.1 69) ((x.2.1 34 5).toNatClampNeg) a3 := w9
    have z0 : z.1 70 = upd (x.1 70) ((x.2.1 34 5).toNatClampNeg) a4 := w0
    have mR : q_ME (q_vw 32 35 73 x) (q_vw 32 35 73 z) := mR
    have mX : q_ME (q_vw 32 1 73 x) (q_vw 32 1 73 (q_sI (q_sA (q_sA (q_sA (q_sA x 67 (upd (x.1 67) ((x.2.1 34 5).toNatClampNeg) a1)) 68 (upd (x.1 68) ((x.2.1 34 5).toNatClampNeg) a2)) 69 (upd (x.1 69) ((x.2.1 34 5).toNatClampNeg) a3)) 70 (upd (x.1 70) ((x.2.1 34 5).toNatClampNeg) a4)) 34 5 ((x.2.1 34 5) + 1))) := rfl
    intro _
    rw [j5, j6, show (((x.2.1 34 5) + 1).toInt - (x.2.1 34 6).toInt).toNat = ((x.2.1 34 5).toInt - (x.2.1 34 6).toInt).toNat + 1 by omega]
    have p := h e1
    have p2 := q_PlA (x := x) (z := z) (J := (x.2.1 34 5).toNatClampNeg) (a1 := a1) (a2 := a2) (a3 := a3) (a4 := a4) (fun i hi => by
      rw [z7, z8, z9, z0]
      have ne : ¬ i = (x.2.1 34 5).toNatClampNeg := by omega
      exact ⟨if_neg ne, if_neg ne, if_neg ne, if_neg ne⟩) (by
      rw [z7, z8, z9, z0]
      exact ⟨if_pos rfl, if_pos rfl, if_pos rfl, if_pos rfl⟩) (q_MEi (q_MEs mX) hi) f _ _ _ en.symm (q_PlE _ _ _ _ _ mX p)
    exact q_PlS _ _ _ _ _ mR (q_MEi (q_MEs mR) hR) (q_PlE _ _ _ _ _ mM p2)
theorem q_RZL (g : Nat → Int64) (hR : q_iN (q_vw 32 35 73 x)) (h : q_RZ x) : q_RZ (q_sL x 172 g) := q_RZt (x := x) rfl rfl rfl rfl rfl rfl rfl rfl rfl hR h
end
section
variable {s : q_S}
/-- like is like -/
theorem q_W90a (s : q_S) (a : Int32) : dz_W90_65 s a = dz_N90_65 s a := rfl
theorem q_W90b (s : q_S) (a : Int32) : dz_W90_97 s a = dz_N90_65 (q_vw 32 32 64 s) a := rfl
theorem q_lkR (h : q_ME s (q_vw 32 32 64 s)) (hi : q_iN s) : ∀ (n f : Nat) (v : Int32), v.toInt + n = 48 → 0 ≤ v.toInt → n ≤ f → dz_W78_64_96_2 (f + 1) s v = dz_W78_64_96_45 5000 s 0 := by
  have hi2 : q_iN (q_vw 32 32 64 s) := q_MEi (q_MEs h) hi
  intro n
  induction n with
  | zero =>
    intro f v hn h0 hf
    rw [dzs_W78_64_96_2]
    dsimp only
    rw [q_lt_F (by show (48 : Int) ≤ _; omega)]
    rfl
  | succ n ih =>
    intro f v hn h0 hf
    obtain ⟨f, rfl⟩ : ∃ f', f = f' + 1 := ⟨f - 1, by omega⟩
    have e1 : (v + 1).toInt = v.toInt + 1 := q_addI ⟨by omega, by omega⟩ ⟨by decide, by decide⟩
    obtain ⟨r1, f1, -⟩ := dzj_N90_65 s hi ((3840 : Int32) + v)
    obtain ⟨r2, f2, -⟩ := dzj_N90_65 (q_vw 32 32 64 s) hi2 ((3840 : Int32) + v)
    have er := q_90c h f1 f2
    rw [dzs_W78_64_96_2]
    have ih2 := ih f (v + 1) (by omega) (by omega) (by omega)
    generalize dz_W78_64_96_2 (f + 1) = kk at ih2 ⊢
    dsimp only
    rw [q_lt_T (by show _ < (48 : Int); omega), cond_true, q_W90a, q_W90b, f1, Option.bind_some, f2, Option.bind_some, er, decide_eq_true rfl]
    exact ih2
theorem q_lkD (h : ∀ k, k < 4096 → s.1 3 k = s.1 35 k) : ∀ (n f : Nat) (v2 v3 : Int32), v3.toInt + n = 4096 → 0 ≤ v3.toInt → n ≤ f → dz_W111_66_98_4 (f + 1) s v2 v3 = some v2 := by
  intro n
  induction n with
  | zero =>
    intro f v2 v3 hn h0 hf
    rw [dzs_W111_66_98_4]
    dsimp only
    rw [q_lt_F (by show (4096 : Int) ≤ _; omega)]
    rfl
  | succ n ih =>
    intro f v2 v3 hn h0 hf
    obtain ⟨f, rfl⟩ : ∃ f', f = f' + 1 := ⟨f - 1, by omega⟩
    have e1 : (v3 + 1).toInt = v3.toInt + 1 := q_addI ⟨by omega, by omega⟩ ⟨by decide, by decide⟩
    have hin : q_in v3 4096 = true := q_in_rg (l := 0) (u := 4095) ⟨h0, by omega⟩ (by decide) (by decide)
    have en : v3.toNatClampNeg < 4096 := by show v3.toInt.toNat < 4096; omega
    rw [dzs_W111_66_98_4]
    have ih2 := ih f v2 (v3 + 1) (by omega) (by omega) (by omega)
    generalize dz_W111_66_98_4 (f + 1) = kk at ih2 ⊢
    dsimp only
    rw [q_lt_T (by show _ < (4096 : Int); omega), cond_true, hin, cond_true, h _ en, decide_eq_true rfl]
    exact ih2
theorem q_lkS (h : ∀ k, k < 40 → s.1 30 k = s.1 62 k) : ∀ (n f : Nat) (v : Int32), v.toInt + n = 40 → 0 ≤ v.toInt → n ≤ f → dz_W167_89_121_2 (f + 1) s v = some true := by
  intro n
  induction n with
  | zero =>
    intro f v hn h0 hf
    rw [dzs_W167_89_121_2]
    dsimp only
    rw [q_lt_F (by show (40 : Int) ≤ _; omega)]
    rfl
  | succ n ih =>
    intro f v hn h0 hf
    obtain ⟨f, rfl⟩ : ∃ f', f = f' + 1 := ⟨f - 1, by omega⟩
    have e1 : (v + 1).toInt = v.toInt + 1 := q_addI ⟨by omega, by omega⟩ ⟨by decide, by decide⟩
    have hin : q_in v 40 = true := q_in_rg (l := 0) (u := 39) ⟨h0, by omega⟩ (by decide) (by decide)
    have en : v.toNatClampNeg < 40 := by show v.toInt.toNat < 40; omega
    rw [dzs_W167_89_121_2]
    have ih2 := ih f (v + 1) (by omega) (by omega) (by omega)
    generalize dz_W167_89_121_2 (f + 1) = kk at ih2 ⊢
    dsimp only
    rw [q_lt_T (by show _ < (40 : Int); omega), cond_true, hin, cond_true, h _ en, decide_eq_true rfl]
    exact ih2
theorem q_lkP (h : q_ME s (q_vw 32 32 64 s)) : ∀ (n f : Nat) (v : Int32), v.toInt + n = 1024 → 0 ≤ v.toInt → n ≤ f → dz_W78_64_96_45 (f + 1) s v = some true := by
  intro n
  induction n with
  | zero =>
    intro f v hn h0 hf
    have e1 : dz_W111_66_98 s = some 0 := q_lkD (fun k hk => q_ME3 h hk) 4096 4999 0 0 (by decide) (by decide) (by decide)
    have e2 : dz_W167_89_121 s = some true := q_lkS (fun k hk => q_ME30 h hk) 40 4999 0 (by decide) (by decide) (by decide)
    have e3 : dz_W132_87_119 s = true := by
      obtain ⟨g0, g1, g2, g3, g4, g5, -⟩ := q_MEf h
      have g0 : s.2.1 23 0 = s.2.1 55 0 := g0
      have g1 : s.2.1 23 1 = s.2.1 55 1 := g1
      have g2 : s.2.1 23 2 = s.2.1 55 2 := g2
      have g3 : s.2.1 23 3 = s.2.1 55 3 := g3
      have g4 : s.2.1 23 4 = s.2.1 55 4 := g4
      have g5 : s.2.1 23 5 = s.2.1 55 5 := g5
      unfold dz_W132_87_119
      rw [decide_eq_true g0, decide_eq_true g1, decide_eq_true g2, decide_eq_true g3, decide_eq_true g4, decide_eq_true g5]
      rfl
    rw [dzs_W78_64_96_45]
    unfold q_let
    dsimp only
    rw [q_lt_F (by show (1024 : Int) ≤ _; omega), cond_false, e1, Option.bind_some, e3, e2]
    rfl
  | succ n ih =>
    intro f v hn h0 hf
    obtain ⟨f, rfl⟩ : ∃ f', f = f' + 1 := ⟨f - 1, by omega⟩
    have e1 : (v + 1).toInt = v.toInt + 1 := q_addI ⟨by omega, by omega⟩ ⟨by decide, by decide⟩
    have hin : q_in v 1024 = true := q_in_rg (l := 0) (u := 1023) ⟨h0, by omega⟩ (by decide) (by decide)
    have en : v.toNatClampNeg < 1024 := by show v.toInt.toNat < 1024; omega
    have eP : s.1 31 v.toNatClampNeg = s.1 63 v.toNatClampNeg := q_ME31 h en
    rw [dzs_W78_64_96_45]
    have ih2 := ih f (v + 1) (by omega) (by omega) (by omega)
    generalize dz_W78_64_96_45 (f + 1) = kk at ih2 ⊢
    unfold q_let
    dsimp only
    rw [q_lt_T (by show _ < (1024 : Int); omega), cond_true, hin, cond_true, eP, decide_eq_true rfl]
    exact ih2
theorem q_78T (h : q_ME s (q_vw 32 32 64 s)) (hi : q_iN s) : dz_W78_64_96 s = some true :=
  (q_lkR h hi 48 4999 0 (by decide) (by decide) (by decide)).trans (q_lkP h 1024 4999 0 (by decide) (by decide) (by decide))
end
section
variable {x y z m s : q_S} {c d w k : Int}
/-- the class' machine and the recording's are all that isSame's loop touches -/
theorem q_lpPl (m : q_S) : ∀ (n f : Nat) (s : q_S) (v : Int32), q_LX k m s → q_iN (q_vw 32 1 73 s) → 0 ≤ v.toInt → v.toInt + n = (s.2.1 34 5).toInt → (s.2.1 34 5).toInt ≤ 512 → n ≤ f → q_Pl s n v.toNatClampNeg (q_vw 32 35 73 s) (q_vw 32 1 73 s) → ∃ s2, dz_X65_27 (f + 1) s v = some (s2, true) ∧ q_LX k m s2 ∧ s2.2.1 34 5 = s.2.1 34 5 ∧ s2.2.1 34 6 = s.2.1 34 5 ∧ q_ME (q_vw 32 35 73 s2) (q_vw 32 1 73 s2) := by
  intro n
  induction n with
  | zero =>
    intro f s v h hM h0 hn h5 hf p
    have p : q_ME (q_vw 32 35 73 s) (q_vw 32 1 73 s) := p
    have hh := h
    obtain ⟨h1, h2, h3, h4, h5', h6, ⟨r1, r2, r3, r4, r5⟩, h8⟩ := hh
    have e := q_78T (s := q_vw 32 35 1 (q_sI s 34 6 (s.2.1 34 5))) p h6
    refine ⟨q_sI s 34 6 (s.2.1 34 5), ?_, ⟨h1, h2, h3, h4, h5', h6, ⟨r1, r2, r3, r2, Int.le_refl _⟩, h8⟩, rfl, rfl, p⟩
    rw [dzs_X65_27]
    dsimp only
    rw [q_lt_F (by omega), cond_false, e]
    rfl
  | succ n ih =>
    intro f s v h hM h0 hn h5 hf p
    obtain ⟨f, rfl⟩ : ∃ f', f = f' + 1 := ⟨f - 1, by omega⟩
    obtain ⟨y, r, er, p⟩ := p
    have hh := h
    obtain ⟨h1, h2, h3, h4, h5', h6, ⟨r1, r2, r3, r4, r5⟩, h8⟩ := hh
    have e2 : (v + 1).toInt = v.toInt + 1 := q_addI ⟨by omega, by omega⟩ ⟨by decide, by decide⟩
    obtain ⟨r9, er9, hr⟩ := dzj_N79_64 (q_vw 32 35 73 s) h6 (s.1 67 v.toNatClampNeg) (s.1 68 v.toNatClampNeg) (s.1 69 v.toNatClampNeg) (s.1 70 v.toNatClampNeg)
    rw [er] at er9
    cases er9
    have ea : v &&& 511 = v := by
      apply Int32.toInt_inj.mp
      rw [q_andI 9 (by decide) (l := 0) (u := 511) ⟨by omega, by omega⟩ (by decide) (show (511 : Int32).toInt = 2 ^ 9 - 1 from rfl)]
      show v.toInt % 512 = _
      omega
    have h' : q_LX k m (q_pt 32 3 35 73 s y) := ⟨h1, h2, h3, h4, h5', hr, ⟨r1, r2, r3, r4, r5⟩, h8⟩
    have en : (v + 1).toNatClampNeg = v.toNatClampNeg + 1 := by show (v + 1).toInt.toNat = v.toInt.toNat + 1; omega
    have p2 : q_Pl (q_pt 32 3 35 73 s y) n (v + 1).toNatClampNeg (q_vw 32 35 73 (q_pt 32 3 35 73 s y)) (q_vw 32 1 73 (q_pt 32 3 35 73 s y)) := by
      rw [en]
      exact q_PlX (x := s) rfl rfl rfl rfl _ _ _ _ (q_PlS _ _ _ _ _ (show q_ME y (q_vw 32 35 73 (q_pt 32 3 35 73 s y)) from rfl) hr (q_PlE _ _ _ _ _ (show q_ME (q_vw 32 1 73 s) (q_vw 32 1 73 (q_pt 32 3 35 73 s y)) from rfl) p))
    obtain ⟨s2, c1, c2, c3, c4, c5⟩ := ih f (q_pt 32 3 35 73 s y) (v + 1) h' hM (by omega) (by show (v + 1).toInt + n = (s.2.1 34 5).toInt; omega) h5 (by omega) p2
    refine ⟨s2, ?_, c2, c3, c4, c5⟩
    rw [dzs_X65_27]
    generalize dz_X65_27 (f + 1) = kk at c1 ⊢
    unfold q_let
    dsimp only
    rw [q_lt_T (by omega), cond_true, ea, q_in_rg (x := v) (n := 512) (l := 0) (u := 511) ⟨by omega, by omega⟩ (by decide) (by decide), cond_true, er]
    exact c1
/-- isSame, with its answer -/
theorem q_tSamP (h : q_LX k m x) (hI : q_Iv c d w m) (hk : k ≤ 512) (hp : q_RZ x) : ∃ r0 r1, dz_X26_64_236 x = some r0 ∧ some (dz_M312_64 m) = some r1 ∧ q_LX (k + 1) r1.1 r0.1 ∧ r0.2.2 ≤ 1 ∧ r1.1.2.1 0 39 = r0.2.1 ∧ (r0.2.1 = 0 → r0.1.2.2 172 0 = q_kb r1.2) ∧ q_RZ r0.1 := by
  have hr := h.2.2.2.2.2.2.1
  have hR : q_iN (q_vw 32 35 73 x) := h.2.2.2.2.2.1
  have hM : q_iN (q_vw 32 1 73 x) := q_iNof h.1 (hI.1 15 6) (hI.1 15 7)
  obtain ⟨r1, r2, r3, r4, r5⟩ := hr
  rcases r1 with ⟨q1, q2⟩ | ⟨q1, q2⟩
  · refine ⟨(x, 1, 1), (q_sI m 0 39 1, false), ?_, ?_, q_LXbad h 1, Nat.le_refl _, rfl, fun q => absurd (show (1 : Int32) = 0 from q) (by decide), hp⟩
    · unfold dz_X26_64_236
      rw [q1]; rfl
    · unfold dz_M312_64
      rw [q2]; rfl
  · obtain ⟨s2, c1, c2, c3, c4, c5⟩ := q_lpPl m ((x.2.1 34 5).toInt - (x.2.1 34 6).toInt).toNat 4999 x (x.2.1 34 6) h hM r4 (by omega) (by omega) (by omega) (hp q1)
    have c1 : dz_X65_27 5000 x (x.2.1 34 6) = some (s2, true) := c1
    have eM : dz_M312_64 m = (q_mok m, true) := by
      unfold dz_M312_64
      rw [q2, q_lt_F (show (0 : Int32).toInt ≤ (x.2.1 34 5).toInt from r2)]
      rfl
    have hR2 : q_iN (q_vw 32 35 73 s2) := c2.2.2.2.2.2.1
    refine ⟨(q_sL s2 172 (vp_updL (s2.2.2 172) 0 1), 0, 0), (q_mok m, true), ?_, by rw [eM], ⟨(q_LXbad c2 0).1, (q_LXbad c2 0).2⟩, Nat.zero_le _, rfl, fun _ => ?_, q_RZL _ hR2 fun _ => ?_⟩
    · unfold dz_X26_64_236
      rw [q1, c1]
      rfl
    · show vp_updL (s2.2.2 172) 0 1 0 = q_kb true
      rw [q_upL1 _ _ _ _ rfl]
      rfl
    · rw [c3, c4, show ((x.2.1 34 5).toInt - (x.2.1 34 5).toInt).toNat = 0 by omega]
      exact c5
end
