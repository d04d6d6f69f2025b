section
variable {s t y r : q_S} {c d u : Int} {g g2 : (Nat → Int32) × (Nat → Int32)} {e : Bool}
theorem q_lgc (a : Int64) : decide (lg_cmp a 0 = 0) = decide (a.toInt = 0) := by
  have z : (0 : Int64).toInt = 0 := rfl
  by_cases q : a.toInt = 0
  · rw [decide_eq_true q, Int64.toInt_inj.mp (q.trans z.symm)]
    rfl
  · rw [decide_eq_false q]
    apply decide_eq_false
    unfold lg_cmp
    by_cases q2 : a > 0
    · rw [if_pos q2]; decide
    · rw [if_neg q2, if_neg (fun q3 => q (by rw [q3]; rfl))]; decide
/-- is the even frame the present one -/
def q_evb (s : q_S) : Bool := decide (lg_cmp (((s.2.2 1 8) / 960) - ((s.2.2 1 8) / 960) / 2 * 2) 0 = 0)
theorem q_evI (h : 0 ≤ (s.2.2 1 8).toInt) : q_evb s = decide ((s.2.2 1 8).toInt / 960 % 2 = 0) := by
  have e1 : ((s.2.2 1 8) / 960).toInt = (s.2.2 1 8).toInt / 960 := q64_div h (by decide)
  have e2 : (((s.2.2 1 8) / 960) - ((s.2.2 1 8) / 960) / 2 * 2).toInt = (s.2.2 1 8).toInt / 960 % 2 := by
    rw [q64_rem (by omega) (by decide), e1]; rfl
  unfold q_evb
  rw [q_lgc, e2]
theorem q_86I (h : 0 ≤ (s.2.2 1 8).toInt) : (dz_N86_65 s).toInt = (s.2.2 1 8).toInt % 960 := by
  have e : ((s.2.2 1 8) - (s.2.2 1 8) / 960 * 960).toInt = (s.2.2 1 8).toInt % 960 := q64_rem h (by decide)
  show (((s.2.2 1 8) - (s.2.2 1 8) / 960 * 960).toInt32).toInt = _
  rw [q64_32 (by omega) (by omega), e]
theorem q_87I (h : 0 ≤ (s.2.2 1 8).toInt) : (dz_N87_65 s).toInt = (s.2.2 1 8).toInt % 24 := by
  have e : ((s.2.2 1 8) - (s.2.2 1 8) / 24 * 24).toInt = (s.2.2 1 8).toInt % 24 := q64_rem h (by decide)
  show (((s.2.2 1 8) - (s.2.2 1 8) / 24 * 24).toInt32).toInt = _
  rw [q64_32 (by omega) (by omega), e]
/-- a frame's start, writes, how many, time; what it finds at a time -/
def q_fS (e : Bool) (s : q_S) : (Nat → Int32) × (Nat → Int32) := cond e (s.1 15, s.1 16) (s.1 20, s.1 21)
def q_fW (e : Bool) (s : q_S) : Nat → Int32 := cond e (s.1 17) (s.1 22)
def q_fN (e : Bool) (s : q_S) : Int := (cond e (s.2.1 13 2) (s.2.1 18 2)).toInt
def q_fT (e : Bool) (s : q_S) : Int := (cond e (s.2.1 13 3) (s.2.1 18 3)).toInt
def q_fR (e : Bool) (v : Int32) (s : q_S) : (Nat → Int32) × (Nat → Int32) := q_rp (q_fW e s) v (q_fN e s).toNat 0 (q_fS e s)
/-- when a pixel is drawn -/
def q_mo (a b : Int32) : Int32 := (24 * (b + 4)) + ((a / 2) + 4)
def q_px (e : Bool) (s : q_S) (a b : Int32) : Prop :=
  ((q_mo a b).toInt < q_fT e s → some (s.1 31 ((32 * b) + a).toNatClampNeg) = q_cl (q_fR e (q_mo a b) s) a b) ∧
  (q_fT e s ≤ (q_mo a b).toInt → (q_mo a b).toInt < q_fT (!e) s → some (s.1 31 ((32 * b) + a).toNatClampNeg) = q_cl (q_fR (!e) (q_mo a b) s) a b) ∧
  (q_fT e s ≤ (q_mo a b).toInt → q_fT (!e) s ≤ (q_mo a b).toInt → s.1 31 ((32 * b) + a).toNatClampNeg = 0)
def q_iQ (e : Bool) (c d u : Int) (g : (Nat → Int32) × (Nat → Int32)) (s : q_S) : Prop :=
  q_evb s = e ∧ (0 ≤ (s.2.2 1 8).toInt ∧ (s.2.2 1 8).toInt ≤ u) ∧ q_fT e s = (s.2.2 1 8).toInt % 960 + d ∧ (0 ≤ q_fN e s ∧ q_fN e s ≤ c) ∧
  (∀ i : Nat, (i : Int) < q_fN e s → ((q_fW e s i) >>> ((21 &&& 31) : Int32)).toInt ≤ q_fT e s) ∧ q_sp q_Dn (q_fR e 2000 s) g ∧
  (0 ≤ q_fN (!e) s ∧ q_fN (!e) s < 3072) ∧ ∀ a b : Int32, q_rgz 0 31 a → q_rgz 0 31 b → q_px e s a b
def q_iP (c d u : Int) (s : q_S) : Prop := c < 3072 → u ≤ 1000000 → ∃ e, q_iQ e c d u (s.1 3, s.1 4) s
theorem q_iQ_g (k : q_sp q_Dn g g2) (h : q_iQ e c d u g s) : q_iQ e c d u g2 s := by
  obtain ⟨h1, h2, h3, h4, h5, h6, h7, h8⟩ := h
  exact ⟨h1, h2, h3, h4, h5, h6.trans k, h7, h8⟩
theorem q_iQ_eq (h15 : t.1 15 = s.1 15) (h16 : t.1 16 = s.1 16) (h17 : t.1 17 = s.1 17) (h20 : t.1 20 = s.1 20) (h21 : t.1 21 = s.1 21) (h22 : t.1 22 = s.1 22) (h31 : t.1 31 = s.1 31) (i2 : t.2.1 13 2 = s.2.1 13 2) (i3 : t.2.1 13 3 = s.2.1 13 3) (j2 : t.2.1 18 2 = s.2.1 18 2) (j3 : t.2.1 18 3 = s.2.1 18 3) (l : t.2.2 1 8 = s.2.2 1 8) (h : q_iQ e c d u g s) : q_iQ e c d u g t := by
  unfold q_iQ q_px q_evb q_fR q_fS q_fW q_fN q_fT at *
  rw [h15, h16, h17, h20, h21, h22, h31, i2, i3, j2, j3, l]
  exact h
theorem q_iP_eq (h3 : t.1 3 = s.1 3) (h4 : t.1 4 = s.1 4) (h15 : t.1 15 = s.1 15) (h16 : t.1 16 = s.1 16) (h17 : t.1 17 = s.1 17) (h20 : t.1 20 = s.1 20) (h21 : t.1 21 = s.1 21) (h22 : t.1 22 = s.1 22) (h31 : t.1 31 = s.1 31) (i2 : t.2.1 13 2 = s.2.1 13 2) (i3 : t.2.1 13 3 = s.2.1 13 3) (j2 : t.2.1 18 2 = s.2.1 18 2) (j3 : t.2.1 18 3 = s.2.1 18 3) (l : t.2.2 1 8 = s.2.2 1 8) (h : q_iP c d u s) : q_iP c d u t := fun hc hu => by
  obtain ⟨e, q⟩ := h hc hu
  refine ⟨e, ?_⟩
  rw [h3, h4]
  exact q_iQ_eq h15 h16 h17 h20 h21 h22 h31 i2 i3 j2 j3 l q
/-- the flags and the hits may change -/
theorem q_iP_4 {k : Nat} (v : Int32) (hk : ¬ q_Dn k) (h : q_iP c d u s) : q_iP c d u (q_sA s 4 (upd (s.1 4) k v)) := fun hc hu => by
  obtain ⟨e, q⟩ := h hc hu
  have q2 : q_iQ e c d u (s.1 3, s.1 4) (q_sA s 4 (upd (s.1 4) k v)) := q_iQ_eq (s := s) rfl rfl rfl rfl rfl rfl rfl rfl rfl rfl rfl rfl q
  refine ⟨e, q_iQ_g (g := (s.1 3, s.1 4)) ⟨fun _ _ => rfl, fun j _ dj => ?_⟩ q2⟩
  have n : ¬ j = k := fun z => hk (by rw [← z]; exact dj)
  exact (show upd (s.1 4) k v j = s.1 4 j from if_neg n).symm
theorem q_iP_mono {c2 u2 : Int} (hc2 : c ≤ c2) (hu2 : u ≤ u2) (h : q_iP c d u s) : q_iP c2 d u2 s := fun hc hu => by
  obtain ⟨e, h1, h2, h3, h4, h5, h6, h7, h8⟩ := h (by omega) (by omega)
  exact ⟨e, h1, ⟨h2.1, by omega⟩, h3, ⟨h4.1, by omega⟩, h5, h6, h7, h8⟩
/-- what a write is kept as -/
theorem q_wrd9 {t a v : Int32} (ht : q_rgz 0 960 t) (ha : q_rgz 0 4096 a) (hv : q_rgz 0 255 v) : ((((t <<< (21 &&& 31)) + (a <<< (8 &&& 31))) + v) >>> ((21 &&& 31) : Int32)).toInt = t.toInt ∧ ((((t <<< (21 &&& 31)) + (a <<< (8 &&& 31))) + v) >>> ((8 &&& 31) : Int32)) &&& 8191 = a ∧ (((t <<< (21 &&& 31)) + (a <<< (8 &&& 31))) + v) &&& 255 = v := by
  have e1 : (t <<< (21 &&& 31)).toInt = t.toInt * 2 ^ 21 := q_shlI 21 (by decide) (by decide) ht (by decide) (by decide)
  have e2 : (a <<< (8 &&& 31)).toInt = a.toInt * 2 ^ 8 := q_shlI 8 (by decide) (by decide) ha (by decide) (by decide)
  obtain ⟨t0, t1⟩ := ht
  obtain ⟨a0, a1⟩ := ha
  obtain ⟨v0, v1⟩ := hv
  have e3 : ((t <<< (21 &&& 31)) + (a <<< (8 &&& 31))).toInt = t.toInt * 2097152 + a.toInt * 256 := by rw [q_add9 (by omega) (by omega)]; omega
  have e4 : (((t <<< (21 &&& 31)) + (a <<< (8 &&& 31))) + v).toInt = t.toInt * 2097152 + a.toInt * 256 + v.toInt := by rw [q_add9 (by omega) (by omega)]; omega
  generalize ((t <<< (21 &&& 31)) + (a <<< (8 &&& 31))) + v = w at e4 ⊢
  have s21 : (w >>> ((21 &&& 31) : Int32)).toInt = w.toInt / 2 ^ 21 := q_shrI 21 (by decide) (by decide)
  have s8 : (w >>> ((8 &&& 31) : Int32)).toInt = w.toInt / 2 ^ 8 := q_shrI 8 (by decide) (by decide)
  refine ⟨?_, ?_, ?_⟩
  · rw [s21, e4]; omega
  · apply Int32.toInt_inj.mp
    rw [q_andI 13 (by decide) (l := 0) (u := 2147483647) ⟨by rw [s8, e4]; omega, by rw [s8, e4]; omega⟩ (by decide) (show (8191 : Int32).toInt = 2 ^ 13 - 1 by decide), s8, e4]
    omega
  · apply Int32.toInt_inj.mp
    rw [q_andI 8 (by decide) (l := 0) (u := 2147483647) ⟨by rw [e4]; omega, by rw [e4]; omega⟩ (by decide) (show (255 : Int32).toInt = 2 ^ 8 - 1 by decide), e4]
    omega
theorem q_nlt {v w : Int32} (h : w.toInt ≤ v.toInt) : ¬ v < w := fun q => by have := Int32.lt_iff_toInt_lt.mp q; omega
/-- a write is kept -/
theorem q_kpp77 {a v : Int32} (ha : q_rgz 0 4096 a) (hv : q_rgz 0 255 v) (hd : 0 ≤ d ∧ d ≤ 1) (hc : c + 1 < 3072) (h : q_iQ true c d u g r) : q_iQ true (c + 1) d u (cond (decide (a = 4096)) (g.1, fun _ => 0) (q_pu a v g)) (dz_N128_77 r a v) := by
  obtain ⟨he, ⟨y0, y1⟩, ht, ⟨n0, n1⟩, hw, hcur, hot, hp⟩ := h
  have n0 : 0 ≤ (r.2.1 13 2).toInt := n0
  have n1 : (r.2.1 13 2).toInt ≤ c := n1
  have ht : (r.2.1 13 3).toInt = (r.2.2 1 8).toInt % 960 + d := ht
  have hw : ∀ i : Nat, (i : Int) < (r.2.1 13 2).toInt → ((r.1 17 i) >>> ((21 &&& 31) : Int32)).toInt ≤ (r.2.1 13 3).toInt := hw
  have z0 : (0 : Int32).toInt = 0 := rfl
  have z3 : (3072 : Int32).toInt = 3072 := rfl
  have z2 : (2000 : Int32).toInt = 2000 := rfl
  obtain ⟨w1, w2, w3⟩ := q_wrd9 (t := r.2.1 13 3) ⟨by omega, by omega⟩ ha hv
  unfold dz_N128_77
  rw [q_lt_F (show (0 : Int32).toInt ≤ (r.2.1 13 2).toInt by omega), cond_false, q_lt_T (show (r.2.1 13 2).toInt < (3072 : Int32).toInt by omega), cond_true]
  have eN : ((r.2.1 13 2) + 1).toInt = (r.2.1 13 2).toInt + 1 := q_addI ⟨by omega, by omega⟩ ⟨by decide, by decide⟩
  have en : (r.2.1 13 2).toNatClampNeg = (r.2.1 13 2).toInt.toNat := rfl
  generalize hW : ((((r.2.1 13 3) <<< (21 &&& 31)) + (a <<< (8 &&& 31))) + v) = w at w1 w2 w3 ⊢
  have hw2 : ∀ i : Nat, (i : Int) < (r.2.1 13 2).toInt + 1 → ((upd (r.1 17) ((r.2.1 13 2).toNatClampNeg) w i) >>> ((21 &&& 31) : Int32)).toInt ≤ (r.2.1 13 3).toInt := by
    intro i hi
    unfold upd
    by_cases q : i = (r.2.1 13 2).toNatClampNeg
    · rw [if_pos q, w1]; exact Int.le_refl _
    · rw [if_neg q]; exact hw i (by omega)
  have e9 : ∀ V, q_rp (upd (r.1 17) ((r.2.1 13 2).toNatClampNeg) w) V (r.2.1 13 2).toInt.toNat 0 (q_fS true r) = q_fR true V r := fun V => q_rp_W V _ _ _ (fun i _ hi => if_neg (by omega))
  have eT : ((r.2.1 13 2) + 1).toInt.toNat = (r.2.1 13 2).toInt.toNat + 1 := by omega
  refine ⟨he, ⟨y0, y1⟩, ht, ⟨by show 0 ≤ ((r.2.1 13 2) + 1).toInt; omega, by show ((r.2.1 13 2) + 1).toInt ≤ c + 1; omega⟩, ?_, ?_, hot, fun i j hi hj => ?_⟩
  · intro i hi
    have hi : (i : Int) < ((r.2.1 13 2) + 1).toInt := hi
    exact hw2 i (by omega)
  · show q_sp q_Dn (q_rp (upd (r.1 17) ((r.2.1 13 2).toNatClampNeg) w) 2000 ((r.2.1 13 2) + 1).toInt.toNat 0 (q_fS true r)) _
    rw [eT, q_rp_next _ _ _ (fun i _ hi => q_nlt (by have := hw2 i (by omega); omega)), e9 2000, Nat.zero_add, show upd (r.1 17) ((r.2.1 13 2).toNatClampNeg) w (r.2.1 13 2).toInt.toNat = w from if_pos rfl]
    have q := q_sp_ap w hcur
    unfold q_ap at q ⊢
    rw [w2, w3] at q ⊢
    exact q
  · obtain ⟨p1, p2, p3⟩ := hp i j hi hj
    refine ⟨fun hm => ?_, p2, p3⟩
    have hm : (q_mo i j).toInt < (r.2.1 13 3).toInt := hm
    have q := p1 hm
    show some (r.1 31 ((32 * j) + i).toNatClampNeg) = q_cl (q_rp (upd (r.1 17) ((r.2.1 13 2).toNatClampNeg) w) (q_mo i j) ((r.2.1 13 2) + 1).toInt.toNat 0 (q_fS true r)) i j
    rw [eT, q_rp_late _ _ _ (by rw [Nat.zero_add, show upd (r.1 17) ((r.2.1 13 2).toNatClampNeg) w (r.2.1 13 2).toInt.toNat = w from if_pos rfl]; exact Int32.lt_iff_toInt_lt.mpr (by omega)), e9 (q_mo i j)]
    exact q
/-- a write is kept -/
theorem q_kpp82 {a v : Int32} (ha : q_rgz 0 4096 a) (hv : q_rgz 0 255 v) (hd : 0 ≤ d ∧ d ≤ 1) (hc : c + 1 < 3072) (h : q_iQ false c d u g r) : q_iQ false (c + 1) d u (cond (decide (a = 4096)) (g.1, fun _ => 0) (q_pu a v g)) (dz_N128_82 r a v) := by
  obtain ⟨he, ⟨y0, y1⟩, ht, ⟨n0, n1⟩, hw, hcur, hot, hp⟩ := h
  have n0 : 0 ≤ (r.2.1 18 2).toInt := n0
  have n1 : (r.2.1 18 2).toInt ≤ c := n1
  have ht : (r.2.1 18 3).toInt = (r.2.2 1 8).toInt % 960 + d := ht
  have hw : ∀ i : Nat, (i : Int) < (r.2.1 18 2).toInt → ((r.1 22 i) >>> ((21 &&& 31) : Int32)).toInt ≤ (r.2.1 18 3).toInt := hw
  have z0 : (0 : Int32).toInt = 0 := rfl
  have z3 : (3072 : Int32).toInt = 3072 := rfl
  have z2 : (2000 : Int32).toInt = 2000 := rfl
  obtain ⟨w1, w2, w3⟩ := q_wrd9 (t := r.2.1 18 3) ⟨by omega, by omega⟩ ha hv
  unfold dz_N128_82
  rw [q_lt_F (show (0 : Int32).toInt ≤ (r.2.1 18 2).toInt by omega), cond_false, q_lt_T (show (r.2.1 18 2).toInt < (3072 : Int32).toInt by omega), cond_true]
  have eN : ((r.2.1 18 2) + 1).toInt = (r.2.1 18 2).toInt + 1 := q_addI ⟨by omega, by omega⟩ ⟨by decide, by decide⟩
  have en : (r.2.1 18 2).toNatClampNeg = (r.2.1 18 2).toInt.toNat := rfl
  generalize hW : ((((r.2.1 18 3) <<< (21 &&& 31)) + (a <<< (8 &&& 31))) + v) = w at w1 w2 w3 ⊢
  have hw2 : ∀ i : Nat, (i : Int) < (r.2.1 18 2).toInt + 1 → ((upd (r.1 22) ((r.2.1 18 2).toNatClampNeg) w i) >>> ((21 &&& 31) : Int32)).toInt ≤ (r.2.1 18 3).toInt := by
    intro i hi
    unfold upd
    by_cases q : i = (r.2.1 18 2).toNatClampNeg
    · rw [if_pos q, w1]; exact Int.le_refl _
    · rw [if_neg q]; exact hw i (by omega)
  have e9 : ∀ V, q_rp (upd (r.1 22) ((r.2.1 18 2).toNatClampNeg) w) V (r.2.1 18 2).toInt.toNat 0 (q_fS false r) = q_fR false V r := fun V => q_rp_W V _ _ _ (fun i _ hi => if_neg (by omega))
  have eT : ((r.2.1 18 2) + 1).toInt.toNat = (r.2.1 18 2).toInt.toNat + 1 := by omega
  refine ⟨he, ⟨y0, y1⟩, ht, ⟨by show 0 ≤ ((r.2.1 18 2) + 1).toInt; omega, by show ((r.2.1 18 2) + 1).toInt ≤ c + 1; omega⟩, ?_, ?_, hot, fun i j hi hj => ?_⟩
  · intro i hi
    have hi : (i : Int) < ((r.2.1 18 2) + 1).toInt := hi
    exact hw2 i (by omega)
  · show q_sp q_Dn (q_rp (upd (r.1 22) ((r.2.1 18 2).toNatClampNeg) w) 2000 ((r.2.1 18 2) + 1).toInt.toNat 0 (q_fS false r)) _
    rw [eT, q_rp_next _ _ _ (fun i _ hi => q_nlt (by have := hw2 i (by omega); omega)), e9 2000, Nat.zero_add, show upd (r.1 22) ((r.2.1 18 2).toNatClampNeg) w (r.2.1 18 2).toInt.toNat = w from if_pos rfl]
    have q := q_sp_ap w hcur
    unfold q_ap at q ⊢
    rw [w2, w3] at q ⊢
    exact q
  · obtain ⟨p1, p2, p3⟩ := hp i j hi hj
    refine ⟨fun hm => ?_, p2, p3⟩
    have hm : (q_mo i j).toInt < (r.2.1 18 3).toInt := hm
    have q := p1 hm
    show some (r.1 31 ((32 * j) + i).toNatClampNeg) = q_cl (q_rp (upd (r.1 22) ((r.2.1 18 2).toNatClampNeg) w) (q_mo i j) ((r.2.1 18 2) + 1).toInt.toNat 0 (q_fS false r)) i j
    rw [eT, q_rp_late _ _ _ (by rw [Nat.zero_add, show upd (r.1 22) ((r.2.1 18 2).toNatClampNeg) w (r.2.1 18 2).toInt.toNat = w from if_pos rfl]; exact Int32.lt_iff_toInt_lt.mpr (by omega)), e9 (q_mo i j)]
    exact q
theorem q_112k (s : q_S) (a v : Int32) : (dz_N112_66 s a v).2 = s.2 ∧ ∀ i, (Nat.beq i 3 || Nat.beq i 4) = false → (dz_N112_66 s a v).1 i = s.1 i := by
  have k3 : ∀ f : Nat → Int32, (q_sA s 3 f).2 = s.2 ∧ ∀ i, (Nat.beq i 3 || Nat.beq i 4) = false → (q_sA s 3 f).1 i = s.1 i := fun f => ⟨rfl, fun i hi => q_uA_ne _ _ (by cases h : Nat.beq i 3 with | false => rfl | true => rw [h] at hi; cases hi)⟩
  have k4 : ∀ f : Nat → Int32, (q_sA s 4 f).2 = s.2 ∧ ∀ i, (Nat.beq i 3 || Nat.beq i 4) = false → (q_sA s 4 f).1 i = s.1 i := fun f => ⟨rfl, fun i hi => q_uA_ne _ _ (by cases h : Nat.beq i 4 with | false => rfl | true => rw [h, Bool.or_true] at hi; cases hi)⟩
  unfold dz_N112_66
  cases decide (a - 3840 < 0) with
  | true => exact k3 _
  | false =>
    cases decide (a - 3840 < 48) with
    | false => exact k3 _
    | true =>
      cases decide ((fun j => q_o1.getD j 0) ((a - 3840).toNatClampNeg) = 0) with
      | true => exact ⟨rfl, fun _ _ => rfl⟩
      | false => exact k4 _
theorem q_iQ_2 (h2 : t.2 = s.2) (h1 : ∀ i, (Nat.beq i 3 || Nat.beq i 4) = false → t.1 i = s.1 i) (h : q_iQ e c d u g s) : q_iQ e c d u g t := q_iQ_eq (h1 15 rfl) (h1 16 rfl) (h1 17 rfl) (h1 20 rfl) (h1 21 rfl) (h1 22 rfl) (h1 31 rfl) (by rw [h2]) (by rw [h2]) (by rw [h2]) (by rw [h2]) (by rw [h2]) h
theorem q_keep34 (r : q_S) (a v : Int32) : (dz_N128_77 r a v).1 3 = r.1 3 ∧ (dz_N128_77 r a v).1 4 = r.1 4 ∧ (dz_N128_82 r a v).1 3 = r.1 3 ∧ (dz_N128_82 r a v).1 4 = r.1 4 := by
  unfold dz_N128_77 dz_N128_82
  refine ⟨?_, ?_, ?_, ?_⟩
  · cases decide (r.2.1 13 2 < 0) <;> cases decide (r.2.1 13 2 < 3072) <;> rfl
  · cases decide (r.2.1 13 2 < 0) <;> cases decide (r.2.1 13 2 < 3072) <;> rfl
  · cases decide (r.2.1 18 2 < 0) <;> cases decide (r.2.1 18 2 < 3072) <;> rfl
  · cases decide (r.2.1 18 2 < 0) <;> cases decide (r.2.1 18 2 < 3072) <;> rfl
/-- a write -/
theorem q_iP_put {a v : Int32} (ha : q_rgz 0 4095 a) (hv : q_rgz 0 255 v) (hd : 0 ≤ d ∧ d ≤ 1) (h : q_iP c d u s) : q_iP (c + 1) d u (cond (q_evb (dz_N112_66 s a v)) (dz_N128_77 (dz_N112_66 s a v) a v) (dz_N128_82 (dz_N112_66 s a v) a v)) := fun hc hu => by
  obtain ⟨e, q⟩ := h (by omega) hu
  obtain ⟨k2, k1⟩ := q_112k s a v
  have pu := q_pu66 s a v
  have q2 := q_iQ_2 k2 k1 q
  generalize dz_N112_66 s a v = r at k2 k1 pu q2
  have na : decide (a = 4096) = false := decide_eq_false (fun z => by have h9 := ha.2; rw [z] at h9; exact absurd h9 (by decide))
  obtain ⟨p3, p4, p5, p6⟩ := q_keep34 r a v
  cases e with
  | true =>
    rw [show q_evb r = true from q2.1, cond_true]
    have w := q_kpp77 (v := v) ⟨ha.1, Int.le_trans ha.2 (by decide)⟩ hv hd hc q2
    rw [na, cond_false, ← pu] at w
    exact ⟨true, by rw [p3, p4]; exact w⟩
  | false =>
    rw [show q_evb r = false from q2.1, cond_false]
    have w := q_kpp82 (v := v) ⟨ha.1, Int.le_trans ha.2 (by decide)⟩ hv hd hc q2
    rw [na, cond_false, ← pu] at w
    exact ⟨false, by rw [p5, p6]; exact w⟩
/-- the registers are cleared -/
theorem q_318_66 : ∀ (n f : Nat) (s y : q_S) (v2 : Int32), v2.toInt + n = 48 → 0 ≤ v2.toInt → dz_N318_68_5 f s 0 v2 48 = some y → y.2 = s.2 ∧ (∀ i, Nat.beq i 4 = false → y.1 i = s.1 i) ∧ ∀ k, v2.toNatClampNeg ≤ k → k < 48 → y.1 4 k = 0 := by
  have F : ∀ (n f : Nat) (s y : q_S) (v2 : Int32), v2.toInt + n = 48 → 0 ≤ v2.toInt → dz_N318_68_5 f s 0 v2 48 = some y → (y.2 = s.2 ∧ ∀ i, Nat.beq i 4 = false → y.1 i = s.1 i) ∧ (∀ k, k < v2.toNatClampNeg → y.1 4 k = s.1 4 k) ∧ ∀ k, v2.toNatClampNeg ≤ k → k < 48 → y.1 4 k = 0 := by
    intro n
    have z48 : (48 : Int32).toInt = 48 := rfl
    induction n with
    | zero =>
      intro f s y v2 hn h0 e
      cases f with
      | zero => cases e
      | succ f =>
        rw [dzs_N318_68_5] at e
        dsimp only at e
        rw [q_lt_F (show (48 : Int32).toInt ≤ v2.toInt by omega)] at e
        cases e
        refine ⟨⟨rfl, fun _ _ => rfl⟩, fun _ _ => rfl, fun k h1 h2 => ?_⟩
        have : v2.toNatClampNeg = v2.toInt.toNat := rfl
        omega
    | succ n ih =>
      intro f s y v2 hn h0 e
      cases f with
      | zero => cases e
      | succ f =>
        have e1 : (v2 + 1).toInt = v2.toInt + 1 := q_addI ⟨by omega, by omega⟩ ⟨by decide, by decide⟩
        have hin : q_in v2 48 = true := q_in_rg (l := 0) (u := 47) ⟨h0, by omega⟩ (by decide) (by decide)
        rw [dzs_N318_68_5] at e
        dsimp only at e
        rw [q_lt_T (show v2.toInt < (48 : Int32).toInt by omega), cond_true, hin, cond_true] at e
        obtain ⟨⟨b1, b2⟩, a2, a3⟩ := ih f _ _ _ (by omega) (by omega) e
        have en : v2.toNatClampNeg = v2.toInt.toNat := rfl
        have en1 : (v2 + 1).toNatClampNeg = v2.toInt.toNat + 1 := by show (v2 + 1).toInt.toNat = _; omega
        refine ⟨⟨b1, fun i hi => (b2 i hi).trans (q_uA_ne _ _ hi)⟩, fun k hk => (a2 k (by omega)).trans (if_neg (by omega)), fun k h1 h2 => ?_⟩
        by_cases q : k = v2.toNatClampNeg
        · exact (a2 k (by omega)).trans (if_pos q)
        · exact a3 k (by omega) h2
  intro n f s y v2 hn h0 e
  obtain ⟨⟨b1, b2⟩, -, a3⟩ := F n f s y v2 hn h0 e
  exact ⟨b1, b2, a3⟩
theorem q_113_66 (e : dz_N113_66 s = some y) : y.2 = s.2 ∧ (∀ i, Nat.beq i 4 = false → y.1 i = s.1 i) ∧ ∀ k, k < 48 → y.1 4 k = 0 := by
  unfold dz_N113_66 dz_N318_68 at e
  cases e1 : dz_N318_68_5 5000 s 0 0 48 with
  | none => rw [e1] at e; cases e
  | some r =>
    rw [e1] at e
    cases e
    obtain ⟨a1, a2, a3⟩ := q_318_66 48 5000 _ _ 0 (by decide) (by decide) e1
    exact ⟨a1, a2, fun k hk => a3 k (Nat.zero_le k) hk⟩
/-- cleared, and kept -/
theorem q_iP_clr (hd : 0 ≤ d ∧ d ≤ 1) (e1 : dz_N113_66 s = some r) (h : q_iP c d u s) : q_iP (c + 1) d u (cond (q_evb r) (dz_N128_77 r 4096 0) (dz_N128_82 r 4096 0)) := fun hc hu => by
  obtain ⟨e, q⟩ := h (by omega) hu
  obtain ⟨k2, k1, k3⟩ := q_113_66 e1
  have q2 := q_iQ_2 k2 (fun i hi => k1 i (by cases b : Nat.beq i 4 with | false => rfl | true => rw [b, Bool.or_true] at hi; cases hi)) q
  have e3 : r.1 3 = s.1 3 := k1 3 rfl
  obtain ⟨p3, p4, p5, p6⟩ := q_keep34 r 4096 0
  have G : q_sp q_Dn (cond (decide ((4096 : Int32) = 4096)) ((s.1 3, s.1 4).1, fun _ => 0) (q_pu 4096 0 (s.1 3, s.1 4))) (r.1 3, r.1 4) := by
    rw [decide_eq_true rfl, cond_true]
    exact ⟨fun k _ => (congrFun e3 k).symm, fun k hk _ => (k3 k hk).symm⟩
  cases e with
  | true =>
    rw [show q_evb r = true from q2.1, cond_true]
    have w := q_iQ_g G (q_kpp77 (a := 4096) (v := 0) ⟨by decide, by decide⟩ ⟨by decide, by decide⟩ hd hc q2)
    exact ⟨true, by rw [p3, p4]; exact w⟩
  | false =>
    rw [show q_evb r = false from q2.1, cond_false]
    have w := q_iQ_g G (q_kpp82 (a := 4096) (v := 0) ⟨by decide, by decide⟩ ⟨by decide, by decide⟩ hd hc q2)
    exact ⟨false, by rw [p5, p6]; exact w⟩
end
