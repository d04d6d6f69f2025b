section
variable {s t y : q_S} {D : Nat → Prop} {g h : (Nat → Int32) × (Nat → Int32)}
theorem q_upc {f f2 : Nat → Int32} {i k : Nat} {v : Int32} (e : f k = f2 k) : upd f i v k = upd f2 i v k := by
  unfold upd
  split
  · rfl
  · exact e
/-- a write, done once more in a scene (its RAM, its registers) -/
def q_pu (a v : Int32) (g : (Nat → Int32) × (Nat → Int32)) : (Nat → Int32) × (Nat → Int32) :=
  cond (decide (a - 3840 < 0)) (upd g.1 ((a &&& 4095).toNatClampNeg) (v &&& 255), g.2) (cond (decide (a - 3840 < 48)) (cond (decide ((fun j => q_o1.getD j 0) ((a - 3840).toNatClampNeg) = 0)) g (g.1, upd g.2 ((a - 3840).toNatClampNeg) (v &&& ((fun j => q_o1.getD j 0) ((a - 3840).toNatClampNeg))))) (upd g.1 ((a &&& 4095).toNatClampNeg) (v &&& 255), g.2))
theorem q_pu66 (s : q_S) (a v : Int32) : ((dz_N112_66 s a v).1 3, (dz_N112_66 s a v).1 4) = q_pu a v (s.1 3, s.1 4) := by
  unfold dz_N112_66 q_pu
  cases decide (a - 3840 < 0) with
  | true => rfl
  | false =>
    cases decide (a - 3840 < 48) with
    | false => rfl
    | true =>
      cases decide ((fun j => q_o1.getD j 0) ((a - 3840).toNatClampNeg) = 0) with
      | true => rfl
      | false => rfl
theorem q_pu96 (s : q_S) (a v : Int32) : ((dz_N112_96 s a v).1 33, (dz_N112_96 s a v).1 34) = q_pu a v (s.1 33, s.1 34) := by
  unfold dz_N112_96 q_pu
  cases decide (a - 3840 < 0) with
  | true => rfl
  | false =>
    cases decide (a - 3840 < 48) with
    | false => rfl
    | true =>
      cases decide ((fun j => q_o1.getD j 0) ((a - 3840).toNatClampNeg) = 0) with
      | true => rfl
      | false => rfl
/-- alike in the RAM, and in the registers that D names -/
def q_sp (D : Nat → Prop) (g h : (Nat → Int32) × (Nat → Int32)) : Prop := (∀ k, k < 4096 → g.1 k = h.1 k) ∧ ∀ k, k < 48 → D k → g.2 k = h.2 k
theorem q_sp_r (g : (Nat → Int32) × (Nat → Int32)) : q_sp D g g := ⟨fun _ _ => rfl, fun _ _ _ => rfl⟩
theorem q_sp.symm (e : q_sp D g h) : q_sp D h g := ⟨fun k hk => (e.1 k hk).symm, fun k hk d => (e.2 k hk d).symm⟩
theorem q_sp.trans {l : (Nat → Int32) × (Nat → Int32)} (e : q_sp D g h) (f : q_sp D h l) : q_sp D g l := ⟨fun k hk => (e.1 k hk).trans (f.1 k hk), fun k hk d => (e.2 k hk d).trans (f.2 k hk d)⟩
theorem q_sp_le {D2 : Nat → Prop} (d : ∀ k, D2 k → D k) (e : q_sp D g h) : q_sp D2 g h := ⟨e.1, fun k hk d2 => e.2 k hk (d k d2)⟩
theorem q_sp_pu (a v : Int32) (e : q_sp D g h) : q_sp D (q_pu a v g) (q_pu a v h) := by
  unfold q_pu
  cases decide (a - 3840 < 0) with
  | true => exact ⟨fun k hk => q_upc (e.1 k hk), e.2⟩
  | false =>
    cases decide (a - 3840 < 48) with
    | false => exact ⟨fun k hk => q_upc (e.1 k hk), e.2⟩
    | true =>
      cases decide ((fun j => q_o1.getD j 0) ((a - 3840).toNatClampNeg) = 0) with
      | true => exact e
      | false => exact ⟨e.1, fun k hk d => q_upc (e.2 k hk d)⟩
/-- what stands in a frame's writes, done once more -/
def q_ap (w : Int32) (g : (Nat → Int32) × (Nat → Int32)) : (Nat → Int32) × (Nat → Int32) := cond (decide ((w >>> ((8 &&& 31) : Int32)) &&& 8191 = 4096)) (g.1, fun _ => 0) (q_pu ((w >>> ((8 &&& 31) : Int32)) &&& 8191) (w &&& 255) g)
theorem q_sp_ap (w : Int32) (e : q_sp D g h) : q_sp D (q_ap w g) (q_ap w h) := by
  unfold q_ap
  cases decide ((w >>> ((8 &&& 31) : Int32)) &&& 8191 = 4096) with
  | true => exact ⟨e.1, fun _ _ _ => rfl⟩
  | false => exact q_sp_pu _ _ e
/-- n of them, from the j-th on, up to those behind a time -/
def q_rp (W : Nat → Int32) (v : Int32) (n : Nat) : Nat → (Nat → Int32) × (Nat → Int32) → (Nat → Int32) × (Nat → Int32) := Nat.rec (motive := fun _ => Nat → (Nat → Int32) × (Nat → Int32) → (Nat → Int32) × (Nat → Int32)) (fun _ g => g) (fun _ r j g => cond (decide (v < (W j) >>> ((21 &&& 31) : Int32))) g (r (j + 1) (q_ap (W j) g))) n
theorem q_rp_s (W : Nat → Int32) (v : Int32) (n j : Nat) (g : (Nat → Int32) × (Nat → Int32)) : q_rp W v (n + 1) j g = cond (decide (v < (W j) >>> ((21 &&& 31) : Int32))) g (q_rp W v n (j + 1) (q_ap (W j) g)) := rfl
theorem q_sp_rp (W : Nat → Int32) (v : Int32) : ∀ (n j : Nat) (g h : (Nat → Int32) × (Nat → Int32)), q_sp D g h → q_sp D (q_rp W v n j g) (q_rp W v n j h) := by
  intro n
  induction n with
  | zero => intro j g h e; exact e
  | succ n ih =>
    intro j g h e
    rw [q_rp_s, q_rp_s]
    cases decide (v < (W j) >>> ((21 &&& 31) : Int32)) with
    | true => exact e
    | false => exact ih _ _ _ (q_sp_ap _ e)
/-- the cells of W that it asks of -/
theorem q_rp_W {W W2 : Nat → Int32} (v : Int32) : ∀ (n j : Nat) (g : (Nat → Int32) × (Nat → Int32)), (∀ i, j ≤ i → i < j + n → W i = W2 i) → q_rp W v n j g = q_rp W2 v n j g := by
  intro n
  induction n with
  | zero => intro j g e; rfl
  | succ n ih =>
    intro j g e
    rw [q_rp_s, q_rp_s, e j (Nat.le_refl j) (by omega), ih (j + 1) _ (fun i h1 h2 => e i (by omega) (by omega))]
/-- one more write, behind the time: nothing new -/
theorem q_rp_late {W : Nat → Int32} {v : Int32} : ∀ (n j : Nat) (g : (Nat → Int32) × (Nat → Int32)), v < (W (j + n)) >>> ((21 &&& 31) : Int32) → q_rp W v (n + 1) j g = q_rp W v n j g := by
  intro n
  induction n with
  | zero => intro j g e; rw [q_rp_s, show decide (v < (W j) >>> ((21 &&& 31) : Int32)) = true from decide_eq_true e]; rfl
  | succ n ih =>
    intro j g e
    rw [q_rp_s W v (n + 1), q_rp_s W v n j g, ih (j + 1) _ (by rw [show j + 1 + n = j + (n + 1) by omega]; exact e)]
/-- one more write, none behind the time: it is done once more -/
theorem q_rp_next {W : Nat → Int32} {v : Int32} : ∀ (n j : Nat) (g : (Nat → Int32) × (Nat → Int32)), (∀ i, j ≤ i → i < j + n + 1 → ¬ v < (W i) >>> ((21 &&& 31) : Int32)) → q_rp W v (n + 1) j g = q_ap (W (j + n)) (q_rp W v n j g) := by
  intro n
  induction n with
  | zero => intro j g e; rw [q_rp_s, show decide (v < (W j) >>> ((21 &&& 31) : Int32)) = false from decide_eq_false (e j (Nat.le_refl j) (by omega))]; rfl
  | succ n ih =>
    intro j g e
    rw [q_rp_s W v (n + 1), q_rp_s W v n j g, show decide (v < (W j) >>> ((21 &&& 31) : Int32)) = false from decide_eq_false (e j (Nat.le_refl j) (by omega)), cond_false, cond_false, ih (j + 1) _ (fun i h1 h2 => e i (by omega) (by omega)), show j + 1 + n = j + (n + 1) by omega]
/-- none is behind two times: they are alike -/
theorem q_rp_v {W : Nat → Int32} {v v2 : Int32} : ∀ (n j : Nat) (g : (Nat → Int32) × (Nat → Int32)), (∀ i, j ≤ i → i < j + n → ¬ v < (W i) >>> ((21 &&& 31) : Int32)) → (∀ i, j ≤ i → i < j + n → ¬ v2 < (W i) >>> ((21 &&& 31) : Int32)) → q_rp W v n j g = q_rp W v2 n j g := by
  intro n
  induction n with
  | zero => intro j g e e2; rfl
  | succ n ih =>
    intro j g e e2
    rw [q_rp_s, q_rp_s, decide_eq_false (e j (Nat.le_refl j) (by omega)), decide_eq_false (e2 j (Nat.le_refl j) (by omega)), cond_false, cond_false, ih (j + 1) _ (fun i h1 h2 => e i (by omega) (by omega)) (fun i h1 h2 => e2 i (by omega) (by omega))]
theorem q_318_96 : ∀ (n f : Nat) (s y : q_S) (v2 : Int32), v2.toInt + n = 48 → 0 ≤ v2.toInt → dz_N318_98_5 f s 0 v2 48 = some y → y.1 33 = s.1 33 ∧ (∀ k, k < v2.toNatClampNeg → y.1 34 k = s.1 34 k) ∧ ∀ k, v2.toNatClampNeg ≤ k → k < 48 → y.1 34 k = 0 := by
  intro n
  have z48 : (48 : Int32).toInt = 48 := rfl
  induction n with
  | zero =>
    intro f s y v2 hn h0 e
    cases f with
    | zero => cases e
    | succ f =>
      rw [dzs_N318_98_5] at e
      dsimp only at e
      rw [q_lt_F (show (48 : Int32).toInt ≤ v2.toInt by omega)] at e
      cases e
      refine ⟨rfl, fun _ _ => rfl, fun k h1 h2 => ?_⟩
      have : v2.toNatClampNeg = v2.toInt.toNat := rfl
      omega
  | succ n ih =>
    intro f s y v2 hn h0 e
    cases f with
    | zero => cases e
    | succ f =>
      have e1 : (v2 + 1).toInt = v2.toInt + 1 := q_addI ⟨by omega, by omega⟩ ⟨by decide, by decide⟩
      have hin : q_in v2 48 = true := q_in_rg (l := 0) (u := 47) ⟨h0, by omega⟩ (by decide) (by decide)
      rw [dzs_N318_98_5] at e
      dsimp only at e
      rw [q_lt_T (show v2.toInt < (48 : Int32).toInt by omega), cond_true, hin, cond_true] at e
      obtain ⟨a1, a2, a3⟩ := ih f _ _ _ (by omega) (by omega) e
      have en : v2.toNatClampNeg = v2.toInt.toNat := rfl
      have en1 : (v2 + 1).toNatClampNeg = v2.toInt.toNat + 1 := by show (v2 + 1).toInt.toNat = _; omega
      refine ⟨a1, fun k hk => (a2 k (by omega)).trans (if_neg (by omega)), fun k h1 h2 => ?_⟩
      by_cases q : k = v2.toNatClampNeg
      · exact (a2 k (by omega)).trans (if_pos q)
      · exact a3 k (by omega) h2
theorem q_113_96 (e : dz_N113_96 s = some y) : y.1 33 = s.1 33 ∧ ∀ k, k < 48 → y.1 34 k = 0 := by
  unfold dz_N113_96 dz_N318_98 at e
  cases e1 : dz_N318_98_5 5000 s 0 0 48 with
  | none => rw [e1] at e; cases e
  | some r =>
    rw [e1] at e
    cases e
    obtain ⟨a1, -, a3⟩ := q_318_96 48 5000 _ _ 0 (by decide) (by decide) e1
    exact ⟨a1, fun k hk => a3 k (Nat.zero_le k) hk⟩
theorem q_rp77 : ∀ (n f : Nat) (s y : q_S) (v1 v3 : Int32) (g : (Nat → Int32) × (Nat → Int32)), v3.toInt + n = (s.2.1 13 2).toInt → 0 ≤ v3.toInt → (s.2.1 13 2).toInt ≤ 3072 → q_sp (fun _ => True) (s.1 33, s.1 34) g → dz_N129_77_96_10 f s v1 v3 = some y → q_sp (fun _ => True) (y.1 33, y.1 34) (q_rp (s.1 17) v1 n v3.toNatClampNeg g) := by
  intro n
  have z3 : (3072 : Int32).toInt = 3072 := rfl
  induction n with
  | zero =>
    intro f s y v1 v3 g hn h0 hc hg e
    cases f with
    | zero => cases e
    | succ f =>
      rw [dzs_N129_77_96_10] at e
      dsimp only at e
      rw [q_lt_F (show (s.2.1 13 2).toInt ≤ v3.toInt by omega)] at e
      cases e
      exact hg
  | succ n ih =>
    intro f s y v1 v3 g hn h0 hc hg e
    cases f with
    | zero => cases e
    | succ f =>
      have e1 : (v3 + 1).toInt = v3.toInt + 1 := q_addI ⟨by omega, by omega⟩ ⟨by decide, by decide⟩
      have en1 : (v3 + 1).toNatClampNeg = v3.toNatClampNeg + 1 := by show (v3 + 1).toInt.toNat = v3.toInt.toNat + 1; omega
      have hin : q_in v3 3072 = true := q_in_rg (l := 0) (u := 3071) ⟨h0, by omega⟩ (by decide) (by decide)
      rw [dzs_N129_77_96_10] at e
      unfold q_let at e
      dsimp only at e
      rw [q_lt_T (show v3.toInt < (s.2.1 13 2).toInt by omega), cond_true, q_lt_T (show v3.toInt < (3072 : Int32).toInt by omega), cond_true, hin, cond_true] at e
      rw [q_rp_s]
      cases e4 : decide (v1 < ((s.1 17) (v3.toNatClampNeg)) >>> ((21 &&& 31) : Int32)) with
      | true => rw [e4] at e; cases e; exact hg
      | false =>
        rw [e4, cond_false] at e
        rw [cond_false]
        unfold q_ap
        cases e5 : decide ((((s.1 17) (v3.toNatClampNeg)) >>> ((8 &&& 31) : Int32)) &&& 8191 = 4096) with
        | true =>
          rw [e5, cond_true] at e
          cases e6 : dz_N113_96 s with
          | none => rw [e6] at e; cases e
          | some r =>
            rw [e6, Option.bind_some] at e
            obtain ⟨n2, n1⟩ := q_ns113 e6
            obtain ⟨a1, a2⟩ := q_113_96 e6
            have ec : r.2.1 13 2 = s.2.1 13 2 := by rw [n2]
            have q := ih f r y v1 (v3 + 1) (g.1, fun _ => 0) (by rw [ec]; omega) (by omega) (by rw [ec]; exact hc) ⟨fun k hk => (congrFun a1 k).trans (hg.1 k hk), fun k hk _ => a2 k hk⟩ e
            rw [n1 17 rfl, en1] at q
            exact q
        | false =>
          rw [e5, cond_false] at e
          obtain ⟨n2, n1⟩ := q_ns112 s ((((s.1 17) (v3.toNatClampNeg)) >>> ((8 &&& 31) : Int32)) &&& 8191) (((s.1 17) (v3.toNatClampNeg)) &&& 255)
          have pu := q_pu96 s ((((s.1 17) (v3.toNatClampNeg)) >>> ((8 &&& 31) : Int32)) &&& 8191) (((s.1 17) (v3.toNatClampNeg)) &&& 255)
          generalize dz_N112_96 s ((((s.1 17) (v3.toNatClampNeg)) >>> ((8 &&& 31) : Int32)) &&& 8191) (((s.1 17) (v3.toNatClampNeg)) &&& 255) = r at e n2 n1 pu
          have ec : r.2.1 13 2 = s.2.1 13 2 := by rw [n2]
          have q := ih f r y v1 (v3 + 1) (q_pu ((((s.1 17) (v3.toNatClampNeg)) >>> ((8 &&& 31) : Int32)) &&& 8191) (((s.1 17) (v3.toNatClampNeg)) &&& 255) g) (by rw [ec]; omega) (by omega) (by rw [ec]; exact hc) (by rw [pu]; exact q_sp_pu _ _ hg) e
          rw [n1 17 rfl, en1] at q
          exact q
theorem q_rpl77 {v1 : Int32} (h0 : 0 ≤ (s.2.1 13 2).toInt) (hc : (s.2.1 13 2).toInt ≤ 3072) (e : dz_N129_77_96 s v1 = some y) : q_sp (fun _ => True) (y.1 33, y.1 34) (q_rp (s.1 17) v1 (s.2.1 13 2).toInt.toNat 0 (s.1 15, s.1 16)) := by
  unfold dz_N129_77_96 q_let at e
  refine q_rp77 (s.2.1 13 2).toInt.toNat 5000 (dz_N110_96_78 s) y v1 0 (s.1 15, s.1 16) (by show (0 : Int) + _ = (s.2.1 13 2).toInt; omega) (by decide) hc ⟨fun k hk => ?_, fun k hk _ => ?_⟩ e
  · show va_cpy (s.1 15) (s.1 33) 0 0 4096 k = s.1 15 k
    unfold va_cpy
    rw [if_pos ⟨Nat.zero_le _, by omega⟩, Nat.zero_add, Nat.sub_zero]
  · show va_cpy (s.1 16) (s.1 34) 0 0 48 k = s.1 16 k
    unfold va_cpy
    rw [if_pos ⟨Nat.zero_le _, by omega⟩, Nat.zero_add, Nat.sub_zero]
theorem q_rp82 : ∀ (n f : Nat) (s y : q_S) (v1 v3 : Int32) (g : (Nat → Int32) × (Nat → Int32)), v3.toInt + n = (s.2.1 18 2).toInt → 0 ≤ v3.toInt → (s.2.1 18 2).toInt ≤ 3072 → q_sp (fun _ => True) (s.1 33, s.1 34) g → dz_N129_82_96_10 f s v1 v3 = some y → q_sp (fun _ => True) (y.1 33, y.1 34) (q_rp (s.1 22) v1 n v3.toNatClampNeg g) := by
  intro n
  have z3 : (3072 : Int32).toInt = 3072 := rfl
  induction n with
  | zero =>
    intro f s y v1 v3 g hn h0 hc hg e
    cases f with
    | zero => cases e
    | succ f =>
      rw [dzs_N129_82_96_10] at e
      dsimp only at e
      rw [q_lt_F (show (s.2.1 18 2).toInt ≤ v3.toInt by omega)] at e
      cases e
      exact hg
  | succ n ih =>
    intro f s y v1 v3 g hn h0 hc hg e
    cases f with
    | zero => cases e
    | succ f =>
      have e1 : (v3 + 1).toInt = v3.toInt + 1 := q_addI ⟨by omega, by omega⟩ ⟨by decide, by decide⟩
      have en1 : (v3 + 1).toNatClampNeg = v3.toNatClampNeg + 1 := by show (v3 + 1).toInt.toNat = v3.toInt.toNat + 1; omega
      have hin : q_in v3 3072 = true := q_in_rg (l := 0) (u := 3071) ⟨h0, by omega⟩ (by decide) (by decide)
      rw [dzs_N129_82_96_10] at e
      unfold q_let at e
      dsimp only at e
      rw [q_lt_T (show v3.toInt < (s.2.1 18 2).toInt by omega), cond_true, q_lt_T (show v3.toInt < (3072 : Int32).toInt by omega), cond_true, hin, cond_true] at e
      rw [q_rp_s]
      cases e4 : decide (v1 < ((s.1 22) (v3.toNatClampNeg)) >>> ((21 &&& 31) : Int32)) with
      | true => rw [e4] at e; cases e; exact hg
      | false =>
        rw [e4, cond_false] at e
        rw [cond_false]
        unfold q_ap
        cases e5 : decide ((((s.1 22) (v3.toNatClampNeg)) >>> ((8 &&& 31) : Int32)) &&& 8191 = 4096) with
        | true =>
          rw [e5, cond_true] at e
          cases e6 : dz_N113_96 s with
          | none => rw [e6] at e; cases e
          | some r =>
            rw [e6, Option.bind_some] at e
            obtain ⟨n2, n1⟩ := q_ns113 e6
            obtain ⟨a1, a2⟩ := q_113_96 e6
            have ec : r.2.1 18 2 = s.2.1 18 2 := by rw [n2]
            have q := ih f r y v1 (v3 + 1) (g.1, fun _ => 0) (by rw [ec]; omega) (by omega) (by rw [ec]; exact hc) ⟨fun k hk => (congrFun a1 k).trans (hg.1 k hk), fun k hk _ => a2 k hk⟩ e
            rw [n1 22 rfl, en1] at q
            exact q
        | false =>
          rw [e5, cond_false] at e
          obtain ⟨n2, n1⟩ := q_ns112 s ((((s.1 22) (v3.toNatClampNeg)) >>> ((8 &&& 31) : Int32)) &&& 8191) (((s.1 22) (v3.toNatClampNeg)) &&& 255)
          have pu := q_pu96 s ((((s.1 22) (v3.toNatClampNeg)) >>> ((8 &&& 31) : Int32)) &&& 8191) (((s.1 22) (v3.toNatClampNeg)) &&& 255)
          generalize dz_N112_96 s ((((s.1 22) (v3.toNatClampNeg)) >>> ((8 &&& 31) : Int32)) &&& 8191) (((s.1 22) (v3.toNatClampNeg)) &&& 255) = r at e n2 n1 pu
          have ec : r.2.1 18 2 = s.2.1 18 2 := by rw [n2]
          have q := ih f r y v1 (v3 + 1) (q_pu ((((s.1 22) (v3.toNatClampNeg)) >>> ((8 &&& 31) : Int32)) &&& 8191) (((s.1 22) (v3.toNatClampNeg)) &&& 255) g) (by rw [ec]; omega) (by omega) (by rw [ec]; exact hc) (by rw [pu]; exact q_sp_pu _ _ hg) e
          rw [n1 22 rfl, en1] at q
          exact q
theorem q_rpl82 {v1 : Int32} (h0 : 0 ≤ (s.2.1 18 2).toInt) (hc : (s.2.1 18 2).toInt ≤ 3072) (e : dz_N129_82_96 s v1 = some y) : q_sp (fun _ => True) (y.1 33, y.1 34) (q_rp (s.1 22) v1 (s.2.1 18 2).toInt.toNat 0 (s.1 20, s.1 21)) := by
  unfold dz_N129_82_96 q_let at e
  refine q_rp82 (s.2.1 18 2).toInt.toNat 5000 (dz_N110_96_83 s) y v1 0 (s.1 20, s.1 21) (by show (0 : Int) + _ = (s.2.1 18 2).toInt; omega) (by decide) hc ⟨fun k hk => ?_, fun k hk _ => ?_⟩ e
  · show va_cpy (s.1 20) (s.1 33) 0 0 4096 k = s.1 20 k
    unfold va_cpy
    rw [if_pos ⟨Nat.zero_le _, by omega⟩, Nat.zero_add, Nat.sub_zero]
  · show va_cpy (s.1 21) (s.1 34) 0 0 48 k = s.1 21 k
    unfold va_cpy
    rw [if_pos ⟨Nat.zero_le _, by omega⟩, Nat.zero_add, Nat.sub_zero]
/-- all registers but the flags and the hits -/
def q_Dn (k : Nat) : Prop := k ≠ 10 ∧ k ≠ 29 ∧ k ≠ 30
theorem q_c120 (h : q_sp q_Dn (s.1 3, s.1 4) (t.1 3, t.1 4)) (x : Int32) : dz_N120_66 s x = dz_N120_66 t x := by
  have r := q_rg_and (U := 4095) x 4095 (by decide) rfl
  have r1 := r.1
  have r2 := r.2
  exact h.1 _ (by show (x &&& 4095).toInt.toNat < 4096; omega)
theorem q_c118 (h : q_sp q_Dn (s.1 3, s.1 4) (t.1 3, t.1 4)) (a v : Int32) (hk : a.toNatClampNeg < 48) (d : q_Dn a.toNatClampNeg) : dz_N118_66 s a v = dz_N118_66 t a v := by
  unfold dz_N118_66
  rw [show s.1 4 a.toNatClampNeg = t.1 4 a.toNatClampNeg from h.2 _ hk d]
theorem q_c121 (h : q_sp q_Dn (s.1 3, s.1 4) (t.1 3, t.1 4)) (v : Int32) : dz_N121_66 s v = dz_N121_66 t v := by
  unfold dz_N121_66
  rw [show s.1 4 1 = t.1 4 1 from h.2 1 (by decide) (by unfold q_Dn; decide)]
theorem q_c119 (h : q_sp q_Dn (s.1 3, s.1 4) (t.1 3, t.1 4)) (a b : Int32) : dz_N119_66 s a b = dz_N119_66 t a b := by
  have e1 : s.1 4 1 = t.1 4 1 := h.2 1 (by decide) (by unfold q_Dn; decide)
  have e2 : s.1 4 2 = t.1 4 2 := h.2 2 (by decide) (by unfold q_Dn; decide)
  have e7 : s.1 4 7 = t.1 4 7 := h.2 7 (by decide) (by unfold q_Dn; decide)
  have e8 : s.1 4 8 = t.1 4 8 := h.2 8 (by decide) (by unfold q_Dn; decide)
  unfold dz_N119_66 dz_N114_66 dz_N115_66 q_let
  dsimp only
  rw [e1, e2, e7, e8]
  simp only [q_c120 h]
theorem q_c122 (h : q_sp q_Dn (s.1 3, s.1 4) (t.1 3, t.1 4)) : ∀ (n : Nat) (v1 v2 v3 v4 : Int32), 0 ≤ v4.toInt → v4.toInt ≤ 4 → dz_N122_66_5 n s v1 v2 v3 v4 = dz_N122_66_5 n t v1 v2 v3 v4 := by
  intro n
  have e7 : s.1 4 7 = t.1 4 7 := h.2 7 (by decide) (by unfold q_Dn; decide)
  induction n with
  | zero => intro v1 v2 v3 v4 h0 h4; rfl
  | succ n ih =>
    intro v1 v2 v3 v4 h0 h4
    rw [dzs_N122_66_5 n s, dzs_N122_66_5 n t]
    generalize dz_N122_66_5 n = kk at ih ⊢
    dsimp only
    by_cases q : v4.toInt < 4
    · have e4 : (v4 + 1).toInt = v4.toInt + 1 := q_addI ⟨by omega, by omega⟩ ⟨by decide, by decide⟩
      have i20 : ((20 : Int32) + v4).toInt = 20 + v4.toInt := q_addI ⟨by decide, by decide⟩ ⟨by omega, by omega⟩
      have i24 : ((24 : Int32) + v4).toInt = 24 + v4.toInt := q_addI ⟨by decide, by decide⟩ ⟨by omega, by omega⟩
      have n20 : ((20 : Int32) + v4).toNatClampNeg = 20 + v4.toInt.toNat := by show ((20 : Int32) + v4).toInt.toNat = _; omega
      have n24 : ((24 : Int32) + v4).toNatClampNeg = 24 + v4.toInt.toNat := by show ((24 : Int32) + v4).toInt.toNat = _; omega
      have c18 := q_c118 h 18 v4 (by decide) (by unfold q_Dn; decide)
      have c17 := q_c118 h 17 v4 (by decide) (by unfold q_Dn; decide)
      have c20 : s.1 4 ((20 : Int32) + v4).toNatClampNeg = t.1 4 ((20 : Int32) + v4).toNatClampNeg := h.2 _ (by omega) (by unfold q_Dn; omega)
      have c24 : s.1 4 ((24 : Int32) + v4).toNatClampNeg = t.1 4 ((24 : Int32) + v4).toNatClampNeg := h.2 _ (by omega) (by unfold q_Dn; omega)
      have ih9 : ∀ v1 v2 x, kk s v1 v2 x (v4 + 1) = kk t v1 v2 x (v4 + 1) := fun v1 v2 x => ih v1 v2 x (v4 + 1) (by omega) (by omega)
      unfold q_let
      dsimp only
      rw [c18, c17, c20, c24, e7]
      simp only [q_c120 h, ih9]
    · rw [q_lt_F (show (4 : Int32).toInt ≤ v4.toInt by show (4 : Int) ≤ _; omega)]
      rfl
theorem q_c123 (h : q_sp q_Dn (s.1 3, s.1 4) (t.1 3, t.1 4)) : ∀ (n : Nat) (v1 v2 v3 : Int32), 0 ≤ v3.toInt → v3.toInt ≤ 4 → dz_N123_66_2 n s v1 v2 v3 = dz_N123_66_2 n t v1 v2 v3 := by
  intro n
  have e28 : s.1 4 28 = t.1 4 28 := h.2 28 (by decide) (by unfold q_Dn; decide)
  induction n with
  | zero => intro v1 v2 v3 h0 h4; rfl
  | succ n ih =>
    intro v1 v2 v3 h0 h4
    have r := q_rg_and (U := 3) v1 3 (by decide) rfl
    have r1 := r.1
    have r2 := r.2
    have i3 : ((3 : Int32) + (v1 &&& 3)).toInt = 3 + (v1 &&& 3).toInt := q_addI ⟨by decide, by decide⟩ ⟨by omega, by omega⟩
    have n3 : ((3 : Int32) + (v1 &&& 3)).toNatClampNeg = 3 + (v1 &&& 3).toInt.toNat := by show ((3 : Int32) + (v1 &&& 3)).toInt.toNat = _; omega
    have c3 : s.1 4 ((3 : Int32) + (v1 &&& 3)).toNatClampNeg = t.1 4 ((3 : Int32) + (v1 &&& 3)).toNatClampNeg := h.2 _ (by omega) (by unfold q_Dn; omega)
    rw [dzs_N123_66_2 n s, dzs_N123_66_2 n t]
    generalize dz_N123_66_2 n = kk at ih ⊢
    dsimp only
    by_cases q : v3.toInt < 4
    · have e4 : (v3 + 1).toInt = v3.toInt + 1 := q_addI ⟨by omega, by omega⟩ ⟨by decide, by decide⟩
      have c19 := q_c118 h 19 v3 (by decide) (by unfold q_Dn; decide)
      have ih9 : ∀ v1 v2, kk s v1 v2 (v3 + 1) = kk t v1 v2 (v3 + 1) := fun v1 v2 => ih v1 v2 (v3 + 1) (by omega) (by omega)
      unfold dz_N123_66_39 q_let
      dsimp only
      rw [c19, c3, e28]
      simp only [q_c121 h, ih9]
    · rw [q_lt_F (show (4 : Int32).toInt ≤ v3.toInt by show (4 : Int) ≤ _; omega), c3]
      rfl
/-- a pixel's colour, out of RAM and registers -/
def q_col (s : q_S) (a b : Int32) : Option Int32 := (dz_N122_66 s a b).bind fun r => dz_N123_66 s (dz_N119_66 s a b) r
theorem q_col_c (h : q_sp q_Dn (s.1 3, s.1 4) (t.1 3, t.1 4)) (a b : Int32) : q_col s a b = q_col t a b := by
  have e1 : dz_N122_66 s a b = dz_N122_66 t a b := q_c122 h 5000 a b 0 0 (by decide) (by decide)
  have e2 : ∀ x y, dz_N123_66 s x y = dz_N123_66 t x y := fun x y => q_c123 h 5000 x y 0 (by decide) (by decide)
  unfold q_col
  rw [e1, q_c119 h]
  simp only [e2]
/-- a scene alone -/
def q_sn (g : (Nat → Int32) × (Nat → Int32)) : q_S := (fun i => cond (Nat.beq i 3) g.1 (cond (Nat.beq i 4) g.2 (fun _ => 0)), fun _ _ => 0, fun _ _ => 0)
theorem q_c122b (s : q_S) : ∀ n, dz_N122_96_5 n s = dz_N122_66_5 n (q_sn (s.1 33, s.1 34)) := by
  intro n
  induction n with
  | zero => rfl
  | succ n ih =>
    funext v1 v2 v3 v4
    rw [dzs_N122_96_5 n s, dzs_N122_66_5 n (q_sn (s.1 33, s.1 34))]
    generalize dz_N122_96_5 n = k1 at ih ⊢
    generalize dz_N122_66_5 n = k2 at ih ⊢
    dsimp only
    rw [ih]
    rfl
theorem q_c123b (s : q_S) : ∀ n, dz_N123_96_2 n s = dz_N123_66_2 n (q_sn (s.1 33, s.1 34)) := by
  intro n
  induction n with
  | zero => rfl
  | succ n ih =>
    funext v1 v2 v3
    rw [dzs_N123_96_2 n s, dzs_N123_66_2 n (q_sn (s.1 33, s.1 34))]
    generalize dz_N123_96_2 n = k1 at ih ⊢
    generalize dz_N123_66_2 n = k2 at ih ⊢
    dsimp only
    rw [ih]
    rfl
def q_cl (g : (Nat → Int32) × (Nat → Int32)) (a b : Int32) : Option Int32 := q_col (q_sn g) a b
theorem q_cl_c (e : q_sp q_Dn g h) (a b : Int32) : q_cl g a b = q_cl h a b := q_col_c (s := q_sn g) (t := q_sn h) e a b
theorem q_cl_s (s : q_S) (a b : Int32) : q_col s a b = q_cl (s.1 3, s.1 4) a b := q_col_c (s := s) (t := q_sn (s.1 3, s.1 4)) (q_sp_r _) a b
theorem q_col96 (s : q_S) (a b : Int32) : ((dz_N122_96 s a b).bind fun r => dz_N123_96 s (dz_N119_96 s a b) r) = q_cl (s.1 33, s.1 34) a b := by
  unfold q_cl q_col dz_N122_96 dz_N122_66 dz_N123_96 dz_N123_66
  rw [q_c122b, q_c123b]
  rfl
end
