section
-- 05.heap
/-! ===== the heap of the small machine ===== -/
def q_at (h : q_H) (a : Nat) : Option q_C := if a < 64 then none else h.1[a - 64]?
theorem q_at_in {h : q_H} {a : Nat} {c : q_C} (e : q_at h a = some c) : a = 64 + (a - 64) ∧ h.1[a - 64]? = some c := by
  unfold q_at at e
  split at e
  · cases e
  · exact ⟨by omega, e⟩
def q_in (i : Int32) (n : Nat) : Bool := !(decide (i < 0)) && decide (i.toNatClampNeg < n)
theorem q_in_vp {i : Int32} {n : Nat} (h : q_in i n = true) : vp_in i n := by
  unfold q_in at h
  rw [Bool.and_eq_true] at h
  obtain ⟨h1, h2⟩ := h
  rintro (q | q)
  · rw [decide_eq_true q] at h1; cases h1
  · exact absurd (of_decide_eq_true h2) (Nat.not_lt.mpr q)
theorem q_in_of {i : Int32} {n : Nat} (h : vp_in i n) : q_in i n = true := by
  unfold q_in
  rw [decide_eq_false (fun q => h (Or.inl q)), decide_eq_true (Nat.not_le.mp fun q => h (Or.inr q))]
  rfl
def q_gf (nx ci k : Nat) (g : q_G) : Option q_G := match g.2.2.1 with
  | .ref a :: r => match q_at g.2.2.2 a with
    | some (.inr (cj, fs)) => if cj = ci then (match fs[k]? with
      | some v => some (nx, g.2.1, v :: r, g.2.2.2)
      | none => none) else none
    | _ => none
  | _ => none
def q_pf (nx ci k : Nat) (chk : Value → Bool) (g : q_G) : Option q_G := match g.2.2.1 with
  | v :: .ref a :: r => match q_at g.2.2.2 a with
    | some (.inr (cj, fs)) => if cj = ci ∧ k < fs.length ∧ chk v = true then some (nx, g.2.1, r, g.2.2.2.1.set (a - 64) (.inr (ci, fs.set k v)), g.2.2.2.2) else none
    | _ => none
  | _ => none
def q_ck (ty : FieldType) (chk : Value → Bool) : Prop := ∀ (v : Value) (α : Nat → Nat), chk v = true → narrow ty (q_v α v) = q_v α v ∧ fits ty (q_v α v) = true
def q_ck_i (v : Value) : Bool := match v with | .int _ => true | _ => false
def q_ck_l (v : Value) : Bool := match v with | .long _ => true | _ => false
def q_ck_z (v : Value) : Bool := match v with | .int x => decide (x = 0) || decide (x = 1) | _ => false
def q_ck_b (v : Value) : Bool := match v with | .int x => decide (x.toInt8.toInt32 = x) | _ => false
def q_ck_r (v : Value) : Bool := match v with | .ref _ => true | .null => true | _ => false
theorem q_ck_i_ok : q_ck .int q_ck_i := fun v α h => by cases v <;> first | exact ⟨rfl, rfl⟩ | cases h
theorem q_ck_l_ok : q_ck .long q_ck_l := fun v α h => by cases v <;> first | exact ⟨rfl, rfl⟩ | cases h
theorem q_ck_z_ok : q_ck .boolean q_ck_z := fun v α h => by
  cases v <;> first | cases h | skip
  rename_i x
  have h : (decide (x = 0) || decide (x = 1)) = true := h
  rcases Bool.or_eq_true_iff.mp h with h | h
  · rw [of_decide_eq_true h]; exact ⟨rfl, rfl⟩
  · rw [of_decide_eq_true h]; exact ⟨rfl, rfl⟩
theorem q_ck_b_ok : q_ck .byte q_ck_b := fun v α h => by
  cases v <;> first | cases h | skip
  rename_i x
  have h : decide (x.toInt8.toInt32 = x) = true := h
  have e := of_decide_eq_true h
  show narrow .byte (.int x) = .int x ∧ fits .byte (.int x) = true
  rw [← e]
  exact ⟨pk_nb x, pk_fb x⟩
theorem q_ck_o_ok (C : String) : q_ck (.object C) q_ck_r := fun v α h => by cases v <;> first | exact ⟨rfl, rfl⟩ | cases h
theorem q_ck_a_ok (t : FieldType) : q_ck (.array t) q_ck_r := fun v α h => by cases v <;> first | exact ⟨rfl, rfl⟩ | cases h
section QH
variable {WU : List Cond} {cl : List vw_C} {tyl : List FieldType} {GF : (Nat → Prop) → State → Heap → Prop} {τ : Nat → Nat} {own mname : String} {cc : ByteArray} {nL pc nx : Nat}
theorem q_getf {idx ci k N : Nat} {C : String} {T : u_T} (hdg : decode cc pc = .ok (.getfield idx, 3)) (hc : cl[ci]? = some (C, T, N)) (hin : ∀ w ∈ u_ws C T N, w ∈ WU) (hk : k < N) (hw : Cond.fieldLink own idx (T k).1 (T k).2.1 (T k).2.2.1 ∈ WU) (hx : nx = pc + 3) :
    q_J WU cl tyl GF τ own mname cc nL pc (q_gf nx ci k) := by
  intro g g' hpc hf hg
  obtain ⟨pc', L, st, h⟩ := g
  obtain rfl : pc' = pc := hpc
  unfold q_gf at hf
  dsimp only at hf
  split at hf
  · rename_i a r
    split at hf
    · rename_i cj fs e1
      split at hf
      · rename_i ecj
        split at hf
        · rename_i v ev
          cases hf; subst ecj
          obtain ⟨ea, e2⟩ := q_at_in e1
          have hv : q_ok h.1.length v := (show ∀ v ∈ fs, q_ok h.1.length v from hg.2.2 _ (List.mem_of_getElem? e2)) v (List.mem_of_getElem? ev)
          refine ⟨⟨⟨hg.1, q_okcons hv (q_ok1 hg.2.1), hg.2.2⟩, Nat.le_refl _, Nat.le_refl _, Nat.le_refl _⟩, ?_⟩
          intro p l e R s m args below meth c Q D cA A k0 n0 α hC hR1 hR2 hτ hk' hn kk H locs ls cells slots hP hD hS hl ek en
          have hw0 := q_w_get (cA := cA) (α := α) e2
          rw [← ea] at hw0
          subst hx
          exact va_get hC.1 hC.2.1 hC.2.2.2.2.1 hin hC.2.2.1 hC.2.2.2.2.2.1 hP _ hw0 hc k hk (hC.2.2.2.2.1 _ hw) (fun _ h9 => h9) (v := q_v α v) (by rw [List.getElem?_map, ev]; rfl) hdg (kk α q_ag.rf H locs ls cells slots hP hD hS hl ek en)
        · cases hf
      · cases hf
    · cases hf
  · cases hf

theorem q_putf {idx ci k N : Nat} {C : String} {T : u_T} {ty0 : Nat → FieldType} {ty : FieldType} {chk : Value → Bool} (hdg : decode cc pc = .ok (.putfield idx, 3)) (hc : cl[ci]? = some (C, T, N)) (hin : ∀ w ∈ u_ws C T N, w ∈ WU) (hty : ∀ k, k < N → parseFieldDescriptor (T k).2.2.1 = some (ty0 k)) (hnm : ∀ a, a < N → ∀ b, b < N → a ≠ b → (T a).2.1 ≠ (T b).2.1) (hk : k < N) (hw : Cond.fieldLink own idx (T k).1 (T k).2.1 (T k).2.2.1 ∈ WU) (hfin : (T k).2.2.2 = false) (hd : parseFieldDescriptor (T k).2.2.1 = some ty) (hck : q_ck ty chk) (hx : nx = pc + 3) :
    q_J WU cl tyl GF τ own mname cc nL pc (q_pf nx ci k chk) := by
  intro g g' hpc hf hg
  obtain ⟨pc', L, st, h⟩ := g
  obtain rfl : pc' = pc := hpc
  unfold q_pf at hf
  dsimp only at hf
  split at hf
  · rename_i v a r
    split at hf
    · rename_i cj fs e1
      split at hf
      · rename_i ecj
        cases hf
        obtain ⟨ecj, hlen, hv0⟩ := ecj
        subst ecj
        obtain ⟨ea, e2⟩ := q_at_in e1
        have hfs : ∀ v ∈ fs, q_ok h.1.length v := hg.2.2 _ (List.mem_of_getElem? e2)
        have hv : q_ok h.1.length v := q_ok0 hg.2.1
        have hcell : q_okc h.1.length (.inr (cj, fs.set k v)) := fun z hz => by
          rcases List.mem_or_eq_of_mem_set hz with h1 | h1
          · exact hfs z h1
          · rw [h1]; exact hv
        have hlen2 : (h.1.set (a - 64) (.inr (cj, fs.set k v) : q_C)).length = h.1.length := List.length_set
        refine ⟨⟨⟨?_, ?_, hg.2.2.set _ hcell⟩, by show _ ≤ (h.1.set _ _).length; rw [hlen2]; exact Nat.le_refl _, Nat.le_refl _, Nat.le_refl _⟩, ?_⟩
        · show ∀ q ∈ L, q_ok (h.1.set (a - 64) (.inr (cj, fs.set k v) : q_C)).length q.2
          rw [hlen2]; exact hg.1
        · show ∀ v' ∈ r, q_ok (h.1.set (a - 64) (.inr (cj, fs.set k v) : q_C)).length v'
          rw [hlen2]; exact q_ok2 hg.2.1
        intro p l e R s m args below meth c Q D cA A k0 n0 α hC hR1 hR2 hτ hk' hn kk H locs ls cells slots hP hD hS hl ek en
        have hw0 := q_w_get (cA := cA) (α := α) e2
        rw [← ea] at hw0
        subst hx
        obtain ⟨cn, cf⟩ := hck v α hv0
        have hset : (q_w cA α h.1).set (a - 64) (α a, .inr (cj, (fs.map (q_v α)).set k (q_v α v))) = q_w cA α (h.1.set (a - 64) (.inr (cj, fs.set k v))) := by
          rw [← q_w_set, ← ea]
          show _ = (q_w cA α h.1).set (a - 64) (α a, Sum.inr (cj, (fs.set k v).map (q_v α)))
          rw [List.map_set]
        refine va_put hC.1 hC.2.1 hC.2.2.2.2.1 hin ty0 hty hnm hC.2.2.1 hC.2.2.2.2.2.1 hP hD hS _ hw0 hc k hk (hC.2.2.2.2.1 _ hw) (fun _ h9 => h9) hfin hd cn cf (by rw [List.length_map]; exact hlen) hdg (fun H1 locs1 hP1 hD1 hS1 => ?_)
        rw [hset] at hP1 hD1
        exact kk α q_ag.rf H1 locs1 ls cells slots hP1 hD1 hS1 hl ek en
      · cases hf
    · cases hf
  · cases hf
theorem q_putfF {idx ci k N : Nat} {C : String} {T : u_T} {ty0 : Nat → FieldType} {ty : FieldType} {chk : Value → Bool} (hdg : decode cc pc = .ok (.putfield idx, 3)) (hc : cl[ci]? = some (C, T, N)) (hin : ∀ w ∈ u_ws C T N, w ∈ WU) (hty : ∀ k, k < N → parseFieldDescriptor (T k).2.2.1 = some (ty0 k)) (hnm : ∀ a, a < N → ∀ b, b < N → a ≠ b → (T a).2.1 ≠ (T b).2.1) (hk : k < N) (hw : Cond.fieldLink own idx (T k).1 (T k).2.1 (T k).2.2.1 ∈ WU) (hfin : (T k).2.2.2 = true) (hin2 : mname = "<init>") (hdecl : (T k).1 = own) (hd : parseFieldDescriptor (T k).2.2.1 = some ty) (hck : q_ck ty chk) (hx : nx = pc + 3) :
    q_J WU cl tyl GF τ own mname cc nL pc (q_pf nx ci k chk) := by
  intro g g' hpc hf hg
  obtain ⟨pc', L, st, h⟩ := g
  obtain rfl : pc' = pc := hpc
  unfold q_pf at hf
  dsimp only at hf
  split at hf
  · rename_i v a r
    split at hf
    · rename_i cj fs e1
      split at hf
      · rename_i ecj
        cases hf
        obtain ⟨ecj, hlen, hv0⟩ := ecj
        subst ecj
        obtain ⟨ea, e2⟩ := q_at_in e1
        have hfs : ∀ v ∈ fs, q_ok h.1.length v := hg.2.2 _ (List.mem_of_getElem? e2)
        have hv : q_ok h.1.length v := q_ok0 hg.2.1
        have hcell : q_okc h.1.length (.inr (cj, fs.set k v)) := fun z hz => by
          rcases List.mem_or_eq_of_mem_set hz with h1 | h1
          · exact hfs z h1
          · rw [h1]; exact hv
        have hlen2 : (h.1.set (a - 64) (.inr (cj, fs.set k v) : q_C)).length = h.1.length := List.length_set
        refine ⟨⟨⟨?_, ?_, hg.2.2.set _ hcell⟩, by show _ ≤ (h.1.set _ _).length; rw [hlen2]; exact Nat.le_refl _, Nat.le_refl _, Nat.le_refl _⟩, ?_⟩
        · show ∀ q ∈ L, q_ok (h.1.set (a - 64) (.inr (cj, fs.set k v) : q_C)).length q.2
          rw [hlen2]; exact hg.1
        · show ∀ v' ∈ r, q_ok (h.1.set (a - 64) (.inr (cj, fs.set k v) : q_C)).length v'
          rw [hlen2]; exact q_ok2 hg.2.1
        intro p l e R s m args below meth c Q D cA A k0 n0 α hC hR1 hR2 hτ hk' hn kk H locs ls cells slots hP hD hS hl ek en
        have hw0 := q_w_get (cA := cA) (α := α) e2
        rw [← ea] at hw0
        subst hx
        obtain ⟨cn, cf⟩ := hck v α hv0
        have hset : (q_w cA α h.1).set (a - 64) (α a, .inr (cj, (fs.map (q_v α)).set k (q_v α v))) = q_w cA α (h.1.set (a - 64) (.inr (cj, fs.set k v))) := by
          rw [← q_w_set, ← ea]
          show _ = (q_w cA α h.1).set (a - 64) (α a, Sum.inr (cj, (fs.set k v).map (q_v α)))
          rw [List.map_set]
        refine va_putF hC.1 hC.2.1 hC.2.2.2.2.1 hin ty0 hty hnm hC.2.2.1 hC.2.2.2.2.2.1 hP hD hS _ hw0 hc k hk (hC.2.2.2.2.1 _ hw) (fun _ h9 => h9) hfin (hC.2.2.2.2.2.2.2.2.2.2.trans hin2) hdecl hd cn cf (by rw [List.length_map]; exact hlen) hdg (fun H1 locs1 hP1 hD1 hS1 => ?_)
        rw [hset] at hP1 hD1
        exact kk α q_ag.rf H1 locs1 ls cells slots hP1 hD1 hS1 hl ek en
      · cases hf
    · cases hf
  · cases hf
/-- rows of ints (and bytes, chars, booleans): those outside by TB, those of the heap -/
def q_ar (TB : Nat → Option (Nat × Nat × (Nat → Int32))) (h : q_H) (a : Nat) : Option (Nat × Nat × (Nat → Int32)) := if a < 64 then TB a else match h.1[a - 64]? with
  | some (.inl (t, n, .inl f)) => some (t, n, f)
  | _ => none
theorem q_ar_out {TB : Nat → Option (Nat × Nat × (Nat → Int32))} {h : q_H} {a : Nat} {c : Nat × Nat × (Nat → Int32)} (e : q_ar TB h a = some c) : (a < 64 ∧ TB a = some c) ∨ (a = 64 + (a - 64) ∧ h.1[a - 64]? = some (.inl (c.1, c.2.1, .inl c.2.2))) := by
  unfold q_ar at e
  split at e
  · rename_i hl
    exact Or.inl ⟨hl, e⟩
  · rename_i hl
    split at e
    · rename_i t n f e2
      cases e
      exact Or.inr ⟨by omega, e2⟩
    · cases e
def q_ald (TB : Nat → Option (Nat × Nat × (Nat → Int32))) (nx t : Nat) (g : q_G) : Option (Bool × q_G × Option q_G) := match g.2.2.1 with
  | .int i :: .ref a :: r => match q_ar TB g.2.2.2 a with
    | some (u, n, f) => if u = t then some (q_in i n, (nx, g.2.1, .int (f i.toNatClampNeg) :: r, g.2.2.2), none) else none
    | none => none
  | _ => none
def q_ast (nx t : Nat) (nar : Int32 → Int32) (g : q_G) : Option (Bool × q_G × Option q_G) := match g.2.2.1 with
  | .int x :: .int i :: .ref a :: r => match q_at g.2.2.2 a with
    | some (.inl (u, n, .inl f)) => if u = t then some (q_in i n, (nx, g.2.1, r, g.2.2.2.1.set (a - 64) (.inl (t, n, .inl (upd f i.toNatClampNeg (nar x)))), g.2.2.2.2), none) else none
    | _ => none
  | _ => none
def q_lld (nx t : Nat) (g : q_G) : Option (Bool × q_G × Option q_G) := match g.2.2.1 with
  | .int i :: .ref a :: r => match q_at g.2.2.2 a with
    | some (.inl (u, n, .inr (.inl f))) => if u = t then some (q_in i n, (nx, g.2.1, .long (f i.toNatClampNeg) :: r, g.2.2.2), none) else none
    | _ => none
  | _ => none
def q_lst (nx t : Nat) (g : q_G) : Option (Bool × q_G × Option q_G) := match g.2.2.1 with
  | .long x :: .int i :: .ref a :: r => match q_at g.2.2.2 a with
    | some (.inl (u, n, .inr (.inl f))) => if u = t then some (q_in i n, (nx, g.2.1, r, g.2.2.2.1.set (a - 64) (.inl (t, n, .inr (.inl (vp_updL f i.toNatClampNeg x)))), g.2.2.2.2), none) else none
    | _ => none
  | _ => none
def q_qld (nx t : Nat) (g : q_G) : Option (Bool × q_G × Option q_G) := match g.2.2.1 with
  | .int i :: .ref a :: r => match q_at g.2.2.2 a with
    | some (.inl (u, n, .inr (.inr (.inr (.inr f))))) => if u = t then some (q_in i n, (nx, g.2.1, va_rf (f i.toNatClampNeg) :: r, g.2.2.2), none) else none
    | _ => none
  | _ => none
def q_qst (nx t ci : Nat) (g : q_G) : Option (Bool × q_G × Option q_G) := match g.2.2.1 with
  | .ref v :: .int i :: .ref a :: r => match q_at g.2.2.2 a, q_at g.2.2.2 v with
    | some (.inl (u, n, .inr (.inr (.inr (.inr f))))), some (.inr (cj, _)) => if u = t ∧ cj = ci then some (q_in i n, (nx, g.2.1, r, g.2.2.2.1.set (a - 64) (.inl (t, n, .inr (.inr (.inr (.inr (va_up f i.toNatClampNeg (some v))))))), g.2.2.2.2), none) else none
    | _, _ => none
  | _ => none
def q_aln (TB : Nat → Option (Nat × Nat × (Nat → Int32))) (nx t : Nat) (g : q_G) : Option q_G := match g.2.2.1 with
  | .ref a :: r => if a < 64 then (match TB a with
      | some (u, n, _) => if u = t then some (nx, g.2.1, .int (Int32.ofNat n) :: r, g.2.2.2) else none
      | none => none) else match g.2.2.2.1[a - 64]? with
      | some (.inl (u, n, _)) => if u = t then some (nx, g.2.1, .int (Int32.ofNat n) :: r, g.2.2.2) else none
      | _ => none
  | _ => none
def q_new (nx ci N : Nat) (fs : List Value) (g : q_G) : Option q_G := some (nx, g.2.1, .ref (64 + g.2.2.2.1.length) :: g.2.2.1, g.2.2.2.1 ++ [.inr (ci, fs)], g.2.2.2.2.1 + 1, g.2.2.2.2.2 + N)
def q_nwa (nx t : Nat) (z : (Nat → Int32) ⊕ (Nat → Int64) ⊕ (Nat → UInt32) ⊕ (Nat → UInt64) ⊕ (Nat → Option Nat)) (g : q_G) : Option (Bool × q_G × Option q_G) := match g.2.2.1 with
  | .int n :: r => some (!(decide (n < 0)) && decide (n.toNatClampNeg ≤ 1000000), (nx, g.2.1, .ref (64 + g.2.2.2.1.length) :: r, g.2.2.2.1 ++ [.inl (t, n.toNatClampNeg, z)], g.2.2.2.2.1 + 1, g.2.2.2.2.2 + n.toNatClampNeg), none)
  | _ => none
/-- what is outside: TB tells the rows of it -/
def q_TB (TB : Nat → Option (Nat × Nat × (Nat → Int32))) (tyl : List FieldType) (GF : (Nat → Prop) → State → Heap → Prop) (τ : Nat → Nat) : Prop :=
  ∀ (a t n : Nat) (f : Nat → Int32) (ty : FieldType) (A : Nat → Prop) (U : State) (H : Heap), TB a = some (t, n, f) → tyl[t]? = some ty → GF A U H → va_T ty (τ a) n (fun j => .int (f j)) A U H
section QA
variable {TB : Nat → Option (Nat × Nat × (Nat → Int32))}
theorem q_rs_ok {f : q_G → Option (Bool × q_G × Option q_G)} {g g' : q_G} (h : q_rs f g = some g') : ∃ t g1 g2, f g = some (t, g1, g2) ∧ ((t = true ∧ g' = g1) ∨ (t = false ∧ g2 = some g')) := by
  unfold q_rs at h
  split at h
  · cases h
  · rename_i t g1 g2 e
    split at h
    · cases h; exact ⟨_, _, _, e, Or.inl ⟨rfl, rfl⟩⟩
    · exact ⟨_, _, _, e, Or.inr ⟨rfl, h⟩⟩

theorem q_iaload {t : Nat} (hTB : q_TB TB tyl GF τ) (hdg : decode cc pc = .ok (.iaload, 1)) (ht : tyl[t]? = some .int) (hx : nx = pc + 1) : q_J WU cl tyl GF τ own mname cc nL pc (q_rs (q_ald TB nx t)) := by
  intro g g' hpc hf hg
  obtain ⟨pc', L, st, h⟩ := g
  obtain rfl : pc' = pc := hpc
  obtain ⟨b, g1, g2, ef, hb⟩ := q_rs_ok hf
  unfold q_ald at ef
  dsimp only at ef
  split at ef
  · rename_i i a r
    split at ef
    · rename_i u n f ea
      split at ef
      · rename_i eu
        cases ef; subst eu
        rcases hb with ⟨hb, rfl⟩ | ⟨-, hb⟩
        · have hin := q_in_vp hb
          refine ⟨⟨⟨hg.1, q_okcons (q_ok_int _ _) (q_ok2 hg.2.1), hg.2.2⟩, Nat.le_refl _, Nat.le_refl _, Nat.le_refl _⟩, ?_⟩
          intro p l e R s m args below meth c Q D cA A k0 n0 α hC hR1 hR2 hτ hk' hn kk H locs ls cells slots hP hD hS hl ek en
          subst hx
          rcases q_ar_out ea with ⟨hlt, eT⟩ | ⟨eq, e2⟩
          · have hT := hTB a _ n f _ A s s.heap eT ht hC.2.2.2.2.2.2.2.1
            rw [← hτ a hlt] at hT
            exact va_ti hC.1 hC.2.1 hT hS hin rfl hdg (kk α q_ag.rf H locs ls cells slots hP hD hS hl ek en)
          · have hw0 := q_w_get (cA := cA) (α := α) e2
            rw [← eq] at hw0
            exact va_iald hC.1 hC.2.1 hC.2.2.2.2.2.1 hP _ _ hw0 (q_T_at ht) hin hdg (kk α q_ag.rf H locs ls cells slots hP hD hS hl ek en)
        · cases hb
      · cases ef
    · cases ef
  · cases ef
theorem q_baload {t : Nat} (hTB : q_TB TB tyl GF τ) (hdg : decode cc pc = .ok (.baload, 1)) (ht : tyl[t]? = some .byte) (hx : nx = pc + 1) : q_J WU cl tyl GF τ own mname cc nL pc (q_rs (q_ald TB nx t)) := by
  intro g g' hpc hf hg
  obtain ⟨pc', L, st, h⟩ := g
  obtain rfl : pc' = pc := hpc
  obtain ⟨b, g1, g2, ef, hb⟩ := q_rs_ok hf
  unfold q_ald at ef
  dsimp only at ef
  split at ef
  · rename_i i a r
    split at ef
    · rename_i u n f ea
      split at ef
      · rename_i eu
        cases ef; subst eu
        rcases hb with ⟨hb, rfl⟩ | ⟨-, hb⟩
        · have hin := q_in_vp hb
          refine ⟨⟨⟨hg.1, q_okcons (q_ok_int _ _) (q_ok2 hg.2.1), hg.2.2⟩, Nat.le_refl _, Nat.le_refl _, Nat.le_refl _⟩, ?_⟩
          intro p l e R s m args below meth c Q D cA A k0 n0 α hC hR1 hR2 hτ hk' hn kk H locs ls cells slots hP hD hS hl ek en
          subst hx
          rcases q_ar_out ea with ⟨hlt, eT⟩ | ⟨eq, e2⟩
          · have hT := hTB a _ n f _ A s s.heap eT ht hC.2.2.2.2.2.2.2.1
            rw [← hτ a hlt] at hT
            exact va_tb hC.1 hC.2.1 hT hS hin rfl hdg (kk α q_ag.rf H locs ls cells slots hP hD hS hl ek en)
          · have hw0 := q_w_get (cA := cA) (α := α) e2
            rw [← eq] at hw0
            exact va_bald hC.1 hC.2.1 hC.2.2.2.2.2.1 hP _ _ hw0 (q_T_at ht) hin hdg (kk α q_ag.rf H locs ls cells slots hP hD hS hl ek en)
        · cases hb
      · cases ef
    · cases ef
  · cases ef
theorem q_zaload {t : Nat} (hTB : q_TB TB tyl GF τ) (hdg : decode cc pc = .ok (.baload, 1)) (ht : tyl[t]? = some .boolean) (hx : nx = pc + 1) : q_J WU cl tyl GF τ own mname cc nL pc (q_rs (q_ald TB nx t)) := by
  intro g g' hpc hf hg
  obtain ⟨pc', L, st, h⟩ := g
  obtain rfl : pc' = pc := hpc
  obtain ⟨b, g1, g2, ef, hb⟩ := q_rs_ok hf
  unfold q_ald at ef
  dsimp only at ef
  split at ef
  · rename_i i a r
    split at ef
    · rename_i u n f ea
      split at ef
      · rename_i eu
        cases ef; subst eu
        rcases hb with ⟨hb, rfl⟩ | ⟨-, hb⟩
        · have hin := q_in_vp hb
          refine ⟨⟨⟨hg.1, q_okcons (q_ok_int _ _) (q_ok2 hg.2.1), hg.2.2⟩, Nat.le_refl _, Nat.le_refl _, Nat.le_refl _⟩, ?_⟩
          intro p l e R s m args below meth c Q D cA A k0 n0 α hC hR1 hR2 hτ hk' hn kk H locs ls cells slots hP hD hS hl ek en
          subst hx
          rcases q_ar_out ea with ⟨hlt, eT⟩ | ⟨eq, e2⟩
          · have hT := hTB a _ n f _ A s s.heap eT ht hC.2.2.2.2.2.2.2.1
            rw [← hτ a hlt] at hT
            exact va_tz hC.1 hC.2.1 hT hS hin rfl hdg (kk α q_ag.rf H locs ls cells slots hP hD hS hl ek en)
          · have hw0 := q_w_get (cA := cA) (α := α) e2
            rw [← eq] at hw0
            exact va_zald hC.1 hC.2.1 hC.2.2.2.2.2.1 hP _ _ hw0 (q_T_at ht) hin hdg (kk α q_ag.rf H locs ls cells slots hP hD hS hl ek en)
        · cases hb
      · cases ef
    · cases ef
  · cases ef
theorem q_caload {t : Nat} (hTB : q_TB TB tyl GF τ) (hdg : decode cc pc = .ok (.caload, 1)) (ht : tyl[t]? = some .char) (hx : nx = pc + 1) : q_J WU cl tyl GF τ own mname cc nL pc (q_rs (q_ald TB nx t)) := by
  intro g g' hpc hf hg
  obtain ⟨pc', L, st, h⟩ := g
  obtain rfl : pc' = pc := hpc
  obtain ⟨b, g1, g2, ef, hb⟩ := q_rs_ok hf
  unfold q_ald at ef
  dsimp only at ef
  split at ef
  · rename_i i a r
    split at ef
    · rename_i u n f ea
      split at ef
      · rename_i eu
        cases ef; subst eu
        rcases hb with ⟨hb, rfl⟩ | ⟨-, hb⟩
        · have hin := q_in_vp hb
          refine ⟨⟨⟨hg.1, q_okcons (q_ok_int _ _) (q_ok2 hg.2.1), hg.2.2⟩, Nat.le_refl _, Nat.le_refl _, Nat.le_refl _⟩, ?_⟩
          intro p l e R s m args below meth c Q D cA A k0 n0 α hC hR1 hR2 hτ hk' hn kk H locs ls cells slots hP hD hS hl ek en
          subst hx
          rcases q_ar_out ea with ⟨hlt, eT⟩ | ⟨eq, e2⟩
          · have hT := hTB a _ n f _ A s s.heap eT ht hC.2.2.2.2.2.2.2.1
            rw [← hτ a hlt] at hT
            exact va_tc hC.1 hC.2.1 hT hS hin rfl hdg (kk α q_ag.rf H locs ls cells slots hP hD hS hl ek en)
          · have hw0 := q_w_get (cA := cA) (α := α) e2
            rw [← eq] at hw0
            exact va_cald hC.1 hC.2.1 hC.2.2.2.2.2.1 hP _ _ hw0 (q_T_at ht) hin hdg (kk α q_ag.rf H locs ls cells slots hP hD hS hl ek en)
        · cases hb
      · cases ef
    · cases ef
  · cases ef
theorem q_iastore {t : Nat} (hdg : decode cc pc = .ok (.iastore, 1)) (ht : tyl[t]? = some .int) (hx : nx = pc + 1) : q_J WU cl tyl GF τ own mname cc nL pc (q_rs (q_ast nx t fun x => x)) := by
  intro g g' hpc hf hg
  obtain ⟨pc', L, st, h⟩ := g
  obtain rfl : pc' = pc := hpc
  obtain ⟨b, g1, g2, ef, hb⟩ := q_rs_ok hf
  unfold q_ast at ef
  dsimp only at ef
  split at ef
  · rename_i x i a r
    split at ef
    · rename_i u n f e1
      split at ef
      · rename_i eu
        cases ef; subst eu
        rcases hb with ⟨hb, rfl⟩ | ⟨-, hb⟩
        · have hin := q_in_vp hb
          obtain ⟨ea, e2⟩ := q_at_in e1
          have hcell : q_okc h.1.length (.inl (u, n, .inl (upd f i.toNatClampNeg x)) : q_C) := trivial
          have hlen2 : (h.1.set (a - 64) (.inl (u, n, .inl (upd f i.toNatClampNeg x)) : q_C)).length = h.1.length := List.length_set
          refine ⟨⟨⟨?_, ?_, hg.2.2.set _ hcell⟩, by show _ ≤ (h.1.set _ _).length; rw [List.length_set]; exact Nat.le_refl _, Nat.le_refl _, Nat.le_refl _⟩, ?_⟩
          · show ∀ q ∈ L, q_ok (h.1.set (a - 64) (.inl (u, n, .inl (upd f i.toNatClampNeg x)) : q_C)).length q.2
            rw [hlen2]; exact hg.1
          · show ∀ v' ∈ r, q_ok (h.1.set (a - 64) (.inl (u, n, .inl (upd f i.toNatClampNeg x)) : q_C)).length v'
            rw [hlen2]; exact q_ok1 (q_ok2 hg.2.1)
          intro p l e R s m args below meth c Q D cA A k0 n0 α hC hR1 hR2 hτ hk' hn kk H locs ls cells slots hP hD hS hl ek en
          have hw0 := q_w_get (cA := cA) (α := α) e2
          rw [← ea] at hw0
          subst hx
          have hset : (q_w cA α h.1).set (a - 64) (α a, q_e cA α (.inl (u, n, .inl (upd f i.toNatClampNeg x)) : q_C)) = q_w cA α (h.1.set (a - 64) (.inl (u, n, .inl (upd f i.toNatClampNeg x)) : q_C)) := by
            rw [← q_w_set, ← ea]
          refine va_iast hC.1 hC.2.1 hC.2.2.2.2.2.1 hP hD hS _ _ hw0 (q_T_at ht) hin hdg (fun H1 locs1 hP1 hD1 hS1 => ?_)
          have hP2 : va_P D cl ((q_w cA α h.1).set (a - 64) (α a, q_e cA α (.inl (u, n, .inl (upd f i.toNatClampNeg x)) : q_C))) H1 := hP1
          have hD2 : va_D A ((q_w cA α h.1).set (a - 64) (α a, q_e cA α (.inl (u, n, .inl (upd f i.toNatClampNeg x)) : q_C))) := hD1
          rw [hset] at hP2 hD2
          exact kk α q_ag.rf H1 locs1 ls cells slots hP2 hD2 hS1 hl ek en
        · cases hb
      · cases ef
    · cases ef
  · cases ef
theorem q_bastore {t : Nat} (hdg : decode cc pc = .ok (.bastore, 1)) (ht : tyl[t]? = some .byte) (hx : nx = pc + 1) : q_J WU cl tyl GF τ own mname cc nL pc (q_rs (q_ast nx t (vp_nar .byte))) := by
  intro g g' hpc hf hg
  obtain ⟨pc', L, st, h⟩ := g
  obtain rfl : pc' = pc := hpc
  obtain ⟨b, g1, g2, ef, hb⟩ := q_rs_ok hf
  unfold q_ast at ef
  dsimp only at ef
  split at ef
  · rename_i x i a r
    split at ef
    · rename_i u n f e1
      split at ef
      · rename_i eu
        cases ef; subst eu
        rcases hb with ⟨hb, rfl⟩ | ⟨-, hb⟩
        · have hin := q_in_vp hb
          obtain ⟨ea, e2⟩ := q_at_in e1
          have hcell : q_okc h.1.length (.inl (u, n, .inl (upd f i.toNatClampNeg (vp_nar .byte x))) : q_C) := trivial
          have hlen2 : (h.1.set (a - 64) (.inl (u, n, .inl (upd f i.toNatClampNeg (vp_nar .byte x))) : q_C)).length = h.1.length := List.length_set
          refine ⟨⟨⟨?_, ?_, hg.2.2.set _ hcell⟩, by show _ ≤ (h.1.set _ _).length; rw [List.length_set]; exact Nat.le_refl _, Nat.le_refl _, Nat.le_refl _⟩, ?_⟩
          · show ∀ q ∈ L, q_ok (h.1.set (a - 64) (.inl (u, n, .inl (upd f i.toNatClampNeg (vp_nar .byte x))) : q_C)).length q.2
            rw [hlen2]; exact hg.1
          · show ∀ v' ∈ r, q_ok (h.1.set (a - 64) (.inl (u, n, .inl (upd f i.toNatClampNeg (vp_nar .byte x))) : q_C)).length v'
            rw [hlen2]; exact q_ok1 (q_ok2 hg.2.1)
          intro p l e R s m args below meth c Q D cA A k0 n0 α hC hR1 hR2 hτ hk' hn kk H locs ls cells slots hP hD hS hl ek en
          have hw0 := q_w_get (cA := cA) (α := α) e2
          rw [← ea] at hw0
          subst hx
          have hset : (q_w cA α h.1).set (a - 64) (α a, q_e cA α (.inl (u, n, .inl (upd f i.toNatClampNeg (vp_nar .byte x))) : q_C)) = q_w cA α (h.1.set (a - 64) (.inl (u, n, .inl (upd f i.toNatClampNeg (vp_nar .byte x))) : q_C)) := by
            rw [← q_w_set, ← ea]
          refine va_bast hC.1 hC.2.1 hC.2.2.2.2.2.1 hP hD hS _ _ hw0 (q_T_at ht) hin hdg (fun H1 locs1 hP1 hD1 hS1 => ?_)
          have hP2 : va_P D cl ((q_w cA α h.1).set (a - 64) (α a, q_e cA α (.inl (u, n, .inl (upd f i.toNatClampNeg (vp_nar .byte x))) : q_C))) H1 := hP1
          have hD2 : va_D A ((q_w cA α h.1).set (a - 64) (α a, q_e cA α (.inl (u, n, .inl (upd f i.toNatClampNeg (vp_nar .byte x))) : q_C))) := hD1
          rw [hset] at hP2 hD2
          exact kk α q_ag.rf H1 locs1 ls cells slots hP2 hD2 hS1 hl ek en
        · cases hb
      · cases ef
    · cases ef
  · cases ef
theorem q_zastore {t : Nat} (hdg : decode cc pc = .ok (.bastore, 1)) (ht : tyl[t]? = some .boolean) (hx : nx = pc + 1) : q_J WU cl tyl GF τ own mname cc nL pc (q_rs (q_ast nx t (vp_nar .boolean))) := by
  intro g g' hpc hf hg
  obtain ⟨pc', L, st, h⟩ := g
  obtain rfl : pc' = pc := hpc
  obtain ⟨b, g1, g2, ef, hb⟩ := q_rs_ok hf
  unfold q_ast at ef
  dsimp only at ef
  split at ef
  · rename_i x i a r
    split at ef
    · rename_i u n f e1
      split at ef
      · rename_i eu
        cases ef; subst eu
        rcases hb with ⟨hb, rfl⟩ | ⟨-, hb⟩
        · have hin := q_in_vp hb
          obtain ⟨ea, e2⟩ := q_at_in e1
          have hcell : q_okc h.1.length (.inl (u, n, .inl (upd f i.toNatClampNeg (vp_nar .boolean x))) : q_C) := trivial
          have hlen2 : (h.1.set (a - 64) (.inl (u, n, .inl (upd f i.toNatClampNeg (vp_nar .boolean x))) : q_C)).length = h.1.length := List.length_set
          refine ⟨⟨⟨?_, ?_, hg.2.2.set _ hcell⟩, by show _ ≤ (h.1.set _ _).length; rw [List.length_set]; exact Nat.le_refl _, Nat.le_refl _, Nat.le_refl _⟩, ?_⟩
          · show ∀ q ∈ L, q_ok (h.1.set (a - 64) (.inl (u, n, .inl (upd f i.toNatClampNeg (vp_nar .boolean x))) : q_C)).length q.2
            rw [hlen2]; exact hg.1
          · show ∀ v' ∈ r, q_ok (h.1.set (a - 64) (.inl (u, n, .inl (upd f i.toNatClampNeg (vp_nar .boolean x))) : q_C)).length v'
            rw [hlen2]; exact q_ok1 (q_ok2 hg.2.1)
          intro p l e R s m args below meth c Q D cA A k0 n0 α hC hR1 hR2 hτ hk' hn kk H locs ls cells slots hP hD hS hl ek en
          have hw0 := q_w_get (cA := cA) (α := α) e2
          rw [← ea] at hw0
          subst hx
          have hset : (q_w cA α h.1).set (a - 64) (α a, q_e cA α (.inl (u, n, .inl (upd f i.toNatClampNeg (vp_nar .boolean x))) : q_C)) = q_w cA α (h.1.set (a - 64) (.inl (u, n, .inl (upd f i.toNatClampNeg (vp_nar .boolean x))) : q_C)) := by
            rw [← q_w_set, ← ea]
          refine va_zast hC.1 hC.2.1 hC.2.2.2.2.2.1 hP hD hS _ _ hw0 (q_T_at ht) hin hdg (fun H1 locs1 hP1 hD1 hS1 => ?_)
          have hP2 : va_P D cl ((q_w cA α h.1).set (a - 64) (α a, q_e cA α (.inl (u, n, .inl (upd f i.toNatClampNeg (vp_nar .boolean x))) : q_C))) H1 := hP1
          have hD2 : va_D A ((q_w cA α h.1).set (a - 64) (α a, q_e cA α (.inl (u, n, .inl (upd f i.toNatClampNeg (vp_nar .boolean x))) : q_C))) := hD1
          rw [hset] at hP2 hD2
          exact kk α q_ag.rf H1 locs1 ls cells slots hP2 hD2 hS1 hl ek en
        · cases hb
      · cases ef
    · cases ef
  · cases ef
theorem q_castore {t : Nat} (hdg : decode cc pc = .ok (.castore, 1)) (ht : tyl[t]? = some .char) (hx : nx = pc + 1) : q_J WU cl tyl GF τ own mname cc nL pc (q_rs (q_ast nx t (vp_nar .char))) := by
  intro g g' hpc hf hg
  obtain ⟨pc', L, st, h⟩ := g
  obtain rfl : pc' = pc := hpc
  obtain ⟨b, g1, g2, ef, hb⟩ := q_rs_ok hf
  unfold q_ast at ef
  dsimp only at ef
  split at ef
  · rename_i x i a r
    split at ef
    · rename_i u n f e1
      split at ef
      · rename_i eu
        cases ef; subst eu
        rcases hb with ⟨hb, rfl⟩ | ⟨-, hb⟩
        · have hin := q_in_vp hb
          obtain ⟨ea, e2⟩ := q_at_in e1
          have hcell : q_okc h.1.length (.inl (u, n, .inl (upd f i.toNatClampNeg (vp_nar .char x))) : q_C) := trivial
          have hlen2 : (h.1.set (a - 64) (.inl (u, n, .inl (upd f i.toNatClampNeg (vp_nar .char x))) : q_C)).length = h.1.length := List.length_set
          refine ⟨⟨⟨?_, ?_, hg.2.2.set _ hcell⟩, by show _ ≤ (h.1.set _ _).length; rw [List.length_set]; exact Nat.le_refl _, Nat.le_refl _, Nat.le_refl _⟩, ?_⟩
          · show ∀ q ∈ L, q_ok (h.1.set (a - 64) (.inl (u, n, .inl (upd f i.toNatClampNeg (vp_nar .char x))) : q_C)).length q.2
            rw [hlen2]; exact hg.1
          · show ∀ v' ∈ r, q_ok (h.1.set (a - 64) (.inl (u, n, .inl (upd f i.toNatClampNeg (vp_nar .char x))) : q_C)).length v'
            rw [hlen2]; exact q_ok1 (q_ok2 hg.2.1)
          intro p l e R s m args below meth c Q D cA A k0 n0 α hC hR1 hR2 hτ hk' hn kk H locs ls cells slots hP hD hS hl ek en
          have hw0 := q_w_get (cA := cA) (α := α) e2
          rw [← ea] at hw0
          subst hx
          have hset : (q_w cA α h.1).set (a - 64) (α a, q_e cA α (.inl (u, n, .inl (upd f i.toNatClampNeg (vp_nar .char x))) : q_C)) = q_w cA α (h.1.set (a - 64) (.inl (u, n, .inl (upd f i.toNatClampNeg (vp_nar .char x))) : q_C)) := by
            rw [← q_w_set, ← ea]
          refine va_cast hC.1 hC.2.1 hC.2.2.2.2.2.1 hP hD hS _ _ hw0 (q_T_at ht) hin hdg (fun H1 locs1 hP1 hD1 hS1 => ?_)
          have hP2 : va_P D cl ((q_w cA α h.1).set (a - 64) (α a, q_e cA α (.inl (u, n, .inl (upd f i.toNatClampNeg (vp_nar .char x))) : q_C))) H1 := hP1
          have hD2 : va_D A ((q_w cA α h.1).set (a - 64) (α a, q_e cA α (.inl (u, n, .inl (upd f i.toNatClampNeg (vp_nar .char x))) : q_C))) := hD1
          rw [hset] at hP2 hD2
          exact kk α q_ag.rf H1 locs1 ls cells slots hP2 hD2 hS1 hl ek en
        · cases hb
      · cases ef
    · cases ef
  · cases ef
theorem q_lastore {t : Nat} (hdg : decode cc pc = .ok (.lastore, 1)) (ht : tyl[t]? = some .long) (hx : nx = pc + 1) : q_J WU cl tyl GF τ own mname cc nL pc (q_rs (q_lst nx t)) := by
  intro g g' hpc hf hg
  obtain ⟨pc', L, st, h⟩ := g
  obtain rfl : pc' = pc := hpc
  obtain ⟨b, g1, g2, ef, hb⟩ := q_rs_ok hf
  unfold q_lst at ef
  dsimp only at ef
  split at ef
  · rename_i x i a r
    split at ef
    · rename_i u n f e1
      split at ef
      · rename_i eu
        cases ef; subst eu
        rcases hb with ⟨hb, rfl⟩ | ⟨-, hb⟩
        · have hin := q_in_vp hb
          obtain ⟨ea, e2⟩ := q_at_in e1
          have hcell : q_okc h.1.length (.inl (u, n, .inr (.inl (vp_updL f i.toNatClampNeg x))) : q_C) := trivial
          have hlen2 : (h.1.set (a - 64) (.inl (u, n, .inr (.inl (vp_updL f i.toNatClampNeg x))) : q_C)).length = h.1.length := List.length_set
          refine ⟨⟨⟨?_, ?_, hg.2.2.set _ hcell⟩, by show _ ≤ (h.1.set _ _).length; rw [List.length_set]; exact Nat.le_refl _, Nat.le_refl _, Nat.le_refl _⟩, ?_⟩
          · show ∀ q ∈ L, q_ok (h.1.set (a - 64) (.inl (u, n, .inr (.inl (vp_updL f i.toNatClampNeg x))) : q_C)).length q.2
            rw [hlen2]; exact hg.1
          · show ∀ v' ∈ r, q_ok (h.1.set (a - 64) (.inl (u, n, .inr (.inl (vp_updL f i.toNatClampNeg x))) : q_C)).length v'
            rw [hlen2]; exact q_ok1 (q_ok2 hg.2.1)
          intro p l e R s m args below meth c Q D cA A k0 n0 α hC hR1 hR2 hτ hk' hn kk H locs ls cells slots hP hD hS hl ek en
          have hw0 := q_w_get (cA := cA) (α := α) e2
          rw [← ea] at hw0
          subst hx
          have hset : (q_w cA α h.1).set (a - 64) (α a, q_e cA α (.inl (u, n, .inr (.inl (vp_updL f i.toNatClampNeg x))) : q_C)) = q_w cA α (h.1.set (a - 64) (.inl (u, n, .inr (.inl (vp_updL f i.toNatClampNeg x))) : q_C)) := by
            rw [← q_w_set, ← ea]
          refine va_last hC.1 hC.2.1 hC.2.2.2.2.2.1 hP hD hS _ _ hw0 (q_T_at ht) hin hdg (fun H1 locs1 hP1 hD1 hS1 => ?_)
          have hP2 : va_P D cl ((q_w cA α h.1).set (a - 64) (α a, q_e cA α (.inl (u, n, .inr (.inl (vp_updL f i.toNatClampNeg x))) : q_C))) H1 := hP1
          have hD2 : va_D A ((q_w cA α h.1).set (a - 64) (α a, q_e cA α (.inl (u, n, .inr (.inl (vp_updL f i.toNatClampNeg x))) : q_C))) := hD1
          rw [hset] at hP2 hD2
          exact kk α q_ag.rf H1 locs1 ls cells slots hP2 hD2 hS1 hl ek en
        · cases hb
      · cases ef
    · cases ef
  · cases ef
theorem q_laload {t : Nat} (hdg : decode cc pc = .ok (.laload, 1)) (ht : tyl[t]? = some .long) (hx : nx = pc + 1) : q_J WU cl tyl GF τ own mname cc nL pc (q_rs (q_lld nx t)) := by
  intro g g' hpc hf hg
  obtain ⟨pc', L, st, h⟩ := g
  obtain rfl : pc' = pc := hpc
  obtain ⟨b, g1, g2, ef, hb⟩ := q_rs_ok hf
  unfold q_lld at ef
  dsimp only at ef
  split at ef
  · rename_i i a r
    split at ef
    · rename_i u n f e1
      split at ef
      · rename_i eu
        cases ef; subst eu
        rcases hb with ⟨hb, rfl⟩ | ⟨-, hb⟩
        · have hin := q_in_vp hb
          obtain ⟨ea, e2⟩ := q_at_in e1
          refine ⟨⟨⟨hg.1, q_okcons (q_ok_long _ _) (q_ok2 hg.2.1), hg.2.2⟩, Nat.le_refl _, Nat.le_refl _, Nat.le_refl _⟩, ?_⟩
          intro p l e R s m args below meth c Q D cA A k0 n0 α hC hR1 hR2 hτ hk' hn kk H locs ls cells slots hP hD hS hl ek en
          have hw0 := q_w_get (cA := cA) (α := α) e2
          rw [← ea] at hw0
          subst hx
          exact va_lald hC.1 hC.2.1 hC.2.2.2.2.2.1 hP _ _ hw0 (q_T_at ht) hin hdg (kk α q_ag.rf H locs ls cells slots hP hD hS hl ek en)
        · cases hb
      · cases ef
    · cases ef
  · cases ef
theorem q_rf_v (α : Nat → Nat) (o : Option Nat) : va_rf (o.map α) = q_v α (va_rf o) := by cases o <;> rfl
theorem q_aaload {t : Nat} {C : String} (hdg : decode cc pc = .ok (.aaload, 1)) (ht : tyl[t]? = some (.object C)) (hx : nx = pc + 1) : q_J WU cl tyl GF τ own mname cc nL pc (q_rs (q_qld nx t)) := by
  intro g g' hpc hf hg
  obtain ⟨pc', L, st, h⟩ := g
  obtain rfl : pc' = pc := hpc
  obtain ⟨b, g1, g2, ef, hb⟩ := q_rs_ok hf
  unfold q_qld at ef
  dsimp only at ef
  split at ef
  · rename_i i a r
    split at ef
    · rename_i u n f e1
      split at ef
      · rename_i eu
        cases ef; subst eu
        rcases hb with ⟨hb, rfl⟩ | ⟨-, hb⟩
        · have hin := q_in_vp hb
          obtain ⟨ea, e2⟩ := q_at_in e1
          have hf2 : ∀ j a, f j = some a → a < 64 + h.1.length := hg.2.2 _ (List.mem_of_getElem? e2)
          have hv : q_ok h.1.length (va_rf (f i.toNatClampNeg)) := by
            cases hj : f i.toNatClampNeg with
            | none => exact q_ok_null _
            | some b => exact fun b2 hb2 => by cases hb2; exact hf2 _ _ hj
          refine ⟨⟨⟨hg.1, q_okcons hv (q_ok2 hg.2.1), hg.2.2⟩, Nat.le_refl _, Nat.le_refl _, Nat.le_refl _⟩, ?_⟩
          intro p l e R s m args below meth c Q D cA A k0 n0 α hC hR1 hR2 hτ hk' hn kk H locs ls cells slots hP hD hS hl ek en
          have hw0 := q_w_get (cA := cA) (α := α) e2
          rw [← ea] at hw0
          subst hx
          have k2 := kk α q_ag.rf H locs ls cells slots hP hD hS hl ek en
          dsimp only at k2
          rw [List.map_cons, ← q_rf_v] at k2
          exact va_aldq hC.1 hC.2.1 hC.2.2.2.2.2.1 hP _ _ hw0 (q_T_at ht) hin hdg k2
        · cases hb
      · cases ef
    · cases ef
  · cases ef
theorem q_aastore {t ci : Nat} {r : vw_C} (hdg : decode cc pc = .ok (.aastore, 1)) (ht : tyl[t]? = some (.object r.1)) (hc : cl[ci]? = some r) (hx : nx = pc + 1) : q_J WU cl tyl GF τ own mname cc nL pc (q_rs (q_qst nx t ci)) := by
  intro g g' hpc hf hg
  obtain ⟨pc', L, st, h⟩ := g
  obtain rfl : pc' = pc := hpc
  obtain ⟨b, g1, g2, ef, hb⟩ := q_rs_ok hf
  unfold q_qst at ef
  dsimp only at ef
  split at ef
  · rename_i v i a r'
    split at ef
    · rename_i u n f cj fs e1 e3
      split at ef
      · rename_i eu
        cases ef
        obtain ⟨rfl, rfl⟩ := eu
        rcases hb with ⟨hb, rfl⟩ | ⟨-, hb⟩
        · have hin := q_in_vp hb
          obtain ⟨ea, e2⟩ := q_at_in e1
          obtain ⟨ev, e4⟩ := q_at_in e3
          have hf2 : ∀ j a, f j = some a → a < 64 + h.1.length := hg.2.2 _ (List.mem_of_getElem? e2)
          have hv : v < 64 + h.1.length := q_ok0 hg.2.1 v rfl
          have hcell : q_okc h.1.length (.inl (u, n, .inr (.inr (.inr (.inr (va_up f i.toNatClampNeg (some v)))))) : q_C) := fun j b hj => by
            unfold va_up at hj
            split at hj
            · cases hj; exact hv
            · exact hf2 _ _ hj
          have hlen2 : (h.1.set (a - 64) (.inl (u, n, .inr (.inr (.inr (.inr (va_up f i.toNatClampNeg (some v)))))) : q_C)).length = h.1.length := List.length_set
          refine ⟨⟨⟨?_, ?_, hg.2.2.set _ hcell⟩, by show _ ≤ (h.1.set _ _).length; rw [List.length_set]; exact Nat.le_refl _, Nat.le_refl _, Nat.le_refl _⟩, ?_⟩
          · show ∀ q ∈ L, q_ok (h.1.set (a - 64) (.inl (u, n, .inr (.inr (.inr (.inr (va_up f i.toNatClampNeg (some v)))))) : q_C)).length q.2
            rw [hlen2]; exact hg.1
          · show ∀ v' ∈ r', q_ok (h.1.set (a - 64) (.inl (u, n, .inr (.inr (.inr (.inr (va_up f i.toNatClampNeg (some v)))))) : q_C)).length v'
            rw [hlen2]; exact q_ok1 (q_ok2 hg.2.1)
          intro p l e R s m args below meth c Q D cA A k0 n0 α hC hR1 hR2 hτ hk' hn kk H locs ls cells slots hP hD hS hl ek en
          have hw0 := q_w_get (cA := cA) (α := α) e2
          rw [← ea] at hw0
          have hw1 := q_w_get (cA := cA) (α := α) e4
          rw [← ev] at hw1
          subst hx
          have hset : (q_w cA α h.1).set (a - 64) (α a, q_e cA α (.inl (u, n, .inr (.inr (.inr (.inr (va_up f i.toNatClampNeg (some v)))))) : q_C)) = q_w cA α (h.1.set (a - 64) (.inl (u, n, .inr (.inr (.inr (.inr (va_up f i.toNatClampNeg (some v)))))) : q_C)) := by
            rw [← q_w_set, ← ea]
          have hup : (fun j => (va_up f i.toNatClampNeg (some v) j).map α) = va_up (fun j => (f j).map α) i.toNatClampNeg (some (α v)) := by
            funext j
            unfold va_up
            split <;> rfl
          refine va_astq hC.1 hC.2.1 hC.2.2.2.2.2.1 hP hD hS _ _ _ _ hw0 (q_T_at ht) hw1 hc hin hdg (fun H1 locs1 hP1 hD1 hS1 => ?_)
          rw [← hup] at hP1 hD1
          have hP2 : va_P D cl ((q_w cA α h.1).set (a - 64) (α a, q_e cA α (.inl (u, n, .inr (.inr (.inr (.inr (va_up f i.toNatClampNeg (some v)))))) : q_C))) H1 := hP1
          have hD2 : va_D A ((q_w cA α h.1).set (a - 64) (α a, q_e cA α (.inl (u, n, .inr (.inr (.inr (.inr (va_up f i.toNatClampNeg (some v)))))) : q_C))) := hD1
          rw [hset] at hP2 hD2
          exact kk α q_ag.rf H1 locs1 ls cells slots hP2 hD2 hS1 hl ek en
        · cases hb
      · cases ef
    · cases ef
  · cases ef
theorem q_arraylength {t : Nat} {ty : FieldType} (hTB : q_TB TB tyl GF τ) (ht : tyl[t]? = some ty) (hdg : decode cc pc = .ok (.arraylength, 1)) (hx : nx = pc + 1) : q_J WU cl tyl GF τ own mname cc nL pc (q_aln TB nx t) := by
  intro g g' hpc hf hg
  obtain ⟨pc', L, st, h⟩ := g
  obtain rfl : pc' = pc := hpc
  unfold q_aln at hf
  dsimp only at hf
  split at hf
  · rename_i a r
    split at hf
    · rename_i hlt
      split at hf
      · rename_i u n f eT
        split at hf
        · rename_i eu
          cases hf; subst eu
          refine ⟨⟨⟨hg.1, q_okcons (q_ok_int _ _) (q_ok1 hg.2.1), hg.2.2⟩, Nat.le_refl _, Nat.le_refl _, Nat.le_refl _⟩, ?_⟩
          intro p l e R s m args below meth c Q D cA A k0 n0 α hC hR1 hR2 hτ hk' hn kk H locs ls cells slots hP hD hS hl ek en
          subst hx
          have hT := hTB a _ n f _ A s s.heap eT ht hC.2.2.2.2.2.2.2.1
          rw [← hτ a hlt] at hT
          exact va_tlen hC.1 hC.2.1 hT hS rfl hdg (kk α q_ag.rf H locs ls cells slots hP hD hS hl ek en)
        · cases hf
      · cases hf
    · rename_i hlt
      split at hf
      · rename_i u n x e2
        split at hf
        · rename_i eu
          cases hf; subst eu
          refine ⟨⟨⟨hg.1, q_okcons (q_ok_int _ _) (q_ok1 hg.2.1), hg.2.2⟩, Nat.le_refl _, Nat.le_refl _, Nat.le_refl _⟩, ?_⟩
          intro p l e R s m args below meth c Q D cA A k0 n0 α hC hR1 hR2 hτ hk' hn kk H locs ls cells slots hP hD hS hl ek en
          subst hx
          have hw0 := q_w_get (cA := cA) (α := α) e2
          have ea : 64 + (a - 64) = a := Nat.add_sub_of_le (Nat.not_lt.mp hlt)
          rw [ea] at hw0
          exact va_alen hC.1 hC.2.1 hC.2.2.2.2.2.1 hP _ _ hw0 (q_T_at ht) rfl hdg (kk α q_ag.rf H locs ls cells slots hP hD hS hl ek en)
        · cases hf
      · cases hf
  · cases hf
/-- things made -/
theorem q_pushed {cl : List vw_C} {D : va_G} {cA : Nat → ClassId} {A : Nat → Prop} {nL : Nat} {p : Program} {l : Launch} {e : Env} {R : Room} {s : State} {m : MethodId} {args : Array Value} {below : List Frame} {meth : Method} {c : Code} {Q : State → Prop} {k0 n0 nx N : Nat} {α : Nat → Nat} {L : q_L} {st : List Value} {h : q_H} {d : q_C} (hL : ∀ q ∈ L, q_ok h.1.length q.2) (hst : ∀ v ∈ st, q_ok h.1.length v) (hh : q_okh h.1) (hd : q_okc h.1.length d)
    (kk : ∀ β, q_ag α β h.1.length → q_W cl D cA A nL p l e R s m args below meth c Q k0 n0 β (nx, L, .ref (64 + h.1.length) :: st, h.1 ++ [d], h.2.1 + 1, h.2.2 + N))
    (q : Nat) {H1 : Heap} {locs : List Loc} {ls : Array Slot} {cells slots : Nat} (hP : va_P D cl (q_w cA α h.1 ++ [(q, q_e cA α d)]) H1) (hD : va_D A (q_w cA α h.1 ++ [(q, q_e cA α d)])) (hS : va_S A s.heap H1 locs) (hl : lv_has ls nL (q_l α L)) (ek : k0 + cells = h.2.1) (en : n0 + slots = h.2.2) :
    W p l e R s m args below meth c H1 locs (cells + 1) (slots + N) Q (F0 m nx ls (.ref q :: st.map (q_v α))) := by
  have ag := q_up_ag α h.1.length q
  have k2 := kk (q_up α h.1.length q) ag H1 locs ls (cells + 1) (slots + N)
  dsimp only at k2
  rw [q_w_push hh q d hd, q_l_ag ag hL, List.map_cons, q_v_ref, q_up_at, q_vs_ag ag hst] at k2
  exact k2 hP hD hS hl (by omega) (by omega)
theorem q_newo {idx ci N : Nat} {C : String} {T : u_T} {ty0 : Nat → FieldType} {fs : List Value} (hdg : decode cc pc = .ok (.new idx, 3)) (hc : cl[ci]? = some (C, T, N)) (hin : ∀ w ∈ u_ws C T N, w ∈ WU) (hty : ∀ k, k < N → parseFieldDescriptor (T k).2.2.1 = some (ty0 k)) (hw1 : Cond.classLink own idx C ∈ WU) (hw2 : Cond.instantiable C N ∈ WU) (hw3 : Cond.initialized C ∈ WU) (hfs : ∀ j, j < N → defaultValue (ty0 j) = vp_V fs j) (hnr : ∀ v ∈ fs, ∀ a, ¬ v = .ref a) (hx : nx = pc + 3) :
    q_J WU cl tyl GF τ own mname cc nL pc (q_new nx ci N fs) := by
  intro g g' hpc hf hg
  obtain ⟨pc', L, st, h⟩ := g
  obtain rfl : pc' = pc := hpc
  cases hf
  have hcell : q_okc h.1.length (.inr (ci, fs)) := fun v hv a ha => absurd ha (hnr v hv a)
  have hlen : (h.1 ++ [(.inr (ci, fs) : q_C)]).length = h.1.length + 1 := by simp
  refine ⟨⟨⟨?_, ?_, hg.2.2.push hcell⟩, by show _ ≤ (h.1 ++ [_]).length; rw [hlen]; exact Nat.le_succ _, Nat.le_succ _, Nat.le_add_right _ _⟩, ?_⟩
  · show ∀ q ∈ L, q_ok (h.1 ++ [(.inr (ci, fs) : q_C)]).length q.2
    rw [hlen]; exact fun q hq => (hg.1 q hq).le (Nat.le_succ _)
  · show ∀ v ∈ Value.ref (64 + h.1.length) :: st, q_ok (h.1 ++ [(.inr (ci, fs) : q_C)]).length v
    rw [hlen]; exact q_okcons (fun a ha => by cases ha; exact Nat.lt_succ_self _) (fun v hv => (hg.2.1 v hv).le (Nat.le_succ _))
  intro p l e R s m args below meth c Q D cA A k0 n0 α hC hR1 hR2 hτ hk' hn kk H locs ls cells slots hP hD hS hl ek en
  subst hx
  have hfe : fs.map (q_v α) = fs := by
    have e1 : fs.map (q_v α) = fs.map id := List.map_congr_left fun v hv => by
      have := hnr v hv
      cases v <;> first | rfl | exact absurd rfl (this _)
    rw [e1, List.map_id]
  have hk2 : h.2.1 + 1 ≤ k0 + R.cells := hk'
  have hn2 : h.2.2 + N ≤ n0 + R.slots := hn
  have ek : k0 + cells = h.2.1 := ek
  have en : n0 + slots = h.2.2 := en
  refine va_new hC.1 hC.2.1 hC.2.2.2.2.1 hin ty0 hty hC.2.2.1 (hC.2.2.2.2.1 _ hw1) (hC.2.2.2.2.1 _ hw2) (hC.2.2.2.2.1 _ hw3) hC.2.2.2.2.2.1 hP hD hS hC.2.2.2.2.2.2.1 hc hfs (by omega) (by omega) hdg (fun q H1 hP1 hD1 hS1 => ?_)
  have he : q_e cA α (.inr (ci, fs)) = .inr (ci, fs) := by
    show Sum.inr (ci, fs.map (q_v α)) = _
    rw [hfe]
  rw [← he] at hP1 hD1
  exact q_pushed hg.1 hg.2.1 hg.2.2 hcell kk q hP1 hD1 hS1 hl ek en
theorem q_newarray {at9 : ArrayType} {t : Nat} {ty : FieldType} {z : (Nat → Int32) ⊕ (Nat → Int64) ⊕ (Nat → UInt32) ⊕ (Nat → UInt64) ⊕ (Nat → Option Nat)} (hdg : decode cc pc = .ok (.newarray at9, 2)) (hw : Cond.arrayClass (newarray.typeOf at9) ∈ WU) (hty : newarray.typeOf at9 = ty) (ht : tyl[t]? = some ty) (hno : ∀ C, ¬ ty = .object C) (hb8 : componentBytes ty ≤ 8) (hz : ∀ (cA : ClassId) (N : Nat) (α : Nat → Nat), vp_cell cA (N, q_x α z) = arrV cA N (fun _ => defaultValue ty)) (hz2 : ∀ L, q_okx L z) (hx : nx = pc + 2) :
    q_J WU cl tyl GF τ own mname cc nL pc (q_rs (q_nwa nx t z)) := by
  intro g g' hpc hf hg
  obtain ⟨pc', L, st, h⟩ := g
  obtain rfl : pc' = pc := hpc
  obtain ⟨b, g1, g2, ef, hb⟩ := q_rs_ok hf
  unfold q_nwa at ef
  dsimp only at ef
  split at ef
  · rename_i n r
    cases ef
    rcases hb with ⟨hb, rfl⟩ | ⟨-, hb⟩
    · rw [Bool.and_eq_true] at hb
      obtain ⟨hb1, hb2⟩ := hb
      have hn0 : ¬ n < 0 := fun q => by rw [decide_eq_true q] at hb1; cases hb1
      have hn1 : n.toNatClampNeg ≤ 1000000 := of_decide_eq_true hb2
      have hcell : q_okc h.1.length (.inl (t, n.toNatClampNeg, z)) := hz2 _
      have hlen : (h.1 ++ [(.inl (t, n.toNatClampNeg, z) : q_C)]).length = h.1.length + 1 := by simp
      refine ⟨⟨⟨?_, ?_, hg.2.2.push hcell⟩, by show _ ≤ (h.1 ++ [_]).length; rw [hlen]; exact Nat.le_succ _, Nat.le_succ _, Nat.le_add_right _ _⟩, ?_⟩
      · show ∀ q ∈ L, q_ok (h.1 ++ [(.inl (t, n.toNatClampNeg, z) : q_C)]).length q.2
        rw [hlen]; exact fun q hq => (hg.1 q hq).le (Nat.le_succ _)
      · show ∀ v ∈ Value.ref (64 + h.1.length) :: r, q_ok (h.1 ++ [(.inl (t, n.toNatClampNeg, z) : q_C)]).length v
        rw [hlen]; exact q_okcons (fun a ha => by cases ha; exact Nat.lt_succ_self _) (fun v hv => (q_ok1 hg.2.1 v hv).le (Nat.le_succ _))
      intro p l e R s m args below meth c Q D cA A k0 n0 α hC hR1 hR2 hτ hk' hn kk H locs ls cells slots hP hD hS hl ek en
      subst hx; subst hty
      have hk2 : h.2.1 + 1 ≤ k0 + R.cells := hk'
      have hn2 : h.2.2 + n.toNatClampNeg ≤ n0 + R.slots := hn
      have ek : k0 + cells = h.2.1 := ek
      have en : n0 + slots = h.2.2 := en
      have hmul : n.toNatClampNeg * componentBytes (newarray.typeOf at9) ≤ 536870912 := Nat.le_trans (Nat.mul_le_mul hn1 hb8) (Nat.le_of_ble_eq_true rfl)
      refine va_newaK hC.1 hC.2.1 (hC.2.2.2.2.1 _ hw) rfl hdg rfl hn0 rfl hmul (by omega) (by omega) rfl (fun H1 cA' e1 z1 o1 hAr hNm => ?_)
      have hK := hC.2.2.2.2.2.1
      have hRA := (hK.2 t _ (q_T_at ht)).2
      have hcA : cA' = cA t := by
        have h2 : s.vm.findClass ("[" ++ (newarray.typeOf at9).toString) = some (cA t) := by
          have h3 : va_RA s (cA t) (newarray.typeOf at9) := hRA
          unfold va_RA at h3
          split at h3
          · rename_i C hC9
            exact absurd hC9 (hno C)
          · exact h3
        exact Option.some.inj (hNm.symm.trans h2)
      subst hcA
      have hk : ∀ (k : Nat) (x : Nat × va_E), (q_w cA α h.1)[k]? = some x → H1[x.1]? = H[x.1]? := fun k x hx => o1 x.1 ((hP k x hx).lt)
      have hS2 := hS.1
      have hP1 : va_P D cl (q_w cA α h.1 ++ [(H.size, q_e cA α (.inl (t, n.toNatClampNeg, z)))]) H1 := (hP.kept hk).app (fun k x hx => by
        have hz9 : k < 1 := (List.getElem?_eq_some_iff.mp hx).1
        rw [show k = 0 by omega] at hx
        cases hx
        show H1[H.size]? = some (vp_cell (cA t) (n.toNatClampNeg, q_x α z))
        rw [hz]
        exact e1)
      have hD1 : va_D A (q_w cA α h.1 ++ [(H.size, q_e cA α (.inl (t, n.toNatClampNeg, z)))]) := hD.push hP rfl (hC.2.2.2.2.2.2.1 _ hS2)
      have hS1 : va_S A s.heap H1 locs := ⟨Nat.le_trans hS2 (by omega), fun x h1 h2 => (o1 x (Nat.lt_of_lt_of_le h1 hS2)).trans (hS.2.1 x h1 h2), hS.2.2⟩
      exact q_pushed hg.1 (q_ok1 hg.2.1) hg.2.2 hcell kk H.size hP1 hD1 hS1 hl ek en
    · cases hb
  · cases ef
theorem q_anewarray {idx t : Nat} {C : String} (hAO : ∀ A U H, GF A U H → va_AO C U) (hdg : decode cc pc = .ok (.anewarray idx, 3)) (hw : Cond.classLink own idx C ∈ WU) (ht : tyl[t]? = some (.object C)) (hx : nx = pc + 3) :
    q_J WU cl tyl GF τ own mname cc nL pc (q_rs (q_nwa nx t (.inr (.inr (.inr (.inr fun _ => none)))))) := by
  intro g g' hpc hf hg
  obtain ⟨pc', L, st, h⟩ := g
  obtain rfl : pc' = pc := hpc
  obtain ⟨b, g1, g2, ef, hb⟩ := q_rs_ok hf
  unfold q_nwa at ef
  dsimp only at ef
  split at ef
  · rename_i n r
    cases ef
    rcases hb with ⟨hb, rfl⟩ | ⟨-, hb⟩
    · rw [Bool.and_eq_true] at hb
      obtain ⟨hb1, hb2⟩ := hb
      have hn0 : ¬ n < 0 := fun q => by rw [decide_eq_true q] at hb1; cases hb1
      have hn1 : n.toNatClampNeg ≤ 1000000 := of_decide_eq_true hb2
      have hcell : q_okc h.1.length (.inl (t, n.toNatClampNeg, .inr (.inr (.inr (.inr fun _ => none)))) : q_C) := fun j a hj => by cases hj
      have hlen : (h.1 ++ [(.inl (t, n.toNatClampNeg, .inr (.inr (.inr (.inr fun _ => none)))) : q_C)]).length = h.1.length + 1 := by simp
      refine ⟨⟨⟨?_, ?_, hg.2.2.push hcell⟩, by show _ ≤ (h.1 ++ [_]).length; rw [hlen]; exact Nat.le_succ _, Nat.le_succ _, Nat.le_add_right _ _⟩, ?_⟩
      · show ∀ q ∈ L, q_ok (h.1 ++ [(.inl (t, n.toNatClampNeg, .inr (.inr (.inr (.inr fun _ => none)))) : q_C)]).length q.2
        rw [hlen]; exact fun q hq => (hg.1 q hq).le (Nat.le_succ _)
      · show ∀ v ∈ Value.ref (64 + h.1.length) :: r, q_ok (h.1 ++ [(.inl (t, n.toNatClampNeg, .inr (.inr (.inr (.inr fun _ => none)))) : q_C)]).length v
        rw [hlen]; exact q_okcons (fun a ha => by cases ha; exact Nat.lt_succ_self _) (fun v hv => (q_ok1 hg.2.1 v hv).le (Nat.le_succ _))
      intro p l e R s m args below meth c Q D cA A k0 n0 α hC hR1 hR2 hτ hk' hn kk H locs ls cells slots hP hD hS hl ek en
      subst hx
      have hk2 : h.2.1 + 1 ≤ k0 + R.cells := hk'
      have hn2 : h.2.2 + n.toNatClampNeg ≤ n0 + R.slots := hn
      have ek : k0 + cells = h.2.1 := ek
      have en : n0 + slots = h.2.2 := en
      have hK := hC.2.2.2.2.2.1
      have hmul : n.toNatClampNeg * 4 ≤ 536870912 := Nat.le_trans (Nat.mul_le_mul_right 4 hn1) (Nat.le_of_ble_eq_true rfl)
      refine va_newq hC.1 hC.2.1 hC.2.2.1 (hC.2.2.2.2.1 _ hw) (hAO A s s.heap hC.2.2.2.2.2.2.2.1) hK hP hD hS hC.2.2.2.2.2.2.1 hn0 rfl hmul (by omega) (by omega) hdg (fun q cA' H1 hK1 hP1 hD1 hS1 => ?_)
      have hcA : cA' = cA t := by
        have h3 := (hK1.2 (q_T cA tyl).length (cA', .object C) (by rw [List.getElem?_append_right (Nat.le_refl _), Nat.sub_self]; rfl)).2
        obtain ⟨_, _, _, _, _, h5⟩ := h3
        obtain ⟨_, _, _, _, _, h6⟩ := (hK.2 t _ (q_T_at ht)).2
        exact Option.some.inj (h5.symm.trans h6)
      subst hcA
      have he : q_e cA α (.inl (t, n.toNatClampNeg, .inr (.inr (.inr (.inr fun _ => none))))) = .inl (cA t, n.toNatClampNeg, .inr (.inr (.inr (.inr fun _ => none)))) := rfl
      rw [← he] at hP1 hD1
      exact q_pushed hg.1 (q_ok1 hg.2.1) hg.2.2 hcell kk q hP1 hD1 hS1 hl ek en
    · cases hb
  · cases ef
/-- a static that nobody writes -/
theorem q_getstatic {idx : Nat} {C n d : String} {v : Value} (hv : ∀ a, v = .ref a → a < 64) (hZ : ∀ A U H, GF A U H → va_Z C n d (q_v τ v) A U H) (hdg : decode cc pc = .ok (.getstatic idx, 3)) (hw : Cond.fieldLink own idx C n d ∈ WU) (hx : nx = pc + 3) : q_J WU cl tyl GF τ own mname cc nL pc (q_st nx (q_fk v)) := by
  intro g g' hpc hf hg
  obtain ⟨pc', L, st, h⟩ := g
  obtain rfl : pc' = pc := hpc
  cases hf
  have hv2 : q_ok h.1.length v := fun a ha => Nat.lt_of_lt_of_le (hv a ha) (Nat.le_add_right _ _)
  refine ⟨⟨⟨hg.1, q_okcons hv2 hg.2.1, hg.2.2⟩, Nat.le_refl _, Nat.le_refl _, Nat.le_refl _⟩, ?_⟩
  intro p l e R s m args below meth c Q D cA A k0 n0 α hC hR1 hR2 hτ hk' hn kk H locs ls cells slots hP hD hS hl ek en
  subst hx
  have hvα : q_v τ v = q_v α v := by
    cases v <;> try rfl
    rename_i a
    show Value.ref (τ a) = Value.ref (α a)
    rw [hτ a (hv a rfl)]
  have k2 := kk α q_ag.rf H locs ls cells slots hP hD hS hl ek en
  have hZ2 := hZ A s s.heap hC.2.2.2.2.2.2.2.1
  rw [hvα] at hZ2
  exact va_gets hC.1 hC.2.1 hZ2 hS hC.2.2.1 (hC.2.2.2.2.1 _ hw) (fun _ h9 => h9) hdg k2
end QA

end QH
end
section
-- 06.core
/-! ===== methods of the small machine, and what it is that a method of the machine does as one of the small machine ===== -/
abbrev q_M : Type := MethodName × ByteArray × Nat × Option FieldType × List (Nat × Nat × Nat × Nat) × String
abbrev q_Out : Type := (Option Value ⊕ String) × q_H
abbrev q_E : Type := (q_G → Option q_G) ⊕ (q_G → Option (Bool × q_G × Option q_G)) ⊕ (q_G → Option (Option Value)) ⊕ (q_G → Option String) ⊕ (Nat × (q_G → Option (Nat × List Value × List Value)) × Option (String → Option (Nat × Nat)))
def q_cw (M : q_M) : Cond := match M.2.2.2.2.1 with
  | [] => .code M.1 M.2.1 M.2.2.1 M.2.2.2.1
  | hh => .codeWith M.1 M.2.1 M.2.2.1 M.2.2.2.1 hh
def q_rm (d mc ms : Nat) : Room := { frames := d + 8, cells := mc, slots := ms, locals := 100 * d + 300 }
def q_drop (L : q_L) (i : Nat) : q_L := L.filter (fun q => !(q.1 == i) && !(q.1 + 1 == i && q.2.category == 2))
def q_step (ex : Nat → List Value → q_H → Option q_Out) (tb : Nat → Option q_E) (g : q_G) : Option (q_G ⊕ q_Out) := match tb g.1 with
  | none => none
  | some (.inl f) => match f g with
    | none => none
    | some g' => some (.inl g')
  | some (.inr (.inl f)) => match q_rs f g with
    | none => none
    | some g' => some (.inl g')
  | some (.inr (.inr (.inl f))) => match f g with
    | none => none
    | some v => some (.inr (.inl v, g.2.2.2))
  | some (.inr (.inr (.inr (.inl f)))) => match f g with
    | none => none
    | some E => some (.inr (.inr E, g.2.2.2.1, g.2.2.2.2.1 + 1, g.2.2.2.2.2 + 6))
  | some (.inr (.inr (.inr (.inr (nx, f, hd))))) => match f g with
    | none => none
    | some (k, as, rest) => match ex k as g.2.2.2 with
      | none => none
      | some (.inl v, h) => some (.inl (nx, g.2.1, v.toList ++ rest, h))
      | some (.inr E, h) => match hd with
        | none => some (.inr (.inr E, h))
        | some hf => match hf E with
          | none => none
          | some (tg, i) => some (.inl (tg, q_drop g.2.1 i, [], h))
noncomputable def q_loop (ex : Nat → List Value → q_H → Option q_Out) (tb : Nat → Option q_E) (n : Nat) : q_G → Option q_Out :=
  Nat.rec (motive := fun _ => q_G → Option q_Out) (fun _ => none) (fun _ ih g => match q_step ex tb g with
    | none => none
    | some (.inr o) => some o
    | some (.inl g') => ih g') n
def q_wd (as : List Value) : Nat := match as with
  | [] => 0
  | .long _ :: r => q_wd r + 2
  | .double _ :: r => q_wd r + 2
  | _ :: r => q_wd r + 1
noncomputable def q_exec (mt : Nat → q_M) (mtab : Nat → Nat → Option q_E) (n : Nat) (d : Nat) : Nat → List Value → q_H → Option q_Out :=
  Nat.rec (motive := fun _ => Nat → List Value → q_H → Option q_Out) (fun _ _ _ => none) (fun _ ih k as h => match decide (q_wd as ≤ (mt k).2.2.1) with
    | true => q_loop ih (mtab k) n (0, lv_args 0 as, [], h)
    | false => none) d
theorem q_loop_0 (ex : Nat → List Value → q_H → Option q_Out) (tb : Nat → Option q_E) (g : q_G) : q_loop ex tb 0 g = none := rfl
theorem q_loop_s (ex : Nat → List Value → q_H → Option q_Out) (tb : Nat → Option q_E) (n : Nat) (g : q_G) : q_loop ex tb (n + 1) g = match q_step ex tb g with
    | none => none
    | some (.inr o) => some o
    | some (.inl g') => q_loop ex tb n g' := rfl
theorem q_exec_0 (mt : Nat → q_M) (mtab : Nat → Nat → Option q_E) (n k : Nat) (as : List Value) (h : q_H) : q_exec mt mtab n 0 k as h = none := rfl
theorem q_exec_s {mt : Nat → q_M} {mtab : Nat → Nat → Option q_E} {n d k : Nat} {as : List Value} {h : q_H} (hw : q_wd as ≤ (mt k).2.2.1) : q_exec mt mtab n (d + 1) k as h = q_loop (q_exec mt mtab n d) (mtab k) n (0, lv_args 0 as, [], h) := by
  show (match decide (q_wd as ≤ (mt k).2.2.1) with
    | true => q_loop (q_exec mt mtab n d) (mtab k) n (0, lv_args 0 as, [], h)
    | false => none) = _
  rw [decide_eq_true hw]
theorem q_exec_w {mt : Nat → q_M} {mtab : Nat → Nat → Option q_E} {n d k : Nat} {as : List Value} {h : q_H} {out : q_Out} (e : q_exec mt mtab n (d + 1) k as h = some out) : q_wd as ≤ (mt k).2.2.1 := by
  by_cases hw : q_wd as ≤ (mt k).2.2.1
  · exact hw
  · have e2 : (match decide (q_wd as ≤ (mt k).2.2.1) with
      | true => q_loop (q_exec mt mtab n d) (mtab k) n (0, lv_args 0 as, [], h)
      | false => none) = some out := e
    rw [decide_eq_false hw] at e2
    cases e2
/-- what outside stays as it is -/
def q_GFk (GF : (Nat → Prop) → State → Heap → Prop) : Prop := ∀ (A B : Nat → Prop) (s U : State), GF A s s.heap → s.WarmedH U.vm → (∀ q, B q → A q) → (∀ a, a < s.heap.size → ¬ A a → U.heap[a]? = s.heap[a]?) → GF B U U.heap
/-- a method's start, its return, its throw -/
def q_Pc (cl : List vw_C) (tyl : List FieldType) (GF : (Nat → Prop) → State → Heap → Prop) (D : va_G) (cA : Nat → ClassId) (α : Nat → Nat) (sz : Nat) (as : List Value) (h : q_H) : Array Value → State → Prop :=
  va_Pc (as.map (q_v α)) (fun U => U.heap.size = sz ∧ va_P D cl (q_w cA α h.1) U.heap ∧ va_K D cl (q_T cA tyl) U ∧ va_D (fun _ => True) (q_w cA α h.1) ∧ GF (va_A (q_w cA α h.1) sz) U U.heap)
def q_Qc (cl : List vw_C) (D : va_G) (cA : Nat → ClassId) (α : Nat → Nat) (sz : Nat) (h : q_H) (out : q_Out) : Array Value → State → Outcome → State → Prop := fun _ st o t => match out.1 with
  | .inl v => (∃ β, q_ag α β h.1.length ∧ o = .returned (v.map (q_v β)) ∧ va_P D cl (q_w cA β out.2.1) t.heap ∧ va_D (va_A (q_w cA α h.1) sz) (q_w cA β out.2.1)) ∧ va_F (va_A (q_w cA α h.1) sz) st t
  | .inr _ => False
def q_XC (cl : List vw_C) (D : va_G) (cA : Nat → ClassId) (α : Nat → Nat) (sz : Nat) (h : q_H) (out : q_Out) : String → State → State → Prop := fun E st t => match out.1 with
  | .inl _ => False
  | .inr E' => E = E' ∧ (∃ β, q_ag α β h.1.length ∧ va_P D cl (q_w cA β out.2.1) t.heap ∧ va_D (va_A (q_w cA α h.1) sz) (q_w cA β out.2.1)) ∧ va_F (va_A (q_w cA α h.1) sz) st t
def q_Con (WU : List Cond) (cl : List vw_C) (tyl : List FieldType) (GF : (Nat → Prop) → State → Heap → Prop) (τ : Nat → Nat) (M : q_M) (l : Launch) (d : Nat) (as : List Value) (h : q_H) (out : q_Out) : Prop :=
  ∀ (D : va_G) (cA : Nat → ClassId) (α : Nat → Nat) (sz : Nat), (∀ a, a < 64 → α a = τ a) →
    vx_Met l M.1 (q_cw M :: WU) (q_rm d (out.2.2.1 - h.2.1) (out.2.2.2 - h.2.2)) (q_Pc cl tyl GF D cA α sz as h) (q_Qc cl D cA α sz h out) (q_XC cl D cA α sz h out) (out.2.2.1 - h.2.1) (out.2.2.2 - h.2.2) (va_A (q_w cA α h.1) sz)
/-- the value of an end is one that is there; nothing is lost -/
def q_oko (h : q_H) (out : q_Out) : Prop := (∀ v, out.1 = .inl (some v) → q_ok out.2.1.length v) ∧ q_okh out.2.1 ∧ h.1.length ≤ out.2.1.length ∧ h.2.1 ≤ out.2.2.1 ∧ h.2.2 ≤ out.2.2.2
/-- returns -/
def q_Re (M : q_M) (pc : Nat) (f : q_G → Option (Option Value)) : Prop := ∀ (g : q_G) (v : Option Value), g.1 = pc → f g = some v → (∀ w, v = some w → w ∈ g.2.2.1) ∧
  ∀ {p : Program} {l : Launch} {e : Env} {R : Room} {s : State} {m : MethodId} {args : Array Value} {below : List Frame} {meth : Method} {c : Code} {H : Heap} {locs : List Loc} {cells slots : Nat} {Qc : Array Value → State → Outcome → State → Prop} {free : Addr → Prop} {ls : Array Slot} (α : Nat → Nat), p.tables.exec = Jvm.exec → c.code = M.2.1 → meth.sig.returnType = M.2.2.2.1 → meth.locks = false →
    (∀ t : State, t.heap = H → s.WarmedH t.vm → Qc args s (.returned (v.map (q_v α))) t) → (∀ q ∈ locs, free q.base) → W p l e R s m args below meth c H locs cells slots (MQ below Qc args s cells slots free) (F0 m pc ls (g.2.2.1.map (q_v α)))
/-- throws of one's own: 'throw new E(text)', in a method without a table -/
def q_Th (WU : List Cond) (GF : (Nat → Prop) → State → Heap → Prop) (own : String) (cc : ByteArray) (nL pc : Nat) (f : q_G → Option String) : Prop := ∀ (g : q_G) (E : String), g.1 = pc → f g = some E →
  ∀ {p : Program} {l : Launch} {e : Env} {R : Room} {s : State} {m : MethodId} {args : Array Value} {below : List Frame} {meth : Method} {c : Code} {H : Heap} {locs : List Loc} {cells slots mc ms : Nat} {Qc : Array Value → State → Outcome → State → Prop} {XC : String → State → State → Prop} {free A : Nat → Prop} {ls : Array Slot} (α : Nat → Nat), p.tables.exec = Jvm.exec → c.code = cc → l.stackTraces = false → s.vm.findClass own = some m.cls → (∀ w ∈ WU, w.before args s = true) → GF A s s.heap → meth.locks = false → (∀ x ∈ c.exceptionTable.toList, False) →
    c.maxLocals = nL → ls.size = nL → va_S A s.heap H locs → 8 ≤ R.frames → 300 ≤ R.locals → cells + 1 ≤ R.cells → slots + 6 ≤ R.slots → (∀ t : State, s.vm.Alike t.vm → H.size ≤ t.heap.size → (∀ q : Nat, q < H.size → t.heap[q]? = H[q]?) → XC E s t) → (∀ q ∈ locs, free q.base) → cells + 1 ≤ mc → slots + 6 ≤ ms →
    W p l e R s m args below meth c H locs cells slots (vx_MQ below Qc XC args s mc ms free) (F0 m pc ls (g.2.2.1.map (q_v α)))
/-- calls -/
def q_Cs (WU : List Cond) (cl : List vw_C) (tyl : List FieldType) (GF : (Nat → Prop) → State → Heap → Prop) (τ : Nat → Nat) (mt : Nat → q_M) (own : String) (cc : ByteArray) (nL pc nx : Nat) (f : q_G → Option (Nat × List Value × List Value)) : Prop := nx = pc + 3 ∧ ∀ (g : q_G) (k : Nat) (as rest : List Value), g.1 = pc → f g = some (k, as, rest) → (∀ v ∈ as, v ∈ g.2.2.1) ∧ (∀ v ∈ rest, v ∈ g.2.2.1) ∧
  ∀ {p : Program} {l : Launch} {e : Env} {R : Room} {s : State} {m : MethodId} {args : Array Value} {below : List Frame} {meth : Method} {c : Code} {H : Heap} {locs : List Loc} {cells slots mc ms : Nat} {rm : Room} {Pc : Array Value → State → Prop} {Qc : Array Value → State → Outcome → State → Prop} {XC : String → State → State → Prop} {free A : Nat → Prop} {ls : Array Slot} {D : va_G} {cA : Nat → ClassId} (α : Nat → Nat), p.tables.exec = Jvm.exec → c.code = cc → c.maxLocals = nL → s.vm.findClass own = some m.cls → (∀ w ∈ WU, w.before args s = true) → (∀ w ∈ WU, goodWord w = true) → GF A s s.heap → va_K D cl (q_T cA tyl) s → va_S A s.heap H locs → (∀ a, a < 64 → α a = τ a) →
    vx_Met l (mt k).1 (q_cw (mt k) :: WU) rm Pc Qc XC mc ms free → rm.cells = mc → rm.slots = ms → rm.frames + 1 ≤ R.frames → 99 + rm.locals ≤ R.locals → FrameBlind Pc → (∀ U : State, U.heap = H → s.WarmedH U.vm → Pc (as.map (q_v α)).toArray U) → cells + mc ≤ R.cells → slots + ms ≤ R.slots → va_P D cl (q_w cA α g.2.2.2.1) H → ls.size = nL →
    vx_Run p l e R s m args below meth c H locs cells slots mc ms (F0 m pc ls (g.2.2.1.map (q_v α))) (rest.map (q_v α)) (Qc (as.map (q_v α)).toArray) XC free
/-- handlers: where a throw out of the call at pc goes -/
def q_Hd (WU : List Cond) (GF : (Nat → Prop) → State → Heap → Prop) (M : q_M) (own : String) (nL pc : Nat) (hd : String → Option (Nat × Nat)) : Prop := ∀ (E : String) (tg i : Nat), hd E = some (tg, i) →
  ∀ {p : Program} {l : Launch} {e : Env} {R : Room} {s : State} {m : MethodId} {args : Array Value} {below : List Frame} {meth : Method} {c : Code} {H : Heap} {locs : List Loc} {cells slots : Nat} {Q : State → Prop} {A : Nat → Prop} {ls : Array Slot} {rest : List Value} {ce : Cell} {q : Addr} (lv : List (Nat × Value)), p.tables.exec = Jvm.exec → c.code = M.2.1 → s.vm.findClass own = some m.cls → (∀ w ∈ WU, w.before args s = true) → GF A s s.heap → c.exceptionTable.toList = tableOf M.2.2.2.2.1 → lv_has ls nL lv → H[q]? = some ce → ce.vm = .none → s.vm.findClass E = some ce.cls →
    (∀ ls' : Array Slot, lv_has ls' nL (lv.filter (fun q => !(q.1 == i) && !(q.1 + 1 == i && q.2.category == 2))) → W p l e R s m args below meth c H locs cells slots Q (F0 m tg ls' [])) → vx_W p l e R s m args below meth c H locs cells slots Q (F0 m pc ls rest) q
/-- an entry of the code table that is sound -/
def q_Snd (WU : List Cond) (cl : List vw_C) (tyl : List FieldType) (GF : (Nat → Prop) → State → Heap → Prop) (τ : Nat → Nat) (mt : Nat → q_M) (M : q_M) (pc : Nat) (x : q_E) : Prop := match x with
  | .inl f => q_J WU cl tyl GF τ M.1.cls M.1.name M.2.1 M.2.2.1 pc f
  | .inr (.inl f) => q_J WU cl tyl GF τ M.1.cls M.1.name M.2.1 M.2.2.1 pc (q_rs f)
  | .inr (.inr (.inl f)) => q_Re M pc f
  | .inr (.inr (.inr (.inl f))) => M.2.2.2.2.1 = [] ∧ q_Th WU GF M.1.cls M.2.1 M.2.2.1 pc f
  | .inr (.inr (.inr (.inr (nx, f, hd)))) => q_Cs WU cl tyl GF τ mt M.1.cls M.2.1 M.2.2.1 pc nx f ∧ (match hd with
    | none => M.2.2.2.2.1 = []
    | some hf => q_Hd WU GF M M.1.cls M.2.2.1 pc hf)
end
section
-- 07.sound
/-! ===== a method that the small machine runs, the machine runs ===== -/
section QM
variable {WU : List Cond} {cl : List vw_C} {tyl : List FieldType} {GF : (Nat → Prop) → State → Heap → Prop} {τ : Nat → Nat} {mt : Nat → q_M} {l : Launch}
theorem q_args_l (α : Nat → Nat) (as : List Value) : ∀ i : Nat, lv_args i (as.map (q_v α)) = q_l α (lv_args i as) := by
  induction as with
  | nil => intro i; rfl
  | cons v vs ih =>
    intro i
    show (i, q_v α v) :: lv_args (if (q_v α v).category = 2 then i + 2 else i + 1) (vs.map (q_v α)) = (i, q_v α v) :: q_l α (lv_args (if v.category = 2 then i + 2 else i + 1) vs)
    rw [q_v_cat, ih]
theorem q_args_ok {L : Nat} (as : List Value) (h : ∀ v ∈ as, q_ok L v) : ∀ i : Nat, ∀ q ∈ lv_args i as, q_ok L q.2 := by
  induction as with
  | nil => intro i q hq; cases hq
  | cons v vs ih =>
    intro i q hq
    have hq : q ∈ (i, v) :: lv_args (if v.category = 2 then i + 2 else i + 1) vs := hq
    rcases List.mem_cons.mp hq with rfl | h1
    · exact h _ List.mem_cons_self
    · exact ih (fun w hw => h w (List.mem_cons_of_mem _ hw)) _ q h1
theorem q_wd_sl (α : Nat → Nat) (as : List Value) : (lg_sl (as.map (q_v α))).length = q_wd as := by
  induction as with
  | nil => rfl
  | cons v vs ih =>
    have e : lg_sl ((v :: vs).map (q_v α)) = (if (q_v α v).category = 2 then [Slot.val (q_v α v), .second] else [.val (q_v α v)]) ++ lg_sl (vs.map (q_v α)) := rfl
    rw [e, List.length_append, ih, q_v_cat]
    cases v <;> simp [Value.category, q_wd] <;> omega
theorem q_drop_l (α : Nat → Nat) (L : q_L) (i : Nat) : (q_l α L).filter (fun q => !(q.1 == i) && !(q.1 + 1 == i && q.2.category == 2)) = q_l α (q_drop L i) := by
  unfold q_drop q_l
  rw [List.filter_map]
  congr 2
  funext q
  show (_ : Bool) = _
  simp only [Function.comp, q_v_cat]
theorem q_blind {hGF : q_GFk GF} {D : va_G} {cA : Nat → ClassId} {α : Nat → Nat} {sz : Nat} {as : List Value} {h : q_H} : FrameBlind (q_Pc cl tyl GF D cA α sz as h) := by
  rintro a U g mk ⟨e0, e1, e2, e3, e4, e5⟩
  refine ⟨e0, e1, e2, va_K.moved (u := U) (U := U.calling g mk a) (Vm.Alike.refl U.vm) e3, e4, ?_⟩
  exact hGF _ _ U (U.calling g mk a) e5 (State.WarmedH.refl U) (fun _ h => h) (fun _ _ _ => rfl)
/-- what a step needs of the callees -/
def q_IH (WU : List Cond) (cl : List vw_C) (tyl : List FieldType) (GF : (Nat → Prop) → State → Heap → Prop) (τ : Nat → Nat) (mt : Nat → q_M) (l : Launch) (d : Nat) (ex : Nat → List Value → q_H → Option q_Out) : Prop :=
  ∀ (k : Nat) (as : List Value) (h : q_H) (out : q_Out), ex k as h = some out → (∀ v ∈ as, q_ok h.1.length v) → q_okh h.1 → q_oko h out ∧ q_Con WU cl tyl GF τ (mt k) l d as h out
theorem q_step_go {d k : Nat} {ex : Nat → List Value → q_H → Option q_Out} {tb : Nat → Option q_E} (hGF : q_GFk GF) (hgood : ∀ w ∈ WU, goodWord w = true) (hml : ∀ j, (mt j).2.2.1 ≤ 80) (hIH : q_IH WU cl tyl GF τ mt l d ex) (hs : ∀ pc x, tb pc = some x → q_Snd WU cl tyl GF τ mt (mt k) pc x)
    {g g' : q_G} (h : q_step ex tb g = some (.inl g')) (hg : q_okg g) : q_gr g g' ∧
      ∀ (p : Program) (e : Env) (R : Room) (s : State) (m : MethodId) (args : Array Value) (below : List Frame) (meth : Method) (c : Code) (Q : State → Prop) (D : va_G) (cA : Nat → ClassId) (A : Nat → Prop) (k0 n0 : Nat) (α : Nat → Nat),
        q_Ctx WU cl tyl GF (mt k).1.cls (mt k).1.name (mt k).2.1 (mt k).2.2.1 p l s m args meth c D cA A → c.exceptionTable.toList = tableOf (mt k).2.2.2.2.1 → d + 9 ≤ R.frames → 100 * d + 399 ≤ R.locals → (∀ a, a < 64 → α a = τ a) → g'.2.2.2.2.1 ≤ k0 + R.cells → g'.2.2.2.2.2 ≤ n0 + R.slots →
        (∀ β, q_ag α β g.2.2.2.1.length → q_W cl D cA A (mt k).2.2.1 p l e R s m args below meth c Q k0 n0 β g') → q_W cl D cA A (mt k).2.2.1 p l e R s m args below meth c Q k0 n0 α g := by
  unfold q_step at h
  split at h
  · cases h
  · rename_i f hx
    have hJ := hs _ _ hx
    split at h
    · cases h
    · rename_i g1 hf
      cases h
      obtain ⟨h1, h2⟩ := hJ g g' rfl hf hg
      exact ⟨h1, fun p e R s m args below meth c Q D cA A k0 n0 α hC _ hRf hRl => h2 p l e R s m args below meth c Q D cA A k0 n0 α hC (by omega) (by omega)⟩
  · rename_i f hx
    have hJ := hs _ _ hx
    split at h
    · cases h
    · rename_i g1 hf
      cases h
      obtain ⟨h1, h2⟩ := hJ g g' rfl hf hg
      exact ⟨h1, fun p e R s m args below meth c Q D cA A k0 n0 α hC _ hRf hRl => h2 p l e R s m args below meth c Q D cA A k0 n0 α hC (by omega) (by omega)⟩
  · split at h <;> cases h
  · split at h <;> cases h
  · rename_i nx f hd hx
    have hJ := hs _ _ hx
    obtain ⟨hCs, hH⟩ := hJ
    obtain ⟨pc, L, st, hp⟩ := g
    split at h
    · cases h
    · rename_i j as rest hf
      obtain ⟨hnx, hCs⟩ := hCs
      obtain ⟨ha, hr, hrun⟩ := hCs _ j as rest rfl hf
      have hoa : ∀ v ∈ as, q_ok hp.1.length v := fun v hv => hg.2.1 v (ha v hv)
      have hor : ∀ v ∈ rest, q_ok hp.1.length v := fun v hv => hg.2.1 v (hr v hv)
      dsimp only at h
      -- the run, common to both ends
      have key : ∀ (out : q_Out), ex j as hp = some out → q_oko hp out ∧
          ∀ (p : Program) (e : Env) (R : Room) (s : State) (m : MethodId) (args : Array Value) (below : List Frame) (meth : Method) (c : Code) (D : va_G) (cA : Nat → ClassId) (A : Nat → Prop) (α : Nat → Nat) (H : Heap) (locs : List Loc) (ls : Array Slot) (cells slots : Nat),
            q_Ctx WU cl tyl GF (mt k).1.cls (mt k).1.name (mt k).2.1 (mt k).2.2.1 p l s m args meth c D cA A → d + 9 ≤ R.frames → 100 * d + 399 ≤ R.locals → (∀ a, a < 64 → α a = τ a) → cells + (out.2.2.1 - hp.2.1) ≤ R.cells → slots + (out.2.2.2 - hp.2.2) ≤ R.slots → va_P D cl (q_w cA α hp.1) H → va_D A (q_w cA α hp.1) → va_S A s.heap H locs → ls.size = (mt k).2.2.1 →
            (∀ q, va_A (q_w cA α hp.1) H.size q → A q) ∧ vx_Run p l e R s m args below meth c H locs cells slots (out.2.2.1 - hp.2.1) (out.2.2.2 - hp.2.2) (F0 m pc ls (st.map (q_v α))) (rest.map (q_v α)) (q_Qc cl D cA α H.size hp out (as.map (q_v α)).toArray) (q_XC cl D cA α H.size hp out) (va_A (q_w cA α hp.1) H.size) := by
        intro out ho
        obtain ⟨o1, o2⟩ := hIH j as hp out ho hoa hg.2.2
        refine ⟨o1, ?_⟩
        intro p e R s m args below meth c D cA A α H locs ls cells slots hC hRf hRl hτ hk hn hP hD hS hsz
        have hfree : ∀ q, va_A (q_w cA α hp.1) H.size q → A q := by
          intro q hq
          rcases hq with ⟨i, x, hi⟩ | hq
          · exact hD.2 i _ hi
          · exact hC.2.2.2.2.2.2.1 q (Nat.le_trans hS.1 hq)
        have hM := o2 D cA α H.size hτ
        have f1 : (q_rm d (out.2.2.1 - hp.2.1) (out.2.2.2 - hp.2.2)).frames + 1 ≤ R.frames := by
          have e9 : (q_rm d (out.2.2.1 - hp.2.1) (out.2.2.2 - hp.2.2)).frames = d + 8 := rfl
          omega
        have f2 : 99 + (q_rm d (out.2.2.1 - hp.2.1) (out.2.2.2 - hp.2.2)).locals ≤ R.locals := by
          have e9 : (q_rm d (out.2.2.1 - hp.2.1) (out.2.2.2 - hp.2.2)).locals = 100 * d + 300 := rfl
          omega
        have hbl : FrameBlind (q_Pc cl tyl GF D cA α H.size as hp) := q_blind (hGF := hGF)
        refine ⟨hfree, hrun α hC.1 hC.2.1 hC.2.2.2.1 hC.2.2.1 hC.2.2.2.2.1 hgood hC.2.2.2.2.2.2.2.1 hC.2.2.2.2.2.1 hS hτ hM rfl rfl f1 f2 hbl ?_ hk hn hP hsz⟩
        intro U hU hW
        refine ⟨rfl, by rw [hU], by rw [hU]; exact hP, va_K.moved hW.alike hC.2.2.2.2.2.1, hD.weaken (fun _ _ _ _ => trivial), ?_⟩
        exact hGF A _ s U hC.2.2.2.2.2.2.2.1 hW hfree (fun a h1 h2 => by rw [hU]; exact hS.2.1 a h1 h2)
      split at h
      · cases h
      · rename_i v h1 ho
        cases h
        obtain ⟨⟨o1, o2, o3, o4, o5⟩, key⟩ := key _ ho
        have hov : ∀ w ∈ v.toList ++ rest, q_ok h1.1.length w := by
          intro w hw
          rcases List.mem_append.mp hw with q | q
          · cases v with
            | none => cases q
            | some u => rw [List.mem_singleton.mp q]; exact o1 u rfl
          · exact (hor w q).le o3
        refine ⟨⟨⟨fun q hq => (hg.1 q hq).le o3, hov, o2⟩, o3, o4, o5⟩, ?_⟩
        intro p e R s m args below meth c Q D cA A k0 n0 α hC hT hRf hRl hτ hk hn kk H locs ls cells slots hP hD hS hl ek en
        have ek : k0 + cells = hp.2.1 := ek
        have en : n0 + slots = hp.2.2 := en
        have hk : h1.2.1 ≤ k0 + R.cells := hk
        have hn : h1.2.2 ≤ n0 + R.slots := hn
        have o4 : hp.2.1 ≤ h1.2.1 := o4
        have o5 : hp.2.2 ≤ h1.2.2 := o5
        obtain ⟨hfree, hr⟩ := key p e R s m args below meth c D cA A α H locs ls cells slots hC hRf hRl hτ (by show cells + (h1.2.1 - hp.2.1) ≤ _; omega) (by show slots + (h1.2.2 - hp.2.2) ≤ _; omega) hP hD hS hl.1
        intro T hT9 X
        rcases hr T hT9 X with ⟨w, st₀, t, T', Ls, e0, X', hL, e1, e2, hq, st9⟩ | ⟨q9, st₀, t, T', Ls, E, ce, e0, X', hL, e1, e2, hq, -⟩
        · obtain ⟨⟨β, hag, hv, hP1, hD1⟩, hF⟩ := hq
          cases hv
          obtain ⟨z1, z2, z3⟩ := vx_keep e0 e1 hS (fun q _ hq => hfree q hq) hfree hL hF
          rw [← e1] at hP1
          have k2 := kk β hag T'.heap (locs ++ Ls) ls (cells + (h1.2.1 - hp.2.1)) (slots + (h1.2.2 - hp.2.2)) hP1 (hD1.weaken fun _ _ _ hq => hfree _ hq) z3 (by rw [q_l_ag hag hg.1]; exact hl) (by show k0 + _ = h1.2.1; omega) (by show n0 + _ = h1.2.2; omega)
          dsimp only at k2
          rw [List.map_append, q_vs_ag hag hor, show (v.toList.map (q_v β)) = (v.map (q_v β)).toList by cases v <;> rfl] at k2
          obtain ⟨t2, a1, b1⟩ := k2 T' rfl X'
          refine ⟨t2, st9 t2 ?_, b1⟩
          subst hnx
          exact a1
        · exact absurd hq (fun h => h)
      · rename_i E h1 ho
        cases hd with
        | none => cases h
        | some hf' =>
          dsimp only at h
          split at h
          · cases h
          · rename_i tg i etg
            cases h
            obtain ⟨⟨o1, o2, o3, o4, o5⟩, key⟩ := key _ ho
            have hH : q_Hd WU GF (mt k) (mt k).1.cls (mt k).2.2.1 pc hf' := hH
            refine ⟨⟨⟨fun q hq => (hg.1 q (List.mem_filter.mp hq).1).le o3, fun w hw => (by cases hw), o2⟩, o3, o4, o5⟩, ?_⟩
            intro p e R s m args below meth c Q D cA A k0 n0 α hC hT hRf hRl hτ hk hn kk H locs ls cells slots hP hD hS hl ek en
            have ek : k0 + cells = hp.2.1 := ek
            have en : n0 + slots = hp.2.2 := en
            have hk : h1.2.1 ≤ k0 + R.cells := hk
            have hn : h1.2.2 ≤ n0 + R.slots := hn
            have o4 : hp.2.1 ≤ h1.2.1 := o4
            have o5 : hp.2.2 ≤ h1.2.2 := o5
            obtain ⟨hfree, hr⟩ := key p e R s m args below meth c D cA A α H locs ls cells slots hC hRf hRl hτ (by show cells + (h1.2.1 - hp.2.1) ≤ _; omega) (by show slots + (h1.2.2 - hp.2.2) ≤ _; omega) hP hD hS hl.1
            intro T hT9 X
            rcases hr T hT9 X with ⟨w, st₀, t, T', Ls, e0, X', hL, e1, e2, hq, st9⟩ | ⟨q9, st₀, t, T', Ls, E', ce, e0, X', hL, e1, e2, hq, hce, hcv, hcl, st9⟩
            · exact absurd hq (fun h => h)
            · obtain ⟨eE, ⟨β, hag, hP1, hD1⟩, hF⟩ := hq
              subst eE
              obtain ⟨z1, z2, z3⟩ := vx_keep e0 e1 hS (fun q _ hq => hfree q hq) hfree hL hF
              rw [← e1] at hP1 hce
              have k3 := hH E' tg i etg (p := p) (l := l) (e := e) (R := R) (s := s) (m := m) (args := args) (below := below) (meth := meth) (c := c) (H := T'.heap) (locs := locs ++ Ls) (cells := cells + (h1.2.1 - hp.2.1)) (slots := slots + (h1.2.2 - hp.2.2)) (Q := Q) (A := A) (ls := ls) (rest := rest.map (q_v α)) (q_l α L) hC.1 hC.2.1 hC.2.2.1 hC.2.2.2.2.1 hC.2.2.2.2.2.2.2.1 hT hl hce hcv hcl (fun ls' hl' => by
                rw [q_drop_l] at hl'
                have hL9 : ∀ q ∈ q_drop L i, q_ok hp.1.length q.2 := fun q hq => hg.1 q (List.mem_filter.mp hq).1
                exact kk β hag T'.heap (locs ++ Ls) ls' (cells + (h1.2.1 - hp.2.1)) (slots + (h1.2.2 - hp.2.2)) hP1 (hD1.weaken fun _ _ _ hq => hfree _ hq) z3 (by show lv_has ls' _ (q_l β (q_drop L i)); rw [q_l_ag hag hL9]; exact hl') (by show k0 + _ = h1.2.1; omega) (by show n0 + _ = h1.2.2; omega))
              obtain ⟨t2, a1, b1⟩ := k3 T' rfl X'
              exact ⟨t2, st9.trans a1, b1⟩
end QM
end
section
-- 08.main
/-! ===== the ends of a method; the whole of it ===== -/
section QN
variable {WU : List Cond} {cl : List vw_C} {tyl : List FieldType} {GF : (Nat → Prop) → State → Heap → Prop} {τ : Nat → Nat} {mt : Nat → q_M} {l : Launch}
theorem q_step_end {d k : Nat} {ex : Nat → List Value → q_H → Option q_Out} {tb : Nat → Option q_E} (hlt : l.stackTraces = false) (hGF : q_GFk GF) (hgood : ∀ w ∈ WU, goodWord w = true) (hml : ∀ j, (mt j).2.2.1 ≤ 80) (hIH : q_IH WU cl tyl GF τ mt l d ex) (hs : ∀ pc x, tb pc = some x → q_Snd WU cl tyl GF τ mt (mt k) pc x)
    {g : q_G} {out : q_Out} (h : q_step ex tb g = some (.inr out)) (hg : q_okg g) : q_oko g.2.2.2 out ∧
      ∀ (p : Program) (e : Env) (R : Room) (s : State) (m : MethodId) (args : Array Value) (below : List Frame) (meth : Method) (c : Code) (D : va_G) (cA : Nat → ClassId) (A : Nat → Prop) (k0 n0 : Nat) (α α0 : Nat → Nat) (h0 : q_H),
        q_Ctx WU cl tyl GF (mt k).1.cls (mt k).1.name (mt k).2.1 (mt k).2.2.1 p l s m args meth c D cA A → meth.sig.returnType = (mt k).2.2.2.1 → c.exceptionTable.toList = tableOf (mt k).2.2.2.2.1 → d + 9 ≤ R.frames → 100 * d + 399 ≤ R.locals → (∀ a, a < 64 → α a = τ a) → A = va_A (q_w cA α0 h0.1) s.heap.size → q_ag α0 α h0.1.length → h0.1.length ≤ g.2.2.2.1.length → out.2.2.1 ≤ k0 + R.cells → out.2.2.2 ≤ n0 + R.slots →
        q_W cl D cA A (mt k).2.2.1 p l e R s m args below meth c (vx_MQ below (q_Qc cl D cA α0 s.heap.size h0 out) (q_XC cl D cA α0 s.heap.size h0 out) args s (out.2.2.1 - k0) (out.2.2.2 - n0) A) k0 n0 α g := by
  unfold q_step at h
  split at h
  · cases h
  · split at h <;> cases h
  · split at h <;> cases h
  · rename_i f hx
    have hR : q_Re (mt k) g.1 f := hs _ _ hx
    split at h
    · cases h
    · rename_i v hf
      cases h
      obtain ⟨h1, h2⟩ := hR g v rfl hf
      refine ⟨⟨fun w hw => ?_, hg.2.2, Nat.le_refl _, Nat.le_refl _, Nat.le_refl _⟩, ?_⟩
      · cases hw
        exact hg.2.1 w (h1 w rfl)
      intro p e R s m args below meth c D cA A k0 n0 α α0 h0 hC hret hT hRf hRl hτ hA hag hle hk hn H locs ls cells slots hP hD hS hl ek en
      have e1 : g.2.2.2.2.1 - k0 = cells := by omega
      have e2 : g.2.2.2.2.2 - n0 = slots := by omega
      show W p l e R s m args below meth c H locs cells slots (vx_MQ below _ _ args s (g.2.2.2.2.1 - k0) (g.2.2.2.2.2 - n0) A) _
      rw [e1, e2]
      refine vx_ret ?_
      refine h2 α hC.1 hC.2.1 hret hC.2.2.2.2.2.2.2.2.2.1 (fun t ht hW => ?_) hS.2.2
      refine ⟨⟨α, hag, rfl, by rw [ht]; exact hP, by rw [← hA]; exact hD⟩, ?_⟩
      rw [← hA]
      exact hS.F ht
  · rename_i f hx
    have hR : (mt k).2.2.2.2.1 = [] ∧ q_Th WU GF (mt k).1.cls (mt k).2.1 (mt k).2.2.1 g.1 f := hs _ _ hx
    obtain ⟨hR0, hR⟩ := hR
    split at h
    · cases h
    · rename_i E hf
      cases h
      refine ⟨⟨fun w hw => (by cases hw), hg.2.2, Nat.le_refl _, Nat.le_succ _, Nat.le_add_right _ _⟩, ?_⟩
      intro p e R s m args below meth c D cA A k0 n0 α α0 h0 hC hret hT hRf hRl hτ hA hag hle hk hn H locs ls cells slots hP hD hS hl ek en
      have hk : g.2.2.2.2.1 + 1 ≤ k0 + R.cells := hk
      have hn : g.2.2.2.2.2 + 6 ≤ n0 + R.slots := hn
      have hT2 : ∀ x ∈ c.exceptionTable.toList, False := by
        intro x hx9
        rw [hT, hR0] at hx9
        cases hx9
      refine hR g E rfl hf (A := A) α hC.1 hC.2.1 hC.2.2.2.2.2.2.2.2.1 hC.2.2.1 hC.2.2.2.2.1 hC.2.2.2.2.2.2.2.1 hC.2.2.2.2.2.2.2.2.2.1 hT2 hC.2.2.2.1 hl.1 hS (by omega) (by omega) (by omega) (by omega) (fun t hvm hz hq => ?_) hS.2.2 (by show _ ≤ g.2.2.2.2.1 + 1 - k0; omega) (by show _ ≤ g.2.2.2.2.2 + 6 - n0; omega)
      refine ⟨rfl, ⟨α, hag, hP.kept (fun i q hi => hq q.1 ((hP i q hi).lt)), by rw [← hA]; exact hD⟩, ?_⟩
      rw [← hA]
      exact ⟨Nat.le_trans hS.1 hz, fun q h1 h2 => (hq q (Nat.lt_of_lt_of_le h1 hS.1)).trans (hS.2.1 q h1 h2)⟩
  · rename_i nx f hd hx
    have hJ := hs _ _ hx
    obtain ⟨hCs, hH⟩ := hJ
    obtain ⟨pc, L, st, hp⟩ := g
    split at h
    · cases h
    · rename_i j as rest hf
      obtain ⟨hnx, hCs⟩ := hCs
      obtain ⟨ha, hr, hrun⟩ := hCs _ j as rest rfl hf
      have hoa : ∀ v ∈ as, q_ok hp.1.length v := fun v hv => hg.2.1 v (ha v hv)
      dsimp only at h
      split at h
      · cases h
      · cases h
      · rename_i E h1 ho
        cases hd with
        | some hf' =>
          dsimp only at h
          split at h <;> cases h
        | none =>
          cases h
          have hH : (mt k).2.2.2.2.1 = [] := hH
          obtain ⟨⟨o1, o2, o3, o4, o5⟩, ocon⟩ := hIH j as hp _ ho hoa hg.2.2
          refine ⟨⟨o1, o2, o3, o4, o5⟩, ?_⟩
          intro p e R s m args below meth c D cA A k0 n0 α α0 h0 hC hret hT hRf hRl hτ hA hag hle hk hn H locs ls cells slots hP hD hS hl ek en
          have ek : k0 + cells = hp.2.1 := ek
          have en : n0 + slots = hp.2.2 := en
          have hk : h1.2.1 ≤ k0 + R.cells := hk
          have hn : h1.2.2 ≤ n0 + R.slots := hn
          have o4 : hp.2.1 ≤ h1.2.1 := o4
          have o5 : hp.2.2 ≤ h1.2.2 := o5
          have hfree : ∀ q, va_A (q_w cA α hp.1) H.size q → A q := by
            intro q hq
            rcases hq with ⟨i, x, hi⟩ | hq
            · exact hD.2 i _ hi
            · exact hC.2.2.2.2.2.2.1 q (Nat.le_trans hS.1 hq)
          have hM := ocon D cA α H.size hτ
          have f1 : (q_rm d (h1.2.1 - hp.2.1) (h1.2.2 - hp.2.2)).frames + 1 ≤ R.frames := by
            have e9 : (q_rm d (h1.2.1 - hp.2.1) (h1.2.2 - hp.2.2)).frames = d + 8 := rfl
            omega
          have f2 : 99 + (q_rm d (h1.2.1 - hp.2.1) (h1.2.2 - hp.2.2)).locals ≤ R.locals := by
            have e9 : (q_rm d (h1.2.1 - hp.2.1) (h1.2.2 - hp.2.2)).locals = 100 * d + 300 := rfl
            omega
          have hbl : FrameBlind (q_Pc cl tyl GF D cA α H.size as hp) := q_blind (hGF := hGF)
          have hr9 := hrun α hC.1 hC.2.1 hC.2.2.2.1 hC.2.2.1 hC.2.2.2.2.1 hgood hC.2.2.2.2.2.2.2.1 hC.2.2.2.2.2.1 hS hτ hM rfl rfl f1 f2 hbl (fun U hU hW => ⟨rfl, by rw [hU], by rw [hU]; exact hP, va_K.moved hW.alike hC.2.2.2.2.2.1, hD.weaken (fun _ _ _ _ => trivial), hGF A _ s U hC.2.2.2.2.2.2.2.1 hW hfree (fun a h1 h2 => by rw [hU]; exact hS.2.1 a h1 h2)⟩) (locs := locs) (e := e) (below := below) (meth := meth) (cells := cells) (slots := slots) (by omega) (by omega) hP hl.1
          have hT2 : ∀ x ∈ c.exceptionTable.toList, covers x pc = false := by
            intro x hx9
            rw [hT, hH] at hx9
            cases hx9
          intro T hT9 X
          rcases hr9 T hT9 X with ⟨w, st₀, t, T', Ls, e0, X', hL, e1, e2, hq, st9⟩ | ⟨q9, st₀, t, T', Ls, E', ce, e0, X', hL, e1, e2, hq, hce, hcv, hcl, st9⟩
          · exact absurd hq (fun h => h)
          · obtain ⟨eE, ⟨β, hag2, hP1, hD1⟩, hF⟩ := hq
            subst eE
            obtain ⟨z1, z2, z3⟩ := vx_keep e0 e1 hS (fun q _ hq => hfree q hq) hfree hL hF
            rw [← e1] at hP1 hce
            have hag3 : q_ag α0 β h0.1.length := hag.tr hag2 hle
            have k3 : vx_W p l e R s m args below meth c T'.heap (locs ++ Ls) (cells + (h1.2.1 - hp.2.1)) (slots + (h1.2.2 - hp.2.2)) (vx_MQ below (q_Qc cl D cA α0 s.heap.size h0 (.inr E', h1)) (q_XC cl D cA α0 s.heap.size h0 (.inr E', h1)) args s (h1.2.1 - k0) (h1.2.2 - n0) A) (F0 m pc ls (rest.map (q_v α))) q9 :=
              vx_out hT2 hC.2.2.2.2.2.2.2.2.2.1 hce hcv hcl (fun t9 ht9 hvm9 => ⟨rfl, ⟨β, hag3, by rw [ht9]; exact hP1, by rw [← hA]; exact hD1.weaken fun _ _ _ hq => hfree _ hq⟩, by rw [← hA]; exact z3.F ht9⟩) z3.2.2 (by omega) (by omega)
            obtain ⟨t2, a1, b1⟩ := k3 T' rfl X'
            exact ⟨t2, st9.trans a1, b1⟩
theorem q_loop_W {d k : Nat} {ex : Nat → List Value → q_H → Option q_Out} {tb : Nat → Option q_E} (hlt : l.stackTraces = false) (hGF : q_GFk GF) (hgood : ∀ w ∈ WU, goodWord w = true) (hml : ∀ j, (mt j).2.2.1 ≤ 80) (hIH : q_IH WU cl tyl GF τ mt l d ex) (hs : ∀ pc x, tb pc = some x → q_Snd WU cl tyl GF τ mt (mt k) pc x) :
    ∀ (n : Nat) (g : q_G) (out : q_Out), q_loop ex tb n g = some out → q_okg g → q_oko g.2.2.2 out ∧
      ∀ (p : Program) (e : Env) (R : Room) (s : State) (m : MethodId) (args : Array Value) (below : List Frame) (meth : Method) (c : Code) (D : va_G) (cA : Nat → ClassId) (A : Nat → Prop) (k0 n0 : Nat) (α α0 : Nat → Nat) (h0 : q_H),
        q_Ctx WU cl tyl GF (mt k).1.cls (mt k).1.name (mt k).2.1 (mt k).2.2.1 p l s m args meth c D cA A → meth.sig.returnType = (mt k).2.2.2.1 → c.exceptionTable.toList = tableOf (mt k).2.2.2.2.1 → d + 9 ≤ R.frames → 100 * d + 399 ≤ R.locals → (∀ a, a < 64 → α a = τ a) → A = va_A (q_w cA α0 h0.1) s.heap.size → q_ag α0 α h0.1.length → h0.1.length ≤ g.2.2.2.1.length → out.2.2.1 ≤ k0 + R.cells → out.2.2.2 ≤ n0 + R.slots →
        q_W cl D cA A (mt k).2.2.1 p l e R s m args below meth c (vx_MQ below (q_Qc cl D cA α0 s.heap.size h0 out) (q_XC cl D cA α0 s.heap.size h0 out) args s (out.2.2.1 - k0) (out.2.2.2 - n0) A) k0 n0 α g := by
  intro n
  induction n with
  | zero => intro g out h; rw [q_loop_0] at h; cases h
  | succ n ih =>
    intro g out h hg
    rw [q_loop_s] at h
    cases hst : q_step ex tb g with
    | none => rw [hst] at h; cases h
    | some r =>
      rw [hst] at h
      cases r with
      | inr o =>
        cases h
        exact q_step_end hlt hGF hgood hml hIH hs hst hg
      | inl g' =>
        obtain ⟨⟨g1, g2, g3, g4⟩, hgo⟩ := q_step_go hGF hgood hml hIH hs hst hg
        obtain ⟨⟨o1, o2, o3, o4, o5⟩, hrest⟩ := ih g' out h g1
        refine ⟨⟨o1, o2, Nat.le_trans g2 o3, Nat.le_trans g3 o4, Nat.le_trans g4 o5⟩, ?_⟩
        intro p e R s m args below meth c D cA A k0 n0 α α0 h0 hC hret hT hRf hRl hτ hA hag hle hk hn
        refine hgo p e R s m args below meth c _ D cA A k0 n0 α hC hT hRf hRl hτ (Nat.le_trans o4 hk) (Nat.le_trans o5 hn) (fun β hβ => ?_)
        exact hrest p e R s m args below meth c D cA A k0 n0 β α0 h0 hC hret hT hRf hRl (fun a ha => (hβ a (Nat.lt_of_lt_of_le ha (Nat.le_add_right _ _))).trans (hτ a ha)) hA (hag.tr hβ hle) (Nat.le_trans hle g2) hk hn
theorem q_sound {mtab : Nat → Nat → Option q_E} (hlt : l.stackTraces = false) (hGF : q_GFk GF) (hgood : ∀ w ∈ WU, goodWord w = true) (hml : ∀ j, (mt j).2.2.1 ≤ 80) (hpl : ∀ j, plainName (mt j).1.cls = true) (hs : ∀ k pc x, mtab k pc = some x → q_Snd WU cl tyl GF τ mt (mt k) pc x) (n : Nat) :
    ∀ d, q_IH WU cl tyl GF τ mt l d (q_exec mt mtab n d) := by
  intro d
  induction d with
  | zero => intro k as h out e; cases e
  | succ d ih =>
    intro k as h out e hoa hh
    have hw := q_exec_w e
    rw [q_exec_s hw] at e
    have hg0 : q_okg (0, lv_args 0 as, [], h) := ⟨q_args_ok as hoa 0, fun v hv => (by cases hv), hh⟩
    obtain ⟨⟨o1, o2, o3, o4, o5⟩, hW⟩ := q_loop_W (d := d) (k := k) hlt hGF hgood hml ih (hs k) n _ out e hg0
    refine ⟨⟨o1, o2, o3, o4, o5⟩, ?_⟩
    intro D cA α sz hτ
    have o4 : h.2.1 ≤ out.2.2.1 := o4
    have o5 : h.2.2 ≤ out.2.2.2 := o5
    -- the body, common to methods with and without a table
    have body : ∀ (p : Program) (e : Env) (s : State) (m : MethodId) (args : Array Value) (below : List Frame) (meth : Method) (c : Code) (s₁ : State), BodyLoose p l (mt k).1 (headSpec (q_cw (mt k) :: WU) (q_rm (d + 1) (out.2.2.1 - h.2.1) (out.2.2.2 - h.2.2))) (mt k).2.1 (mt k).2.2.1 (mt k).2.2.2.1 e s m args below meth c s₁ → c.maxLocals = (mt k).2.2.1 → c.exceptionTable.toList = tableOf (mt k).2.2.2.2.1 → q_Pc cl tyl GF D cA α sz as h args s →
        W p l e (headSpec (q_cw (mt k) :: WU) (q_rm (d + 1) (out.2.2.1 - h.2.1) (out.2.2.2 - h.2.2))).room s m args below meth c s.heap [] 0 0 (vx_MQ below (q_Qc cl D cA α sz h out) (q_XC cl D cA α sz h out) args s (out.2.2.1 - h.2.1) (out.2.2.2 - h.2.2) (va_A (q_w cA α h.1) sz)) (entryFrame m args (mt k).2.2.1) := by
      rintro p e s m args below meth c s₁ B hml9 hT ⟨rfl, hsz, hP, hK, hD0, hG⟩
      subst hsz
      have hts : ∀ w ∈ q_cw (mt k) :: WU, w.before _ s = true := atoms_spec (ws := q_cw (mt k) :: WU) B.pre
      have hD : va_D (va_A (q_w cA α h.1) s.heap.size) (q_w cA α h.1) := hD0.self (sz := s.heap.size)
      have hA : ∀ q : Nat, s.heap.size ≤ q → va_A (q_w cA α h.1) s.heap.size q := fun q hq => Or.inr hq
      have hS : va_S (va_A (q_w cA α h.1) s.heap.size) s.heap s.heap [] := va_S.rf
      have hl := lv_entry (as.map (q_v α)) (n := (mt k).2.2.1) (by rw [q_wd_sl]; exact hw)
      rw [lg_entry_eq]
      rw [q_args_l] at hl
      have hC : q_Ctx WU cl tyl GF (mt k).1.cls (mt k).1.name (mt k).2.1 (mt k).2.2.1 p l s m (as.map (q_v α)).toArray meth c D cA (va_A (q_w cA α h.1) s.heap.size) :=
        ⟨B.exec, B.bytes, findClass_of_methodNamed B.named, hml9, fun w hw => hts w (List.mem_cons_of_mem _ hw), hK, hA, hG, hlt, B.notSynchronized, (name_of_methodNamed B.named B.method).1⟩
      have e1 : (headSpec (q_cw (mt k) :: WU) (q_rm (d + 1) (out.2.2.1 - h.2.1) (out.2.2.2 - h.2.2))).room = q_rm (d + 1) (out.2.2.1 - h.2.1) (out.2.2.2 - h.2.2) := rfl
      rw [e1]
      have hR1 : d + 9 ≤ (q_rm (d + 1) (out.2.2.1 - h.2.1) (out.2.2.2 - h.2.2)).frames := by
        have e9 : (q_rm (d + 1) (out.2.2.1 - h.2.1) (out.2.2.2 - h.2.2)).frames = d + 1 + 8 := rfl
        omega
      have hR2 : 100 * d + 399 ≤ (q_rm (d + 1) (out.2.2.1 - h.2.1) (out.2.2.2 - h.2.2)).locals := by
        have e9 : (q_rm (d + 1) (out.2.2.1 - h.2.1) (out.2.2.2 - h.2.2)).locals = 100 * (d + 1) + 300 := rfl
        omega
      have hR3 : out.2.2.1 ≤ h.2.1 + (q_rm (d + 1) (out.2.2.1 - h.2.1) (out.2.2.2 - h.2.2)).cells := by
        have e9 : (q_rm (d + 1) (out.2.2.1 - h.2.1) (out.2.2.2 - h.2.2)).cells = out.2.2.1 - h.2.1 := rfl
        omega
      have hR4 : out.2.2.2 ≤ h.2.2 + (q_rm (d + 1) (out.2.2.1 - h.2.1) (out.2.2.2 - h.2.2)).slots := by
        have e9 : (q_rm (d + 1) (out.2.2.1 - h.2.1) (out.2.2.2 - h.2.2)).slots = out.2.2.2 - h.2.2 := rfl
        omega
      exact hW p e _ s m _ below meth c D cA _ h.2.1 h.2.2 α α h hC B.returns hT hR1 hR2 hτ rfl q_ag.rf (Nat.le_refl _) hR3 hR4 s.heap [] _ 0 0 hP hD hS hl rfl rfl
    show vx_Met l (mt k).1 (q_cw (mt k) :: WU) _ _ _ _ _ _ _
    cases hh9 : (mt k).2.2.2.2.1 with
    | nil =>
      have ecw : q_cw (mt k) = .code (mt k).1 (mt k).2.1 (mt k).2.2.1 (mt k).2.2.2.1 := by
        unfold q_cw
        rw [hh9]
      refine vx_ofW (cc := (mt k).2.1) (maxL := (mt k).2.2.1) (ret := (mt k).2.2.2.1) (hpl k) (by rw [ecw]) ?_
      intro p e s m args below meth c s₁ B hml9 hx9 hPc
      refine body p e s m args below meth c s₁ B hml9 ?_ hPc
      rw [hh9]
      exact List.eq_nil_iff_forall_not_mem.mpr hx9
    | cons x9 r9 =>
      have ecw : q_cw (mt k) = .codeWith (mt k).1 (mt k).2.1 (mt k).2.2.1 (mt k).2.2.2.1 (x9 :: r9) := by
        unfold q_cw
        rw [hh9]
      refine vx_ofWH (cc := (mt k).2.1) (maxL := (mt k).2.2.1) (ret := (mt k).2.2.2.1) (hh := x9 :: r9) (hpl k) (by rw [ecw]) ?_
      intro p e s m args below meth c s₁ B hml9 hPc
      refine body p e s m args below meth c s₁ B hml9 ?_ hPc
      rw [hh9]
      have hts : ∀ w ∈ q_cw (mt k) :: WU, w.before args s = true := atoms_spec (ws := q_cw (mt k) :: WU) B.pre
      have h9 := hts _ List.mem_cons_self
      rw [ecw] at h9
      exact vx_table (x := (mt k).1) B h9
end QN
end
section
-- 09.ends
/-! ===== returns, throws, calls, handlers: the entries of the table, one by one ===== -/
def q_ri (st : q_G) : Option (Option Value) := match st.2.2.1 with
  | [.int x] => some (some (.int x))
  | _ => none
def q_rz (st : q_G) : Option (Option Value) := match st.2.2.1 with
  | [.int x] => if x = 0 ∨ x = 1 then some (some (.int x)) else none
  | _ => none
def q_rl (st : q_G) : Option (Option Value) := match st.2.2.1 with
  | [.long x] => some (some (.long x))
  | _ => none
def q_rf (st : q_G) : Option (Option Value) := match st.2.2.1 with
  | [.float x] => some (some (.float x))
  | _ => none
def q_rd (st : q_G) : Option (Option Value) := match st.2.2.1 with
  | [.double x] => some (some (.double x))
  | _ => none
def q_ra (st : q_G) : Option (Option Value) := match st.2.2.1 with
  | [.ref a] => some (some (.ref a))
  | [.null] => some (some .null)
  | _ => none
def q_rv (st : q_G) : Option (Option Value) := match st.2.2.1 with
  | [] => some none
  | _ => none
section QR
variable {WU : List Cond} {cl : List vw_C} {tyl : List FieldType} {GF : (Nat → Prop) → State → Heap → Prop} {τ : Nat → Nat} {mt : Nat → q_M} {M : q_M} {own : String} {cc : ByteArray} {nL pc nx : Nat}
theorem q_ireturn (hdg : decode M.2.1 pc = .ok (.ireturn, 1)) (hr : M.2.2.2.1 = some .int) : q_Re M pc q_ri := by
  intro g v hpc hf
  obtain ⟨pc', L, st, h⟩ := g
  obtain rfl : pc' = pc := hpc
  unfold q_ri at hf
  dsimp only at hf
  split at hf
  · cases hf
    exact ⟨fun w hw => by cases hw; exact List.mem_cons_self, fun α he hb hr9 hlk hq hf9 => W.iret he hb (hr9.trans hr) hq hf9 hdg hlk⟩
  · cases hf
theorem q_zreturn {ty : FieldType} (hdg : decode M.2.1 pc = .ok (.ireturn, 1)) (hr : M.2.2.2.1 = some ty) (h0 : narrow ty (.int 0) = .int 0) (h1 : narrow ty (.int 1) = .int 1) : q_Re M pc q_rz := by
  intro g v hpc hf
  obtain ⟨pc', L, st, h⟩ := g
  obtain rfl : pc' = pc := hpc
  unfold q_rz at hf
  dsimp only at hf
  split at hf
  · split at hf
    · rename_i x hx
      cases hf
      refine ⟨fun w hw => by cases hw; exact List.mem_cons_self, fun α he hb hr9 hlk hq hf9 => W.zret he hb (hr9.trans hr) ?_ hq hf9 hdg hlk⟩
      rcases hx with rfl | rfl
      · exact h0
      · exact h1
    · cases hf
  · cases hf
theorem q_lreturn (hdg : decode M.2.1 pc = .ok (.lreturn, 1)) (hr : M.2.2.2.1 = some .long) : q_Re M pc q_rl := by
  intro g v hpc hf
  obtain ⟨pc', L, st, h⟩ := g
  obtain rfl : pc' = pc := hpc
  unfold q_rl at hf
  dsimp only at hf
  split at hf
  · cases hf
    exact ⟨fun w hw => by cases hw; exact List.mem_cons_self, fun α he hb hr9 hlk hq hf9 => W.lret he hb (hr9.trans hr) hq hf9 hdg hlk⟩
  · cases hf
theorem q_freturn (hdg : decode M.2.1 pc = .ok (.freturn, 1)) (hr : M.2.2.2.1 = some .float) : q_Re M pc q_rf := by
  intro g v hpc hf
  obtain ⟨pc', L, st, h⟩ := g
  obtain rfl : pc' = pc := hpc
  unfold q_rf at hf
  dsimp only at hf
  split at hf
  · cases hf
    exact ⟨fun w hw => by cases hw; exact List.mem_cons_self, fun α he hb hr9 hlk hq hf9 => W.fret he hb (hr9.trans hr) hq hf9 hdg hlk⟩
  · cases hf
theorem q_dreturn (hdg : decode M.2.1 pc = .ok (.dreturn, 1)) (hr : M.2.2.2.1 = some .double) : q_Re M pc q_rd := by
  intro g v hpc hf
  obtain ⟨pc', L, st, h⟩ := g
  obtain rfl : pc' = pc := hpc
  unfold q_rd at hf
  dsimp only at hf
  split at hf
  · cases hf
    exact ⟨fun w hw => by cases hw; exact List.mem_cons_self, fun α he hb hr9 hlk hq hf9 => W.dret he hb (hr9.trans hr) hq hf9 hdg hlk⟩
  · cases hf
theorem q_areturn {rt : FieldType} (hdg : decode M.2.1 pc = .ok (.areturn, 1)) (hr : M.2.2.2.1 = some rt) (hrt : (∃ n, rt = .object n) ∨ ∃ t, rt = .array t) : q_Re M pc q_ra := by
  intro g v hpc hf
  obtain ⟨pc', L, st, h⟩ := g
  obtain rfl : pc' = pc := hpc
  unfold q_ra at hf
  dsimp only at hf
  split at hf
  · cases hf
    exact ⟨fun w hw => by cases hw; exact List.mem_cons_self, fun α he hb hr9 hlk hq hf9 => W.aret he hb (hr9.trans hr) hrt (Or.inr ⟨_, rfl⟩) hq hf9 hdg hlk⟩
  · cases hf
    exact ⟨fun w hw => by cases hw; exact List.mem_cons_self, fun α he hb hr9 hlk hq hf9 => W.aret he hb (hr9.trans hr) hrt (Or.inl rfl) hq hf9 hdg hlk⟩
  · cases hf
theorem q_return (hdg : decode M.2.1 pc = .ok (.return_, 1)) (hr : M.2.2.2.1 = none) : q_Re M pc q_rv := by
  intro g v hpc hf
  obtain ⟨pc', L, st, h⟩ := g
  obtain rfl : pc' = pc := hpc
  unfold q_rv at hf
  dsimp only at hf
  split at hf
  · cases hf
    exact ⟨fun w hw => (by cases hw), fun α he hb hr9 hlk hq hf9 => W.vret he hb (hr9.trans hr) hq hf9 hdg hlk⟩
  · cases hf
/-- a call: the arguments, the rest -/
def q_fc (k nA : Nat) (g : q_G) : Option (Nat × List Value × List Value) := if nA ≤ g.2.2.1.length ∧ ((g.2.2.1.drop nA).map fun v => v.category).sum ≤ 8 then some (k, (g.2.2.1.take nA).reverse, g.2.2.1.drop nA) else none
def q_fv (k nA ci : Nat) (g : q_G) : Option (Nat × List Value × List Value) := match g.2.2.1.drop nA with
  | .ref b :: r => match q_at g.2.2.2 b with
    | some (.inr (cj, _)) => if cj = ci ∧ (r.map fun v => v.category).sum ≤ 8 then some (k, .ref b :: (g.2.2.1.take nA).reverse, r) else none
    | _ => none
  | _ => none
def q_fi (k nA : Nat) (g : q_G) : Option (Nat × List Value × List Value) := match g.2.2.1.drop nA with
  | .ref b :: r => if (r.map fun v => v.category).sum ≤ 8 then some (k, .ref b :: (g.2.2.1.take nA).reverse, r) else none
  | _ => none
theorem q_catsum (α : Nat → Nat) (r : List Value) : ((r.map (q_v α)).map fun v => v.category).sum = (r.map fun v => v.category).sum := by
  rw [List.map_map]
  congr 1
  exact List.map_congr_left fun v _ => q_v_cat α v
theorem q_cw0 {M : q_M} (h : M.2.2.2.2.1 = []) : q_cw M = .code M.1 M.2.1 M.2.2.1 M.2.2.2.1 := by
  unfold q_cw
  rw [h]
theorem q_good {WU : List Cond} {M : q_M} (hgood : ∀ w ∈ WU, goodWord w = true) (hwc : q_cw M ∈ WU) : GoodIn WU (q_cw M :: WU) := fun w hw => by
  rcases List.mem_cons.mp hw with rfl | h
  · exact ⟨hwc, good_of_word (hgood _ hwc)⟩
  · exact ⟨h, good_of_word (hgood _ h)⟩
theorem q_goods {WU ws xs : List Cond} (hgood : ∀ w ∈ WU, goodWord w = true) (hx : ∀ w ∈ xs, w ∈ WU) (hG : GoodIn WU ws) : GoodIn WU (xs ++ ws) := fun w hw => by
  rcases List.mem_append.mp hw with h | h
  · exact ⟨hx w h, good_of_word (hgood _ (hx w h))⟩
  · exact hG w h
theorem q_nR {R : Room} {rm : Room} {mL : Nat} (h1 : rm.frames + 1 ≤ R.frames) (h2 : 99 + rm.locals ≤ R.locals) (h3 : mL ≤ 80) : rm.frames + 1 ≤ R.frames ∧ 8 + (mL + 11) + rm.locals ≤ R.locals := ⟨h1, by omega⟩
theorem q_callS {k nA idx : Nat} (hdg : decode cc pc = .ok (.invokestatic idx, 3)) (hx : nx = pc + 3) (hh : (mt k).2.2.2.2.1 = []) (hml : (mt k).2.2.1 ≤ 80) (hwl : Cond.methodLink own idx (mt k).1 ∈ WU) (hws : Cond.static (mt k).1 ∈ WU) (hwi : Cond.initialized (mt k).1.cls ∈ WU) (hwc : q_cw (mt k) ∈ WU)
    (hd : (mt k).1.cls ≠ "java/lang/invoke/MethodHandle" ∧ (mt k).1.cls ≠ "java/lang/invoke/VarHandle" ∧ (parseMethodDescriptor (mt k).1.desc).map (fun d => d.parameters.length) = some nA) : q_Cs WU cl tyl GF τ mt own cc nL pc nx (q_fc k nA) := by
  refine ⟨hx, ?_⟩
  intro g k' as rest hpc hf
  obtain ⟨pc', L, st, h⟩ := g
  obtain rfl : pc' = pc := hpc
  unfold q_fc at hf
  split at hf
  · rename_i hlen
    cases hf
    obtain ⟨hlen, hsum⟩ := hlen
    refine ⟨fun v hv => List.mem_of_mem_take (List.mem_reverse.mp hv), fun v hv => List.mem_of_mem_drop hv, ?_⟩
    intro p l e R s m args below meth c H locs cells slots mc ms rm Pc Qc XC free A ls D cA α he hb hm9 hown hts hgood hG hK hS9 hτ9 hM hrc hrs h1 h2 hbl hpre hk hn hP hsz
    have cw := va_cwS (R := R) (s := s) (args := args) (own := own) (index := idx) (y := (mt k).1) (bytes := (mt k).2.1) (maxL := (mt k).2.2.1) (ret := (mt k).2.2.2.1) (Ts := WU) (ws := q_cw (mt k) :: WU) nA hts (q_goods hgood (fun w hw => by
      rcases List.mem_cons.mp hw with rfl | hw
      · exact hwl
      · rcases List.mem_cons.mp hw with rfl | hw
        · exact hws
        · rcases List.mem_cons.mp hw with rfl | hw
          · exact hwi
          · cases hw) (q_good hgood hwc)) (by rw [q_cw0 hh]) hrc hrs hd (q_nR h1 h2 hml)
    refine vx_runS (nL := nL) ⟨he, hb, hm9, hown, hts⟩ hM cw ⟨hbl, hpre⟩ rfl (by rw [List.length_map, List.length_reverse, List.length_take]; exact Nat.min_eq_left hlen) hsz ?_ (lv_room (by rw [q_catsum]; exact hsum)) hdg ⟨hk, hn⟩
    show st.map (q_v α) = ((st.take nA).reverse.map (q_v α)).reverse ++ (st.drop nA).map (q_v α)
    rw [← List.map_reverse, List.reverse_reverse, ← List.map_append, List.take_append_drop]
  · cases hf
theorem q_callSX {k nA idx : Nat} {x9 : Nat × Nat × Nat × Nat} {r9 : List (Nat × Nat × Nat × Nat)} (hdg : decode cc pc = .ok (.invokestatic idx, 3)) (hx : nx = pc + 3) (hh : (mt k).2.2.2.2.1 = x9 :: r9) (hml : (mt k).2.2.1 ≤ 80) (hwl : Cond.methodLink own idx (mt k).1 ∈ WU) (hws : Cond.static (mt k).1 ∈ WU) (hwi : Cond.initialized (mt k).1.cls ∈ WU) (hwc : q_cw (mt k) ∈ WU)
    (hd : (mt k).1.cls ≠ "java/lang/invoke/MethodHandle" ∧ (mt k).1.cls ≠ "java/lang/invoke/VarHandle" ∧ (parseMethodDescriptor (mt k).1.desc).map (fun d => d.parameters.length) = some nA) : q_Cs WU cl tyl GF τ mt own cc nL pc nx (q_fc k nA) := by
  refine ⟨hx, ?_⟩
  intro g k' as rest hpc hf
  obtain ⟨pc', L, st, h⟩ := g
  obtain rfl : pc' = pc := hpc
  unfold q_fc at hf
  split at hf
  · rename_i hlen
    cases hf
    obtain ⟨hlen, hsum⟩ := hlen
    refine ⟨fun v hv => List.mem_of_mem_take (List.mem_reverse.mp hv), fun v hv => List.mem_of_mem_drop hv, ?_⟩
    intro p l e R s m args below meth c H locs cells slots mc ms rm Pc Qc XC free A ls D cA α he hb hm9 hown hts hgood hG hK hS9 hτ9 hM hrc hrs h1 h2 hbl hpre hk hn hP hsz
    have ecw : q_cw (mt k) = .codeWith (mt k).1 (mt k).2.1 (mt k).2.2.1 (mt k).2.2.2.1 (x9 :: r9) := by
      unfold q_cw
      rw [hh]
    have cw := vx_cwSW (R := R) (s := s) (args := args) (own := own) (index := idx) (y := (mt k).1) (bytes := (mt k).2.1) (maxL := (mt k).2.2.1) (ret := (mt k).2.2.2.1) (hh := x9 :: r9) (Ts := WU) (ws := q_cw (mt k) :: WU) nA hts (q_goods hgood (fun w hw => by
      rcases List.mem_cons.mp hw with rfl | hw
      · exact hwl
      · rcases List.mem_cons.mp hw with rfl | hw
        · exact hws
        · rcases List.mem_cons.mp hw with rfl | hw
          · exact hwi
          · cases hw) (q_good hgood hwc)) (by rw [ecw]) hrc hrs hd (q_nR h1 h2 hml)
    refine vx_runSX (nL := nL) ⟨he, hb, hm9, hown, hts⟩ hM cw ⟨hbl, hpre⟩ rfl (by rw [List.length_map, List.length_reverse, List.length_take]; exact Nat.min_eq_left hlen) hsz ?_ (lv_room (by rw [q_catsum]; exact hsum)) hdg ⟨hk, hn⟩
    show st.map (q_v α) = ((st.take nA).reverse.map (q_v α)).reverse ++ (st.drop nA).map (q_v α)
    rw [← List.map_reverse, List.reverse_reverse, ← List.map_append, List.take_append_drop]
  · cases hf
theorem q_split {st r : List Value} {nA : Nat} {b : Value} (h : st.drop nA = b :: r) : (st.take nA).length = nA ∧ st = st.take nA ++ b :: r := by
  have h1 : nA < st.length := by
    rcases Nat.lt_or_ge nA st.length with q | q
    · exact q
    · rw [List.drop_eq_nil_of_le q] at h; cases h
  exact ⟨by rw [List.length_take]; omega, by rw [← h, List.take_append_drop]⟩
theorem q_callV {k nA idx ci N : Nat} {C : String} {T : u_T} (hdg : decode cc pc = .ok (.invokevirtual idx, 3)) (hx : nx = pc + 3) (hc : cl[ci]? = some (C, T, N)) (hh : (mt k).2.2.2.2.1 = []) (hml : (mt k).2.2.1 ≤ 80) (hwl : Cond.methodLink own idx (mt k).1 ∈ WU) (hws : Cond.instanceMethod (mt k).1 ∈ WU) (hwe : Cond.selects C (mt k).1 (mt k).1 ∈ WU) (hwi : Cond.initialized C ∈ WU) (hwc : q_cw (mt k) ∈ WU)
    (hd : (mt k).1.cls = C ∧ (mt k).1.cls ≠ "java/lang/invoke/MethodHandle" ∧ (mt k).1.cls ≠ "java/lang/invoke/VarHandle" ∧ (parseMethodDescriptor (mt k).1.desc).map (fun d => d.parameters.length) = some nA) : q_Cs WU cl tyl GF τ mt own cc nL pc nx (q_fv k nA ci) := by
  refine ⟨hx, ?_⟩
  intro g k' as rest hpc hf
  obtain ⟨pc', L, st, h⟩ := g
  obtain rfl : pc' = pc := hpc
  unfold q_fv at hf
  dsimp only at hf
  split at hf
  · rename_i b r hst
    obtain ⟨hlen, hst2⟩ := q_split hst
    split at hf
    · rename_i cj fs e1
      split at hf
      · rename_i hcs
        cases hf
        obtain ⟨rfl, hsum⟩ := hcs
        obtain ⟨eb, e2⟩ := q_at_in e1
        refine ⟨fun v hv => ?_, fun v hv => by show v ∈ st; rw [hst2]; exact List.mem_append_right _ (List.mem_cons_of_mem _ hv), ?_⟩
        · show v ∈ st
          rcases List.mem_cons.mp hv with rfl | hv
          · rw [hst2]; exact List.mem_append_right _ List.mem_cons_self
          · exact List.mem_of_mem_take (List.mem_reverse.mp hv)
        intro p l e R s m args below meth c H locs cells slots mc ms rm Pc Qc XC free A ls D cA α he hb hm9 hown hts hgood hG hK hS9 hτ9 hM hrc hrs h1 h2 hbl hpre hk hn hP hsz
        have cw := cwV (R := R) (s := s) (args := args) (own := own) (C := C) (index := idx) (y := (mt k).1) (bytes := (mt k).2.1) (maxL := (mt k).2.2.1) (ret := (mt k).2.2.2.1) (Ts := WU) (ws := q_cw (mt k) :: WU) nA hts (q_goods hgood (fun w hw => by
          rcases List.mem_cons.mp hw with rfl | hw
          · exact hwl
          · rcases List.mem_cons.mp hw with rfl | hw
            · exact hws
            · rcases List.mem_cons.mp hw with rfl | hw
              · exact hwe
              · rcases List.mem_cons.mp hw with rfl | hw
                · exact hwi
                · cases hw) (q_good hgood hwc)) (by rw [q_cw0 hh]) hrc hrs hd (q_nR h1 h2 hml)
        have hw0 := q_w_get (cA := cA) (α := α) e2
        rw [← eb] at hw0
        have hrecv := va_recv hK hP hc hw0
        refine vx_runV (nL := nL) (C := C) (b := α b) (As := (st.take nA).reverse.map (q_v α)) ⟨he, hb, hm9, hown, hts⟩ hM cw ⟨hbl, hrecv, hpre⟩ rfl (by rw [List.length_map, List.length_reverse]; exact hlen) hsz ?_ (lv_room (by rw [q_catsum]; exact hsum)) hdg ⟨hk, hn⟩
        show st.map (q_v α) = ((st.take nA).reverse.map (q_v α)).reverse ++ q_v α (.ref b) :: rest.map (q_v α)
        rw [← List.map_reverse, List.reverse_reverse, ← List.map_cons, ← List.map_append, ← hst2]
      · cases hf
    · cases hf
  · cases hf
theorem q_callI {k nA idx : Nat} (hdg : decode cc pc = .ok (.invokespecial idx, 3)) (hx : nx = pc + 3) (hh : (mt k).2.2.2.2.1 = []) (hml : (mt k).2.2.1 ≤ 80) (hret : (mt k).2.2.2.1 = none) (hwl : Cond.methodLink own idx (mt k).1 ∈ WU) (hws : Cond.instanceMethod (mt k).1 ∈ WU) (hwi : Cond.initialized (mt k).1.cls ∈ WU) (hwc : q_cw (mt k) ∈ WU) (hy1 : (mt k).1.name = "<init>")
    (hd : (mt k).1.cls ≠ "java/lang/invoke/MethodHandle" ∧ (mt k).1.cls ≠ "java/lang/invoke/VarHandle" ∧ (parseMethodDescriptor (mt k).1.desc).map (fun d => d.parameters.length) = some nA) : q_Cs WU cl tyl GF τ mt own cc nL pc nx (q_fi k nA) := by
  refine ⟨hx, ?_⟩
  intro g k' as rest hpc hf
  obtain ⟨pc', L, st, h⟩ := g
  obtain rfl : pc' = pc := hpc
  unfold q_fi at hf
  dsimp only at hf
  split at hf
  · rename_i b r hst
    obtain ⟨hlen, hst2⟩ := q_split hst
    split at hf
    · rename_i hsum
      cases hf
      refine ⟨fun v hv => ?_, fun v hv => by show v ∈ st; rw [hst2]; exact List.mem_append_right _ (List.mem_cons_of_mem _ hv), ?_⟩
      · show v ∈ st
        rcases List.mem_cons.mp hv with rfl | hv
        · rw [hst2]; exact List.mem_append_right _ List.mem_cons_self
        · exact List.mem_of_mem_take (List.mem_reverse.mp hv)
      intro p l e R s m args below meth c H locs cells slots mc ms rm Pc Qc XC free A ls D cA α he hb hm9 hown hts hgood hG hK hS9 hτ9 hM hrc hrs h1 h2 hbl hpre hk hn hP hsz
      have cw := cwI (R := R) (s := s) (args := args) (own := own) (index := idx) (y := (mt k).1) (bytes := (mt k).2.1) (maxL := (mt k).2.2.1) (Ts := WU) (ws := q_cw (mt k) :: WU) nA hts (q_good hgood hwc) (by rw [q_cw0 hh, hret]) hrc hrs (hts _ hwi) (hts _ hwl) (hts _ hws) hy1 hd (q_nR h1 h2 hml)
      refine vx_runI (nL := nL) (b := α b) (As := (st.take nA).reverse.map (q_v α)) ⟨he, hb, hm9, hown, hts⟩ hM cw ⟨hbl, hpre⟩ rfl (by rw [List.length_map, List.length_reverse]; exact hlen) hsz ?_ (lv_room (by rw [q_catsum]; exact hsum)) hdg ⟨hk, hn⟩
      show st.map (q_v α) = ((st.take nA).reverse.map (q_v α)).reverse ++ q_v α (.ref b) :: rest.map (q_v α)
      rw [← List.map_reverse, List.reverse_reverse, ← List.map_cons, ← List.map_append, ← hst2]
    · cases hf
  · cases hf
theorem q_callIN {k nA idx : Nat} {host : String} (hdg : decode cc pc = .ok (.invokespecial idx, 3)) (hx : nx = pc + 3) (hh : (mt k).2.2.2.2.1 = []) (hml : (mt k).2.2.1 ≤ 80) (hret : (mt k).2.2.2.1 = none) (hwl : ∀ A U H, GF A U H → va_Nw (.methodLinkNest own idx (mt k).1 host) U) (hws : Cond.instanceMethod (mt k).1 ∈ WU) (hwi : Cond.initialized (mt k).1.cls ∈ WU) (hwc : q_cw (mt k) ∈ WU) (hy1 : (mt k).1.name = "<init>")
    (hd : (mt k).1.cls ≠ "java/lang/invoke/MethodHandle" ∧ (mt k).1.cls ≠ "java/lang/invoke/VarHandle" ∧ (parseMethodDescriptor (mt k).1.desc).map (fun d => d.parameters.length) = some nA) : q_Cs WU cl tyl GF τ mt own cc nL pc nx (q_fi k nA) := by
  refine ⟨hx, ?_⟩
  intro g k' as rest hpc hf
  obtain ⟨pc', L, st, h⟩ := g
  obtain rfl : pc' = pc := hpc
  unfold q_fi at hf
  dsimp only at hf
  split at hf
  · rename_i b r hst
    obtain ⟨hlen, hst2⟩ := q_split hst
    split at hf
    · rename_i hsum
      cases hf
      refine ⟨fun v hv => ?_, fun v hv => by show v ∈ st; rw [hst2]; exact List.mem_append_right _ (List.mem_cons_of_mem _ hv), ?_⟩
      · show v ∈ st
        rcases List.mem_cons.mp hv with rfl | hv
        · rw [hst2]; exact List.mem_append_right _ List.mem_cons_self
        · exact List.mem_of_mem_take (List.mem_reverse.mp hv)
      intro p l e R s m args below meth c H locs cells slots mc ms rm Pc Qc XC free A ls D cA α he hb hm9 hown hts hgood hG hK hS9 hτ9 hM hrc hrs h1 h2 hbl hpre hk hn hP hsz
      have cw := va_cnB (R := R) (s := s) (args := args) (own := own) (host := host) (index := idx) (y := (mt k).1) (bytes := (mt k).2.1) (maxL := (mt k).2.2.1) (ret := none) (Ts := WU) (ws := q_cw (mt k) :: WU) nA hts (q_good hgood hwc) (by rw [q_cw0 hh, hret]) hrc hrs (hwl _ _ _ hG) (hts _ hwi) hd (q_nR h1 h2 hml)
      refine vx_runIN (nL := nL) (host := host) (b := α b) (As := (st.take nA).reverse.map (q_v α)) ⟨he, hb, hm9, hown, hts⟩ hM ⟨cw, hy1, hts _ hws⟩ ⟨hbl, hpre⟩ rfl (by rw [List.length_map, List.length_reverse]; exact hlen) hsz ?_ (lv_room (by rw [q_catsum]; exact hsum)) hdg ⟨hk, hn⟩
      show st.map (q_v α) = ((st.take nA).reverse.map (q_v α)).reverse ++ q_v α (.ref b) :: rest.map (q_v α)
      rw [← List.map_reverse, List.reverse_reverse, ← List.map_cons, ← List.map_append, ← hst2]
    · cases hf
  · cases hf
/-- Object() -/
def q_obj (nx : Nat) (g : q_G) : Option q_G := match g.2.2.1 with
  | .ref _ :: r => if (r.map fun v => v.category).sum ≤ 8 then some (nx, g.2.1, r, g.2.2.2) else none
  | _ => none
theorem q_objInit {mname : String} {idx : Nat} (hdg : decode cc pc = .ok (.invokespecial idx, 3)) (hx : nx = pc + 3) (hw1 : Cond.methodLink own idx objectInit ∈ WU) (hw2 : Cond.instanceMethod objectInit ∈ WU) (hw3 : Cond.code objectInit ⟨#[0xb1]⟩ 1 none ∈ WU) : q_J WU cl tyl GF τ own mname cc nL pc (q_obj nx) := by
  intro g g' hpc hf hg
  obtain ⟨pc', L, st, h⟩ := g
  obtain rfl : pc' = pc := hpc
  unfold q_obj at hf
  dsimp only at hf
  split at hf
  · rename_i a r
    split at hf
    · rename_i hsum
      cases hf
      refine ⟨⟨⟨hg.1, q_ok1 hg.2.1, hg.2.2⟩, Nat.le_refl _, Nat.le_refl _, Nat.le_refl _⟩, ?_⟩
      intro p l e R s m args below meth c Q D cA A k0 n0 α hC hR1 hR2 hτ hk' hn kk H locs ls cells slots hP hD hS hl ek en
      subst hx
      have hlocals : 2 * (F0 m pc' ls ((Value.ref a :: r).map (q_v α))).monitorRoom + ((r.map (q_v α)).map fun v => v.category).sum + 12 ≤ R.locals := by
        rw [q_catsum]
        have e9 : (F0 m pc' ls ((Value.ref a :: r).map (q_v α))).monitorRoom = 0 := rfl
        omega
      exact W.objInit hC.1 hC.2.1 hC.2.2.1 (hC.2.2.2.2.1 _ hw1) (hC.2.2.2.2.1 _ hw2) (hC.2.2.2.2.1 _ hw3) rfl (hl.1.trans hC.2.2.2.1.symm) rfl hdg (by omega) hlocals (W.eq rfl (kk α q_ag.rf H locs ls cells slots hP hD hS hl ek en))
    · cases hf
  · cases hf
end QR
end
section
-- 10.more
/-! ===== switches, copies, texts, throws, handlers ===== -/
def q_tsw (pc : Nat) (dflt lo hi : Int) (offs : Array Int) (g : q_G) : Option q_G := match g.2.2.1 with
  | .int x :: r => if x.toInt < lo ∨ hi < x.toInt then some ((pc + dflt).toNat, g.2.1, r, g.2.2.2) else match offs[(x.toInt - lo).toNat]? with
    | some o => some ((pc + o).toNat, g.2.1, r, g.2.2.2)
    | none => none
  | _ => none
def q_lsw (pc : Nat) (dflt : Int) (ps : Array (Int × Int)) (g : q_G) : Option q_G := match g.2.2.1 with
  | .int x :: r => some ((pc + Op.lookupswitch.offset ps.toList dflt x.toInt).toNat, g.2.1, r, g.2.2.2)
  | _ => none
section QX
variable {WU : List Cond} {cl : List vw_C} {tyl : List FieldType} {GF : (Nat → Prop) → State → Heap → Prop} {τ : Nat → Nat} {mt : Nat → q_M} {M : q_M} {own mname : String} {cc : ByteArray} {nL pc nx : Nat}
theorem q_tableswitch {dflt lo hi : Int} {offs : Array Int} {len : Nat} (hdg : decode cc pc = .ok (.tableswitch dflt lo hi offs, len)) (h0 : 0 ≤ (pc : Int) + dflt) (h1 : offs.toList.all (fun o => decide (0 ≤ (pc : Int) + o)) = true) : q_J WU cl tyl GF τ own mname cc nL pc (q_tsw pc dflt lo hi offs) := by
  intro g g' hpc hf hg
  obtain ⟨pc', L, st, h⟩ := g
  obtain rfl : pc' = pc := hpc
  unfold q_tsw at hf
  dsimp only at hf
  split at hf
  · rename_i x r
    split at hf
    · rename_i hx
      cases hf
      refine ⟨⟨⟨hg.1, q_ok1 hg.2.1, hg.2.2⟩, Nat.le_refl _, Nat.le_refl _, Nat.le_refl _⟩, ?_⟩
      intro p l e R s m args below meth c Q D cA A k0 n0 α hC hR1 hR2 hτ hk' hn kk H locs ls cells slots hP hD hS hl ek en
      exact lv_tableOut hC.1 hC.2.1 hdg hx (Int.toNat_of_nonneg h0).symm (kk α q_ag.rf H locs ls cells slots hP hD hS hl ek en)
    · rename_i hx
      split at hf
      · rename_i o ho
        cases hf
        refine ⟨⟨⟨hg.1, q_ok1 hg.2.1, hg.2.2⟩, Nat.le_refl _, Nat.le_refl _, Nat.le_refl _⟩, ?_⟩
        intro p l e R s m args below meth c Q D cA A k0 n0 α hC hR1 hR2 hτ hk' hn kk H locs ls cells slots hP hD hS hl ek en
        have ho2 : 0 ≤ (pc' : Int) + o := of_decide_eq_true (List.all_eq_true.mp h1 o (List.mem_of_getElem? (by rw [Array.getElem?_toList]; exact ho)))
        exact lv_tableIn hC.1 hC.2.1 hdg (fun q => hx (Or.inl q)) (fun q => hx (Or.inr q)) ho (Int.toNat_of_nonneg ho2).symm (kk α q_ag.rf H locs ls cells slots hP hD hS hl ek en)
      · cases hf
  · cases hf
theorem q_lsw_nn (pc : Int) (d : Int) (h0 : 0 ≤ pc + d) (x : Int) : ∀ ps : List (Int × Int), ps.all (fun q => decide (0 ≤ pc + q.2)) = true → 0 ≤ pc + Op.lookupswitch.offset ps d x := by
  intro ps
  induction ps with
  | nil => intro _; exact h0
  | cons q r ih =>
    intro h
    rw [List.all_cons, Bool.and_eq_true] at h
    obtain ⟨a, o⟩ := q
    rw [Op.lookupswitch.offset_cons]
    split
    · exact of_decide_eq_true h.1
    · exact ih h.2
theorem q_lookupswitch {dflt : Int} {ps : Array (Int × Int)} {len : Nat} (hdg : decode cc pc = .ok (.lookupswitch dflt ps, len)) (hp : (ps.toList.zip (ps.toList.drop 1)).all (fun (a, next) => a.1 < next.1) = true) (h0 : 0 ≤ (pc : Int) + dflt) (h1 : ps.toList.all (fun q => decide (0 ≤ (pc : Int) + q.2)) = true) : q_J WU cl tyl GF τ own mname cc nL pc (q_lsw pc dflt ps) := by
  intro g g' hpc hf hg
  obtain ⟨pc', L, st, h⟩ := g
  obtain rfl : pc' = pc := hpc
  unfold q_lsw at hf
  dsimp only at hf
  split at hf
  · rename_i x r
    cases hf
    refine ⟨⟨⟨hg.1, q_ok1 hg.2.1, hg.2.2⟩, Nat.le_refl _, Nat.le_refl _, Nat.le_refl _⟩, ?_⟩
    intro p l e R s m args below meth c Q D cA A k0 n0 α hC hR1 hR2 hτ hk' hn kk H locs ls cells slots hP hD hS hl ek en
    exact lv_lookup hC.1 hC.2.1 hdg hp rfl (Int.toNat_of_nonneg (q_lsw_nn _ _ h0 _ _ h1)).symm (kk α q_ag.rf H locs ls cells slots hP hD hS hl ek en)
  · cases hf
/-- System.arraycopy over rows of ints and bytes of the heap -/
def q_acp (nx t : Nat) (fit : Int32 → Bool) (g : q_G) : Option (Bool × q_G × Option q_G) := match g.2.2.1 with
  | .int n :: .int dp :: .ref a :: .int sp :: .ref b :: r => match q_at g.2.2.2 b, q_at g.2.2.2 a with
    | some (.inl (u, n0, .inl f)), some (.inl (v, n1, .inl f1)) => if u = t ∧ v = t ∧ (r.map fun v => v.category).sum ≤ 8 then some (!(decide (sp < 0)) && (!(decide (dp < 0)) && (!(decide (n < 0)) && (decide (sp.toNatClampNeg + n.toNatClampNeg ≤ n0) && (decide (dp.toNatClampNeg + n.toNatClampNeg ≤ n1) && (List.range n.toNatClampNeg).all fun i => fit (f (sp.toNatClampNeg + i)))))),
        (nx, g.2.1, r, g.2.2.2.1.set (a - 64) (.inl (t, n1, .inl (va_cpy f f1 sp.toNatClampNeg dp.toNatClampNeg n.toNatClampNeg))), g.2.2.2.2), none) else none
    | _, _ => none
  | _ => none
theorem q_nots {P : Prop} [Decidable P] (h : (!(decide P)) = true) : ¬ P := fun q => by rw [decide_eq_true q] at h; cases h
theorem q_arraycopy {idx t : Nat} {ty : FieldType} {fit : Int32 → Bool} (hdg : decode cc pc = .ok (.invokestatic idx, 3)) (ht : tyl[t]? = some ty) (hprim : refKind ty = false) (hfit : ∀ x, fit x = true → fits ty (.int x) = true) (hw1 : Cond.methodLink own idx arraycopyName ∈ WU) (hw2 : Cond.native arraycopyName ∈ WU) (hw3 : Cond.static arraycopyName ∈ WU) (hw4 : Cond.initialized "java/lang/System" ∈ WU) (hx : nx = pc + 3) : q_J WU cl tyl GF τ own mname cc nL pc (q_rs (q_acp nx t fit)) := by
  intro g g' hpc hf hg
  obtain ⟨pc', L, st, h⟩ := g
  obtain rfl : pc' = pc := hpc
  obtain ⟨b9, g1, g2, ef, hb⟩ := q_rs_ok hf
  unfold q_acp at ef
  dsimp only at ef
  split at ef
  · rename_i n dp a sp b r
    split at ef
    · rename_i u n0 f v n1 f1 e1 e2
      split at ef
      · rename_i eu
        cases ef
        obtain ⟨rfl, rfl, hsum⟩ := eu
        rcases hb with ⟨hb, rfl⟩ | ⟨-, hb⟩
        · simp only [Bool.and_eq_true] at hb
          obtain ⟨c1, c2, c3, c4, c5, c6⟩ := hb
          obtain ⟨ea, e3⟩ := q_at_in e2
          obtain ⟨eb, e4⟩ := q_at_in e1
          have hcell : q_okc h.1.length (.inl (v, n1, .inl (va_cpy f f1 sp.toNatClampNeg dp.toNatClampNeg n.toNatClampNeg)) : q_C) := trivial
          have hlen2 : (h.1.set (a - 64) (.inl (v, n1, .inl (va_cpy f f1 sp.toNatClampNeg dp.toNatClampNeg n.toNatClampNeg)) : q_C)).length = h.1.length := List.length_set
          refine ⟨⟨⟨?_, ?_, hg.2.2.set _ hcell⟩, by show _ ≤ (h.1.set _ _).length; rw [List.length_set]; exact Nat.le_refl _, Nat.le_refl _, Nat.le_refl _⟩, ?_⟩
          · show ∀ q ∈ L, q_ok (h.1.set (a - 64) (.inl (v, n1, .inl (va_cpy f f1 sp.toNatClampNeg dp.toNatClampNeg n.toNatClampNeg)) : q_C)).length q.2
            rw [hlen2]; exact hg.1
          · show ∀ v' ∈ r, q_ok (h.1.set (a - 64) (.inl (v, n1, .inl (va_cpy f f1 sp.toNatClampNeg dp.toNatClampNeg n.toNatClampNeg)) : q_C)).length v'
            rw [hlen2]; exact q_ok1 (q_ok2 (q_ok2 hg.2.1))
          intro p l e R s m args below meth c Q D cA A k0 n0' α hC hR1 hR2 hτ hk' hn kk H locs ls cells slots hP hD hS hl ek en
          have hw0 := q_w_get (cA := cA) (α := α) e3
          rw [← ea] at hw0
          have hw9 := q_w_get (cA := cA) (α := α) e4
          rw [← eb] at hw9
          subst hx
          have hset : (q_w cA α h.1).set (a - 64) (α a, q_e cA α (.inl (v, n1, .inl (va_cpy f f1 sp.toNatClampNeg dp.toNatClampNeg n.toNatClampNeg)) : q_C)) = q_w cA α (h.1.set (a - 64) (.inl (v, n1, .inl (va_cpy f f1 sp.toNatClampNeg dp.toNatClampNeg n.toNatClampNeg)) : q_C)) := by
            rw [← q_w_set, ← ea]
          have hloc : ((r.map (q_v α)).map fun v => v.category).sum + (nativeFrameWords "java/lang/System" "arraycopy" 5 + 11) ≤ R.locals := by
            rw [q_catsum]
            have e9 : nativeFrameWords "java/lang/System" "arraycopy" 5 + 11 ≤ 52 := by decide +kernel
            omega
          refine va_copyi hC.1 hC.2.1 (hC.2.2.2.1.trans hl.1.symm) hC.2.2.1 (hC.2.2.2.2.1 _ hw1) (hC.2.2.2.2.1 _ hw2) (hC.2.2.2.2.1 _ hw3) (hC.2.2.2.2.1 _ hw4) hC.2.2.2.2.2.1 hP hD hS _ _ v v hw9 hw0 (q_T_at ht) (q_T_at ht) hprim (q_nots c1) (q_nots c2) (q_nots c3) (of_decide_eq_true c4) (of_decide_eq_true c5) (fun i hi => hfit _ (List.all_eq_true.mp c6 i (List.mem_range.mpr hi))) (by omega) hloc hdg (fun H1 locs1 hP1 hD1 hS1 => ?_)
          have hP2 : va_P D cl ((q_w cA α h.1).set (a - 64) (α a, q_e cA α (.inl (v, n1, .inl (va_cpy f f1 sp.toNatClampNeg dp.toNatClampNeg n.toNatClampNeg)) : q_C))) H1 := hP1
          have hD2 : va_D A ((q_w cA α h.1).set (a - 64) (α a, q_e cA α (.inl (v, n1, .inl (va_cpy f f1 sp.toNatClampNeg dp.toNatClampNeg n.toNatClampNeg)) : q_C))) := hD1
          rw [hset] at hP2 hD2
          exact kk α q_ag.rf H1 locs1 ls cells slots hP2 hD2 hS1 hl ek en
        · cases hb
      · cases ef
    · cases ef
  · cases ef
/-- a text: a thing outside -/
theorem q_ldcS {idx a : Nat} {tx : String} (ha : a < 64) (hS9 : ∀ A U H, GF A U H → vk_R own idx tx (τ a) U) (hdg : decode cc pc = .ok (.ldc idx, 2)) (hx : nx = pc + 2) : q_J WU cl tyl GF τ own mname cc nL pc (q_st nx (q_fk (.ref a))) := by
  intro g g' hpc hf hg
  obtain ⟨pc', L, st, h⟩ := g
  obtain rfl : pc' = pc := hpc
  cases hf
  have hv2 : q_ok h.1.length (.ref a) := fun b hb => by cases hb; exact Nat.lt_of_lt_of_le ha (Nat.le_add_right _ _)
  refine ⟨⟨⟨hg.1, q_okcons hv2 hg.2.1, hg.2.2⟩, Nat.le_refl _, Nat.le_refl _, Nat.le_refl _⟩, ?_⟩
  intro p l e R s m args below meth c Q D cA A k0 n0 α hC hR1 hR2 hτ hk' hn kk H locs ls cells slots hP hD hS hl ek en
  subst hx
  have h9 := hS9 A s s.heap hC.2.2.2.2.2.2.2.1
  rw [← hτ a ha] at h9
  exact va_ldcS hC.1 hC.2.1 hC.2.2.1 h9 hdg (kk α q_ag.rf H locs ls cells slots hP hD hS hl ek en)
/-- throw new E(text) -/
def q_ft (E : String) (g : q_G) : Option String := if (g.2.2.1.map fun v => v.category).sum ≤ 8 then some E else none
theorem q_throwS {cls text : String} {names : List String} {ik is ic a : Nat} (hcls : Bundle.fit cls = true) (hnames : ∀ n ∈ names, Bundle.fit n = true) (hnl : names.length ≤ 3) (hw1 : Cond.classLink own ik cls ∈ WU) (hw2 : Cond.initialized cls ∈ WU) (hstr : ∀ A U H, GF A U H → vk_R own is text (τ a) U)
    (hat1 : ∀ w ∈ (vx_atS own ic cls names).filter goodWord, w ∈ WU) (hat2 : ∀ A U H, GF A U H → ∀ w ∈ (vx_atS own ic cls names).filter (fun w => !goodWord w), va_Nw w U) (hgood : ∀ w ∈ Cond.classLink own ik cls :: Cond.initialized cls :: vx_atS own ic cls names, vx_ot w = true) (hot : ∀ w ∈ (vx_atS own ic cls names).filter (fun w => !goodWord w), w.onTables = true)
    (hU : ∀ A U H, GF A U H → vx_Zq Bundle.tN "UNASSIGNED_STACK" Bundle.steD A U H) (hN : ∀ A U H, GF A U H → vx_Zq Bundle.tN "SUPPRESSED_SENTINEL" Bundle.listD A U H)
    (d0 : decode cc pc = .ok (.new ik, 3)) (d3 : decode cc (pc + 3) = .ok (.dup, 1)) (d4 : decode cc (pc + 4) = .ok (.ldc is, 2)) (d6 : decode cc (pc + 6) = .ok (.invokespecial ic, 3)) (d9 : decode cc (pc + 9) = .ok (.athrow, 1)) : q_Th WU GF own cc nL pc (q_ft cls) := by
  intro g E hpc hf
  obtain ⟨pc', L, st, h⟩ := g
  obtain rfl : pc' = pc := hpc
  unfold q_ft at hf
  split at hf
  · rename_i hsum
    cases hf
    intro p l e R s m args below meth c H locs cells slots mc ms Qc XC free A ls α he hb hlt hown hts hG hlocks hT hml hsz hS hRf hRl hRc hRs hx hfr hc hs
    have hat : ∀ w ∈ vx_atS own ic cls names, w.before args s = true := by
      intro w hw
      by_cases g : goodWord w = true
      · exact hts _ (hat1 w (List.mem_filter.mpr ⟨hw, g⟩))
      · have g2 : (!goodWord w) = true := by
          cases hgw : goodWord w
          · rfl
          · exact absurd hgw g
        have hm : w ∈ (vx_atS own ic cls names).filter (fun w => !goodWord w) := List.mem_filter.mpr ⟨hw, g2⟩
        exact va_Nw.use (hot w hm) (hat2 _ _ _ hG w hm)
    exact vx_throwS he hb hlt hown hcls hnames (hts _ hw1) (hts _ hw2) (hstr _ _ _ hG) hat hgood (hU _ _ _ hG) (hN _ _ _ hG) hS (hsz.trans hml.symm) d0 d3 d4 d6 d9 (fun x hx9 => absurd (hT x hx9) (fun h => h)) (by omega) (by rw [q_catsum]; have hsum : (st.map fun v => v.category).sum ≤ 8 := hsum; omega) hRc hRs hlocks hx hfr hc hs
  · cases hf
/-- handlers: told by a list; each: the class thrown, where it goes, the local that takes it -/
def q_hl (l : List (String × Nat × Nat)) (E : String) : Option (Nat × Nat) := match l with
  | [] => none
  | x :: r => if x.1 = E then some x.2 else q_hl r E
theorem q_hl_mem {l : List (String × Nat × Nat)} {E : String} {z : Nat × Nat} (h : q_hl l E = some z) : (E, z) ∈ l := by
  induction l with
  | nil => cases h
  | cons x r ih =>
    unfold q_hl at h
    split at h
    · rename_i e
      cases h
      obtain ⟨e0, z0⟩ := x
      cases e
      exact List.mem_cons_self
    · exact List.mem_cons_of_mem _ (ih h)
theorem q_hdl {l : List (String × Nat × Nat)} (h : ∀ x ∈ l, q_Hd WU GF M own nL pc (fun E => if x.1 = E then some x.2 else none)) : q_Hd WU GF M own nL pc (q_hl l) := by
  intro E tg i e
  exact h _ (q_hl_mem e) E tg i (if_pos rfl)
theorem q_hd1 {E0 name : String} {tg0 i0 : Nat} {kk9 : Fin 4} (pre : List (Nat × Nat × Nat × Nat)) (x : Nat × Nat × Nat × Nat) (suf : List (Nat × Nat × Nat × Nat)) (hsplit : M.2.2.2.2.1 = pre ++ x :: suf) (hpass : ∀ z ∈ pre, z.2.2.2 ≠ 0 ∧ ∃ nm : String, Cond.classLink own z.2.2.2 nm ∈ WU ∧ ∀ A U H, GF A U H → va_Nc E0 nm U)
    (hx1 : x.1 ≤ pc ∧ pc < x.2.1) (h0 : x.2.2.2 ≠ 0) (hlink : Cond.classLink own x.2.2.2 name ∈ WU) (hcast : ∀ A U H, GF A U H → va_Nw (.castable E0 name) U) (hdg : decode M.2.1 x.2.2.1 = .ok (.astore_n kk9, 1)) (hk9 : (kk9 : Nat) = i0) (hi0 : i0 < nL) (htg : tg0 = x.2.2.1 + 1) :
    q_Hd WU GF M own nL pc (fun E => if E0 = E then some (tg0, i0) else none) := by
  intro E tg i e
  dsimp only at e
  split at e
  · rename_i e0
    cases e; subst e0; subst htg
    intro p l e R s m args below meth c H locs cells slots Q A ls rest ce q lv he hb hown hts hG hT hl hce hcv hcl kk
    refine vx_catch hown (pre.map fun q => ⟨q.1, q.2.1, q.2.2.1, q.2.2.2⟩) ⟨x.1, x.2.1, x.2.2.1, x.2.2.2⟩ (suf.map fun q => ⟨q.1, q.2.1, q.2.2.1, q.2.2.2⟩) ?_ ?_ ?_ h0 (hts _ hlink) (va_Nw.use rfl (hcast _ _ _ hG)) hce hcv hcl ?_
    · rw [hT, hsplit]
      unfold tableOf
      rw [List.map_append, List.map_cons]
    · intro z hz
      obtain ⟨z0, hz0, rfl⟩ := List.mem_map.mp hz
      obtain ⟨hn0, nm, hw, hnc⟩ := hpass z0 hz0
      exact Or.inr ⟨hn0, nm, hts _ hw, hnc _ _ _ hG⟩
    · show (decide (x.1 ≤ pc) && decide (pc < x.2.1)) = true
      rw [decide_eq_true hx1.1, decide_eq_true hx1.2]
      rfl
    · refine lv_astore_n (lv' := (i0, .ref q) :: lv.filter (fun q => !(q.1 == i0) && !(q.1 + 1 == i0 && q.2.category == 2))) he hb hdg hk9 hl hi0 rfl (fun ls' hl' => ?_)
      exact kk ls' ⟨hl'.1, hl'.2.1, fun w hw => hl'.2.2 w (List.mem_cons_of_mem _ hw)⟩
  · cases e
end QX
end
section
-- 11.outside
/-! ===== what lies outside, and stays; tables of code as trees ===== -/
def q_nw (w : Cond) : Bool := match w with
  | .castable .. => true
  | .declares _ => true
  | .methodLinkNest .. => true
  | _ => false
theorem q_nw_warm {w : Cond} (h : q_nw w = true) {s U : State} (hW : s.WarmedH U.vm) (hZ : va_Nw w s) : va_Nw w U := by
  cases w <;> first | exact va_Nw.warmC hW hZ | exact va_Nw.warmD hW hZ | exact va_Nw.warmM hW hZ | cases h
/-- words that the tables alone keep; classes that aren't castable; a class with an array class; texts; statics; rows; fields of objects; objects -/
def q_gf9 (NW : List Cond) (NC : List (String × String)) (AO : List String) (SR : List (String × Nat × String × Nat)) (ZZ : List (String × String × String × Value)) (OB : List (String × String × String × Value × Nat)) (OO : List (String × Nat)) (tyl : List FieldType) (τ : Nat → Nat) (TB : Nat → Option (Nat × Nat × (Nat → Int32))) (A : Nat → Prop) (U : State) (H : Heap) : Prop :=
  (∀ w ∈ NW, va_Nw w U) ∧ (∀ x ∈ NC, va_Nc x.1 x.2 U) ∧ (∀ x ∈ AO, va_AO x U) ∧ (∀ x ∈ SR, vk_R x.1 x.2.1 x.2.2.1 (τ x.2.2.2) U) ∧ vx_Zq Bundle.tN "UNASSIGNED_STACK" Bundle.steD A U H ∧ vx_Zq Bundle.tN "SUPPRESSED_SENTINEL" Bundle.listD A U H ∧
  (∀ x ∈ ZZ, va_Z x.1 x.2.1 x.2.2.1 (q_v τ x.2.2.2) A U H) ∧ (∀ (a t n : Nat) (f : Nat → Int32) (ty : FieldType), TB a = some (t, n, f) → tyl[t]? = some ty → va_T ty (τ a) n (fun j => .int (f j)) A U H) ∧ (∀ x ∈ OB, va_OF x.1 x.2.1 x.2.2.1 (q_v τ x.2.2.2.1) (τ x.2.2.2.2) A U H) ∧ (∀ x ∈ OO, va_O x.1 (τ x.2) A U H)
theorem q_gf9_k {NW : List Cond} {NC : List (String × String)} {AO : List String} {SR : List (String × Nat × String × Nat)} {ZZ : List (String × String × String × Value)} {OB : List (String × String × String × Value × Nat)} {OO : List (String × Nat)} {tyl : List FieldType} {τ : Nat → Nat} {TB : Nat → Option (Nat × Nat × (Nat → Int32))} (hNW : ∀ w ∈ NW, q_nw w = true) : q_GFk (q_gf9 NW NC AO SR ZZ OB OO tyl τ TB) := by
  rintro A B s U ⟨g1, g2, g3, g4, g5, g6, g7, g8, g9, g10⟩ hW hBA hq
  have hvm := hW.alike
  exact ⟨fun w hw => q_nw_warm (hNW w hw) hW (g1 w hw), fun x hx => (g2 x hx).moved hvm, fun x hx => (g3 x hx).moved hvm, fun x hx => (g4 x hx).warm hW,
    ((g5.moved hvm).kept hq).narrow hBA, ((g6.moved hvm).kept hq).narrow hBA, fun x hx => (((g7 x hx).moved hvm).kept hq).narrow hBA,
    fun a t n f ty h1 h2 => (((g8 a t n f ty h1 h2).moved hvm).kept hq).narrow hBA, fun x hx => (((g9 x hx).moved hvm).kept hq).narrow hBA, fun x hx => (((g10 x hx).moved hvm).kept hq).narrow hBA⟩
/-- tables -/
def q_nd (m : Nat) (A B : Nat → Option q_E) (pc : Nat) : Option q_E := cond (Nat.ble pc m) (A pc) (B pc)
def q_lf (m : Nat) (x : q_E) (pc : Nat) : Option q_E := cond (Nat.beq pc m) (some x) none
def q_n0 (_ : Nat) : Option q_E := none
theorem q_nd_ok {P : Nat → q_E → Prop} {m : Nat} {A B : Nat → Option q_E} (hA : ∀ pc x, A pc = some x → P pc x) (hB : ∀ pc x, B pc = some x → P pc x) : ∀ pc x, q_nd m A B pc = some x → P pc x := by
  intro pc x h
  unfold q_nd at h
  cases hb : Nat.ble pc m with
  | true => rw [hb] at h; exact hA pc x h
  | false => rw [hb] at h; exact hB pc x h
theorem q_lf_ok {P : Nat → q_E → Prop} {m : Nat} {y : q_E} (hP : P m y) : ∀ pc x, q_lf m y pc = some x → P pc x := by
  intro pc x h
  unfold q_lf at h
  cases hb : Nat.beq pc m with
  | true => rw [hb] at h; cases h; rw [Nat.eq_of_beq_eq_true hb]; exact hP
  | false => rw [hb] at h; cases h
theorem q_n0_ok {P : Nat → q_E → Prop} : ∀ pc x, q_n0 pc = some x → P pc x := fun _ _ h => by cases h
def q_md (m : Nat) (A B : Nat → Nat → Option q_E) (k : Nat) : Nat → Option q_E := cond (Nat.ble k m) (A k) (B k)
def q_ml (m : Nat) (t : Nat → Option q_E) (k : Nat) : Nat → Option q_E := cond (Nat.beq k m) t q_n0
theorem q_md_ok {P : Nat → Nat → q_E → Prop} {m : Nat} {A B : Nat → Nat → Option q_E} (hA : ∀ k pc x, A k pc = some x → P k pc x) (hB : ∀ k pc x, B k pc = some x → P k pc x) : ∀ k pc x, q_md m A B k pc = some x → P k pc x := by
  intro k pc x h
  unfold q_md at h
  cases hb : Nat.ble k m with
  | true => rw [hb] at h; exact hA k pc x h
  | false => rw [hb] at h; exact hB k pc x h
theorem q_ml_ok {P : Nat → Nat → q_E → Prop} {m : Nat} {t : Nat → Option q_E} (h : ∀ pc x, t pc = some x → P m pc x) : ∀ k pc x, q_ml m t k pc = some x → P k pc x := by
  intro k pc x h9
  unfold q_ml at h9
  cases hb : Nat.beq k m with
  | true => rw [hb] at h9; rw [Nat.eq_of_beq_eq_true hb]; exact h pc x h9
  | false => rw [hb] at h9; cases h9
def q_mn (m : Nat) (A B : Nat → q_M) (k : Nat) : q_M := cond (Nat.ble k m) (A k) (B k)
theorem q_mn_ok {P : q_M → Prop} {m : Nat} {A B : Nat → q_M} (hA : ∀ k, P (A k)) (hB : ∀ k, P (B k)) : ∀ k, P (q_mn m A B k) := fun k => by
  unfold q_mn
  cases hb : Nat.ble k m with
  | true => exact hA k
  | false => exact hB k
theorem q_noref {fs : List Value} (h : fs.all (fun v => match v with | .ref _ => false | _ => true) = true) : ∀ v ∈ fs, ∀ a, ¬ v = .ref a := by
  intro v hv a e
  subst e
  have := List.all_eq_true.mp h _ hv
  cases this
section QG
variable {WU : List Cond} {cl : List vw_C} {tyl : List FieldType} {GF : (Nat → Prop) → State → Heap → Prop} {τ : Nat → Nat} {mt : Nat → q_M} {M : q_M} {own mname : String} {cc : ByteArray} {nL pc nx : Nat}
/-- a char's return -/
def q_rc (st : q_G) : Option (Option Value) := match st.2.2.1 with
  | [.int x] => if vp_nar .char x = x then some (some (.int x)) else none
  | _ => none
theorem q_creturn (hdg : decode M.2.1 pc = .ok (.ireturn, 1)) (hr : M.2.2.2.1 = some .char) : q_Re M pc q_rc := by
  intro g v hpc hf
  obtain ⟨pc', L, st, h⟩ := g
  obtain rfl : pc' = pc := hpc
  unfold q_rc at hf
  dsimp only at hf
  split at hf
  · split at hf
    · rename_i x hx
      cases hf
      refine ⟨fun w hw => by cases hw; exact List.mem_cons_self, fun α he hb hr9 hlk hq hf9 => W.zret he hb (hr9.trans hr) ?_ hq hf9 hdg hlk⟩
      show narrow .char (.int x) = .int x
      have e1 : narrow .char (.int x) = .int (vp_nar .char x) := rfl
      rw [e1, hx]
    · cases hf
  · cases hf
/-- Math.max, Math.min -/
def q_fm (o : Int32 → Int32 → Int32) (_ : q_L) (st : List Value) : Option (List Value) := match st with
  | .int y :: .int x :: r => if (r.map fun v => v.category).sum ≤ 8 then some (.int (o x y) :: r) else none
  | _ => none
theorem q_J_mm {o : Int32 → Int32 → Int32} (h2 : ∀ {p : Program} {l : Launch} {e : Env} {R : Room} {s : State} {m : MethodId} {args : Array Value} {below : List Frame} {meth : Method} {c : Code} {H : Heap} {locs : List Loc} {cells slots : Nat} {Q : State → Prop} {ls : Array Slot} {rest : List Value} {x y : Int32}, p.tables.exec = Jvm.exec → c.code = cc → c.maxLocals = ls.size → s.vm.findClass own = some m.cls → (∀ w ∈ WU, w.before args s = true) → 1 ≤ R.frames → (rest.map fun v => v.category).sum + 13 ≤ R.locals → cells ≤ R.cells → slots ≤ R.slots →
      W p l e R s m args below meth c H locs cells slots Q (F0 m nx ls (.int (o x y) :: rest)) → W p l e R s m args below meth c H locs cells slots Q (F0 m pc ls (.int y :: .int x :: rest))) : q_J WU cl tyl GF τ own mname cc nL pc (q_st nx (q_fm o)) := by
  intro g g' hpc hf hg
  obtain ⟨pc', L, st, h⟩ := g
  obtain rfl : pc' = pc := hpc
  unfold q_st q_fm at hf
  dsimp only at hf
  split at hf
  · cases hf
  · rename_i st' hs
    cases hf
    split at hs
    · rename_i y x r
      split at hs
      · rename_i hsum
        cases hs
        refine ⟨⟨⟨hg.1, q_okcons (q_ok_int _ _) (q_ok2 hg.2.1), hg.2.2⟩, Nat.le_refl _, Nat.le_refl _, Nat.le_refl _⟩, ?_⟩
        intro p l e R s m args below meth c Q D cA A k0 n0 α hC hR1 hR2 hτ hk hn kk H locs ls cells slots hP hD hS hl ek en
        have hk : h.2.1 ≤ k0 + R.cells := hk
        have hn : h.2.2 ≤ n0 + R.slots := hn
        have ek : k0 + cells = h.2.1 := ek
        have en : n0 + slots = h.2.2 := en
        exact h2 hC.1 hC.2.1 (hC.2.2.2.1.trans hl.1.symm) hC.2.2.1 hC.2.2.2.2.1 hR1 (by rw [q_catsum]; omega) (by omega) (by omega) (kk α q_ag.rf H locs ls cells slots hP hD hS hl ek en)
      · cases hs
    · cases hs
theorem q_mmax {idx : Nat} (hdg : decode cc pc = .ok (.invokestatic idx, 3)) (hw1 : Cond.methodLink own idx Lib.Math.max.name ∈ WU) (hw2 : Cond.static Lib.Math.max.name ∈ WU) (hw3 : Cond.initialized "java/lang/Math" ∈ WU) (hw4 : Cond.code Lib.Math.max.name Lib.Math.max.code 2 (some .int) ∈ WU) (hx : nx = pc + 3) : q_J WU cl tyl GF τ own mname cc nL pc (q_st nx (q_fm fun x y => if x < y then y else x)) :=
  q_J_mm (fun he hb hml ho ht hR1 hR2 hc hs k => by subst hx; exact va_mmax he hb hml ho (ht _ hw1) (ht _ hw2) (ht _ hw3) (ht _ hw4) hR1 hR2 hc hs hdg k)
theorem q_mmin {idx : Nat} (hdg : decode cc pc = .ok (.invokestatic idx, 3)) (hw1 : Cond.methodLink own idx Lib.Math.min.name ∈ WU) (hw2 : Cond.static Lib.Math.min.name ∈ WU) (hw3 : Cond.initialized "java/lang/Math" ∈ WU) (hw4 : Cond.code Lib.Math.min.name Lib.Math.min.code 2 (some .int) ∈ WU) (hx : nx = pc + 3) : q_J WU cl tyl GF τ own mname cc nL pc (q_st nx (q_fm fun x y => if y < x then y else x)) :=
  q_J_mm (fun he hb hml ho ht hR1 hR2 hc hs k => by subst hx; exact va_mmin he hb hml ho (ht _ hw1) (ht _ hw2) (ht _ hw3) (ht _ hw4) hR1 hR2 hc hs hdg k)
/-- the calls again, the callee's record named -/
theorem q_callS' {k nA idx : Nat} {N : q_M} (hM : mt k = N) (hdg : decode cc pc = .ok (.invokestatic idx, 3)) (hx : nx = pc + 3) (hh : N.2.2.2.2.1 = []) (hml : N.2.2.1 ≤ 80) (hwl : Cond.methodLink own idx N.1 ∈ WU) (hws : Cond.static N.1 ∈ WU) (hwi : Cond.initialized N.1.cls ∈ WU) (hwc : q_cw N ∈ WU)
    (hd : N.1.cls ≠ "java/lang/invoke/MethodHandle" ∧ N.1.cls ≠ "java/lang/invoke/VarHandle" ∧ (parseMethodDescriptor N.1.desc).map (fun d => d.parameters.length) = some nA) : q_Cs WU cl tyl GF τ mt own cc nL pc nx (q_fc k nA) := by
  subst hM
  exact q_callS hdg hx hh hml hwl hws hwi hwc hd
theorem q_callSX' {k nA idx : Nat} {N : q_M} {x9 : Nat × Nat × Nat × Nat} {r9 : List (Nat × Nat × Nat × Nat)} (hM : mt k = N) (hdg : decode cc pc = .ok (.invokestatic idx, 3)) (hx : nx = pc + 3) (hh : N.2.2.2.2.1 = x9 :: r9) (hml : N.2.2.1 ≤ 80) (hwl : Cond.methodLink own idx N.1 ∈ WU) (hws : Cond.static N.1 ∈ WU) (hwi : Cond.initialized N.1.cls ∈ WU) (hwc : q_cw N ∈ WU)
    (hd : N.1.cls ≠ "java/lang/invoke/MethodHandle" ∧ N.1.cls ≠ "java/lang/invoke/VarHandle" ∧ (parseMethodDescriptor N.1.desc).map (fun d => d.parameters.length) = some nA) : q_Cs WU cl tyl GF τ mt own cc nL pc nx (q_fc k nA) := by
  subst hM
  exact q_callSX hdg hx hh hml hwl hws hwi hwc hd
theorem q_callV' {k nA idx ci n : Nat} {N : q_M} {C : String} {T : u_T} (hM : mt k = N) (hdg : decode cc pc = .ok (.invokevirtual idx, 3)) (hx : nx = pc + 3) (hc : cl[ci]? = some (C, T, n)) (hh : N.2.2.2.2.1 = []) (hml : N.2.2.1 ≤ 80) (hwl : Cond.methodLink own idx N.1 ∈ WU) (hws : Cond.instanceMethod N.1 ∈ WU) (hwe : Cond.selects C N.1 N.1 ∈ WU) (hwi : Cond.initialized C ∈ WU) (hwc : q_cw N ∈ WU)
    (hd : N.1.cls = C ∧ N.1.cls ≠ "java/lang/invoke/MethodHandle" ∧ N.1.cls ≠ "java/lang/invoke/VarHandle" ∧ (parseMethodDescriptor N.1.desc).map (fun d => d.parameters.length) = some nA) : q_Cs WU cl tyl GF τ mt own cc nL pc nx (q_fv k nA ci) := by
  subst hM
  exact q_callV hdg hx hc hh hml hwl hws hwe hwi hwc hd
theorem q_callI' {k nA idx : Nat} {N : q_M} (hM : mt k = N) (hdg : decode cc pc = .ok (.invokespecial idx, 3)) (hx : nx = pc + 3) (hh : N.2.2.2.2.1 = []) (hml : N.2.2.1 ≤ 80) (hret : N.2.2.2.1 = none) (hwl : Cond.methodLink own idx N.1 ∈ WU) (hws : Cond.instanceMethod N.1 ∈ WU) (hwi : Cond.initialized N.1.cls ∈ WU) (hwc : q_cw N ∈ WU) (hy1 : N.1.name = "<init>")
    (hd : N.1.cls ≠ "java/lang/invoke/MethodHandle" ∧ N.1.cls ≠ "java/lang/invoke/VarHandle" ∧ (parseMethodDescriptor N.1.desc).map (fun d => d.parameters.length) = some nA) : q_Cs WU cl tyl GF τ mt own cc nL pc nx (q_fi k nA) := by
  subst hM
  exact q_callI hdg hx hh hml hret hwl hws hwi hwc hy1 hd
theorem q_callIN' {k nA idx : Nat} {N : q_M} {host : String} (hM : mt k = N) (hdg : decode cc pc = .ok (.invokespecial idx, 3)) (hx : nx = pc + 3) (hh : N.2.2.2.2.1 = []) (hml : N.2.2.1 ≤ 80) (hret : N.2.2.2.1 = none) (hwl : ∀ A U H, GF A U H → va_Nw (.methodLinkNest own idx N.1 host) U) (hws : Cond.instanceMethod N.1 ∈ WU) (hwi : Cond.initialized N.1.cls ∈ WU) (hwc : q_cw N ∈ WU) (hy1 : N.1.name = "<init>")
    (hd : N.1.cls ≠ "java/lang/invoke/MethodHandle" ∧ N.1.cls ≠ "java/lang/invoke/VarHandle" ∧ (parseMethodDescriptor N.1.desc).map (fun d => d.parameters.length) = some nA) : q_Cs WU cl tyl GF τ mt own cc nL pc nx (q_fi k nA) := by
  subst hM
  exact q_callIN hdg hx hh hml hret hwl hws hwi hwc hy1 hd
theorem q_hd2 {E0 name : String} {tg0 i0 : Nat} (pre : List (Nat × Nat × Nat × Nat)) (x : Nat × Nat × Nat × Nat) (suf : List (Nat × Nat × Nat × Nat)) (hsplit : M.2.2.2.2.1 = pre ++ x :: suf) (hpass : ∀ z ∈ pre, z.2.2.2 ≠ 0 ∧ ∃ nm : String, Cond.classLink own z.2.2.2 nm ∈ WU ∧ ∀ A U H, GF A U H → va_Nc E0 nm U)
    (hx1 : x.1 ≤ pc ∧ pc < x.2.1) (h0 : x.2.2.2 ≠ 0) (hlink : Cond.classLink own x.2.2.2 name ∈ WU) (hcast : ∀ A U H, GF A U H → va_Nw (.castable E0 name) U) (hdg : decode M.2.1 x.2.2.1 = .ok (.astore i0, 2)) (hi0 : i0 < nL) (htg : tg0 = x.2.2.1 + 2) :
    q_Hd WU GF M own nL pc (fun E => if E0 = E then some (tg0, i0) else none) := by
  intro E tg i e
  dsimp only at e
  split at e
  · rename_i e0
    cases e; subst e0; subst htg
    intro p l e R s m args below meth c H locs cells slots Q A ls rest ce q lv he hb hown hts hG hT hl hce hcv hcl kk
    refine vx_catch hown (pre.map fun q => ⟨q.1, q.2.1, q.2.2.1, q.2.2.2⟩) ⟨x.1, x.2.1, x.2.2.1, x.2.2.2⟩ (suf.map fun q => ⟨q.1, q.2.1, q.2.2.1, q.2.2.2⟩) ?_ ?_ ?_ h0 (hts _ hlink) (va_Nw.use rfl (hcast _ _ _ hG)) hce hcv hcl ?_
    · rw [hT, hsplit]
      unfold tableOf
      rw [List.map_append, List.map_cons]
    · intro z hz
      obtain ⟨z0, hz0, rfl⟩ := List.mem_map.mp hz
      obtain ⟨hn0, nm, hw, hnc⟩ := hpass z0 hz0
      exact Or.inr ⟨hn0, nm, hts _ hw, hnc _ _ _ hG⟩
    · show (decide (x.1 ≤ pc) && decide (pc < x.2.1)) = true
      rw [decide_eq_true hx1.1, decide_eq_true hx1.2]
      rfl
    · refine lv_astore (lv' := (i0, .ref q) :: lv.filter (fun q => !(q.1 == i0) && !(q.1 + 1 == i0 && q.2.category == 2))) he hb hdg hl hi0 rfl (fun ls' hl' => ?_)
      exact kk ls' ⟨hl'.1, hl'.2.1, fun w hw => hl'.2.2 w (List.mem_cons_of_mem _ hw)⟩
  · cases e
end QG
end
section
-- 12.copy
/-! ===== System.arraycopy out of a row outside (a text's bytes) ===== -/
section
variable {p : Program} {l : Launch} {e : Env} {R : Room} {s : State} {m : MethodId} {args : Array Value} {below : List Frame} {meth : Method} {c : Code} {H : Heap} {locs : List Loc} {cells slots : Nat} {Q : State → Prop}
variable {cc : ByteArray} {pc : Nat} {ls : Array Slot} {rest : List Value} {D : va_G} {cl : List vw_C} {A : Nat → Prop} {a : Nat} {tys : List (ClassId × FieldType)} {ws : va_W}
theorem q_copyT {cc : ByteArray} (hexec : p.tables.exec = Jvm.exec) (hb : c.code = cc) (hml : c.maxLocals = ls.size) {own : String} {index : Nat} (hown : s.vm.findClass own = some m.cls) (hlink : (Cond.methodLink own index arraycopyName).before args s = true) (hnat : (Cond.native arraycopyName).before args s = true) (hstat : (Cond.static arraycopyName).before args s = true) (hini : (Cond.initialized "java/lang/System").before args s = true)
    (hK : va_K D cl tys s) (hP : va_P D cl ws H) (hD : va_D A ws) (hS : va_S A s.heap H locs) {b0 n0 : Nat} {f : Nat → Int32} {ty : FieldType} (hX : va_T ty b0 n0 (fun j => .int (f j)) A s s.heap) (q1 t1 : Nat) {c1 : ClassId} {n1 : Nat} {g : Nat → Int32} (ha1 : ws[q1]? = some (a, .inl (c1, n1, .inl g))) (ht1 : tys[t1]? = some (c1, ty)) (hprim : refKind ty = false)
    {sp dp n : Int32} (h1 : ¬ sp < 0) (h2 : ¬ dp < 0) (h3 : ¬ n < 0) (h4 : sp.toNatClampNeg + n.toNatClampNeg ≤ n0) (h5 : dp.toNatClampNeg + n.toNatClampNeg ≤ n1) (hfit : ∀ i, i < n.toNatClampNeg → fits ty (.int (f (sp.toNatClampNeg + i))) = true)
    (hframes : 1 ≤ R.frames) (hlocals : (rest.map fun v => v.category).sum + (nativeFrameWords "java/lang/System" "arraycopy" 5 + 11) ≤ R.locals) (hdg : decode cc pc = .ok (.invokestatic index, 3))
    (kk : ∀ (H1 : Heap) (locs1 : List Loc), va_P D cl (ws.set q1 (a, .inl (c1, n1, .inl (va_cpy f g sp.toNatClampNeg dp.toNatClampNeg n.toNatClampNeg)))) H1 → va_D A (ws.set q1 (a, .inl (c1, n1, .inl (va_cpy f g sp.toNatClampNeg dp.toNatClampNeg n.toNatClampNeg)))) → va_S A s.heap H1 locs1 → W p l e R s m args below meth c H1 locs1 cells slots Q (F0 m (pc + 3) ls rest)) : W p l e R s m args below meth c H locs cells slots Q (F0 m pc ls (.int n :: .int dp :: .ref a :: .int sp :: .ref b0 :: rest)) := by
  have nn : ∀ z : Int32, ¬ z < 0 → z.toInt = (z.toNatClampNeg : Int) := by
    intro z hz
    have hz0 : (0 : Int) ≤ z.toInt := by
      have := Int32.not_lt.mp hz
      simpa using Int32.le_iff_toInt_le.mp this
    show z.toInt = ((z.toInt.toNat : Nat) : Int)
    omega
  intro T hT X
  obtain ⟨scr, hs1, hs2, hs3, hs4, -, hs5, hbA⟩ := hX
  have hbl : b0 < s.heap.size := (Array.getElem?_eq_some_iff.mp hs1).1
  have hc0 : H[b0]? = some scr := by rw [hS.2.1 b0 hbl hbA]; exact hs1
  have hc1 : H[a]? = some (vp_cell c1 (n1, .inl g)) := hP q1 _ ha1
  obtain ⟨hs6, k0, hk0, cm0, hkk0⟩ := hs2
  obtain ⟨-, k1, hk1, cm1, hkk1⟩ := (hK.2 t1 _ ht1).1 n1 (fun j => .int (g j))
  obtain ⟨vm', X', step⟩ := X.arraycopy hexec hown hlink hnat hstat hini (src := b0) (dst := a) (cs := scr) (cd := vp_cell c1 (n1, .inl g)) (srcPos := sp) (destPos := dp) (n := n) (by rw [hT]; exact hc0) (by rw [hT]; exact hc1)
    hs6 (fun _ h => by cases h) hs3 (fun h => by cases h) hk0 hk1 hkk0 hkk1 (by simp [hprim]) h1 h2 h3
    (by rw [nn sp h1, nn n h3]; omega)
    (by rw [nn dp h2, nn n h3]; show ¬ _ > ((arrV c1 n1 (fun j => .int (g j))).slots.size : Int); rw [arrV_size]; omega)
    (fun vm₁ _ i hi => by
      have e : scr.slots.getD (sp.toNatClampNeg + i) .null = .int (f (sp.toNatClampNeg + i)) := by
        rw [Array.getD_eq_getD_getElem?, hs5 _ (by omega)]
        rfl
      refine ⟨?_, ?_⟩
      · rw [e]
        exact hfit i hi
      · rw [e]
        exact trivial)
    (g := F0 m pc ls (.int n :: .int dp :: .ref a :: .int sp :: .ref b0 :: rest)) rfl (by rw [hml]) (rest := rest) rfl (by rw [hb]; exact hdg) hframes (by show 2 * 0 + _ + _ ≤ _; omega)
  have e1 : copied scr (vp_cell c1 (n1, .inl g)) sp dp n = vp_cell c1 (n1, .inl (va_cpy f g sp.toNatClampNeg dp.toNatClampNeg n.toNatClampNeg)) := va_copiedX (fun z => .int z) scr c1 f g hs5 h4
  rw [e1] at X' step
  have hl : a < H.size := (Array.getElem?_eq_some_iff.mp hc1).1
  have hheap : ((T.setVm vm').setCell a (vp_cell c1 (n1, .inl (va_cpy f g sp.toNatClampNeg dp.toNatClampNeg n.toNatClampNeg)))).heap = H.setIfInBounds a (vp_cell c1 (n1, .inl (va_cpy f g sp.toNatClampNeg dp.toNatClampNeg n.toNatClampNeg))) := by rw [← hT]; rfl
  have oq : ∀ q : Nat, q ≠ a → (H.setIfInBounds a (vp_cell c1 (n1, .inl (va_cpy f g sp.toNatClampNeg dp.toNatClampNeg n.toNatClampNeg))))[q]? = H[q]? := fun q hq => by simp [Array.getElem?_setIfInBounds, Ne.symm hq]
  obtain ⟨t, a1, b1⟩ := kk _ _ (hP.set hD ha1 (show (H.setIfInBounds a _)[a]? = some _ by simp [Array.getElem?_setIfInBounds, hl]) oq) (hD.set ha1) ⟨by simp; exact hS.1, fun q g1 g2 => by
      rw [oq q (fun e => g2 (by rw [e]; exact hD.2 q1 _ ha1))]
      exact hS.2.1 q g1 g2, fun q hq => by
      rcases List.mem_append.mp hq with h | h
      · exact hS.2.2 q h
      · obtain ⟨z, -, hz⟩ := List.mem_map.mp h
        rw [← hz]
        exact hD.2 q1 _ ha1⟩ _ hheap X'
  exact ⟨t, step t a1, b1⟩
end
def q_acpT (TB : Nat → Option (Nat × Nat × (Nat → Int32))) (nx t : Nat) (fit : Int32 → Bool) (g : q_G) : Option (Bool × q_G × Option q_G) := match g.2.2.1 with
  | .int n :: .int dp :: .ref a :: .int sp :: .ref b :: r => match q_ar TB g.2.2.2 b, q_at g.2.2.2 a with
    | some (u, n0, f), some (.inl (v, n1, .inl f1)) => if u = t ∧ v = t ∧ (r.map fun v => v.category).sum ≤ 8 then some (!(decide (sp < 0)) && (!(decide (dp < 0)) && (!(decide (n < 0)) && (decide (sp.toNatClampNeg + n.toNatClampNeg ≤ n0) && (decide (dp.toNatClampNeg + n.toNatClampNeg ≤ n1) && (List.range n.toNatClampNeg).all fun i => fit (f (sp.toNatClampNeg + i)))))),
        (nx, g.2.1, r, g.2.2.2.1.set (a - 64) (.inl (t, n1, .inl (va_cpy f f1 sp.toNatClampNeg dp.toNatClampNeg n.toNatClampNeg))), g.2.2.2.2), none) else none
    | _, _ => none
  | _ => none
section
variable {WU : List Cond} {cl : List vw_C} {tyl : List FieldType} {GF : (Nat → Prop) → State → Heap → Prop} {τ : Nat → Nat} {mt : Nat → q_M} {M : q_M} {own mname : String} {cc : ByteArray} {nL pc nx : Nat}
variable {TB : Nat → Option (Nat × Nat × (Nat → Int32))}
theorem q_arraycopyT {idx t : Nat} {ty : FieldType} {fit : Int32 → Bool} (hTB : q_TB TB tyl GF τ) (hdg : decode cc pc = .ok (.invokestatic idx, 3)) (ht : tyl[t]? = some ty) (hprim : refKind ty = false) (hfit : ∀ x, fit x = true → fits ty (.int x) = true) (hw1 : Cond.methodLink own idx arraycopyName ∈ WU) (hw2 : Cond.native arraycopyName ∈ WU) (hw3 : Cond.static arraycopyName ∈ WU) (hw4 : Cond.initialized "java/lang/System" ∈ WU) (hx : nx = pc + 3) : q_J WU cl tyl GF τ own mname cc nL pc (q_rs (q_acpT TB nx t fit)) := by
  intro g g' hpc hf hg
  obtain ⟨pc', L, st, h⟩ := g
  obtain rfl : pc' = pc := hpc
  obtain ⟨b9, g1, g2, ef, hb⟩ := q_rs_ok hf
  unfold q_acpT at ef
  dsimp only at ef
  split at ef
  · rename_i n dp a sp b r
    split at ef
    · rename_i u n0 f v n1 f1 e1 e2
      split at ef
      · rename_i eu
        cases ef
        obtain ⟨rfl, rfl, hsum⟩ := eu
        rcases hb with ⟨hb, rfl⟩ | ⟨-, hb⟩
        · simp only [Bool.and_eq_true] at hb
          obtain ⟨c1, c2, c3, c4, c5, c6⟩ := hb
          obtain ⟨ea, e3⟩ := q_at_in e2
          have hcell : q_okc h.1.length (.inl (v, n1, .inl (va_cpy f f1 sp.toNatClampNeg dp.toNatClampNeg n.toNatClampNeg)) : q_C) := trivial
          have hlen2 : (h.1.set (a - 64) (.inl (v, n1, .inl (va_cpy f f1 sp.toNatClampNeg dp.toNatClampNeg n.toNatClampNeg)) : q_C)).length = h.1.length := List.length_set
          refine ⟨⟨⟨?_, ?_, hg.2.2.set _ hcell⟩, by show _ ≤ (h.1.set _ _).length; rw [List.length_set]; exact Nat.le_refl _, Nat.le_refl _, Nat.le_refl _⟩, ?_⟩
          · show ∀ q ∈ L, q_ok (h.1.set (a - 64) (.inl (v, n1, .inl (va_cpy f f1 sp.toNatClampNeg dp.toNatClampNeg n.toNatClampNeg)) : q_C)).length q.2
            rw [hlen2]; exact hg.1
          · show ∀ v' ∈ r, q_ok (h.1.set (a - 64) (.inl (v, n1, .inl (va_cpy f f1 sp.toNatClampNeg dp.toNatClampNeg n.toNatClampNeg)) : q_C)).length v'
            rw [hlen2]; exact q_ok1 (q_ok2 (q_ok2 hg.2.1))
          intro p l e R s m args below meth c Q D cA A k0 n0' α hC hR1 hR2 hτ hk' hn kk H locs ls cells slots hP hD hS hl ek en
          have hw0 := q_w_get (cA := cA) (α := α) e3
          rw [← ea] at hw0
          subst hx
          have hset : (q_w cA α h.1).set (a - 64) (α a, q_e cA α (.inl (v, n1, .inl (va_cpy f f1 sp.toNatClampNeg dp.toNatClampNeg n.toNatClampNeg)) : q_C)) = q_w cA α (h.1.set (a - 64) (.inl (v, n1, .inl (va_cpy f f1 sp.toNatClampNeg dp.toNatClampNeg n.toNatClampNeg)) : q_C)) := by
            rw [← q_w_set, ← ea]
          have hloc : ((r.map (q_v α)).map fun v => v.category).sum + (nativeFrameWords "java/lang/System" "arraycopy" 5 + 11) ≤ R.locals := by
            rw [q_catsum]
            have e9 : nativeFrameWords "java/lang/System" "arraycopy" 5 + 11 ≤ 52 := by decide +kernel
            omega
          rcases q_ar_out e1 with ⟨hlt9, eT⟩ | ⟨eq9, e4⟩
          · have hT := hTB b _ n0 f _ A s s.heap eT ht hC.2.2.2.2.2.2.2.1
            rw [← hτ b hlt9] at hT
            refine q_copyT hC.1 hC.2.1 (hC.2.2.2.1.trans hl.1.symm) hC.2.2.1 (hC.2.2.2.2.1 _ hw1) (hC.2.2.2.2.1 _ hw2) (hC.2.2.2.2.1 _ hw3) (hC.2.2.2.2.1 _ hw4) hC.2.2.2.2.2.1 hP hD hS hT _ v hw0 (q_T_at ht) hprim (q_nots c1) (q_nots c2) (q_nots c3) (of_decide_eq_true c4) (of_decide_eq_true c5) (fun i hi => hfit _ (List.all_eq_true.mp c6 i (List.mem_range.mpr hi))) (by omega) hloc hdg (fun H1 locs1 hP1 hD1 hS1 => ?_)
            have hP2 : va_P D cl ((q_w cA α h.1).set (a - 64) (α a, q_e cA α (.inl (v, n1, .inl (va_cpy f f1 sp.toNatClampNeg dp.toNatClampNeg n.toNatClampNeg)) : q_C))) H1 := hP1
            have hD2 : va_D A ((q_w cA α h.1).set (a - 64) (α a, q_e cA α (.inl (v, n1, .inl (va_cpy f f1 sp.toNatClampNeg dp.toNatClampNeg n.toNatClampNeg)) : q_C))) := hD1
            rw [hset] at hP2 hD2
            exact kk α q_ag.rf H1 locs1 ls cells slots hP2 hD2 hS1 hl ek en
          · have hw9 := q_w_get (cA := cA) (α := α) e4
            rw [← eq9] at hw9
            refine va_copyi hC.1 hC.2.1 (hC.2.2.2.1.trans hl.1.symm) hC.2.2.1 (hC.2.2.2.2.1 _ hw1) (hC.2.2.2.2.1 _ hw2) (hC.2.2.2.2.1 _ hw3) (hC.2.2.2.2.1 _ hw4) hC.2.2.2.2.2.1 hP hD hS _ _ v v hw9 hw0 (q_T_at ht) (q_T_at ht) hprim (q_nots c1) (q_nots c2) (q_nots c3) (of_decide_eq_true c4) (of_decide_eq_true c5) (fun i hi => hfit _ (List.all_eq_true.mp c6 i (List.mem_range.mpr hi))) (by omega) hloc hdg (fun H1 locs1 hP1 hD1 hS1 => ?_)
            have hP2 : va_P D cl ((q_w cA α h.1).set (a - 64) (α a, q_e cA α (.inl (v, n1, .inl (va_cpy f f1 sp.toNatClampNeg dp.toNatClampNeg n.toNatClampNeg)) : q_C))) H1 := hP1
            have hD2 : va_D A ((q_w cA α h.1).set (a - 64) (α a, q_e cA α (.inl (v, n1, .inl (va_cpy f f1 sp.toNatClampNeg dp.toNatClampNeg n.toNatClampNeg)) : q_C))) := hD1
            rw [hset] at hP2 hD2
            exact kk α q_ag.rf H1 locs1 ls cells slots hP2 hD2 hS1 hl ek en
        · cases hb
      · cases ef
    · cases ef
  · cases ef
end
end
section
-- 22.znsee
/-! ===== a throw of one's own whose class hands its text on by another index than 7 ===== -/
def q_chN (X : String) (i : Nat) (bs : ByteArray) (Y : String) (r : List String) : List Cond := Bundle.passSAtoms X Y i bs ++ Bundle.chainSAtoms Y r
def q_owX (own : String) (ic : Nat) (X : String) : List Cond :=
  [.methodLink own ic (Bundle.initS X), .instantiable X 6, .selects X Bundle.tFill0 Bundle.tFill0, .selects X Bundle.tFill Bundle.tFill,
   .lays X Bundle.tN "cause" "Ljava/lang/Throwable;", .lays X Bundle.tN "stackTrace" Bundle.steD, .lays X Bundle.tN "suppressedExceptions" Bundle.listD, .lays X Bundle.tN "detailMessage" "Ljava/lang/String;",
   .isRef (.static Bundle.tN "UNASSIGNED_STACK" Bundle.steD), .isRef (.static Bundle.tN "SUPPRESSED_SENTINEL" Bundle.listD),
   .fieldLink Bundle.tN 198 Bundle.tN "backtrace" "Ljava/lang/Object;", .lays Bundle.tN Bundle.tN "backtrace" "Ljava/lang/Object;", .lays X Bundle.tN "backtrace" "Ljava/lang/Object;"]
def q_owN (own : String) (ic : Nat) (X : String) (i : Nat) (bs : ByteArray) (Y : String) (r : List String) : List Cond := Bundle.throwableAtoms ++ (Bundle.throwableSAtoms ++ (q_chN X i bs Y r ++ q_owX own ic X))
section
set_option maxHeartbeats 1000000 in
theorem q_ctorN {p : Program} {l : Launch} {e : Env} {R : Room} {s : State} {m₀ : MethodId} {args : Array Value} {below : List Frame} {meth : Method} {c : Code} {W : State} {locs : List Loc} {cells slots : Nat}
    (X : Stand p l e R s m₀ args below meth c W locs cells slots) (hexec : p.tables.exec = Jvm.exec) (htr : e.platform.stackTraces = false) {own cls Y9 : String} {i9 : Nat} {bs : ByteArray} {r9 : List String} {ic : Nat}
    (hown : s.vm.findClass own = some m₀.cls) (hcls : Bundle.fit cls = true) (hY9 : Bundle.fit Y9 = true) (hr9 : ∀ n ∈ r9, Bundle.fit n = true)
    (b0 : decode bs 0 = .ok (.aload_n 0, 1)) (b1 : decode bs 1 = .ok (.aload_n 1, 1)) (b2 : decode bs 2 = .ok (.invokespecial i9, 3)) (b5 : decode bs 5 = .ok (.return_, 1))
    (h : ∀ a ∈ q_owN own ic cls i9 bs Y9 r9, a.before args s = true)
    (hlocs : ∀ x ∈ locs, ∀ cell, s.heap[x.base]? = some cell → cell.vm.isStatics = false)
    {a : Addr} {cX : ClassId} {kX : Class} (hfoundX : s.vm.findClass cls = some cX) (hkX : s.vm.classes[cX]? = some kX) (hcell : W.heap[a]? = some (freshCell cX kX)) (hnew : s.heap.size ≤ a)
    {msg : Value} (hmsg : msg.isRef = true)
    {g : JFrame} (hg : g.method = m₀) (hsize : g.locals.size = c.maxLocals) (hlocked : g.locked = none) (hentered : g.entered = []) {rest : List Value} (hstack : g.stack = msg :: .ref a :: .ref a :: rest)
    (hd6 : decode c.code g.pc = .ok (.invokespecial ic, 3)) (hd9 : decode c.code (g.pc + 3) = .ok (.athrow, 1)) (hout : ∀ x ∈ c.exceptionTable.toList, covers x (g.pc + 3) = false)
    (hRframes : r9.length + 4 < R.frames) (hRlocals : 2 * g.monitorRoom + ((Value.ref a :: rest).map fun v => v.category).sum + (13 * (r9.length + 2) + 42) ≤ R.locals) (hlocks : meth.locks = false) :
    ∃ U : State, Steps p.tables e below (W.setTop g) U ∧ U.status = .running ∧ Ended U below (.threw a) ∧ s.WarmedH U.vm ∧ s.sameButNew ({ U with vm := s.vm } : State) locs cells slots ∧
      ∃ ce, U.heap[a]? = some ce ∧ s.vm.findClass cls = some ce.cls ∧ ce.vm = .none := by
  have howns : e.platform.frameOwnsMonitors = true := by rw [X.admits.platform]
  have hfin : e.platform.finalization = false := by rw [X.admits.platform]
  have hpl : e.platform.magicAccessors = ({} : Platform).magicAccessors := by rw [X.admits.platform]
  have hX : ∀ x ∈ q_owX own ic cls, x.before args s = true := fun x hx => h x (List.mem_append_right _ (List.mem_append_right _ (List.mem_append_right _ hx)))
  have hP : ∀ x ∈ Bundle.passSAtoms cls Y9 i9 bs, x.before args s = true := fun x hx => h x (List.mem_append_right _ (List.mem_append_right _ (List.mem_append_left _ (List.mem_append_left _ hx))))
  have hC : ∀ x ∈ Bundle.chainSAtoms Y9 r9, x.before args s = true := fun x hx => h x (List.mem_append_right _ (List.mem_append_right _ (List.mem_append_left _ (List.mem_append_right _ hx))))
  have a' : ∀ x, x ∈ q_owX own ic cls → x.holds args s none s [] = true := fun x hx => hX x hx
  obtain ⟨T, Z0, L, -, Y⟩ := ThrowableC.of_atoms (args := args) howns hfin hpl (fun x hx => h x (List.mem_append_left _ hx))
  obtain ⟨Z, M, LZ, LM, hnZ⟩ := Init0T.ofS_atoms (args := args) hpl L Y (fun x hx => h x (List.mem_append_right _ (List.mem_append_left _ hx)))
  obtain ⟨P1, L1, hP1m, hsup⟩ := PassC.ofS_atoms (args := args) (s := s) hpl (X := cls) (Y := Y9) (Bundle.fit_spec hcls).1 (Bundle.fit_spec hY9).2 b0 b1 b2 b5 hP
  obtain ⟨P2, Ps, hlen, L2, hL, hP2m, hlink2, hlink⟩ := Bundle.chainS (args := args) hpl hnZ r9 Y9 hY9 hr9 hC
  have hs1 : P1.sup = P2.m := Option.some.inj (hsup.symm.trans hP2m)
  have hfound : s.vm.findClass cls = some P1.m.cls := findClass_of_methodNamed hP1m
  cases Option.some.inj (hfoundX.symm.trans hfound)
  obtain ⟨c1, kX', hc1, hk, hord, -, -, hn6⟩ := Cond.instantiable_spec (a' (.instantiable cls 6) (by simp [q_owX]))
  cases Option.some.inj (hc1.symm.trans hfound)
  cases Option.some.inj (hkX.symm.trans hk)
  have hsel0 : selectMethod e.platform s.vm P1.m.cls T.fill0 = .method T.fill0 := by
    obtain ⟨c2, r2, m2, q1, q2, q3, q4, -⟩ := Cond.selects_spec (a' (.selects cls Bundle.tFill0 Bundle.tFill0) (by simp [q_owX]))
    cases Option.some.inj (q1.symm.trans hfound)
    cases Option.some.inj (q2.symm.trans (State.methodFound?_of_named Y.fill0 (by decide)))
    cases Option.some.inj (q3.symm.trans Y.fill0)
    rw [Launch.admits_selectMethod X.admits]; exact q4
  have hselF : selectMethod e.platform s.vm P1.m.cls T.fill = .method T.fill := by
    obtain ⟨c2, r2, m2, q1, q2, q3, q4, -⟩ := Cond.selects_spec (a' (.selects cls Bundle.tFill Bundle.tFill) (by simp [q_owX]))
    cases Option.some.inj (q1.symm.trans hfound)
    cases Option.some.inj (q2.symm.trans (State.methodFound?_of_named Y.fill (by decide)))
    cases Option.some.inj (q3.symm.trans Y.fill)
    rw [Launch.admits_selectMethod X.admits]; exact q4
  obtain ⟨cellS0, hcS0, hiss⟩ := Y.statics
  obtain ⟨u0, hu0⟩ := Cond.staticRefV Y.unassigned L.unassignedStatic L.statics hcS0 hiss (a' (.isRef (.static Bundle.tN "UNASSIGNED_STACK" Bundle.steD)) (by simp [q_owX]))
  obtain ⟨sen, hsen⟩ := Cond.staticRefV Y.sentinel L.sentinelStatic L.statics hcS0 hiss (a' (.isRef (.static Bundle.tN "SUPPRESSED_SENTINEL" Bundle.listD)) (by simp [q_owX]))
  obtain ⟨ci198, i198, fB, hk198, hg198, ha198, hsB, -, hnB, htB, hffB⟩ := Cond.ownField (t := .object "java/lang/Object") Y.found L.cls (by decide +kernel) (a' (.fieldLink Bundle.tN 198 Bundle.tN "backtrace" "Ljava/lang/Object;") (by simp [q_owX])) (a' (.lays Bundle.tN Bundle.tN "backtrace" "Ljava/lang/Object;") (by simp [q_owX])) e.platform hpl
  obtain ⟨cellS, hcS', heS, -, hkeep⟩ := X.same.2.2.2.2.2 T.aS cellS0 hcS0
  have hcellS : W.heap[T.aS]? = some cellS := hcS'
  have hout' : ∀ i, (⟨T.aS, i⟩ : Loc) ∉ locs := fun i hmem => by
    have := hlocs _ hmem cellS0 hcS0
    rw [hiss] at this; cases this
  have hknownS : cellS.vm ≠ .unknown := by
    rw [heS]; intro hu
    rw [show cellS0.vm = .unknown from hu] at hiss
    cases hiss
  have hneS : T.aS ≠ a := Nat.ne_of_lt (Nat.lt_of_lt_of_le (Array.getElem?_eq_some_iff.mp hcS0).1 hnew)
  obtain ⟨iM, hffM⟩ := Y.msg
  obtain ⟨tyC, dC, hdC, hdnC⟩ := Cond.laysAt hfound hk Y.cause (a' (.lays cls Bundle.tN "cause" "Ljava/lang/Throwable;") (by simp [q_owX]))
  obtain ⟨tyS, dS, hdS, hdnS⟩ := Cond.laysAt hfound hk Y.stack (a' (.lays cls Bundle.tN "stackTrace" Bundle.steD) (by simp [q_owX]))
  obtain ⟨tyP, dP, hdP, hdnP⟩ := Cond.laysAt hfound hk Y.supp (a' (.lays cls Bundle.tN "suppressedExceptions" Bundle.listD) (by simp [q_owX]))
  obtain ⟨tyM, dM, hdM, hdnM⟩ := Cond.laysAt hfound hk hffM (a' (.lays cls Bundle.tN "detailMessage" "Ljava/lang/String;") (by simp [q_owX]))
  obtain ⟨tyB, dB, hdB, hdnB⟩ := Cond.laysAt hfound hk hffB (a' (.lays cls Bundle.tN "backtrace" "Ljava/lang/Object;") (by simp [q_owX]))
  have bC := Cond.laysApart hdB hdC hdnB hdnC (by rw [hnB, Y.causeName]; decide)
  have bS := Cond.laysApart hdB hdS hdnB hdnS (by rw [hnB, Y.stackName]; decide)
  have bP := Cond.laysApart hdB hdP hdnB hdnP (by rw [hnB, Y.suppName]; decide)
  have hskip : SkipFacts T e.platform s (fun u => u) u0 ((preparedCellV T.toThrowableT (freshCell P1.m.cls kX) a u0 sen).withEntry W.cur) :=
    ⟨{ ci198 := ci198, i198 := i198, fBack := fB }, ⟨hk198, hg198, ha198, hsB⟩, by
      have := fresh_default (c := P1.m.cls) tyB
      rw [htB] at this
      simpa [preparedCellV, Cell.setSlot, Cell.withEntry, Array.getElem?_setIfInBounds, bC, bS, bP, bC.symm, bS.symm, bP.symm, defaultValue] using this, fun _ _ => rfl⟩
  obtain ⟨tm, methC, cdC, kC, vm₁, hnC, -, -, -, -, -, -, -, hW₁, st1⟩ := Steps.initColdS (tb := p.tables) (e := e) (below := below) (s := s) (U := W) X.here hexec X.warmed hpl hown (t := Bundle.initS cls) rfl rfl (Bundle.fit_spec hcls).2
    (a' (.methodLink own ic (Bundle.initS cls)) (by simp [q_owX])) (hP (.instanceMethod (Bundle.initS cls)) (by simp [Bundle.passSAtoms])) (bytes := bs) (maxL := 2) (hP (.code (Bundle.initS cls) bs 2 none) (by simp [Bundle.passSAtoms]))
    (f := g) hg (a := a) (msg := msg) (rest := .ref a :: rest) hstack hd6
  cases Option.some.inj (hnC.symm.trans hP1m)
  have X₁ := X.noted hW₁
  obtain ⟨vm₂, X₂, st2⟩ := X₁.ctorMessageOffV hexec (g := { g with stack := .ref a :: rest }) hg hsize T L Z LZ M LM (P1 :: P2 :: Ps)
    (fun P hP => by
      rcases List.mem_cons.mp hP with rfl | hP
      · exact L1
      · rcases List.mem_cons.mp hP with rfl | hP
        · exact L2
        · exact hL P hP) ⟨hs1, hlink2, hlink⟩ (u0 := u0) (sen := sen) (self := a) hmsg (cell := freshCell P1.m.cls kX) (cellS := cellS)
    hcell (fun _ => by simp) (by simp) rfl rfl hsel0 hselF hcellS hneS hknownS (by rw [hkeep _ (hout' _)]; exact hu0) (by rw [hkeep _ (hout' _)]; exact hsen)
    (Takes.of_laid hk hord tyC (by rw [Y.causeType]; rfl)) (Takes.of_laid hk hord tyS (by rw [Y.stackType]; exact fits_refV_array _ u0)) (Takes.of_laid hk hord tyP (by rw [Y.suppType]; exact fits_refV_object _ sen))
    (Takes.of_laid hk hord tyM (by rw [Y.msgType]; exact fits_refV_object _ ⟨msg, hmsg⟩)) Y.objLocals hskip htr [] hd6
    (by simp only [List.length_cons, hlen]; omega) (by simp only [List.length_cons, hlen]; exact hRlocals)
  obtain ⟨hwalk, hrun, hended, hWU, hsame⟩ := X₂.athrowLeaves hexec (g := { g with stack := .ref a :: rest, pc := g.pc + 3 }) hg hlocked hentered hout (a := a) (rest := rest) rfl hd9
  have hlt : a < ((W.setVm vm₁).setVm vm₂).heap.size := (Array.getElem?_eq_some_iff.mp hcell).1
  have hU := heapAt_setCell_self (s := (W.setVm vm₁).setVm vm₂) (plainBareV T.toThrowableT (freshCell P1.m.cls kX) a u0 sen msg) hlt
  refine ⟨_, st1 _ (fun acts => ?_), hrun, hended, hWU, hsame.weaken (fun y hy hlt' => ?_) (Nat.le_refl _) (Nat.le_refl _), _, hU, hfound, rfl⟩
  · rw [doInvoke_state]
    exact st2 _ hwalk
  · rcases List.mem_append.mp hy with h1 | h1
    · exact h1
    · exfalso
      have hb : y.base = a := by
        simp only [List.mem_cons, List.not_mem_nil, or_false] at h1
        rcases h1 with rfl | rfl | rfl | rfl | rfl <;> rfl
      rw [hb] at hlt'
      exact Nat.not_lt.mpr hnew hlt'
end
def q_atN (own : String) (ic : Nat) (X : String) (i : Nat) (bs : ByteArray) (Y : String) (r : List String) : List Cond := (q_owN own ic X i bs Y r).filter vx_no
theorem q_thrN {p : Program} {l : Launch} {e : Env} {R : Room} {s : State} {m : MethodId} {args : Array Value} {below : List Frame} {meth : Method} {c : Code} {H : Heap} {locs : List Loc} {cells slots : Nat} {Qc : Array Value → State → Outcome → State → Prop} {XC : String → State → State → Prop} {free : Nat → Prop} {ls : Array Slot} {rest : List Value}
    {cc : ByteArray} {pc : Nat} (hexec : p.tables.exec = Jvm.exec) (hb : c.code = cc) (hl : l.stackTraces = false) {own cls text Y9 : String} {i9 : Nat} {bs : ByteArray} {r9 : List String} {ik is ic mc ms sa : Nat} {A : Nat → Prop}
    (hown : s.vm.findClass own = some m.cls) (hcls : Bundle.fit cls = true) (hY9 : Bundle.fit Y9 = true) (hr9 : ∀ n ∈ r9, Bundle.fit n = true)
    (b0 : decode bs 0 = .ok (.aload_n 0, 1)) (b1 : decode bs 1 = .ok (.aload_n 1, 1)) (b2 : decode bs 2 = .ok (.invokespecial i9, 3)) (b5 : decode bs 5 = .ok (.return_, 1))
    (hk : (Cond.classLink own ik cls).before args s = true) (hini : (Cond.initialized cls).before args s = true) (hstr : vk_R own is text sa s) (hat : ∀ w ∈ q_atN own ic cls i9 bs Y9 r9, w.before args s = true)
    (hgood : ∀ w ∈ Cond.classLink own ik cls :: Cond.initialized cls :: q_atN own ic cls i9 bs Y9 r9, vx_ot w = true)
    (hU : vx_Zq Bundle.tN "UNASSIGNED_STACK" Bundle.steD A s s.heap) (hN : vx_Zq Bundle.tN "SUPPRESSED_SENTINEL" Bundle.listD A s s.heap) (hS : va_S A s.heap H locs) (hsize : ls.size = c.maxLocals)
    (d0 : decode cc pc = .ok (.new ik, 3)) (d3 : decode cc (pc + 3) = .ok (.dup, 1)) (d4 : decode cc (pc + 4) = .ok (.ldc is, 2)) (d6 : decode cc (pc + 6) = .ok (.invokespecial ic, 3)) (d9 : decode cc (pc + 9) = .ok (.athrow, 1))
    (hout : ∀ x ∈ c.exceptionTable.toList, covers x (pc + 9) = false)
    (hRframes : r9.length + 4 < R.frames) (hRlocals : (rest.map fun v => v.category).sum + (13 * (r9.length + 2) + 43) ≤ R.locals) (hRcells : cells + 1 ≤ R.cells) (hRslots : slots + 6 ≤ R.slots) (hlocks : meth.locks = false)
    (hx : ∀ t : State, s.vm.Alike t.vm → H.size ≤ t.heap.size → (∀ q : Nat, q < H.size → t.heap[q]? = H[q]?) → XC cls s t)
    (hf : ∀ z ∈ locs, free z.base) (hc : cells + 1 ≤ mc) (hs : slots + 6 ≤ ms) :
    W p l e R s m args below meth c H locs cells slots (vx_MQ below Qc XC args s mc ms free) (F0 m pc ls rest) := by
  intro T hT X
  have htr : e.platform.stackTraces = false := (show e.platform.stackTraces = l.stackTraces by rw [X.admits.platform]).trans hl
  have Y := vx_rebase X (R' := { frames := R.frames, locals := R.locals, cells := 1, slots := 6 }) (Nat.le_refl _) (Nat.le_refl _) hRcells hRslots
  obtain ⟨s', hA⟩ : ∃ z, z = (T.setVm s.vm).setFrames (.invoking m args :: below) := ⟨_, rfl⟩
  rw [← hA] at Y
  have hvm : s'.vm = s.vm := by rw [hA]; rfl
  have hhp : s'.heap = H := by rw [hA]; exact hT
  have hW0 : s.WarmedH s'.vm := by rw [hvm]; exact State.WarmedH.refl s
  have hat' : ∀ w ∈ q_atN own ic cls i9 bs Y9 r9, w.before args s' = true := fun w hw => vx_ot_at hW0 hvm.symm (hgood w (List.mem_cons_of_mem _ (List.mem_cons_of_mem _ hw))) (hat w hw)
  have hk' : (Cond.classLink own ik cls).before args s' = true := vx_ot_at hW0 hvm.symm (hgood _ List.mem_cons_self) hk
  have hini' : (Cond.initialized cls).before args s' = true := vx_ot_at hW0 hvm.symm (hgood _ (List.mem_cons_of_mem _ List.mem_cons_self)) hini
  have hU' : vx_Zq Bundle.tN "UNASSIGNED_STACK" Bundle.steD A s' s'.heap := by rw [hhp]; exact vx_Zq.moved hW0.alike (hU.kept hS.2.1)
  have hN' : vx_Zq Bundle.tN "SUPPRESSED_SENTINEL" Bundle.listD A s' s'.heap := by rw [hhp]; exact vx_Zq.moved hW0.alike (hN.kept hS.2.1)
  have h : ∀ w ∈ q_owN own ic cls i9 bs Y9 r9, w.before args s' = true := vx_own hat' (vx_isRefq hU'.1) (vx_isRefq hN'.1) hU'.2.word hN'.2.word
  have hown' : s'.vm.findClass own = some m.cls := by rw [hvm]; exact hown
  have hins : (Cond.instantiable cls 6).before args s' = true := h _ (List.mem_append_right _ (List.mem_append_right _ (List.mem_append_right _ (by simp [q_owX]))))
  obtain ⟨vm₁, cX, kX, hfX, hkX, -, -, X₁, st1⟩ := Y.newCold hexec (own := own) (C := cls) (index := ik) (n := 6) hown' hk' hins hini'
    (g := F0 m pc ls rest) rfl (by rw [hb]; exact d0) (Nat.le_refl _) (Nat.le_refl _)
  generalize hT1 : (T.setVm vm₁).pushCell { cls := cX, slots := kX.instanceTypes.map defaultValue, vm := .none } = T1 at X₁ st1
  have hcat : (Value.ref T.heap.size).category = 1 := rfl
  have hcellA : T1.heap[T.heap.size]? = some (freshCell cX kX) := by rw [← hT1]; exact State.heap_pushCell_size _ _
  have d3' : decode c.code (pc + 3) = .ok (.dup, 1) := by rw [hb]; exact d3
  have d4' : decode c.code (pc + 4) = .ok (.ldc is, 2) := by rw [hb]; exact d4
  have hstr' : vk_R own is text sa s' := vk_R.warm hW0 hstr
  obtain ⟨U, hsteps, hrun, hend, hW, hsame, ce, hce, hO1, hO2⟩ := q_ctorN X₁ hexec htr (own := own) (cls := cls) (Y9 := Y9) (i9 := i9) (bs := bs) (r9 := r9) (ic := ic) hown' hcls hY9 hr9 b0 b1 b2 b5 h (fun x hx => nomatch hx) hfX hkX hcellA (by rw [hhp, hT]; exact Nat.le_refl _) (msg := .ref sa) rfl
    (g := { method := m, pc := pc + 6, locals := ls, stack := .ref sa :: .ref T.heap.size :: .ref T.heap.size :: rest, locked := none }) rfl hsize rfl rfl (rest := rest) rfl
    (by rw [hb]; exact d6) (by rw [hb]; exact d9) hout hRframes (by simp only [List.map_cons, List.sum_cons, hcat]; omega) hlocks
  obtain ⟨f1, f2⟩ := vx_frame hsame
  rw [hhp] at f1 f2
  have hWs : s.WarmedH U.vm := State.WarmedH.trans hW0 hW
  have hcl : s.vm.findClass cls = some ce.cls := by
    have h9 := hO1
    rw [hvm] at h9
    exact h9
  have hall : s.sameButNew ({ U with vm := s.vm } : State) locs mc ms := by
    subst hA
    obtain ⟨e1, e2⟩ := hsame
    rw [State.setFrames_setFrames] at e1
    have h2 : (T.setVm s.vm).sameButNew ({ U with vm := s.vm } : State) [] (0 + 1) (0 + 6) := ⟨e1, e2⟩
    have h3 := X.same.trans h2
    rw [List.append_nil] at h3
    exact h3.mono hc hs
  refine ⟨U, ?_, .threw T.heap.size, hrun, hend, Or.inr ⟨T.heap.size, rfl, cls, ce, locs, hx U hWs.alike f1 (fun q hq => f2 q hq (fun z hz => nomatch hz)), hce, hO2, hcl, hWs, hall, hf⟩⟩
  refine st1 _ ?_
  show Steps p.tables e below (T1.setTop { method := m, pc := pc + 3, locals := ls, stack := .ref T.heap.size :: rest, locked := none }) _
  jvm_step X₁.here [X₁.here.top, hexec, d3', Value.category]
  exact X₁.ldcString hexec (own := own) (text := text) (index := is) (a := sa) hown' hstr'.1 hstr'.2
    (g := { method := m, pc := pc + 4, locals := ls, stack := .ref T.heap.size :: .ref T.heap.size :: rest, locked := none }) rfl d4' _ hsteps
section
variable {WU : List Cond} {GF : (Nat → Prop) → State → Heap → Prop} {τ : Nat → Nat} {own : String} {cc : ByteArray} {nL pc nx : Nat}
theorem q_throwN {cls text Y9 : String} {i9 : Nat} {bs : ByteArray} {r9 : List String} {ik is ic a : Nat} (hcls : Bundle.fit cls = true) (hY9 : Bundle.fit Y9 = true) (hr9 : ∀ n ∈ r9, Bundle.fit n = true) (hnl : r9.length ≤ 2)
    (b0 : decode bs 0 = .ok (.aload_n 0, 1)) (b1 : decode bs 1 = .ok (.aload_n 1, 1)) (b2 : decode bs 2 = .ok (.invokespecial i9, 3)) (b5 : decode bs 5 = .ok (.return_, 1)) (hw1 : Cond.classLink own ik cls ∈ WU) (hw2 : Cond.initialized cls ∈ WU) (hstr : ∀ A U H, GF A U H → vk_R own is text (τ a) U)
    (hat1 : ∀ w ∈ (q_atN own ic cls i9 bs Y9 r9).filter goodWord, w ∈ WU) (hat2 : ∀ A U H, GF A U H → ∀ w ∈ (q_atN own ic cls i9 bs Y9 r9).filter (fun w => !goodWord w), va_Nw w U) (hgood : ∀ w ∈ Cond.classLink own ik cls :: Cond.initialized cls :: q_atN own ic cls i9 bs Y9 r9, vx_ot w = true) (hot : ∀ w ∈ (q_atN own ic cls i9 bs Y9 r9).filter (fun w => !goodWord w), w.onTables = true)
    (hU : ∀ A U H, GF A U H → vx_Zq Bundle.tN "UNASSIGNED_STACK" Bundle.steD A U H) (hN : ∀ A U H, GF A U H → vx_Zq Bundle.tN "SUPPRESSED_SENTINEL" Bundle.listD A U H)
    (d0 : decode cc pc = .ok (.new ik, 3)) (d3 : decode cc (pc + 3) = .ok (.dup, 1)) (d4 : decode cc (pc + 4) = .ok (.ldc is, 2)) (d6 : decode cc (pc + 6) = .ok (.invokespecial ic, 3)) (d9 : decode cc (pc + 9) = .ok (.athrow, 1)) : q_Th WU GF own cc nL pc (q_ft cls) := by
  intro g E hpc hf
  obtain ⟨pc', L, st, h⟩ := g
  obtain rfl : pc' = pc := hpc
  unfold q_ft at hf
  split at hf
  · rename_i hsum
    cases hf
    intro p l e R s m args below meth c H locs cells slots mc ms Qc XC free A ls α he hb hlt hown hts hG hlocks hT hml hsz hS hRf hRl hRc hRs hx hfr hc hs
    have hat : ∀ w ∈ q_atN own ic cls i9 bs Y9 r9, w.before args s = true := by
      intro w hw
      by_cases g : goodWord w = true
      · exact hts _ (hat1 w (List.mem_filter.mpr ⟨hw, g⟩))
      · have g2 : (!goodWord w) = true := by
          cases hgw : goodWord w
          · rfl
          · exact absurd hgw g
        have hm : w ∈ (q_atN own ic cls i9 bs Y9 r9).filter (fun w => !goodWord w) := List.mem_filter.mpr ⟨hw, g2⟩
        exact va_Nw.use (hot w hm) (hat2 _ _ _ hG w hm)
    exact q_thrN he hb hlt hown hcls hY9 hr9 b0 b1 b2 b5 (hts _ hw1) (hts _ hw2) (hstr _ _ _ hG) hat hgood (hU _ _ _ hG) (hN _ _ _ hG) hS (hsz.trans hml.symm) d0 d3 d4 d6 d9 (fun x hx9 => absurd (hT x hx9) (fun h => h)) (by omega) (by rw [q_catsum]; have hsum : (st.map fun v => v.category).sum ≤ 8 := hsum; omega) hRc hRs hlocks hx hfr hc hs
  · cases hf
end
section
variable {WU : List Cond} {cl : List vw_C} {tyl : List FieldType} {GF : (Nat → Prop) → State → Heap → Prop} {τ : Nat → Nat} {own : String} {mname : String} {cc : ByteArray} {nL pc nx : Nat}
theorem q_ldcw {idx : Nat} {v : Int32} (hdg : decode cc pc = .ok (.ldc_w idx, 3)) (hw : Jvm.Cond.constant own idx v ∈ WU) (hx : nx = pc + 3) : q_J WU cl tyl GF τ own mname cc nL pc (q_st nx (q_fk (.int v))) :=
  q_J_st (q_fk_ok _ (fun a h => by cases h)) (fun he hb ho ht α ls L st st' hl hs k => by cases hs; subst hx; exact lv_ldcw he hb ho (ht _ hw) hdg k)
theorem q_lvldcwf {p : Program} {l : Launch} {e : Env} {R : Room} {s : State} {m : MethodId} {args : Array Value} {below : List Frame} {meth : Method} {c : Code} {H : Heap} {locs : List Loc} {cells slots : Nat} {Q : State → Prop} {ls : Array Slot} {rest : List Value} (hexec : p.tables.exec = Jvm.exec) (hb : c.code = cc) {index : Nat} {v : UInt32} (hown : s.vm.findClass own = some m.cls) (hconst : (Jvm.Cond.constantFloat own index v).before args s = true) (hdg : decode cc pc = .ok (.ldc_w index, 3)) (k : W p l e R s m args below meth c H locs cells slots Q (F0 m (pc + 3) ls (.float v :: rest))) : W p l e R s m args below meth c H locs cells slots Q (F0 m pc ls rest) := by
  intro T hT X
  obtain ⟨t, a, b⟩ := k T hT X
  obtain ⟨k0, cf, hk, hcf, hcp⟩ := Cond.constantFloat_spec hown hconst
  obtain ⟨k', hk', he⟩ := X.warmed.alike.2.2 _ _ hk
  refine ⟨t, ?_, b⟩
  have hd : decode c.code (F0 m pc ls rest).pc = .ok (.ldc_w index, 3) := by rw [hb]; exact hdg
  jvm_step X.here [hexec, hd, Op.ldc_w.wp_float (s := T) (f := F0 m pc ls rest) X.here.top hk' (by rw [he]; exact hcf) hcp]
  exact a
theorem q_ldcwf {idx : Nat} {v : UInt32} (hdg : decode cc pc = .ok (.ldc_w idx, 3)) (hw : Jvm.Cond.constantFloat own idx v ∈ WU) (hx : nx = pc + 3) : q_J WU cl tyl GF τ own mname cc nL pc (q_st nx (q_fk (.float v))) :=
  q_J_st (q_fk_ok _ (fun a h => by cases h)) (fun he hb ho ht α ls L st st' hl hs k => by cases hs; subst hx; exact q_lvldcwf he hb ho (ht _ hw) hdg k)
end
end
section
-- 22.zsub
/-! ===== inherited calls, super calls, calls on things outside, their fields ===== -/
def q_fo (k nA : Nat) (ks : List Nat) (g : q_G) : Option (Nat × List Value × List Value) := match g.2.2.1.drop nA with
  | .ref b :: r => if ks.contains b = true ∧ (r.map fun v => v.category).sum ≤ 8 then some (k, .ref b :: (g.2.2.1.take nA).reverse, r) else none
  | _ => none
def q_lkv (t : List (Nat × Value)) (b : Nat) : Option Value := match t with
  | [] => none
  | x :: r => cond (Nat.beq b x.1) (some x.2) (q_lkv r b)
theorem q_lkv_mem {t : List (Nat × Value)} {b : Nat} {v : Value} (h : q_lkv t b = some v) : (b, v) ∈ t := by
  induction t with
  | nil => cases h
  | cons x r ih =>
    unfold q_lkv at h
    cases hb : Nat.beq b x.1 with
    | true =>
      rw [hb] at h
      obtain ⟨x1, x2⟩ := x
      have e : b = x1 := Nat.eq_of_beq_eq_true hb
      cases h
      rw [e]; exact List.mem_cons_self
    | false => rw [hb] at h; exact List.mem_cons_of_mem _ (ih h)
def q_fog (t : List (Nat × Value)) (_ : q_L) (st : List Value) : Option (List Value) := match st with
  | .ref b :: r => match q_lkv t b with
    | some v => some (v :: r)
    | none => none
  | _ => none
section
variable {WU : List Cond} {cl : List vw_C} {tyl : List FieldType} {GF : (Nat → Prop) → State → Heap → Prop} {τ : Nat → Nat} {mt : Nat → q_M} {own mname : String} {cc : ByteArray} {nL pc nx : Nat}
theorem q_callU {k nA idx ci n : Nat} {N : q_M} {C owner : String} {x : MethodName} {T : u_T} (hM : mt k = N) (hdg : decode cc pc = .ok (.invokevirtual idx, 3)) (hx : nx = pc + 3) (hc : cl[ci]? = some (C, T, n)) (hh : N.2.2.2.2.1 = []) (hml : N.2.2.1 ≤ 80) (hwl : Cond.methodLink own idx x ∈ WU) (hsm : Cond.sameMethod x.cls owner x.name x.desc ∈ WU) (hwe : Cond.selects C x N.1 ∈ WU) (hws : Cond.instanceMethod N.1 ∈ WU) (hwi : Cond.initialized N.1.cls ∈ WU) (hwc : q_cw N ∈ WU)
    (hyx : N.1 = ⟨owner, x.name, x.desc⟩) (hd : owner ≠ "java/lang/invoke/MethodHandle" ∧ owner ≠ "java/lang/invoke/VarHandle" ∧ (parseMethodDescriptor x.desc).map (fun d => d.parameters.length) = some nA) : q_Cs WU cl tyl GF τ mt own cc nL pc nx (q_fv k nA ci) := by
  subst hM
  refine ⟨hx, ?_⟩
  intro g k' as rest hpc hf
  obtain ⟨pc', L, st, h⟩ := g
  obtain rfl : pc' = pc := hpc
  unfold q_fv at hf
  dsimp only at hf
  split at hf
  · rename_i b r hst
    obtain ⟨hlen, hst2⟩ := q_split hst
    split at hf
    · rename_i cj fs e1
      split at hf
      · rename_i hcs
        cases hf
        obtain ⟨rfl, hsum⟩ := hcs
        obtain ⟨eb, e2⟩ := q_at_in e1
        refine ⟨fun v hv => ?_, fun v hv => by show v ∈ st; rw [hst2]; exact List.mem_append_right _ (List.mem_cons_of_mem _ hv), ?_⟩
        · show v ∈ st
          rcases List.mem_cons.mp hv with rfl | hv
          · rw [hst2]; exact List.mem_append_right _ List.mem_cons_self
          · exact List.mem_of_mem_take (List.mem_reverse.mp hv)
        intro p l e R s m args below meth c H locs cells slots mc ms rm Pc Qc XC free A ls D cA α he hb hm9 hown hts hgood hG hK hS9 hτ9 hM hrc hrs h1 h2 hbl hpre hk hn hP hsz
        have cw := va_cwU (R := R) (s := s) (args := args) (own := own) (C := C) (owner := owner) (index := idx) (x := x) (y := (mt k).1) (bytes := (mt k).2.1) (maxL := (mt k).2.2.1) (ret := (mt k).2.2.2.1) (Ts := WU) (ws := q_cw (mt k) :: WU) nA hts (q_goods hgood (fun w hw => by
          rcases List.mem_cons.mp hw with rfl | hw
          · exact hwl
          · rcases List.mem_cons.mp hw with rfl | hw
            · exact hsm
            · rcases List.mem_cons.mp hw with rfl | hw
              · exact hwe
              · rcases List.mem_cons.mp hw with rfl | hw
                · exact hws
                · rcases List.mem_cons.mp hw with rfl | hw
                  · exact hwi
                  · cases hw) (q_good hgood hwc)) (by rw [q_cw0 hh]) hrc hrs hyx hd (q_nR h1 h2 hml)
        have hw0 := q_w_get (cA := cA) (α := α) e2
        rw [← eb] at hw0
        have hrecv := va_recv hK hP hc hw0
        refine vx_runU (nL := nL) (C := C) (b := α b) (As := (st.take nA).reverse.map (q_v α)) ⟨he, hb, hm9, hown, hts⟩ hM cw ⟨hbl, hrecv, hpre⟩ rfl (by rw [List.length_map, List.length_reverse]; exact hlen) hsz ?_ (lv_room (by rw [q_catsum]; exact hsum)) hdg ⟨hk, hn⟩
        show st.map (q_v α) = ((st.take nA).reverse.map (q_v α)).reverse ++ q_v α (.ref b) :: rest.map (q_v α)
        rw [← List.map_reverse, List.reverse_reverse, ← List.map_cons, ← List.map_append, ← hst2]
      · cases hf
    · cases hf
  · cases hf
theorem q_callSU {k nA idx ci n N9 : Nat} {N : q_M} {C : String} {T : u_T} (hM : mt k = N) (hdg : decode cc pc = .ok (.invokespecial idx, 3)) (hx : nx = pc + 3) (hc : cl[ci]? = some (C, T, n)) (hh : N.2.2.2.2.1 = []) (hml : N.2.2.1 ≤ 80) (hwl : Cond.methodLink own idx N.1 ∈ WU) (hsm : Cond.sameMethod N.1.cls N.1.cls N.1.name N.1.desc ∈ WU) (hsc : Cond.superclass own N.1.cls ∈ WU) (hws : Cond.instanceMethod N.1 ∈ WU) (hwi : Cond.initialized N.1.cls ∈ WU) (hwc : q_cw N ∈ WU) (hins : Cond.instantiable C N9 ∈ WU)
    (hd : N.1.name ≠ "<init>" ∧ (parseMethodDescriptor N.1.desc).map (fun d => d.parameters.length) = some nA) : q_Cs WU cl tyl GF τ mt own cc nL pc nx (q_fv k nA ci) := by
  subst hM
  refine ⟨hx, ?_⟩
  intro g k' as rest hpc hf
  obtain ⟨pc', L, st, h⟩ := g
  obtain rfl : pc' = pc := hpc
  unfold q_fv at hf
  dsimp only at hf
  split at hf
  · rename_i b r hst
    obtain ⟨hlen, hst2⟩ := q_split hst
    split at hf
    · rename_i cj fs e1
      split at hf
      · rename_i hcs
        cases hf
        obtain ⟨rfl, hsum⟩ := hcs
        obtain ⟨eb, e2⟩ := q_at_in e1
        refine ⟨fun v hv => ?_, fun v hv => by show v ∈ st; rw [hst2]; exact List.mem_append_right _ (List.mem_cons_of_mem _ hv), ?_⟩
        · show v ∈ st
          rcases List.mem_cons.mp hv with rfl | hv
          · rw [hst2]; exact List.mem_append_right _ List.mem_cons_self
          · exact List.mem_of_mem_take (List.mem_reverse.mp hv)
        intro p l e R s m args below meth c H locs cells slots mc ms rm Pc Qc XC free A ls D cA α he hb hm9 hown hts hgood hG hK hS9 hτ9 hM hrc hrs h1 h2 hbl hpre hk hn hP hsz
        obtain ⟨cC, hat⟩ := classAt_of (hts _ hins)
        have cw := va_cwSU (R := R) (s := s) (args := args) (own := own) (index := idx) (y := (mt k).1) (bytes := (mt k).2.1) (maxL := (mt k).2.2.1) (ret := (mt k).2.2.2.1) (Ts := WU) (ws := q_cw (mt k) :: WU) nA hts (q_goods hgood (fun w hw => by
          rcases List.mem_cons.mp hw with rfl | hw
          · exact hwl
          · rcases List.mem_cons.mp hw with rfl | hw
            · exact hsm
            · rcases List.mem_cons.mp hw with rfl | hw
              · exact hsc
              · rcases List.mem_cons.mp hw with rfl | hw
                · exact hws
                · rcases List.mem_cons.mp hw with rfl | hw
                  · exact hwi
                  · cases hw) (q_good hgood hwc)) (by rw [q_cw0 hh]) hrc hrs hd (q_nR h1 h2 hml)
        have hw0 := q_w_get (cA := cA) (α := α) e2
        rw [← eb] at hw0
        have hrecv := va_recv hK hP hc hw0
        refine vx_runSU (nL := nL) (C := C) (b := α b) (As := (st.take nA).reverse.map (q_v α)) hat ⟨he, hb, hm9, hown, hts⟩ hM cw ⟨hbl, hrecv, hpre⟩ rfl (by rw [List.length_map, List.length_reverse]; exact hlen) hsz ?_ (lv_room (by rw [q_catsum]; exact hsum)) hdg ⟨hk, hn⟩
        show st.map (q_v α) = ((st.take nA).reverse.map (q_v α)).reverse ++ q_v α (.ref b) :: rest.map (q_v α)
        rw [← List.map_reverse, List.reverse_reverse, ← List.map_cons, ← List.map_append, ← hst2]
      · cases hf
    · cases hf
  · cases hf
theorem q_ogetf {idx : Nat} {o n d : String} {t : List (Nat × Value)} (hlo : ∀ x ∈ t, x.1 < 64) (hok : ∀ x ∈ t, ∀ a, x.2 = .ref a → a < 64) (hO : ∀ A U H, GF A U H → ∀ x ∈ t, va_OF o n d (q_v τ x.2) (τ x.1) A U H) (hdg : decode cc pc = .ok (.getfield idx, 3)) (hw : Cond.fieldLink own idx o n d ∈ WU) (hx : nx = pc + 3) :
    q_J WU cl tyl GF τ own mname cc nL pc (q_st nx (q_fog t)) := by
  intro g g' hpc hf hg
  obtain ⟨pc', L, st, h⟩ := g
  obtain rfl : pc' = pc := hpc
  unfold q_st q_fog at hf
  dsimp only at hf
  split at hf
  · cases hf
  · rename_i st' hs
    cases hf
    split at hs
    · rename_i b r
      split at hs
      · rename_i v hv
        cases hs
        have hm := q_lkv_mem hv
        refine ⟨⟨⟨hg.1, fun w hw9 => ?_, hg.2.2⟩, Nat.le_refl _, Nat.le_refl _, Nat.le_refl _⟩, ?_⟩
        · rcases List.mem_cons.mp hw9 with rfl | h9
          · exact fun a ha => Nat.lt_of_lt_of_le (hok _ hm a ha) (Nat.le_add_right _ _)
          · exact hg.2.1 w (List.mem_cons_of_mem _ h9)
        intro p l e R s m args below meth c Q D cA A k0 n0 α hC hR1 hR2 hτ hk' hn kk H locs ls cells slots hP hD hS hl ek en
        subst hx
        have h9 := hO A s s.heap hC.2.2.2.2.2.2.2.1 _ hm
        have e1 : q_v α v = q_v τ v := by
          cases v <;> try rfl
          rename_i a
          show Value.ref (α a) = Value.ref (τ a)
          rw [hτ a (hok _ hm a rfl)]
        rw [← hτ b (hlo _ hm)] at h9
        show W p l e R s m args below meth c H locs cells slots Q (F0 m pc' ls (.ref (α b) :: r.map (q_v α)))
        refine vk_getf hC.1 hC.2.1 h9 hS hC.2.2.1 (hC.2.2.2.2.1 _ hw) (fun x h => h) hdg ?_
        have h8 := kk α q_ag.rf H locs ls cells slots hP hD hS hl ek en
        rw [← e1]
        exact h8
      · cases hs
    · cases hs
theorem q_callO {k nA idx : Nat} {N : q_M} {C : String} {ks : List Nat} (hlo : ∀ x ∈ ks, x < 64) (hO : ∀ A U H, GF A U H → ∀ x ∈ ks, va_O C (τ x) A U H) (hM : mt k = N) (hdg : decode cc pc = .ok (.invokevirtual idx, 3)) (hx : nx = pc + 3) (hh : N.2.2.2.2.1 = []) (hml : N.2.2.1 ≤ 80) (hwl : Cond.methodLink own idx N.1 ∈ WU) (hws : Cond.instanceMethod N.1 ∈ WU) (hwe : Cond.selects C N.1 N.1 ∈ WU) (hwi : Cond.initialized C ∈ WU) (hwc : q_cw N ∈ WU)
    (hd : N.1.cls = C ∧ N.1.cls ≠ "java/lang/invoke/MethodHandle" ∧ N.1.cls ≠ "java/lang/invoke/VarHandle" ∧ (parseMethodDescriptor N.1.desc).map (fun d => d.parameters.length) = some nA) : q_Cs WU cl tyl GF τ mt own cc nL pc nx (q_fo k nA ks) := by
  subst hM
  refine ⟨hx, ?_⟩
  intro g k' as rest hpc hf
  obtain ⟨pc', L, st, h⟩ := g
  obtain rfl : pc' = pc := hpc
  unfold q_fo at hf
  dsimp only at hf
  split at hf
  · rename_i b r hst
    obtain ⟨hlen, hst2⟩ := q_split hst
    split at hf
    · rename_i hcs
      cases hf
      obtain ⟨hin, hsum⟩ := hcs
      have hb9 : b ∈ ks := List.contains_iff_mem.mp hin
      refine ⟨fun v hv => ?_, fun v hv => by show v ∈ st; rw [hst2]; exact List.mem_append_right _ (List.mem_cons_of_mem _ hv), ?_⟩
      · show v ∈ st
        rcases List.mem_cons.mp hv with rfl | hv
        · rw [hst2]; exact List.mem_append_right _ List.mem_cons_self
        · exact List.mem_of_mem_take (List.mem_reverse.mp hv)
      intro p l e R s m args below meth c H locs cells slots mc ms rm Pc Qc XC free A ls D cA α he hb hm9 hown hts hgood hG hK hS9 hτ9 hM hrc hrs h1 h2 hbl hpre hk hn hP hsz
      have cw := cwV (R := R) (s := s) (args := args) (own := own) (C := C) (index := idx) (y := (mt k).1) (bytes := (mt k).2.1) (maxL := (mt k).2.2.1) (ret := (mt k).2.2.2.1) (Ts := WU) (ws := q_cw (mt k) :: WU) nA hts (q_goods hgood (fun w hw => by
        rcases List.mem_cons.mp hw with rfl | hw
        · exact hwl
        · rcases List.mem_cons.mp hw with rfl | hw
          · exact hws
          · rcases List.mem_cons.mp hw with rfl | hw
            · exact hwe
            · rcases List.mem_cons.mp hw with rfl | hw
              · exact hwi
              · cases hw) (q_good hgood hwc)) (by rw [q_cw0 hh]) hrc hrs hd (q_nR h1 h2 hml)
      have hrecv : ∃ cellB : Cell, H[α b]? = some cellB ∧ cellB.vm.isStatics = false ∧ s.vm.findClass C = some cellB.cls := by
        rw [hτ9 b (hlo b hb9)]
        obtain ⟨cell, z1, z2, z3, -⟩ := (hO _ _ _ hG b hb9).kept hS9.2.1
        exact ⟨cell, z1, z2, z3⟩
      refine vx_runV (nL := nL) (C := C) (b := α b) (As := (st.take nA).reverse.map (q_v α)) ⟨he, hb, hm9, hown, hts⟩ hM cw ⟨hbl, hrecv, hpre⟩ rfl (by rw [List.length_map, List.length_reverse]; exact hlen) hsz ?_ (lv_room (by rw [q_catsum]; exact hsum)) hdg ⟨hk, hn⟩
      show st.map (q_v α) = ((st.take nA).reverse.map (q_v α)).reverse ++ q_v α (.ref b) :: rest.map (q_v α)
      rw [← List.map_reverse, List.reverse_reverse, ← List.map_cons, ← List.map_append, ← hst2]
    · cases hf
  · cases hf
end
end
section
-- 23.recs
abbrev q_m0 : q_M := (yL_poke, cL_poke, 5, (some .int), [(0, 10, 13, 13), (0, 10, 17, 15)], "")
abbrev q_m1 : q_M := (yL_pokeRom, cL_pokeRom, 5, (some .int), [(0, 10, 13, 13), (0, 10, 17, 15)], "")
abbrev q_m2 : q_M := (yL_pokeCartridge, cL_pokeCartridge, 6, (some .int), [(0, 12, 15, 13), (0, 12, 19, 15)], "")
abbrev q_m3 : q_M := (yL_peek, cL_peek, 4, (some .int), [(0, 9, 12, 13)], "")
abbrev q_m4 : q_M := (yL_ram, cL_ram, 4, (some .int), [(0, 9, 12, 13)], "")
abbrev q_m5 : q_M := (yL_assemble, cL_assemble, 6, (some .int), [(0, 12, 15, 13), (0, 12, 19, 15)], "")
abbrev q_m6 : q_M := (yL_writeLine, cL_writeLine, 4, (some .int), [(0, 9, 12, 13)], "")
abbrev q_m7 : q_M := (yL_lineAt, cL_lineAt, 4, (some .int), [(0, 9, 12, 13)], "")
abbrev q_m8 : q_M := (yL_compare, cL_compare, 6, (some .int), [(0, 12, 15, 13), (0, 12, 19, 15)], "")
abbrev q_m9 : q_M := (yL_register, cL_register, 4, (some .int), [(0, 9, 12, 13)], "")
abbrev q_m10 : q_M := (yL_setRegister, cL_setRegister, 5, (some .int), [(0, 10, 13, 13), (0, 10, 17, 15), (0, 10, 21, 50)], "")
abbrev q_m11 : q_M := (yL_run, cL_run, 4, (some .int), [(0, 9, 12, 15)], "")
abbrev q_m12 : q_M := (yL_step, cL_step, 3, (some .int), [(0, 8, 11, 50)], "")
abbrev q_m13 : q_M := (yL_traceAt, cL_traceAt, 4, (some .int), [(0, 9, 12, 13)], "")
abbrev q_m14 : q_M := (yL_pixel, cL_pixel, 5, (some .int), [(0, 10, 13, 13)], "")
abbrev q_m15 : q_M := (yL_pixelAgain, cL_pixelAgain, 5, (some .int), [(0, 10, 13, 13)], "")
abbrev q_m16 : q_M := (yL_sample, cL_sample, 4, (some .int), [(0, 9, 12, 13)], "")
abbrev q_m17 : q_M := (yL_level, cL_level, 4, (some .int), [(0, 9, 12, 13)], "")
abbrev q_m18 : q_M := (yL_key, cL_key, 6, (some .int), [(0, 19, 22, 13)], "")
abbrev q_m19 : q_M := (yL_columns, cL_columns, 4, (some .int), [(0, 9, 12, 15)], "")
abbrev q_m20 : q_M := (yL_joystick, cL_joystick, 4, (some .int), [(0, 9, 12, 15)], "")
abbrev q_m21 : q_M := (yL_addPulse, cL_addPulse, 4, (some .int), [(0, 9, 12, 15), (0, 9, 15, 50)], "")
abbrev q_m22 : q_M := (yL_save, cL_save, 3, (some .int), [(0, 8, 11, 50)], "")
abbrev q_m23 : q_M := (yL_restore, cL_restore, 4, (some .int), [(0, 9, 12, 93)], "")
abbrev q_m24 : q_M := (yL_differences, cL_differences, 4, (some .int), [(0, 9, 12, 93)], "")
abbrev q_m25 : q_M := (yL_recorded, cL_recorded, 3, (some .int), [(0, 8, 11, 50)], "")
abbrev q_m26 : q_M := (yL_isSame, cL_isSame, 3, (some .int), [(0, 15, 18, 50)], "")
abbrev q_m27 : q_M := (yX11_init, cX11_init, 2, none, [], "")
abbrev q_m28 : q_M := (yX11_poke, cX11_poke, 3, (some .int), [], "")
abbrev q_m29 : q_M := (yX11_pokeRom, cX11_pokeRom, 3, (some .int), [], "")
abbrev q_m30 : q_M := (yX11_pokeCartridge, cX11_pokeCartridge, 4, (some .int), [], "")
abbrev q_m31 : q_M := (yX11_peek, cX11_peek, 2, (some .int), [], "")
abbrev q_m32 : q_M := (yX11_ram, cX11_ram, 2, (some .int), [], "")
abbrev q_m33 : q_M := (yX11_assemble, cX11_assemble, 4, (some .int), [], "")
abbrev q_m34 : q_M := (yX11_writeLine, cX11_writeLine, 2, (some .int), [], "")
abbrev q_m35 : q_M := (yX11_lineAt, cX11_lineAt, 2, (some .char), [], "")
abbrev q_m36 : q_M := (yX11_compare, cX11_compare, 7, (some .int), [], "")
abbrev q_m37 : q_M := (yX11_register, cX11_register, 2, (some .int), [], "")
abbrev q_m38 : q_M := (yX11_setRegister, cX11_setRegister, 3, (some .int), [], "")
abbrev q_m39 : q_M := (yX11_status, cX11_status, 1, (some .int), [], "")
abbrev q_m40 : q_M := (yX11_reset, cX11_reset, 1, (some .int), [], "")
abbrev q_m41 : q_M := (yX11_freeze, cX11_freeze, 1, (some .int), [], "")
abbrev q_m42 : q_M := (yX11_run, cX11_run, 2, (some .int), [], "")
abbrev q_m43 : q_M := (yX11_step, cX11_step, 1, (some .int), [], "")
abbrev q_m44 : q_M := (yX11_cycle, cX11_cycle, 1, (some .long), [], "")
abbrev q_m45 : q_M := (yX11_isPictures, cX11_isPictures, 1, (some .boolean), [], "")
abbrev q_m46 : q_M := (yX11_underWay, cX11_underWay, 1, (some .int), [], "")
abbrev q_m47 : q_M := (yX11_done, cX11_done, 1, (some .int), [], "")
abbrev q_m48 : q_M := (yX11_isJammed, cX11_isJammed, 1, (some .boolean), [], "")
abbrev q_m49 : q_M := (yX11_traceAt, cX11_traceAt, 3, (some .int), [], "")
abbrev q_m50 : q_M := (yX11_pixel, cX11_pixel, 3, (some .int), [], "")
abbrev q_m51 : q_M := (yX11_pixelAgain, cX11_pixelAgain, 3, (some .int), [], "")
abbrev q_m52 : q_M := (yX11_sample, cX11_sample, 2, (some .int), [], "")
abbrev q_m53 : q_M := (yX11_level, cX11_level, 2, (some .int), [], "")
abbrev q_m54 : q_M := (yX11_key, cX11_key, 5, (some .boolean), [], "")
abbrev q_m55 : q_M := (yX11_columns, cX11_columns, 2, (some .int), [], "")
abbrev q_m56 : q_M := (yX11_joystick, cX11_joystick, 2, (some .int), [], "")
abbrev q_m57 : q_M := (yX11_addPulse, cX11_addPulse, 2, (some .int), [], "")
abbrev q_m58 : q_M := (yX11_rewind, cX11_rewind, 1, (some .int), [], "")
abbrev q_m59 : q_M := (yX11_pulsesLeft, cX11_pulsesLeft, 1, (some .int), [], "")
abbrev q_m60 : q_M := (yX11_save, cX11_save, 2, (some .int), [], "")
abbrev q_m61 : q_M := (yX11_restore, cX11_restore, 4, (some .int), [], "")
abbrev q_m62 : q_M := (yX11_differences, cX11_differences, 3, (some .int), [], "")
abbrev q_m63 : q_M := (yX11_startRecord, cX11_startRecord, 2, (some .int), [], "")
abbrev q_m64 : q_M := (yX11_recorded, cX11_recorded, 1, (some .int), [], "")
abbrev q_m65 : q_M := (yX11_isSame, cX11_isSame, 4, (some .boolean), [], "")
abbrev q_m66 : q_M := (yX11_sumOfPicture, cX11_sumOfPicture, 3, (some .int), [], "")
abbrev q_m67 : q_M := (yX11_pictures, cX11_pictures, 1, (some .long), [], "")
abbrev q_m68 : q_M := (yX11_solidShare, cX11_solidShare, 4, (some .float), [], "")
abbrev q_m69 : q_M := (yX11_meanSample, cX11_meanSample, 3, (some .double), [], "")
abbrev q_m70 : q_M := (yX11_checkAddress, cX11_checkAddress, 1, none, [], "")
abbrev q_m71 : q_M := (yX11_checkIndex, cX11_checkIndex, 2, none, [], "")
abbrev q_m72 : q_M := (yX11_checkByte, cX11_checkByte, 1, none, [], "")
abbrev q_m73 : q_M := (yX11_checkArgument, cX11_checkArgument, 3, none, [], "")
abbrev q_m74 : q_M := (yX11_snapshotOf, cX11_snapshotOf, 2, (some (.object "Rasterbox$Machine")), [], "")
abbrev q_m75 : q_M := (yX4_init, cX4_init, 1, none, [], "")
abbrev q_m76 : q_M := (yX4_become, cX4_become, 2, none, [], "")
abbrev q_m77 : q_M := (yX4_isLike, cX4_isLike, 3, (some .boolean), [], "")
abbrev q_m78 : q_M := (yX4_perform, cX4_perform, 5, (some .int), [], "")
abbrev q_m79 : q_M := (yX4_startAnew, cX4_startAnew, 1, (some .int), [], "")
abbrev q_m80 : q_M := (yX4_pressFreeze, cX4_pressFreeze, 2, (some .int), [], "")
abbrev q_m81 : q_M := (yX4_letPass, cX4_letPass, 6, (some .int), [], "")
abbrev q_m82 : q_M := (yX4_passPicture, cX4_passPicture, 2, (some .boolean), [], "")
abbrev q_m83 : q_M := (yX0_init, cX0_init, 1, none, [], "")
abbrev q_m84 : q_M := (yX0_become, cX0_become, 2, none, [], "")
abbrev q_m85 : q_M := (yX0_position, cX0_position, 1, (some .int), [], "")
abbrev q_m86 : q_M := (yX0_column, cX0_column, 1, (some .int), [], "")
abbrev q_m87 : q_M := (yX0_present, cX0_present, 1, (some (.object "Rasterbox$Frame")), [], "")
abbrev q_m88 : q_M := (yX0_last, cX0_last, 1, (some (.object "Rasterbox$Frame")), [], "")
abbrev q_m89 : q_M := (yX0_read, cX0_read, 4, (some .int), [], "")
abbrev q_m90 : q_M := (yX0_readRegister, cX0_readRegister, 3, (some .int), [], "")
abbrev q_m91 : q_M := (yX0_readWord, cX0_readWord, 3, (some .int), [], "")
abbrev q_m92 : q_M := (yX0_load, cX0_load, 3, (some .int), [], "")
abbrev q_m93 : q_M := (yX0_write, cX0_write, 3, none, [], "")
abbrev q_m94 : q_M := (yX0_startTimers, cX0_startTimers, 3, none, [], "")
abbrev q_m95 : q_M := (yX0_clearRegisters, cX0_clearRegisters, 1, none, [], "")
abbrev q_m96 : q_M := (yX0_exchange, cX0_exchange, 4, (some .int), [], "")
abbrev q_m97 : q_M := (yX0_exchangeRom, cX0_exchangeRom, 5, (some .int), [], "")
abbrev q_m98 : q_M := (yX0_exchangeCartridge, cX0_exchangeCartridge, 5, (some .int), [], "")
abbrev q_m99 : q_M := (yX0_writeInstruction, cX0_writeInstruction, 5, (some .int), [], "")
abbrev q_m100 : q_M := (yX0_meetLine, cX0_meetLine, 1, none, [], "")
abbrev q_m101 : q_M := (yX0_isPictureNext, cX0_isPictureNext, 1, (some .boolean), [], "")
abbrev q_m102 : q_M := (yX0_draw, cX0_draw, 8, none, [], "")
abbrev q_m103 : q_M := (yX0_countTimers, cX0_countTimers, 3, none, [], "")
abbrev q_m104 : q_M := (yX0_countDown, cX0_countDown, 3, (some .boolean), [], "")
abbrev q_m105 : q_M := (yX0_moveTape, cX0_moveTape, 1, none, [], "")
abbrev q_m106 : q_M := (yX0_endCycle, cX0_endCycle, 1, none, [], "")
abbrev q_m107 : q_M := (yX0_drawnAgain, cX0_drawnAgain, 7, (some .int), [], "")
abbrev q_m108 : q_M := (yX8_init, cX8_init, 1, none, [], "")
abbrev q_m109 : q_M := (yX8_become, cX8_become, 2, none, [], "")
abbrev q_m110 : q_M := (yX8_bytesUnlike, cX8_bytesUnlike, 4, (some .int), [], "")
abbrev q_m111 : q_M := (yX8_put, cX8_put, 4, none, [], "")
abbrev q_m112 : q_M := (yX8_clearRegisters, cX8_clearRegisters, 1, none, [], "")
abbrev q_m113 : q_M := (yX8_scrollLeft, cX8_scrollLeft, 1, (some .int), [], "")
abbrev q_m114 : q_M := (yX8_scrollUp, cX8_scrollUp, 1, (some .int), [], "")
abbrev q_m115 : q_M := (yX8_takesCycle, cX8_takesCycle, 3, (some .boolean), [], "")
abbrev q_m116 : q_M := (yX8_isAmongRows, cX8_isAmongRows, 6, (some .boolean), [], "")
abbrev q_m117 : q_M := (yX8_bitOf, cX8_bitOf, 3, (some .int), [], "")
abbrev q_m118 : q_M := (yX8_valueAt, cX8_valueAt, 8, (some .int), [], "")
abbrev q_m119 : q_M := (yX8_byteAt, cX8_byteAt, 2, (some .int), [], "")
abbrev q_m120 : q_M := (yX8_isSolid, cX8_isSolid, 2, (some .boolean), [], "")
abbrev q_m121 : q_M := (yX8_spritesAt, cX8_spritesAt, 9, (some .int), [], "")
abbrev q_m122 : q_M := (yX8_colourOf, cX8_colourOf, 5, (some .int), [], "")
abbrev q_m123 : q_M := (yX8_noteHits, cX8_noteHits, 3, none, [], "")
abbrev q_m124 : q_M := (yX2_init, cX2_init, 1, none, [], "")
abbrev q_m125 : q_M := (yX2_become, cX2_become, 2, none, [], "")
abbrev q_m126 : q_M := (yX2_begin, cX2_begin, 2, none, [], "")
abbrev q_m127 : q_M := (yX2_keep, cX2_keep, 3, none, [], "")
abbrev q_m128 : q_M := (yX2_replay, cX2_replay, 5, none, [], "")
abbrev q_m129 : q_M := (yX6_init, cX6_init, 1, none, [], "")
abbrev q_m130 : q_M := (yX6_become, cX6_become, 2, none, [], "")
abbrev q_m131 : q_M := (yX6_isLike, cX6_isLike, 2, (some .boolean), [], "")
abbrev q_m132 : q_M := (yX6_registerOf, cX6_registerOf, 2, (some .int), [], "")
abbrev q_m133 : q_M := (yX6_exchange, cX6_exchange, 4, (some .int), [], "")
abbrev q_m134 : q_M := (yX6_startAnew, cX6_startAnew, 2, none, [], "")
abbrev q_m135 : q_M := (yX6_begin, cX6_begin, 3, none, [], "")
abbrev q_m136 : q_M := (yX6_cyclesAt, cX6_cyclesAt, 8, (some .int), [], "")
abbrev q_m137 : q_M := (yX6_cyclesOfBranch, cX6_cyclesOfBranch, 3, (some .int), [], "")
abbrev q_m138 : q_M := (yX6_targetOf, cX6_targetOf, 2, (some .int), [], "")
abbrev q_m139 : q_M := (yX6_behind, cX6_behind, 2, (some .int), [], "")
abbrev q_m140 : q_M := (yX6_isLastCycle, cX6_isLastCycle, 1, (some .boolean), [], "")
abbrev q_m141 : q_M := (yX6_finish, cX6_finish, 6, none, [], "")
abbrev q_m142 : q_M := (yX6_indexOf, cX6_indexOf, 2, (some .int), [], "")
abbrev q_m143 : q_M := (yX6_addressOf, cX6_addressOf, 3, (some .int), [], "")
abbrev q_m144 : q_M := (yX6_baseOf, cX6_baseOf, 5, (some .int), [], "")
abbrev q_m145 : q_M := (yX6_push, cX6_push, 3, none, [], "")
abbrev q_m146 : q_M := (yX6_pull, cX6_pull, 2, (some .int), [], "")
abbrev q_m147 : q_M := (yX6_interrupt, cX6_interrupt, 5, none, [], "")
abbrev q_m148 : q_M := (yX6_setFlag, cX6_setFlag, 3, none, [], "")
abbrev q_m149 : q_M := (yX6_judge, cX6_judge, 2, (some .int), [], "")
abbrev q_m150 : q_M := (yX6_match, cX6_match, 3, none, [], "")
abbrev q_m151 : q_M := (yX6_calculate, cX6_calculate, 3, none, [], "")
abbrev q_m152 : q_M := (yX6_store, cX6_store, 6, none, [], "")
abbrev q_m153 : q_M := (yX6_add, cX6_add, 5, none, [], "")
abbrev q_m154 : q_M := (yX6_subtract, cX6_subtract, 5, none, [], "")
abbrev q_m155 : q_M := (yX6_addBinary, cX6_addBinary, 3, none, [], "")
abbrev q_m156 : q_M := (yX6_doPlain, cX6_doPlain, 3, none, [], "")
abbrev q_m157 : q_M := (yX6_jump, cX6_jump, 5, (some .int), [], "")
abbrev q_m158 : q_M := (yX6_wordInPage, cX6_wordInPage, 4, (some .int), [], "")
abbrev q_m159 : q_M := (yX6_pullWord, cX6_pullWord, 3, (some .int), [], "")
abbrev q_m160 : q_M := (yX6_isTaken, cX6_isTaken, 2, (some .boolean), [], "")
abbrev q_m161 : q_M := (yX6_move, cX6_move, 2, none, [], "")
abbrev q_m162 : q_M := (yX6_changeFlag, cX6_changeFlag, 2, none, [], "")
abbrev q_m163 : q_M := (yX6_shift, cX6_shift, 3, none, [], "")
abbrev q_m164 : q_M := (yX10_init, cX10_init, 1, none, [], "")
abbrev q_m165 : q_M := (yX10_become, cX10_become, 2, none, [], "")
abbrev q_m166 : q_M := (yX10_isLike, cX10_isLike, 3, (some .boolean), [], "")
abbrev q_m167 : q_M := (yX10_sound, cX10_sound, 5, none, [], "")
abbrev q_m168 : q_M := (yX10_turn, cX10_turn, 6, none, [], "")
abbrev q_m169 : q_M := (yX10_swell, cX10_swell, 4, none, [], "")
abbrev q_m170 : q_M := (yX10_outputOf, cX10_outputOf, 6, (some .int), [], "")
abbrev q_m171 : q_M := (yX10_waveOf, cX10_waveOf, 3, (some .int), [], "")
abbrev q_m172 : q_M := (yX9_init, cX9_init, 1, none, [], "")
abbrev q_m173 : q_M := (yX9_become, cX9_become, 2, none, [], "")
abbrev q_m174 : q_M := (yX9_add, cX9_add, 2, (some .int), [], "")
abbrev q_m175 : q_M := (yX9_windBack, cX9_windBack, 2, (some .int), [], "")
abbrev q_m176 : q_M := (yX9_isPulseOver, cX9_isPulseOver, 1, (some .boolean), [], "")
abbrev q_m177 : q_M := (yX3_init, cX3_init, 1, none, [], "")
abbrev q_m178 : q_M := (yX3_become, cX3_become, 2, none, [], "")
abbrev q_m179 : q_M := (yX3_exchangeJoystick, cX3_exchangeJoystick, 3, (some .int), [], "")
abbrev q_m180 : q_M := (yX3_press, cX3_press, 7, (some .int), [], "")
abbrev q_m181 : q_M := (yX3_columnsSeen, cX3_columnsSeen, 6, (some .int), [], "")
abbrev q_m182 : q_M := (yX7_init, cX7_init, 1, none, [], "")
abbrev q_m183 : q_M := (yX7_begin, cX7_begin, 2, none, [], "")
abbrev q_m184 : q_M := (yX7_keep, cX7_keep, 5, none, [], "")
abbrev q_m185 : q_M := (yX1_operationOf, cX1_operationOf, 1, (some .int), [], "")
abbrev q_m186 : q_M := (yX1_isBranch, cX1_isBranch, 1, (some .boolean), [], "")
abbrev q_m187 : q_M := (yX1_isWriting, cX1_isWriting, 1, (some .boolean), [], "")
abbrev q_m188 : q_M := (yX1_isChanging, cX1_isChanging, 1, (some .boolean), [], "")
abbrev q_m189 : q_M := (yX1_lengthOf, cX1_lengthOf, 2, (some .int), [], "")
abbrev q_m190 : q_M := (yX1_cyclesOfMode, cX1_cyclesOfMode, 1, (some .int), [], "")
abbrev q_m191 : q_M := (yX1_cyclesOf, cX1_cyclesOf, 2, (some .int), [], "")
abbrev q_m192 : q_M := (yX1_targetOf, cX1_targetOf, 2, (some .int), [], "")
abbrev q_m193 : q_M := (yX1_appendName, cX1_appendName, 6, none, [], "")
abbrev q_m194 : q_M := (yX5_describe, cX5_describe, 7, none, [], "")
abbrev q_m195 : q_M := (yX5_layoutOf, cX5_layoutOf, 1, (some .int), [], "")
abbrev q_m196 : q_M := (yX5_appendOperand, cX5_appendOperand, 3, none, [], "")
abbrev q_m197 : q_M := (yX12_init, cX12_init, 1, none, [], "")
abbrev q_m198 : q_M := (yX12_thrown, cX12_thrown, 1, (some .int), [], "")
abbrev q_m199 : q_M := (yX12_fails, cX12_fails, 2, (some .boolean), [], "")
abbrev q_m200 : q_M := (yX12_tells, cX12_tells, 2, (some .int), [], "")
abbrev q_m201 : q_M := (yX12_in, cX12_in, 3, (some .boolean), [], "")
abbrev q_m202 : q_M := (yX12_isNoByte, cX12_isNoByte, 1, (some .boolean), [], "")
abbrev q_m203 : q_M := (yX12_isNoAddress, cX12_isNoAddress, 1, (some .boolean), [], "")
abbrev q_m204 : q_M := (yX12_keeps, cX12_keeps, 1, none, [], "")
abbrev q_m205 : q_M := (yX12_has, cX12_has, 2, (some .boolean), [], "")
abbrev q_m206 : q_M := (yX12_lineNow, cX12_lineNow, 1, (some .int), [], "")
abbrev q_m207 : q_M := (yX12_seenColumns, cX12_seenColumns, 5, (some .int), [], "")
abbrev q_m208 : q_M := (yX12_hasPulse, cX12_hasPulse, 1, (some .boolean), [], "")
abbrev q_m209 : q_M := (yX12_readRegister, cX12_readRegister, 2, (some .int), [], "")
abbrev q_m210 : q_M := (yX12_bitsOf, cX12_bitsOf, 1, (some .int), [], "")
abbrev q_m211 : q_M := (yX12_writeRegister, cX12_writeRegister, 5, none, [], "")
abbrev q_m212 : q_M := (yX12_wrap, cX12_wrap, 1, (some .int), [], "")
abbrev q_m213 : q_M := (yX12_reads, cX12_reads, 2, (some .int), [], "")
abbrev q_m214 : q_M := (yX12_writes, cX12_writes, 3, none, [], "")
abbrev q_m215 : q_M := (yX12_poke, cX12_poke, 4, (some .int), [], "")
abbrev q_m216 : q_M := (yX12_pokeRom, cX12_pokeRom, 4, (some .int), [], "")
abbrev q_m217 : q_M := (yX12_pokeCartridge, cX12_pokeCartridge, 5, (some .int), [], "")
abbrev q_m218 : q_M := (yX12_peek, cX12_peek, 2, (some .int), [], "")
abbrev q_m219 : q_M := (yX12_ram, cX12_ram, 2, (some .int), [], "")
abbrev q_m220 : q_M := (yX12_compare, cX12_compare, 6, (some .int), [], "")
abbrev q_m221 : q_M := (yX12_rowNow, cX12_rowNow, 1, (some .int), [], "")
abbrev q_m222 : q_M := (yX12_isOn, cX12_isOn, 2, (some .boolean), [], "")
abbrev q_m223 : q_M := (yX12_isAmong, cX12_isAmong, 4, (some .boolean), [], "")
abbrev q_m224 : q_M := (yX12_isOfPicture, cX12_isOfPicture, 3, (some .boolean), [], "")
abbrev q_m225 : q_M := (yX12_pictureAt, cX12_pictureAt, 7, (some .int), [], "")
abbrev q_m226 : q_M := (yX12_covers, cX12_covers, 6, (some .boolean), [], "")
abbrev q_m227 : q_M := (yX12_draws, cX12_draws, 8, none, [], "")
abbrev q_m228 : q_M := (yX12_counts, cX12_counts, 2, (some .boolean), [], "")
abbrev q_m229 : q_M := (yX12_times, cX12_times, 1, none, [], "")
abbrev q_m230 : q_M := (yX12_winds, cX12_winds, 1, none, [], "")
abbrev q_m231 : q_M := (yX12_sounds, cX12_sounds, 5, none, [], "")
abbrev q_m232 : q_M := (yX12_gives, cX12_gives, 4, (some .int), [], "")
abbrev q_m233 : q_M := (yX12_makesSample, cX12_makesSample, 3, none, [], "")
abbrev q_m234 : q_M := (yX12_passes, cX12_passes, 4, (some .boolean), [], "")
abbrev q_m235 : q_M := (yX12_run, cX12_run, 4, (some .int), [], "")
abbrev q_m236 : q_M := (yX12_step, cX12_step, 3, (some .int), [], "")
abbrev q_m237 : q_M := (yX12_cycle, cX12_cycle, 1, (some .long), [], "")
abbrev q_m238 : q_M := (yX12_isPictures, cX12_isPictures, 1, (some .boolean), [], "")
abbrev q_m239 : q_M := (yX12_underWay, cX12_underWay, 1, (some .int), [], "")
abbrev q_m240 : q_M := (yX12_done, cX12_done, 1, (some .int), [], "")
abbrev q_m241 : q_M := (yX12_isJammed, cX12_isJammed, 1, (some .boolean), [], "")
abbrev q_m242 : q_M := (yX12_traceAt, cX12_traceAt, 2, (some .int), [], "")
abbrev q_m243 : q_M := (yX12_operationOf, cX12_operationOf, 1, (some .int), [], "")
abbrev q_m244 : q_M := (yX12_isWriting, cX12_isWriting, 1, (some .boolean), [], "")
abbrev q_m245 : q_M := (yX12_lengthOf, cX12_lengthOf, 2, (some .int), [], "")
abbrev q_m246 : q_M := (yX12_byteAt, cX12_byteAt, 2, (some .int), [], "")
abbrev q_m247 : q_M := (yX12_wordAt, cX12_wordAt, 2, (some .int), [], "")
abbrev q_m248 : q_M := (yX12_baseOf, cX12_baseOf, 4, (some .int), [], "")
abbrev q_m249 : q_M := (yX12_addressOf, cX12_addressOf, 4, (some .int), [], "")
abbrev q_m250 : q_M := (yX12_modeCycles, cX12_modeCycles, 7, (some .int), [], "")
abbrev q_m251 : q_M := (yX12_isTaken, cX12_isTaken, 3, (some .boolean), [], "")
abbrev q_m252 : q_M := (yX12_targetOf, cX12_targetOf, 3, (some .int), [], "")
abbrev q_m253 : q_M := (yX12_cyclesOf, cX12_cyclesOf, 4, (some .int), [], "")
abbrev q_m254 : q_M := (yX12_pushes, cX12_pushes, 2, none, [], "")
abbrev q_m255 : q_M := (yX12_pulls, cX12_pulls, 1, (some .int), [], "")
abbrev q_m256 : q_M := (yX12_bit, cX12_bit, 3, (some .int), [], "")
abbrev q_m257 : q_M := (yX12_statusWith, cX12_statusWith, 2, (some .int), [], "")
abbrev q_m258 : q_M := (yX12_becomesStatus, cX12_becomesStatus, 2, none, [], "")
abbrev q_m259 : q_M := (yX12_interrupts, cX12_interrupts, 4, none, [], "")
abbrev q_m260 : q_M := (yX12_sets, cX12_sets, 2, (some .int), [], "")
abbrev q_m261 : q_M := (yX12_becomes, cX12_becomes, 3, none, [], "")
abbrev q_m262 : q_M := (yX12_compares, cX12_compares, 3, none, [], "")
abbrev q_m263 : q_M := (yX12_adds, cX12_adds, 3, none, [], "")
abbrev q_m264 : q_M := (yX12_addsDecimal, cX12_addsDecimal, 6, none, [], "")
abbrev q_m265 : q_M := (yX12_takesDecimal, cX12_takesDecimal, 6, none, [], "")
abbrev q_m266 : q_M := (yX12_calculates, cX12_calculates, 5, none, [], "")
abbrev q_m267 : q_M := (yX12_takes, cX12_takes, 3, (some .int), [], "")
abbrev q_m268 : q_M := (yX12_operates, cX12_operates, 3, none, [], "")
abbrev q_m269 : q_M := (yX12_changes, cX12_changes, 5, none, [], "")
abbrev q_m270 : q_M := (yX12_doesMode, cX12_doesMode, 4, none, [], "")
abbrev q_m271 : q_M := (yX12_shifts, cX12_shifts, 4, none, [], "")
abbrev q_m272 : q_M := (yX12_doesOther, cX12_doesOther, 3, none, [], "")
abbrev q_m273 : q_M := (yX12_pulledAddress, cX12_pulledAddress, 3, (some .int), [], "")
abbrev q_m274 : q_M := (yX12_jumps, cX12_jumps, 5, none, [], "")
abbrev q_m275 : q_M := (yX12_does, cX12_does, 5, none, [], "")
abbrev q_m276 : q_M := (yX12_begins, cX12_begins, 1, none, [], "")
abbrev q_m277 : q_M := (yX12_goesOn, cX12_goesOn, 1, none, [], "")
abbrev q_m278 : q_M := (yX12_assemble, cX12_assemble, 4, (some .int), [], "")
abbrev q_m279 : q_M := (yX12_puts, cX12_puts, 2, none, [], "")
abbrev q_m280 : q_M := (yX12_putsNumber, cX12_putsNumber, 2, none, [], "")
abbrev q_m281 : q_M := (yX12_putsName, cX12_putsName, 4, none, [], "")
abbrev q_m282 : q_M := (yX12_putsMode, cX12_putsMode, 3, none, [], "")
abbrev q_m283 : q_M := (yX12_putsOther, cX12_putsOther, 3, none, [], "")
abbrev q_m284 : q_M := (yX12_isJam, cX12_isJam, 1, (some .boolean), [], "")
abbrev q_m285 : q_M := (yX12_writeLine, cX12_writeLine, 3, (some .int), [], "")
abbrev q_m286 : q_M := (yX12_lineAt, cX12_lineAt, 2, (some .char), [], "")
abbrev q_m287 : q_M := (yX12_register, cX12_register, 2, (some .int), [], "")
abbrev q_m288 : q_M := (yX12_setRegister, cX12_setRegister, 4, (some .int), [], "")
abbrev q_m289 : q_M := (yX12_status, cX12_status, 1, (some .int), [], "")
abbrev q_m290 : q_M := (yX12_reset, cX12_reset, 2, (some .int), [], "")
abbrev q_m291 : q_M := (yX12_freeze, cX12_freeze, 2, (some .int), [], "")
abbrev q_m292 : q_M := (yX12_pixelAt, cX12_pixelAt, 3, (some .int), [], "")
abbrev q_m293 : q_M := (yX12_pixel, cX12_pixel, 3, (some .int), [], "")
abbrev q_m294 : q_M := (yX12_pixelAgain, cX12_pixelAgain, 3, (some .int), [], "")
abbrev q_m295 : q_M := (yX12_sample, cX12_sample, 2, (some .int), [], "")
abbrev q_m296 : q_M := (yX12_level, cX12_level, 2, (some .int), [], "")
abbrev q_m297 : q_M := (yX12_key, cX12_key, 5, (some .boolean), [], "")
abbrev q_m298 : q_M := (yX12_columns, cX12_columns, 2, (some .int), [], "")
abbrev q_m299 : q_M := (yX12_joystick, cX12_joystick, 3, (some .int), [], "")
abbrev q_m300 : q_M := (yX12_addPulse, cX12_addPulse, 2, (some .int), [], "")
abbrev q_m301 : q_M := (yX12_rewind, cX12_rewind, 2, (some .int), [], "")
abbrev q_m302 : q_M := (yX12_pulsesLeft, cX12_pulsesLeft, 1, (some .int), [], "")
abbrev q_m303 : q_M := (yX12_lays, cX12_lays, 6, none, [], "")
abbrev q_m304 : q_M := (yX12_laysFlags, cX12_laysFlags, 6, none, [], "")
abbrev q_m305 : q_M := (yX12_save, cX12_save, 2, (some .int), [], "")
abbrev q_m306 : q_M := (yX12_unlike, cX12_unlike, 4, (some .int), [], "")
abbrev q_m307 : q_M := (yX12_restore, cX12_restore, 4, (some .int), [], "")
abbrev q_m308 : q_M := (yX12_differences, cX12_differences, 2, (some .int), [], "")
abbrev q_m309 : q_M := (yX12_startRecord, cX12_startRecord, 2, (some .int), [], "")
abbrev q_m310 : q_M := (yX12_recorded, cX12_recorded, 1, (some .int), [], "")
abbrev q_m311 : q_M := (yX12_isSame, cX12_isSame, 1, (some .boolean), [], "")
abbrev q_m312 : q_M := (yX12_sumOfPicture, cX12_sumOfPicture, 3, (some .int), [], "")
abbrev q_m313 : q_M := (yX12_pictures, cX12_pictures, 1, (some .long), [], "")
abbrev q_m314 : q_M := (yX12_solidShare, cX12_solidShare, 3, (some .float), [], "")
abbrev q_m315 : q_M := (yX12_meanSample, cX12_meanSample, 3, (some .double), [], "")
abbrev q_m316 : q_M := (yJ7_rangeCheck_23922, cJ7_rangeCheck_23922, 3, none, [], "")
abbrev q_m317 : q_M := (yJ7_fill_53178, cJ7_fill_53178, 4, none, [], "")
abbrev q_m318 : q_M := (yJ7_fill_eb02e, cJ7_fill_eb02e, 5, none, [], "")
abbrev q_m319 : q_M := (yJ7_copyOf_9075b, cJ7_copyOf_9075b, 3, (some (.array .byte)), [], "")
abbrev q_m320 : q_M := (yJ6_getChars_ba4f3, cJ6_getChars_ba4f3, 7, (some .int), [], "")
abbrev q_m321 : q_M := (yJ6_stringSize_0f7a4, cJ6_stringSize_0f7a4, 4, (some .int), [], "")
abbrev q_m322 : q_M := (yJ6_bitCount_0f7a4, cJ6_bitCount_0f7a4, 1, (some .int), [], "")
abbrev q_m323 : q_M := (yJ4_init_da8c8, cJ4_init_da8c8, 1, none, [], "")
abbrev q_m324 : q_M := (yJ4_append_15ec4, cJ4_append_15ec4, 2, (some (.object "java/lang/StringBuilder")), [], "")
abbrev q_m325 : q_M := (yJ4_append_cf468, cJ4_append_cf468, 2, (some (.object "java/lang/StringBuilder")), [], "")
abbrev q_m326 : q_M := (yJ4_append_bf812, cJ4_append_bf812, 2, (some (.object "java/lang/StringBuilder")), [], "")
abbrev q_m327 : q_M := (yJ4_charAt_5068e, cJ4_charAt_5068e, 2, (some .char), [], "")
abbrev q_m328 : q_M := (yJ4_setLength_d00df, cJ4_setLength_d00df, 2, none, [], "")
abbrev q_m329 : q_M := (yJ4_length_8abf5, cJ4_length_8abf5, 1, (some .int), [], "")
abbrev q_m330 : q_M := (yJ5_init_d00df, cJ5_init_d00df, 2, none, [], "")
abbrev q_m331 : q_M := (yJ5_length_8abf5, cJ5_length_8abf5, 1, (some .int), [], "")
abbrev q_m332 : q_M := (yJ5_ensureCapacityInternal_d00df, cJ5_ensureCapacityInternal_d00df, 3, none, [], "")
abbrev q_m333 : q_M := (yJ5_newCapacity_0f7a4, cJ5_newCapacity_0f7a4, 6, (some .int), [], "")
abbrev q_m334 : q_M := (yJ5_inflate_da8c8, cJ5_inflate_da8c8, 2, none, [], "")
abbrev q_m335 : q_M := (yJ5_setLength_d00df, cJ5_setLength_d00df, 2, none, [], "")
abbrev q_m336 : q_M := (yJ5_charAt_5068e, cJ5_charAt_5068e, 5, (some .char), [], "")
abbrev q_m337 : q_M := (yJ5_append_cf1ce, cJ5_append_cf1ce, 3, (some (.object "java/lang/AbstractStringBuilder")), [], "")
abbrev q_m338 : q_M := (yJ5_appendNull_278bc, cJ5_appendNull_278bc, 3, (some (.object "java/lang/AbstractStringBuilder")), [], "")
abbrev q_m339 : q_M := (yJ5_append_3fe6f, cJ5_append_3fe6f, 2, (some (.object "java/lang/AbstractStringBuilder")), [], "")
abbrev q_m340 : q_M := (yJ5_append_c97b9, cJ5_append_c97b9, 4, (some (.object "java/lang/AbstractStringBuilder")), [], "")
abbrev q_m341 : q_M := (yJ5_isLatin1_aae02, cJ5_isLatin1_aae02, 1, (some .boolean), [], "")
abbrev q_m342 : q_M := (yJ5_inflateIfNeededFor_a7421, cJ5_inflateIfNeededFor_a7421, 2, none, [], "")
abbrev q_m343 : q_M := (yJ5_putStringAt_47b60, cJ5_putStringAt_47b60, 3, none, [], "")
abbrev q_m344 : q_M := (yJ0_length_8abf5, cJ0_length_8abf5, 1, (some .int), [], "")
abbrev q_m345 : q_M := (yJ0_charAt_5068e, cJ0_charAt_5068e, 2, (some .char), [], "")
abbrev q_m346 : q_M := (yJ0_getBytes_840e7, cJ0_getBytes_840e7, 4, none, [], "")
abbrev q_m347 : q_M := (yJ0_coder_7d493, cJ0_coder_7d493, 1, (some .byte), [], "")
abbrev q_m348 : q_M := (yJ0_isLatin1_aae02, cJ0_isLatin1_aae02, 1, (some .boolean), [], "")
abbrev q_m349 : q_M := (yJ0_checkIndex_df160, cJ0_checkIndex_df160, 2, none, [], "")
abbrev q_m350 : q_M := (yJ0_checkBoundsOffCount_cabcc, cJ0_checkBoundsOffCount_cabcc, 3, (some .int), [], "")
abbrev q_m351 : q_M := (yJ0_checkBoundsBeginEnd_23922, cJ0_checkBoundsBeginEnd_23922, 3, none, [], "")
abbrev q_m352 : q_M := (yJ1_charAt_3b067, cJ1_charAt_3b067, 2, (some .char), [], "")
abbrev q_m353 : q_M := (yJ1_canEncode_fc78d, cJ1_canEncode_fc78d, 1, (some .boolean), [], "")
abbrev q_m354 : q_M := (yJ1_fillNull_b72d1, cJ1_fillNull_b72d1, 3, none, [], "")
abbrev q_m355 : q_M := (yJ1_inflate_0e8fd, cJ1_inflate_0e8fd, 5, none, [], "")
abbrev q_m356 : q_M := (yJ2_newBytesFor_77867, cJ2_newBytesFor_77867, 1, (some (.array .byte)), [], "")
abbrev q_m357 : q_M := (yJ2_newBytesLength_0f7a4, cJ2_newBytesLength_0f7a4, 1, (some .int), [], "")
abbrev q_m358 : q_M := (yJ2_putChar_b72d1, cJ2_putChar_b72d1, 3, none, [], "")
abbrev q_m359 : q_M := (yJ2_getChar_3b067, cJ2_getChar_3b067, 2, (some .char), [], "")
abbrev q_m360 : q_M := (yJ2_length_9d52b, cJ2_length_9d52b, 1, (some .int), [], "")
abbrev q_m361 : q_M := (yJ2_fillNull_b72d1, cJ2_fillNull_b72d1, 3, none, [], "")
abbrev q_m362 : q_M := (yJ2_putCharSB_b72d1, cJ2_putCharSB_b72d1, 3, none, [], "")
abbrev q_m363 : q_M := (yJ2_getChars_46870, cJ2_getChars_46870, 5, (some .int), [], "")
abbrev q_m364 : q_M := (yJ2_putCharsAt_cd4e5, cJ2_putCharsAt_cd4e5, 7, (some .int), [], "")
abbrev q_m365 : q_M := (yJ2_charAt_3b067, cJ2_charAt_3b067, 2, (some .char), [], "")
abbrev q_m366 : q_M := (yJ2_inflate_0e8fd, cJ2_inflate_0e8fd, 6, none, [], "")
abbrev q_m367 : q_M := (yJ2_getChars_ba4f3, cJ2_getChars_ba4f3, 7, (some .int), [], "")
abbrev q_m368 : q_M := (yJ2_checkIndex_2214a, cJ2_checkIndex_2214a, 2, none, [], "")
abbrev q_m369 : q_M := (yJ2_checkBoundsBeginEnd_d044e, cJ2_checkBoundsBeginEnd_d044e, 3, none, [], "")
abbrev q_m370 : q_M := (yJ2_checkBoundsOffCount_d044e, cJ2_checkBoundsOffCount_d044e, 3, none, [], "")
abbrev q_m371 : q_M := (yJ3_checkIndex_8e157, cJ3_checkIndex_8e157, 3, (some .int), [], "")
abbrev q_m372 : q_M := (yJ3_checkFromToIndex_8c36e, cJ3_checkFromToIndex_8c36e, 4, (some .int), [], "")
abbrev q_m373 : q_M := (yJ3_checkFromIndexSize_8c36e, cJ3_checkFromIndexSize_8c36e, 4, (some .int), [], "")
abbrev q_m374 : q_M := (yJ8_newLength_cabcc, cJ8_newLength_cabcc, 4, (some .int), [], "")
abbrev q_m375 : q_M := (yJ8_hugeLength_7cf53, cJ8_hugeLength_7cf53, 3, (some .int), [], "")
abbrev q_m376 : q_M := (⟨RL, "law", "([I)Z"⟩, cL_law, 9, some .boolean, [], "")
noncomputable def q_mt : Nat → q_M := q_mn 187 (q_mn 93 (q_mn 46 (q_mn 22 (q_mn 10 (q_mn 4 (q_mn 1 (q_mn 0 (fun _ => q_m0) (fun _ => q_m1)) (q_mn 2 (fun _ => q_m2) (q_mn 3 (fun _ => q_m3) (fun _ => q_m4)))) (q_mn 7 (q_mn 5 (fun _ => q_m5) (q_mn 6 (fun _ => q_m6) (fun _ => q_m7))) (q_mn 8 (fun _ => q_m8) (q_mn 9 (fun _ => q_m9) (fun _ => q_m10))))) (q_mn 16 (q_mn 13 (q_mn 11 (fun _ => q_m11) (q_mn 12 (fun _ => q_m12) (fun _ => q_m13))) (q_mn 14 (fun _ => q_m14) (q_mn 15 (fun _ => q_m15) (fun _ => q_m16)))) (q_mn 19 (q_mn 17 (fun _ => q_m17) (q_mn 18 (fun _ => q_m18) (fun _ => q_m19))) (q_mn 20 (fun _ => q_m20) (q_mn 21 (fun _ => q_m21) (fun _ => q_m22)))))) (q_mn 34 (q_mn 28 (q_mn 25 (q_mn 23 (fun _ => q_m23) (q_mn 24 (fun _ => q_m24) (fun _ => q_m25))) (q_mn 26 (fun _ => q_m26) (q_mn 27 (fun _ => q_m27) (fun _ => q_m28)))) (q_mn 31 (q_mn 29 (fun _ => q_m29) (q_mn 30 (fun _ => q_m30) (fun _ => q_m31))) (q_mn 32 (fun _ => q_m32) (q_mn 33 (fun _ => q_m33) (fun _ => q_m34))))) (q_mn 40 (q_mn 37 (q_mn 35 (fun _ => q_m35) (q_mn 36 (fun _ => q_m36) (fun _ => q_m37))) (q_mn 38 (fun _ => q_m38) (q_mn 39 (fun _ => q_m39) (fun _ => q_m40)))) (q_mn 43 (q_mn 41 (fun _ => q_m41) (q_mn 42 (fun _ => q_m42) (fun _ => q_m43))) (q_mn 44 (fun _ => q_m44) (q_mn 45 (fun _ => q_m45) (fun _ => q_m46))))))) (q_mn 69 (q_mn 57 (q_mn 51 (q_mn 48 (q_mn 47 (fun _ => q_m47) (fun _ => q_m48)) (q_mn 49 (fun _ => q_m49) (q_mn 50 (fun _ => q_m50) (fun _ => q_m51)))) (q_mn 54 (q_mn 52 (fun _ => q_m52) (q_mn 53 (fun _ => q_m53) (fun _ => q_m54))) (q_mn 55 (fun _ => q_m55) (q_mn 56 (fun _ => q_m56) (fun _ => q_m57))))) (q_mn 63 (q_mn 60 (q_mn 58 (fun _ => q_m58) (q_mn 59 (fun _ => q_m59) (fun _ => q_m60))) (q_mn 61 (fun _ => q_m61) (q_mn 62 (fun _ => q_m62) (fun _ => q_m63)))) (q_mn 66 (q_mn 64 (fun _ => q_m64) (q_mn 65 (fun _ => q_m65) (fun _ => q_m66))) (q_mn 67 (fun _ => q_m67) (q_mn 68 (fun _ => q_m68) (fun _ => q_m69)))))) (q_mn 81 (q_mn 75 (q_mn 72 (q_mn 70 (fun _ => q_m70) (q_mn 71 (fun _ => q_m71) (fun _ => q_m72))) (q_mn 73 (fun _ => q_m73) (q_mn 74 (fun _ => q_m74) (fun _ => q_m75)))) (q_mn 78 (q_mn 76 (fun _ => q_m76) (q_mn 77 (fun _ => q_m77) (fun _ => q_m78))) (q_mn 79 (fun _ => q_m79) (q_mn 80 (fun _ => q_m80) (fun _ => q_m81))))) (q_mn 87 (q_mn 84 (q_mn 82 (fun _ => q_m82) (q_mn 83 (fun _ => q_m83) (fun _ => q_m84))) (q_mn 85 (fun _ => q_m85) (q_mn 86 (fun _ => q_m86) (fun _ => q_m87)))) (q_mn 90 (q_mn 88 (fun _ => q_m88) (q_mn 89 (fun _ => q_m89) (fun _ => q_m90))) (q_mn 91 (fun _ => q_m91) (q_mn 92 (fun _ => q_m92) (fun _ => q_m93)))))))) (q_mn 140 (q_mn 116 (q_mn 104 (q_mn 98 (q_mn 95 (q_mn 94 (fun _ => q_m94) (fun _ => q_m95)) (q_mn 96 (fun _ => q_m96) (q_mn 97 (fun _ => q_m97) (fun _ => q_m98)))) (q_mn 101 (q_mn 99 (fun _ => q_m99) (q_mn 100 (fun _ => q_m100) (fun _ => q_m101))) (q_mn 102 (fun _ => q_m102) (q_mn 103 (fun _ => q_m103) (fun _ => q_m104))))) (q_mn 110 (q_mn 107 (q_mn 105 (fun _ => q_m105) (q_mn 106 (fun _ => q_m106) (fun _ => q_m107))) (q_mn 108 (fun _ => q_m108) (q_mn 109 (fun _ => q_m109) (fun _ => q_m110)))) (q_mn 113 (q_mn 111 (fun _ => q_m111) (q_mn 112 (fun _ => q_m112) (fun _ => q_m113))) (q_mn 114 (fun _ => q_m114) (q_mn 115 (fun _ => q_m115) (fun _ => q_m116)))))) (q_mn 128 (q_mn 122 (q_mn 119 (q_mn 117 (fun _ => q_m117) (q_mn 118 (fun _ => q_m118) (fun _ => q_m119))) (q_mn 120 (fun _ => q_m120) (q_mn 121 (fun _ => q_m121) (fun _ => q_m122)))) (q_mn 125 (q_mn 123 (fun _ => q_m123) (q_mn 124 (fun _ => q_m124) (fun _ => q_m125))) (q_mn 126 (fun _ => q_m126) (q_mn 127 (fun _ => q_m127) (fun _ => q_m128))))) (q_mn 134 (q_mn 131 (q_mn 129 (fun _ => q_m129) (q_mn 130 (fun _ => q_m130) (fun _ => q_m131))) (q_mn 132 (fun _ => q_m132) (q_mn 133 (fun _ => q_m133) (fun _ => q_m134)))) (q_mn 137 (q_mn 135 (fun _ => q_m135) (q_mn 136 (fun _ => q_m136) (fun _ => q_m137))) (q_mn 138 (fun _ => q_m138) (q_mn 139 (fun _ => q_m139) (fun _ => q_m140))))))) (q_mn 163 (q_mn 151 (q_mn 145 (q_mn 142 (q_mn 141 (fun _ => q_m141) (fun _ => q_m142)) (q_mn 143 (fun _ => q_m143) (q_mn 144 (fun _ => q_m144) (fun _ => q_m145)))) (q_mn 148 (q_mn 146 (fun _ => q_m146) (q_mn 147 (fun _ => q_m147) (fun _ => q_m148))) (q_mn 149 (fun _ => q_m149) (q_mn 150 (fun _ => q_m150) (fun _ => q_m151))))) (q_mn 157 (q_mn 154 (q_mn 152 (fun _ => q_m152) (q_mn 153 (fun _ => q_m153) (fun _ => q_m154))) (q_mn 155 (fun _ => q_m155) (q_mn 156 (fun _ => q_m156) (fun _ => q_m157)))) (q_mn 160 (q_mn 158 (fun _ => q_m158) (q_mn 159 (fun _ => q_m159) (fun _ => q_m160))) (q_mn 161 (fun _ => q_m161) (q_mn 162 (fun _ => q_m162) (fun _ => q_m163)))))) (q_mn 175 (q_mn 169 (q_mn 166 (q_mn 164 (fun _ => q_m164) (q_mn 165 (fun _ => q_m165) (fun _ => q_m166))) (q_mn 167 (fun _ => q_m167) (q_mn 168 (fun _ => q_m168) (fun _ => q_m169)))) (q_mn 172 (q_mn 170 (fun _ => q_m170) (q_mn 171 (fun _ => q_m171) (fun _ => q_m172))) (q_mn 173 (fun _ => q_m173) (q_mn 174 (fun _ => q_m174) (fun _ => q_m175))))) (q_mn 181 (q_mn 178 (q_mn 176 (fun _ => q_m176) (q_mn 177 (fun _ => q_m177) (fun _ => q_m178))) (q_mn 179 (fun _ => q_m179) (q_mn 180 (fun _ => q_m180) (fun _ => q_m181)))) (q_mn 184 (q_mn 182 (fun _ => q_m182) (q_mn 183 (fun _ => q_m183) (fun _ => q_m184))) (q_mn 185 (fun _ => q_m185) (q_mn 186 (fun _ => q_m186) (fun _ => q_m187))))))))) (q_mn 281 (q_mn 234 (q_mn 210 (q_mn 198 (q_mn 192 (q_mn 189 (q_mn 188 (fun _ => q_m188) (fun _ => q_m189)) (q_mn 190 (fun _ => q_m190) (q_mn 191 (fun _ => q_m191) (fun _ => q_m192)))) (q_mn 195 (q_mn 193 (fun _ => q_m193) (q_mn 194 (fun _ => q_m194) (fun _ => q_m195))) (q_mn 196 (fun _ => q_m196) (q_mn 197 (fun _ => q_m197) (fun _ => q_m198))))) (q_mn 204 (q_mn 201 (q_mn 199 (fun _ => q_m199) (q_mn 200 (fun _ => q_m200) (fun _ => q_m201))) (q_mn 202 (fun _ => q_m202) (q_mn 203 (fun _ => q_m203) (fun _ => q_m204)))) (q_mn 207 (q_mn 205 (fun _ => q_m205) (q_mn 206 (fun _ => q_m206) (fun _ => q_m207))) (q_mn 208 (fun _ => q_m208) (q_mn 209 (fun _ => q_m209) (fun _ => q_m210)))))) (q_mn 222 (q_mn 216 (q_mn 213 (q_mn 211 (fun _ => q_m211) (q_mn 212 (fun _ => q_m212) (fun _ => q_m213))) (q_mn 214 (fun _ => q_m214) (q_mn 215 (fun _ => q_m215) (fun _ => q_m216)))) (q_mn 219 (q_mn 217 (fun _ => q_m217) (q_mn 218 (fun _ => q_m218) (fun _ => q_m219))) (q_mn 220 (fun _ => q_m220) (q_mn 221 (fun _ => q_m221) (fun _ => q_m222))))) (q_mn 228 (q_mn 225 (q_mn 223 (fun _ => q_m223) (q_mn 224 (fun _ => q_m224) (fun _ => q_m225))) (q_mn 226 (fun _ => q_m226) (q_mn 227 (fun _ => q_m227) (fun _ => q_m228)))) (q_mn 231 (q_mn 229 (fun _ => q_m229) (q_mn 230 (fun _ => q_m230) (fun _ => q_m231))) (q_mn 232 (fun _ => q_m232) (q_mn 233 (fun _ => q_m233) (fun _ => q_m234))))))) (q_mn 257 (q_mn 245 (q_mn 239 (q_mn 236 (q_mn 235 (fun _ => q_m235) (fun _ => q_m236)) (q_mn 237 (fun _ => q_m237) (q_mn 238 (fun _ => q_m238) (fun _ => q_m239)))) (q_mn 242 (q_mn 240 (fun _ => q_m240) (q_mn 241 (fun _ => q_m241) (fun _ => q_m242))) (q_mn 243 (fun _ => q_m243) (q_mn 244 (fun _ => q_m244) (fun _ => q_m245))))) (q_mn 251 (q_mn 248 (q_mn 246 (fun _ => q_m246) (q_mn 247 (fun _ => q_m247) (fun _ => q_m248))) (q_mn 249 (fun _ => q_m249) (q_mn 250 (fun _ => q_m250) (fun _ => q_m251)))) (q_mn 254 (q_mn 252 (fun _ => q_m252) (q_mn 253 (fun _ => q_m253) (fun _ => q_m254))) (q_mn 255 (fun _ => q_m255) (q_mn 256 (fun _ => q_m256) (fun _ => q_m257)))))) (q_mn 269 (q_mn 263 (q_mn 260 (q_mn 258 (fun _ => q_m258) (q_mn 259 (fun _ => q_m259) (fun _ => q_m260))) (q_mn 261 (fun _ => q_m261) (q_mn 262 (fun _ => q_m262) (fun _ => q_m263)))) (q_mn 266 (q_mn 264 (fun _ => q_m264) (q_mn 265 (fun _ => q_m265) (fun _ => q_m266))) (q_mn 267 (fun _ => q_m267) (q_mn 268 (fun _ => q_m268) (fun _ => q_m269))))) (q_mn 275 (q_mn 272 (q_mn 270 (fun _ => q_m270) (q_mn 271 (fun _ => q_m271) (fun _ => q_m272))) (q_mn 273 (fun _ => q_m273) (q_mn 274 (fun _ => q_m274) (fun _ => q_m275)))) (q_mn 278 (q_mn 276 (fun _ => q_m276) (q_mn 277 (fun _ => q_m277) (fun _ => q_m278))) (q_mn 279 (fun _ => q_m279) (q_mn 280 (fun _ => q_m280) (fun _ => q_m281)))))))) (q_mn 328 (q_mn 304 (q_mn 292 (q_mn 286 (q_mn 283 (q_mn 282 (fun _ => q_m282) (fun _ => q_m283)) (q_mn 284 (fun _ => q_m284) (q_mn 285 (fun _ => q_m285) (fun _ => q_m286)))) (q_mn 289 (q_mn 287 (fun _ => q_m287) (q_mn 288 (fun _ => q_m288) (fun _ => q_m289))) (q_mn 290 (fun _ => q_m290) (q_mn 291 (fun _ => q_m291) (fun _ => q_m292))))) (q_mn 298 (q_mn 295 (q_mn 293 (fun _ => q_m293) (q_mn 294 (fun _ => q_m294) (fun _ => q_m295))) (q_mn 296 (fun _ => q_m296) (q_mn 297 (fun _ => q_m297) (fun _ => q_m298)))) (q_mn 301 (q_mn 299 (fun _ => q_m299) (q_mn 300 (fun _ => q_m300) (fun _ => q_m301))) (q_mn 302 (fun _ => q_m302) (q_mn 303 (fun _ => q_m303) (fun _ => q_m304)))))) (q_mn 316 (q_mn 310 (q_mn 307 (q_mn 305 (fun _ => q_m305) (q_mn 306 (fun _ => q_m306) (fun _ => q_m307))) (q_mn 308 (fun _ => q_m308) (q_mn 309 (fun _ => q_m309) (fun _ => q_m310)))) (q_mn 313 (q_mn 311 (fun _ => q_m311) (q_mn 312 (fun _ => q_m312) (fun _ => q_m313))) (q_mn 314 (fun _ => q_m314) (q_mn 315 (fun _ => q_m315) (fun _ => q_m316))))) (q_mn 322 (q_mn 319 (q_mn 317 (fun _ => q_m317) (q_mn 318 (fun _ => q_m318) (fun _ => q_m319))) (q_mn 320 (fun _ => q_m320) (q_mn 321 (fun _ => q_m321) (fun _ => q_m322)))) (q_mn 325 (q_mn 323 (fun _ => q_m323) (q_mn 324 (fun _ => q_m324) (fun _ => q_m325))) (q_mn 326 (fun _ => q_m326) (q_mn 327 (fun _ => q_m327) (fun _ => q_m328))))))) (q_mn 352 (q_mn 340 (q_mn 334 (q_mn 331 (q_mn 329 (fun _ => q_m329) (q_mn 330 (fun _ => q_m330) (fun _ => q_m331))) (q_mn 332 (fun _ => q_m332) (q_mn 333 (fun _ => q_m333) (fun _ => q_m334)))) (q_mn 337 (q_mn 335 (fun _ => q_m335) (q_mn 336 (fun _ => q_m336) (fun _ => q_m337))) (q_mn 338 (fun _ => q_m338) (q_mn 339 (fun _ => q_m339) (fun _ => q_m340))))) (q_mn 346 (q_mn 343 (q_mn 341 (fun _ => q_m341) (q_mn 342 (fun _ => q_m342) (fun _ => q_m343))) (q_mn 344 (fun _ => q_m344) (q_mn 345 (fun _ => q_m345) (fun _ => q_m346)))) (q_mn 349 (q_mn 347 (fun _ => q_m347) (q_mn 348 (fun _ => q_m348) (fun _ => q_m349))) (q_mn 350 (fun _ => q_m350) (q_mn 351 (fun _ => q_m351) (fun _ => q_m352)))))) (q_mn 364 (q_mn 358 (q_mn 355 (q_mn 353 (fun _ => q_m353) (q_mn 354 (fun _ => q_m354) (fun _ => q_m355))) (q_mn 356 (fun _ => q_m356) (q_mn 357 (fun _ => q_m357) (fun _ => q_m358)))) (q_mn 361 (q_mn 359 (fun _ => q_m359) (q_mn 360 (fun _ => q_m360) (fun _ => q_m361))) (q_mn 362 (fun _ => q_m362) (q_mn 363 (fun _ => q_m363) (fun _ => q_m364))))) (q_mn 370 (q_mn 367 (q_mn 365 (fun _ => q_m365) (q_mn 366 (fun _ => q_m366) (fun _ => q_m367))) (q_mn 368 (fun _ => q_m368) (q_mn 369 (fun _ => q_m369) (fun _ => q_m370)))) (q_mn 373 (q_mn 371 (fun _ => q_m371) (q_mn 372 (fun _ => q_m372) (fun _ => q_m373))) (q_mn 374 (fun _ => q_m374) (q_mn 375 (fun _ => q_m375) (fun _ => q_m376)))))))))
theorem q_e0 : q_mt 0 = q_m0 := rfl
theorem q_e1 : q_mt 1 = q_m1 := rfl
theorem q_e2 : q_mt 2 = q_m2 := rfl
theorem q_e3 : q_mt 3 = q_m3 := rfl
theorem q_e4 : q_mt 4 = q_m4 := rfl
theorem q_e5 : q_mt 5 = q_m5 := rfl
theorem q_e6 : q_mt 6 = q_m6 := rfl
theorem q_e7 : q_mt 7 = q_m7 := rfl
theorem q_e8 : q_mt 8 = q_m8 := rfl
theorem q_e9 : q_mt 9 = q_m9 := rfl
theorem q_e10 : q_mt 10 = q_m10 := rfl
theorem q_e11 : q_mt 11 = q_m11 := rfl
theorem q_e12 : q_mt 12 = q_m12 := rfl
theorem q_e13 : q_mt 13 = q_m13 := rfl
theorem q_e14 : q_mt 14 = q_m14 := rfl
theorem q_e15 : q_mt 15 = q_m15 := rfl
theorem q_e16 : q_mt 16 = q_m16 := rfl
theorem q_e17 : q_mt 17 = q_m17 := rfl
theorem q_e18 : q_mt 18 = q_m18 := rfl
theorem q_e19 : q_mt 19 = q_m19 := rfl
theorem q_e20 : q_mt 20 = q_m20 := rfl
theorem q_e21 : q_mt 21 = q_m21 := rfl
theorem q_e22 : q_mt 22 = q_m22 := rfl
theorem q_e23 : q_mt 23 = q_m23 := rfl
theorem q_e24 : q_mt 24 = q_m24 := rfl
theorem q_e25 : q_mt 25 = q_m25 := rfl
theorem q_e26 : q_mt 26 = q_m26 := rfl
theorem q_e27 : q_mt 27 = q_m27 := rfl
theorem q_e28 : q_mt 28 = q_m28 := rfl
theorem q_e29 : q_mt 29 = q_m29 := rfl
theorem q_e30 : q_mt 30 = q_m30 := rfl
theorem q_e31 : q_mt 31 = q_m31 := rfl
theorem q_e32 : q_mt 32 = q_m32 := rfl
theorem q_e33 : q_mt 33 = q_m33 := rfl
theorem q_e34 : q_mt 34 = q_m34 := rfl
theorem q_e35 : q_mt 35 = q_m35 := rfl
theorem q_e36 : q_mt 36 = q_m36 := rfl
theorem q_e37 : q_mt 37 = q_m37 := rfl
theorem q_e38 : q_mt 38 = q_m38 := rfl
theorem q_e39 : q_mt 39 = q_m39 := rfl
theorem q_e40 : q_mt 40 = q_m40 := rfl
theorem q_e41 : q_mt 41 = q_m41 := rfl
theorem q_e42 : q_mt 42 = q_m42 := rfl
theorem q_e43 : q_mt 43 = q_m43 := rfl
theorem q_e44 : q_mt 44 = q_m44 := rfl
theorem q_e45 : q_mt 45 = q_m45 := rfl
theorem q_e46 : q_mt 46 = q_m46 := rfl
theorem q_e47 : q_mt 47 = q_m47 := rfl
theorem q_e48 : q_mt 48 = q_m48 := rfl
theorem q_e49 : q_mt 49 = q_m49 := rfl
theorem q_e50 : q_mt 50 = q_m50 := rfl
theorem q_e51 : q_mt 51 = q_m51 := rfl
theorem q_e52 : q_mt 52 = q_m52 := rfl
theorem q_e53 : q_mt 53 = q_m53 := rfl
theorem q_e54 : q_mt 54 = q_m54 := rfl
theorem q_e55 : q_mt 55 = q_m55 := rfl
theorem q_e56 : q_mt 56 = q_m56 := rfl
theorem q_e57 : q_mt 57 = q_m57 := rfl
theorem q_e58 : q_mt 58 = q_m58 := rfl
theorem q_e59 : q_mt 59 = q_m59 := rfl
theorem q_e60 : q_mt 60 = q_m60 := rfl
theorem q_e61 : q_mt 61 = q_m61 := rfl
theorem q_e62 : q_mt 62 = q_m62 := rfl
theorem q_e63 : q_mt 63 = q_m63 := rfl
theorem q_e64 : q_mt 64 = q_m64 := rfl
theorem q_e65 : q_mt 65 = q_m65 := rfl
theorem q_e66 : q_mt 66 = q_m66 := rfl
theorem q_e67 : q_mt 67 = q_m67 := rfl
theorem q_e68 : q_mt 68 = q_m68 := rfl
theorem q_e69 : q_mt 69 = q_m69 := rfl
theorem q_e70 : q_mt 70 = q_m70 := rfl
theorem q_e71 : q_mt 71 = q_m71 := rfl
theorem q_e72 : q_mt 72 = q_m72 := rfl
theorem q_e73 : q_mt 73 = q_m73 := rfl
theorem q_e74 : q_mt 74 = q_m74 := rfl
theorem q_e75 : q_mt 75 = q_m75 := rfl
theorem q_e76 : q_mt 76 = q_m76 := rfl
theorem q_e77 : q_mt 77 = q_m77 := rfl
theorem q_e78 : q_mt 78 = q_m78 := rfl
theorem q_e79 : q_mt 79 = q_m79 := rfl
theorem q_e80 : q_mt 80 = q_m80 := rfl
theorem q_e81 : q_mt 81 = q_m81 := rfl
theorem q_e82 : q_mt 82 = q_m82 := rfl
theorem q_e83 : q_mt 83 = q_m83 := rfl
theorem q_e84 : q_mt 84 = q_m84 := rfl
theorem q_e85 : q_mt 85 = q_m85 := rfl
theorem q_e86 : q_mt 86 = q_m86 := rfl
theorem q_e87 : q_mt 87 = q_m87 := rfl
theorem q_e88 : q_mt 88 = q_m88 := rfl
theorem q_e89 : q_mt 89 = q_m89 := rfl
theorem q_e90 : q_mt 90 = q_m90 := rfl
theorem q_e91 : q_mt 91 = q_m91 := rfl
theorem q_e92 : q_mt 92 = q_m92 := rfl
theorem q_e93 : q_mt 93 = q_m93 := rfl
theorem q_e94 : q_mt 94 = q_m94 := rfl
theorem q_e95 : q_mt 95 = q_m95 := rfl
theorem q_e96 : q_mt 96 = q_m96 := rfl
theorem q_e97 : q_mt 97 = q_m97 := rfl
theorem q_e98 : q_mt 98 = q_m98 := rfl
theorem q_e99 : q_mt 99 = q_m99 := rfl
theorem q_e100 : q_mt 100 = q_m100 := rfl
theorem q_e101 : q_mt 101 = q_m101 := rfl
theorem q_e102 : q_mt 102 = q_m102 := rfl
theorem q_e103 : q_mt 103 = q_m103 := rfl
theorem q_e104 : q_mt 104 = q_m104 := rfl
theorem q_e105 : q_mt 105 = q_m105 := rfl
theorem q_e106 : q_mt 106 = q_m106 := rfl
theorem q_e107 : q_mt 107 = q_m107 := rfl
theorem q_e108 : q_mt 108 = q_m108 := rfl
theorem q_e109 : q_mt 109 = q_m109 := rfl
theorem q_e110 : q_mt 110 = q_m110 := rfl
theorem q_e111 : q_mt 111 = q_m111 := rfl
theorem q_e112 : q_mt 112 = q_m112 := rfl
theorem q_e113 : q_mt 113 = q_m113 := rfl
theorem q_e114 : q_mt 114 = q_m114 := rfl
theorem q_e115 : q_mt 115 = q_m115 := rfl
theorem q_e116 : q_mt 116 = q_m116 := rfl
theorem q_e117 : q_mt 117 = q_m117 := rfl
theorem q_e118 : q_mt 118 = q_m118 := rfl
theorem q_e119 : q_mt 119 = q_m119 := rfl
theorem q_e120 : q_mt 120 = q_m120 := rfl
theorem q_e121 : q_mt 121 = q_m121 := rfl
theorem q_e122 : q_mt 122 = q_m122 := rfl
theorem q_e123 : q_mt 123 = q_m123 := rfl
theorem q_e124 : q_mt 124 = q_m124 := rfl
theorem q_e125 : q_mt 125 = q_m125 := rfl
theorem q_e126 : q_mt 126 = q_m126 := rfl
theorem q_e127 : q_mt 127 = q_m127 := rfl
theorem q_e128 : q_mt 128 = q_m128 := rfl
theorem q_e129 : q_mt 129 = q_m129 := rfl
theorem q_e130 : q_mt 130 = q_m130 := rfl
theorem q_e131 : q_mt 131 = q_m131 := rfl
theorem q_e132 : q_mt 132 = q_m132 := rfl
theorem q_e133 : q_mt 133 = q_m133 := rfl
theorem q_e134 : q_mt 134 = q_m134 := rfl
theorem q_e135 : q_mt 135 = q_m135 := rfl
theorem q_e136 : q_mt 136 = q_m136 := rfl
theorem q_e137 : q_mt 137 = q_m137 := rfl
theorem q_e138 : q_mt 138 = q_m138 := rfl
theorem q_e139 : q_mt 139 = q_m139 := rfl
theorem q_e140 : q_mt 140 = q_m140 := rfl
theorem q_e141 : q_mt 141 = q_m141 := rfl
theorem q_e142 : q_mt 142 = q_m142 := rfl
theorem q_e143 : q_mt 143 = q_m143 := rfl
theorem q_e144 : q_mt 144 = q_m144 := rfl
theorem q_e145 : q_mt 145 = q_m145 := rfl
theorem q_e146 : q_mt 146 = q_m146 := rfl
theorem q_e147 : q_mt 147 = q_m147 := rfl
theorem q_e148 : q_mt 148 = q_m148 := rfl
theorem q_e149 : q_mt 149 = q_m149 := rfl
theorem q_e150 : q_mt 150 = q_m150 := rfl
theorem q_e151 : q_mt 151 = q_m151 := rfl
theorem q_e152 : q_mt 152 = q_m152 := rfl
theorem q_e153 : q_mt 153 = q_m153 := rfl
theorem q_e154 : q_mt 154 = q_m154 := rfl
theorem q_e155 : q_mt 155 = q_m155 := rfl
theorem q_e156 : q_mt 156 = q_m156 := rfl
theorem q_e157 : q_mt 157 = q_m157 := rfl
theorem q_e158 : q_mt 158 = q_m158 := rfl
theorem q_e159 : q_mt 159 = q_m159 := rfl
theorem q_e160 : q_mt 160 = q_m160 := rfl
theorem q_e161 : q_mt 161 = q_m161 := rfl
theorem q_e162 : q_mt 162 = q_m162 := rfl
theorem q_e163 : q_mt 163 = q_m163 := rfl
theorem q_e164 : q_mt 164 = q_m164 := rfl
theorem q_e165 : q_mt 165 = q_m165 := rfl
theorem q_e166 : q_mt 166 = q_m166 := rfl
theorem q_e167 : q_mt 167 = q_m167 := rfl
theorem q_e168 : q_mt 168 = q_m168 := rfl
theorem q_e169 : q_mt 169 = q_m169 := rfl
theorem q_e170 : q_mt 170 = q_m170 := rfl
theorem q_e171 : q_mt 171 = q_m171 := rfl
theorem q_e172 : q_mt 172 = q_m172 := rfl
theorem q_e173 : q_mt 173 = q_m173 := rfl
theorem q_e174 : q_mt 174 = q_m174 := rfl
theorem q_e175 : q_mt 175 = q_m175 := rfl
theorem q_e176 : q_mt 176 = q_m176 := rfl
theorem q_e177 : q_mt 177 = q_m177 := rfl
theorem q_e178 : q_mt 178 = q_m178 := rfl
theorem q_e179 : q_mt 179 = q_m179 := rfl
theorem q_e180 : q_mt 180 = q_m180 := rfl
theorem q_e181 : q_mt 181 = q_m181 := rfl
theorem q_e182 : q_mt 182 = q_m182 := rfl
theorem q_e183 : q_mt 183 = q_m183 := rfl
theorem q_e184 : q_mt 184 = q_m184 := rfl
theorem q_e185 : q_mt 185 = q_m185 := rfl
theorem q_e186 : q_mt 186 = q_m186 := rfl
theorem q_e187 : q_mt 187 = q_m187 := rfl
theorem q_e188 : q_mt 188 = q_m188 := rfl
theorem q_e189 : q_mt 189 = q_m189 := rfl
theorem q_e190 : q_mt 190 = q_m190 := rfl
theorem q_e191 : q_mt 191 = q_m191 := rfl
theorem q_e192 : q_mt 192 = q_m192 := rfl
theorem q_e193 : q_mt 193 = q_m193 := rfl
theorem q_e194 : q_mt 194 = q_m194 := rfl
theorem q_e195 : q_mt 195 = q_m195 := rfl
theorem q_e196 : q_mt 196 = q_m196 := rfl
theorem q_e197 : q_mt 197 = q_m197 := rfl
theorem q_e198 : q_mt 198 = q_m198 := rfl
theorem q_e199 : q_mt 199 = q_m199 := rfl
theorem q_e200 : q_mt 200 = q_m200 := rfl
theorem q_e201 : q_mt 201 = q_m201 := rfl
theorem q_e202 : q_mt 202 = q_m202 := rfl
theorem q_e203 : q_mt 203 = q_m203 := rfl
theorem q_e204 : q_mt 204 = q_m204 := rfl
theorem q_e205 : q_mt 205 = q_m205 := rfl
theorem q_e206 : q_mt 206 = q_m206 := rfl
theorem q_e207 : q_mt 207 = q_m207 := rfl
theorem q_e208 : q_mt 208 = q_m208 := rfl
theorem q_e209 : q_mt 209 = q_m209 := rfl
theorem q_e210 : q_mt 210 = q_m210 := rfl
theorem q_e211 : q_mt 211 = q_m211 := rfl
theorem q_e212 : q_mt 212 = q_m212 := rfl
theorem q_e213 : q_mt 213 = q_m213 := rfl
theorem q_e214 : q_mt 214 = q_m214 := rfl
theorem q_e215 : q_mt 215 = q_m215 := rfl
theorem q_e216 : q_mt 216 = q_m216 := rfl
theorem q_e217 : q_mt 217 = q_m217 := rfl
theorem q_e218 : q_mt 218 = q_m218 := rfl
theorem q_e219 : q_mt 219 = q_m219 := rfl
theorem q_e220 : q_mt 220 = q_m220 := rfl
theorem q_e221 : q_mt 221 = q_m221 := rfl
theorem q_e222 : q_mt 222 = q_m222 := rfl
theorem q_e223 : q_mt 223 = q_m223 := rfl
theorem q_e224 : q_mt 224 = q_m224 := rfl
theorem q_e225 : q_mt 225 = q_m225 := rfl
theorem q_e226 : q_mt 226 = q_m226 := rfl
theorem q_e227 : q_mt 227 = q_m227 := rfl
theorem q_e228 : q_mt 228 = q_m228 := rfl
theorem q_e229 : q_mt 229 = q_m229 := rfl
theorem q_e230 : q_mt 230 = q_m230 := rfl
theorem q_e231 : q_mt 231 = q_m231 := rfl
theorem q_e232 : q_mt 232 = q_m232 := rfl
theorem q_e233 : q_mt 233 = q_m233 := rfl
theorem q_e234 : q_mt 234 = q_m234 := rfl
theorem q_e235 : q_mt 235 = q_m235 := rfl
theorem q_e236 : q_mt 236 = q_m236 := rfl
theorem q_e237 : q_mt 237 = q_m237 := rfl
theorem q_e238 : q_mt 238 = q_m238 := rfl
theorem q_e239 : q_mt 239 = q_m239 := rfl
theorem q_e240 : q_mt 240 = q_m240 := rfl
theorem q_e241 : q_mt 241 = q_m241 := rfl
theorem q_e242 : q_mt 242 = q_m242 := rfl
theorem q_e243 : q_mt 243 = q_m243 := rfl
theorem q_e244 : q_mt 244 = q_m244 := rfl
theorem q_e245 : q_mt 245 = q_m245 := rfl
theorem q_e246 : q_mt 246 = q_m246 := rfl
theorem q_e247 : q_mt 247 = q_m247 := rfl
theorem q_e248 : q_mt 248 = q_m248 := rfl
theorem q_e249 : q_mt 249 = q_m249 := rfl
theorem q_e250 : q_mt 250 = q_m250 := rfl
theorem q_e251 : q_mt 251 = q_m251 := rfl
theorem q_e252 : q_mt 252 = q_m252 := rfl
theorem q_e253 : q_mt 253 = q_m253 := rfl
theorem q_e254 : q_mt 254 = q_m254 := rfl
theorem q_e255 : q_mt 255 = q_m255 := rfl
theorem q_e256 : q_mt 256 = q_m256 := rfl
theorem q_e257 : q_mt 257 = q_m257 := rfl
theorem q_e258 : q_mt 258 = q_m258 := rfl
theorem q_e259 : q_mt 259 = q_m259 := rfl
theorem q_e260 : q_mt 260 = q_m260 := rfl
theorem q_e261 : q_mt 261 = q_m261 := rfl
theorem q_e262 : q_mt 262 = q_m262 := rfl
theorem q_e263 : q_mt 263 = q_m263 := rfl
theorem q_e264 : q_mt 264 = q_m264 := rfl
theorem q_e265 : q_mt 265 = q_m265 := rfl
theorem q_e266 : q_mt 266 = q_m266 := rfl
theorem q_e267 : q_mt 267 = q_m267 := rfl
theorem q_e268 : q_mt 268 = q_m268 := rfl
theorem q_e269 : q_mt 269 = q_m269 := rfl
theorem q_e270 : q_mt 270 = q_m270 := rfl
theorem q_e271 : q_mt 271 = q_m271 := rfl
theorem q_e272 : q_mt 272 = q_m272 := rfl
theorem q_e273 : q_mt 273 = q_m273 := rfl
theorem q_e274 : q_mt 274 = q_m274 := rfl
theorem q_e275 : q_mt 275 = q_m275 := rfl
theorem q_e276 : q_mt 276 = q_m276 := rfl
theorem q_e277 : q_mt 277 = q_m277 := rfl
theorem q_e278 : q_mt 278 = q_m278 := rfl
theorem q_e279 : q_mt 279 = q_m279 := rfl
theorem q_e280 : q_mt 280 = q_m280 := rfl
theorem q_e281 : q_mt 281 = q_m281 := rfl
theorem q_e282 : q_mt 282 = q_m282 := rfl
theorem q_e283 : q_mt 283 = q_m283 := rfl
theorem q_e284 : q_mt 284 = q_m284 := rfl
theorem q_e285 : q_mt 285 = q_m285 := rfl
theorem q_e286 : q_mt 286 = q_m286 := rfl
theorem q_e287 : q_mt 287 = q_m287 := rfl
theorem q_e288 : q_mt 288 = q_m288 := rfl
theorem q_e289 : q_mt 289 = q_m289 := rfl
theorem q_e290 : q_mt 290 = q_m290 := rfl
theorem q_e291 : q_mt 291 = q_m291 := rfl
theorem q_e292 : q_mt 292 = q_m292 := rfl
theorem q_e293 : q_mt 293 = q_m293 := rfl
theorem q_e294 : q_mt 294 = q_m294 := rfl
theorem q_e295 : q_mt 295 = q_m295 := rfl
theorem q_e296 : q_mt 296 = q_m296 := rfl
theorem q_e297 : q_mt 297 = q_m297 := rfl
theorem q_e298 : q_mt 298 = q_m298 := rfl
theorem q_e299 : q_mt 299 = q_m299 := rfl
theorem q_e300 : q_mt 300 = q_m300 := rfl
theorem q_e301 : q_mt 301 = q_m301 := rfl
theorem q_e302 : q_mt 302 = q_m302 := rfl
theorem q_e303 : q_mt 303 = q_m303 := rfl
theorem q_e304 : q_mt 304 = q_m304 := rfl
theorem q_e305 : q_mt 305 = q_m305 := rfl
theorem q_e306 : q_mt 306 = q_m306 := rfl
theorem q_e307 : q_mt 307 = q_m307 := rfl
theorem q_e308 : q_mt 308 = q_m308 := rfl
theorem q_e309 : q_mt 309 = q_m309 := rfl
theorem q_e310 : q_mt 310 = q_m310 := rfl
theorem q_e311 : q_mt 311 = q_m311 := rfl
theorem q_e312 : q_mt 312 = q_m312 := rfl
theorem q_e313 : q_mt 313 = q_m313 := rfl
theorem q_e314 : q_mt 314 = q_m314 := rfl
theorem q_e315 : q_mt 315 = q_m315 := rfl
theorem q_e316 : q_mt 316 = q_m316 := rfl
theorem q_e317 : q_mt 317 = q_m317 := rfl
theorem q_e318 : q_mt 318 = q_m318 := rfl
theorem q_e319 : q_mt 319 = q_m319 := rfl
theorem q_e320 : q_mt 320 = q_m320 := rfl
theorem q_e321 : q_mt 321 = q_m321 := rfl
theorem q_e322 : q_mt 322 = q_m322 := rfl
theorem q_e323 : q_mt 323 = q_m323 := rfl
theorem q_e324 : q_mt 324 = q_m324 := rfl
theorem q_e325 : q_mt 325 = q_m325 := rfl
theorem q_e326 : q_mt 326 = q_m326 := rfl
theorem q_e327 : q_mt 327 = q_m327 := rfl
theorem q_e328 : q_mt 328 = q_m328 := rfl
theorem q_e329 : q_mt 329 = q_m329 := rfl
theorem q_e330 : q_mt 330 = q_m330 := rfl
theorem q_e331 : q_mt 331 = q_m331 := rfl
theorem q_e332 : q_mt 332 = q_m332 := rfl
theorem q_e333 : q_mt 333 = q_m333 := rfl
theorem q_e334 : q_mt 334 = q_m334 := rfl
theorem q_e335 : q_mt 335 = q_m335 := rfl
theorem q_e336 : q_mt 336 = q_m336 := rfl
theorem q_e337 : q_mt 337 = q_m337 := rfl
theorem q_e338 : q_mt 338 = q_m338 := rfl
theorem q_e339 : q_mt 339 = q_m339 := rfl
theorem q_e340 : q_mt 340 = q_m340 := rfl
theorem q_e341 : q_mt 341 = q_m341 := rfl
theorem q_e342 : q_mt 342 = q_m342 := rfl
theorem q_e343 : q_mt 343 = q_m343 := rfl
theorem q_e344 : q_mt 344 = q_m344 := rfl
theorem q_e345 : q_mt 345 = q_m345 := rfl
theorem q_e346 : q_mt 346 = q_m346 := rfl
theorem q_e347 : q_mt 347 = q_m347 := rfl
theorem q_e348 : q_mt 348 = q_m348 := rfl
theorem q_e349 : q_mt 349 = q_m349 := rfl
theorem q_e350 : q_mt 350 = q_m350 := rfl
theorem q_e351 : q_mt 351 = q_m351 := rfl
theorem q_e352 : q_mt 352 = q_m352 := rfl
theorem q_e353 : q_mt 353 = q_m353 := rfl
theorem q_e354 : q_mt 354 = q_m354 := rfl
theorem q_e355 : q_mt 355 = q_m355 := rfl
theorem q_e356 : q_mt 356 = q_m356 := rfl
theorem q_e357 : q_mt 357 = q_m357 := rfl
theorem q_e358 : q_mt 358 = q_m358 := rfl
theorem q_e359 : q_mt 359 = q_m359 := rfl
theorem q_e360 : q_mt 360 = q_m360 := rfl
theorem q_e361 : q_mt 361 = q_m361 := rfl
theorem q_e362 : q_mt 362 = q_m362 := rfl
theorem q_e363 : q_mt 363 = q_m363 := rfl
theorem q_e364 : q_mt 364 = q_m364 := rfl
theorem q_e365 : q_mt 365 = q_m365 := rfl
theorem q_e366 : q_mt 366 = q_m366 := rfl
theorem q_e367 : q_mt 367 = q_m367 := rfl
theorem q_e368 : q_mt 368 = q_m368 := rfl
theorem q_e369 : q_mt 369 = q_m369 := rfl
theorem q_e370 : q_mt 370 = q_m370 := rfl
theorem q_e371 : q_mt 371 = q_m371 := rfl
theorem q_e372 : q_mt 372 = q_m372 := rfl
theorem q_e373 : q_mt 373 = q_m373 := rfl
theorem q_e374 : q_mt 374 = q_m374 := rfl
theorem q_e375 : q_mt 375 = q_m375 := rfl
theorem q_e376 : q_mt 376 = q_m376 := rfl
theorem q_mnL {m : Nat} {A B : Nat → q_M} (hA : ∀ k, (A k).2.2.1 ≤ 80) (hB : ∀ k, (B k).2.2.1 ≤ 80) : ∀ k, (q_mn m A B k).2.2.1 ≤ 80 := q_mn_ok (P := fun M => M.2.2.1 ≤ 80) hA hB
theorem q_mnP {m : Nat} {A B : Nat → q_M} (hA : ∀ k, plainName (A k).1.cls = true) (hB : ∀ k, plainName (B k).1.cls = true) : ∀ k, plainName (q_mn m A B k).1.cls = true := q_mn_ok (P := fun M => plainName M.1.cls = true) hA hB
theorem q_mt_ml : ∀ j, (q_mt j).2.2.1 ≤ 80 := q_mnL (q_mnL (q_mnL (q_mnL (q_mnL (q_mnL (q_mnL (q_mnL (fun _ => Nat.le_of_ble_eq_true rfl) (fun _ => Nat.le_of_ble_eq_true rfl)) (q_mnL (fun _ => Nat.le_of_ble_eq_true rfl) (q_mnL (fun _ => Nat.le_of_ble_eq_true rfl) (fun _ => Nat.le_of_ble_eq_true rfl)))) (q_mnL (q_mnL (fun _ => Nat.le_of_ble_eq_true rfl) (q_mnL (fun _ => Nat.le_of_ble_eq_true rfl) (fun _ => Nat.le_of_ble_eq_true rfl))) (q_mnL (fun _ => Nat.le_of_ble_eq_true rfl) (q_mnL (fun _ => Nat.le_of_ble_eq_true rfl) (fun _ => Nat.le_of_ble_eq_true rfl))))) (q_mnL (q_mnL (q_mnL (fun _ => Nat.le_of_ble_eq_true rfl) (q_mnL (fun _ => Nat.le_of_ble_eq_true rfl) (fun _ => Nat.le_of_ble_eq_true rfl))) (q_mnL (fun _ => Nat.le_of_ble_eq_true rfl) (q_mnL (fun _ => Nat.le_of_ble_eq_true rfl) (fun _ => Nat.le_of_ble_eq_true rfl)))) (q_mnL (q_mnL (fun _ => Nat.le_of_ble_eq_true rfl) (q_mnL (fun _ => Nat.le_of_ble_eq_true rfl) (fun _ => Nat.le_of_ble_eq_true rfl))) (q_mnL (fun _ => Nat.le_of_ble_eq_true rfl) (q_mnL (fun _ => Nat.le_of_ble_eq_true rfl) (fun _ => Nat.le_of_ble_eq_true rfl)))))) (q_mnL (q_mnL (q_mnL (q_mnL (fun _ => Nat.le_of_ble_eq_true rfl) (q_mnL (fun _ => Nat.le_of_ble_eq_true rfl) (fun _ => Nat.le_of_ble_eq_true rfl))) (q_mnL (fun _ => Nat.le_of_ble_eq_true rfl) (q_mnL (fun _ => Nat.le_of_ble_eq_true rfl) (fun _ => Nat.le_of_ble_eq_true rfl)))) (q_mnL (q_mnL (fun _ => Nat.le_of_ble_eq_true rfl) (q_mnL (fun _ => Nat.le_of_ble_eq_true rfl) (fun _ => Nat.le_of_ble_eq_true rfl))) (q_mnL (fun _ => Nat.le_of_ble_eq_true rfl) (q_mnL (fun _ => Nat.le_of_ble_eq_true rfl) (fun _ => Nat.le_of_ble_eq_true rfl))))) (q_mnL (q_mnL (q_mnL (fun _ => Nat.le_of_ble_eq_true rfl) (q_mnL (fun _ => Nat.le_of_ble_eq_true rfl) (fun _ => Nat.le_of_ble_eq_true rfl))) (q_mnL (fun _ => Nat.le_of_ble_eq_true rfl) (q_mnL (fun _ => Nat.le_of_ble_eq_true rfl) (fun _ => Nat.le_of_ble_eq_true rfl)))) (q_mnL (q_mnL (fun _ => Nat.le_of_ble_eq_true rfl) (q_mnL (fun _ => Nat.le_of_ble_eq_true rfl) (fun _ => Nat.le_of_ble_eq_true rfl))) (q_mnL (fun _ => Nat.le_of_ble_eq_true rfl) (q_mnL (fun _ => Nat.le_of_ble_eq_true rfl) (fun _ => Nat.le_of_ble_eq_true rfl))))))) (q_mnL (q_mnL (q_mnL (q_mnL (q_mnL (fun _ => Nat.le_of_ble_eq_true rfl) (fun _ => Nat.le_of_ble_eq_true rfl)) (q_mnL (fun _ => Nat.le_of_ble_eq_true rfl) (q_mnL (fun _ => Nat.le_of_ble_eq_true rfl) (fun _ => Nat.le_of_ble_eq_true rfl)))) (q_mnL (q_mnL (fun _ => Nat.le_of_ble_eq_true rfl) (q_mnL (fun _ => Nat.le_of_ble_eq_true rfl) (fun _ => Nat.le_of_ble_eq_true rfl))) (q_mnL (fun _ => Nat.le_of_ble_eq_true rfl) (q_mnL (fun _ => Nat.le_of_ble_eq_true rfl) (fun _ => Nat.le_of_ble_eq_true rfl))))) (q_mnL (q_mnL (q_mnL (fun _ => Nat.le_of_ble_eq_true rfl) (q_mnL (fun _ => Nat.le_of_ble_eq_true rfl) (fun _ => Nat.le_of_ble_eq_true rfl))) (q_mnL (fun _ => Nat.le_of_ble_eq_true rfl) (q_mnL (fun _ => Nat.le_of_ble_eq_true rfl) (fun _ => Nat.le_of_ble_eq_true rfl)))) (q_mnL (q_mnL (fun _ => Nat.le_of_ble_eq_true rfl) (q_mnL (fun _ => Nat.le_of_ble_eq_true rfl) (fun _ => Nat.le_of_ble_eq_true rfl))) (q_mnL (fun _ => Nat.le_of_ble_eq_true rfl) (q_mnL (fun _ => Nat.le_of_ble_eq_true rfl) (fun _ => Nat.le_of_ble_eq_true rfl)))))) (q_mnL (q_mnL (q_mnL (q_mnL (fun _ => Nat.le_of_ble_eq_true rfl) (q_mnL (fun _ => Nat.le_of_ble_eq_true rfl) (fun _ => Nat.le_of_ble_eq_true rfl))) (q_mnL (fun _ => Nat.le_of_ble_eq_true rfl) (q_mnL (fun _ => Nat.le_of_ble_eq_true rfl) (fun _ => Nat.le_of_ble_eq_true rfl)))) (q_mnL (q_mnL (fun _ => Nat.le_of_ble_eq_true rfl) (q_mnL (fun _ => Nat.le_of_ble_eq_true rfl) (fun _ => Nat.le_of_ble_eq_true rfl))) (q_mnL (fun _ => Nat.le_of_ble_eq_true rfl) (q_mnL (fun _ => Nat.le_of_ble_eq_true rfl) (fun _ => Nat.le_of_ble_eq_true rfl))))) (q_mnL (q_mnL (q_mnL (fun _ => Nat.le_of_ble_eq_true rfl) (q_mnL (fun _ => Nat.le_of_ble_eq_true rfl) (fun _ => Nat.le_of_ble_eq_true rfl))) (q_mnL (fun _ => Nat.le_of_ble_eq_true rfl) (q_mnL (fun _ => Nat.le_of_ble_eq_true rfl) (fun _ => Nat.le_of_ble_eq_true rfl)))) (q_mnL (q_mnL (fun _ => Nat.le_of_ble_eq_true rfl) (q_mnL (fun _ => Nat.le_of_ble_eq_true rfl) (fun _ => Nat.le_of_ble_eq_true rfl))) (q_mnL (fun _ => Nat.le_of_ble_eq_true rfl) (q_mnL (fun _ => Nat.le_of_ble_eq_true rfl) (fun _ => Nat.le_of_ble_eq_true rfl)))))))) (q_mnL (q_mnL (q_mnL (q_mnL (q_mnL (q_mnL (fun _ => Nat.le_of_ble_eq_true rfl) (fun _ => Nat.le_of_ble_eq_true rfl)) (q_mnL (fun _ => Nat.le_of_ble_eq_true rfl) (q_mnL (fun _ => Nat.le_of_ble_eq_true rfl) (fun _ => Nat.le_of_ble_eq_true rfl)))) (q_mnL (q_mnL (fun _ => Nat.le_of_ble_eq_true rfl) (q_mnL (fun _ => Nat.le_of_ble_eq_true rfl) (fun _ => Nat.le_of_ble_eq_true rfl))) (q_mnL (fun _ => Nat.le_of_ble_eq_true rfl) (q_mnL (fun _ => Nat.le_of_ble_eq_true rfl) (fun _ => Nat.le_of_ble_eq_true rfl))))) (q_mnL (q_mnL (q_mnL (fun _ => Nat.le_of_ble_eq_true rfl) (q_mnL (fun _ => Nat.le_of_ble_eq_true rfl) (fun _ => Nat.le_of_ble_eq_true rfl))) (q_mnL (fun _ => Nat.le_of_ble_eq_true rfl) (q_mnL (fun _ => Nat.le_of_ble_eq_true rfl) (fun _ => Nat.le_of_ble_eq_true rfl)))) (q_mnL (q_mnL (fun _ => Nat.le_of_ble_eq_true rfl) (q_mnL (fun _ => Nat.le_of_ble_eq_true rfl) (fun _ => Nat.le_of_ble_eq_true rfl))) (q_mnL (fun _ => Nat.le_of_ble_eq_true rfl) (q_mnL (fun _ => Nat.le_of_ble_eq_true rfl) (fun _ => Nat.le_of_ble_eq_true rfl)))))) (q_mnL (q_mnL (q_mnL (q_mnL (fun _ => Nat.le_of_ble_eq_true rfl) (q_mnL (fun _ => Nat.le_of_ble_eq_true rfl) (fun _ => Nat.le_of_ble_eq_true rfl))) (q_mnL (fun _ => Nat.le_of_ble_eq_true rfl) (q_mnL (fun _ => Nat.le_of_ble_eq_true rfl) (fun _ => Nat.le_of_ble_eq_true rfl)))) (q_mnL (q_mnL (fun _ => Nat.le_of_ble_eq_true rfl) (q_mnL (fun _ => Nat.le_of_ble_eq_true rfl) (fun _ => Nat.le_of_ble_eq_true rfl))) (q_mnL (fun _ => Nat.le_of_ble_eq_true rfl) (q_mnL (fun _ => Nat.le_of_ble_eq_true rfl) (fun _ => Nat.le_of_ble_eq_true rfl))))) (q_mnL (q_mnL (q_mnL (fun _ => Nat.le_of_ble_eq_true rfl) (q_mnL (fun _ => Nat.le_of_ble_eq_true rfl) (fun _ => Nat.le_of_ble_eq_true rfl))) (q_mnL (fun _ => Nat.le_of_ble_eq_true rfl) (q_mnL (fun _ => Nat.le_of_ble_eq_true rfl) (fun _ => Nat.le_of_ble_eq_true rfl)))) (q_mnL (q_mnL (fun _ => Nat.le_of_ble_eq_true rfl) (q_mnL (fun _ => Nat.le_of_ble_eq_true rfl) (fun _ => Nat.le_of_ble_eq_true rfl))) (q_mnL (fun _ => Nat.le_of_ble_eq_true rfl) (q_mnL (fun _ => Nat.le_of_ble_eq_true rfl) (fun _ => Nat.le_of_ble_eq_true rfl))))))) (q_mnL (q_mnL (q_mnL (q_mnL (q_mnL (fun _ => Nat.le_of_ble_eq_true rfl) (fun _ => Nat.le_of_ble_eq_true rfl)) (q_mnL (fun _ => Nat.le_of_ble_eq_true rfl) (q_mnL (fun _ => Nat.le_of_ble_eq_true rfl) (fun _ => Nat.le_of_ble_eq_true rfl)))) (q_mnL (q_mnL (fun _ => Nat.le_of_ble_eq_true rfl) (q_mnL (fun _ => Nat.le_of_ble_eq_true rfl) (fun _ => Nat.le_of_ble_eq_true rfl))) (q_mnL (fun _ => Nat.le_of_ble_eq_true rfl) (q_mnL (fun _ => Nat.le_of_ble_eq_true rfl) (fun _ => Nat.le_of_ble_eq_true rfl))))) (q_mnL (q_mnL (q_mnL (fun _ => Nat.le_of_ble_eq_true rfl) (q_mnL (fun _ => Nat.le_of_ble_eq_true rfl) (fun _ => Nat.le_of_ble_eq_true rfl))) (q_mnL (fun _ => Nat.le_of_ble_eq_true rfl) (q_mnL (fun _ => Nat.le_of_ble_eq_true rfl) (fun _ => Nat.le_of_ble_eq_true rfl)))) (q_mnL (q_mnL (fun _ => Nat.le_of_ble_eq_true rfl) (q_mnL (fun _ => Nat.le_of_ble_eq_true rfl) (fun _ => Nat.le_of_ble_eq_true rfl))) (q_mnL (fun _ => Nat.le_of_ble_eq_true rfl) (q_mnL (fun _ => Nat.le_of_ble_eq_true rfl) (fun _ => Nat.le_of_ble_eq_true rfl)))))) (q_mnL (q_mnL (q_mnL (q_mnL (fun _ => Nat.le_of_ble_eq_true rfl) (q_mnL (fun _ => Nat.le_of_ble_eq_true rfl) (fun _ => Nat.le_of_ble_eq_true rfl))) (q_mnL (fun _ => Nat.le_of_ble_eq_true rfl) (q_mnL (fun _ => Nat.le_of_ble_eq_true rfl) (fun _ => Nat.le_of_ble_eq_true rfl)))) (q_mnL (q_mnL (fun _ => Nat.le_of_ble_eq_true rfl) (q_mnL (fun _ => Nat.le_of_ble_eq_true rfl) (fun _ => Nat.le_of_ble_eq_true rfl))) (q_mnL (fun _ => Nat.le_of_ble_eq_true rfl) (q_mnL (fun _ => Nat.le_of_ble_eq_true rfl) (fun _ => Nat.le_of_ble_eq_true rfl))))) (q_mnL (q_mnL (q_mnL (fun _ => Nat.le_of_ble_eq_true rfl) (q_mnL (fun _ => Nat.le_of_ble_eq_true rfl) (fun _ => Nat.le_of_ble_eq_true rfl))) (q_mnL (fun _ => Nat.le_of_ble_eq_true rfl) (q_mnL (fun _ => Nat.le_of_ble_eq_true rfl) (fun _ => Nat.le_of_ble_eq_true rfl)))) (q_mnL (q_mnL (fun _ => Nat.le_of_ble_eq_true rfl) (q_mnL (fun _ => Nat.le_of_ble_eq_true rfl) (fun _ => Nat.le_of_ble_eq_true rfl))) (q_mnL (fun _ => Nat.le_of_ble_eq_true rfl) (q_mnL (fun _ => Nat.le_of_ble_eq_true rfl) (fun _ => Nat.le_of_ble_eq_true rfl))))))))) (q_mnL (q_mnL (q_mnL (q_mnL (q_mnL (q_mnL (q_mnL (fun _ => Nat.le_of_ble_eq_true rfl) (fun _ => Nat.le_of_ble_eq_true rfl)) (q_mnL (fun _ => Nat.le_of_ble_eq_true rfl) (q_mnL (fun _ => Nat.le_of_ble_eq_true rfl) (fun _ => Nat.le_of_ble_eq_true rfl)))) (q_mnL (q_mnL (fun _ => Nat.le_of_ble_eq_true rfl) (q_mnL (fun _ => Nat.le_of_ble_eq_true rfl) (fun _ => Nat.le_of_ble_eq_true rfl))) (q_mnL (fun _ => Nat.le_of_ble_eq_true rfl) (q_mnL (fun _ => Nat.le_of_ble_eq_true rfl) (fun _ => Nat.le_of_ble_eq_true rfl))))) (q_mnL (q_mnL (q_mnL (fun _ => Nat.le_of_ble_eq_true rfl) (q_mnL (fun _ => Nat.le_of_ble_eq_true rfl) (fun _ => Nat.le_of_ble_eq_true rfl))) (q_mnL (fun _ => Nat.le_of_ble_eq_true rfl) (q_mnL (fun _ => Nat.le_of_ble_eq_true rfl) (fun _ => Nat.le_of_ble_eq_true rfl)))) (q_mnL (q_mnL (fun _ => Nat.le_of_ble_eq_true rfl) (q_mnL (fun _ => Nat.le_of_ble_eq_true rfl) (fun _ => Nat.le_of_ble_eq_true rfl))) (q_mnL (fun _ => Nat.le_of_ble_eq_true rfl) (q_mnL (fun _ => Nat.le_of_ble_eq_true rfl) (fun _ => Nat.le_of_ble_eq_true rfl)))))) (q_mnL (q_mnL (q_mnL (q_mnL (fun _ => Nat.le_of_ble_eq_true rfl) (q_mnL (fun _ => Nat.le_of_ble_eq_true rfl) (fun _ => Nat.le_of_ble_eq_true rfl))) (q_mnL (fun _ => Nat.le_of_ble_eq_true rfl) (q_mnL (fun _ => Nat.le_of_ble_eq_true rfl) (fun _ => Nat.le_of_ble_eq_true rfl)))) (q_mnL (q_mnL (fun _ => Nat.le_of_ble_eq_true rfl) (q_mnL (fun _ => Nat.le_of_ble_eq_true rfl) (fun _ => Nat.le_of_ble_eq_true rfl))) (q_mnL (fun _ => Nat.le_of_ble_eq_true rfl) (q_mnL (fun _ => Nat.le_of_ble_eq_true rfl) (fun _ => Nat.le_of_ble_eq_true rfl))))) (q_mnL (q_mnL (q_mnL (fun _ => Nat.le_of_ble_eq_true rfl) (q_mnL (fun _ => Nat.le_of_ble_eq_true rfl) (fun _ => Nat.le_of_ble_eq_true rfl))) (q_mnL (fun _ => Nat.le_of_ble_eq_true rfl) (q_mnL (fun _ => Nat.le_of_ble_eq_true rfl) (fun _ => Nat.le_of_ble_eq_true rfl)))) (q_mnL (q_mnL (fun _ => Nat.le_of_ble_eq_true rfl) (q_mnL (fun _ => Nat.le_of_ble_eq_true rfl) (fun _ => Nat.le_of_ble_eq_true rfl))) (q_mnL (fun _ => Nat.le_of_ble_eq_true rfl) (q_mnL (fun _ => Nat.le_of_ble_eq_true rfl) (fun _ => Nat.le_of_ble_eq_true rfl))))))) (q_mnL (q_mnL (q_mnL (q_mnL (q_mnL (fun _ => Nat.le_of_ble_eq_true rfl) (fun _ => Nat.le_of_ble_eq_true rfl)) (q_mnL (fun _ => Nat.le_of_ble_eq_true rfl) (q_mnL (fun _ => Nat.le_of_ble_eq_true rfl) (fun _ => Nat.le_of_ble_eq_true rfl)))) (q_mnL (q_mnL (fun _ => Nat.le_of_ble_eq_true rfl) (q_mnL (fun _ => Nat.le_of_ble_eq_true rfl) (fun _ => Nat.le_of_ble_eq_true rfl))) (q_mnL (fun _ => Nat.le_of_ble_eq_true rfl) (q_mnL (fun _ => Nat.le_of_ble_eq_true rfl) (fun _ => Nat.le_of_ble_eq_true rfl))))) (q_mnL (q_mnL (q_mnL (fun _ => Nat.le_of_ble_eq_true rfl) (q_mnL (fun _ => Nat.le_of_ble_eq_true rfl) (fun _ => Nat.le_of_ble_eq_true rfl))) (q_mnL (fun _ => Nat.le_of_ble_eq_true rfl) (q_mnL (fun _ => Nat.le_of_ble_eq_true rfl) (fun _ => Nat.le_of_ble_eq_true rfl)))) (q_mnL (q_mnL (fun _ => Nat.le_of_ble_eq_true rfl) (q_mnL (fun _ => Nat.le_of_ble_eq_true rfl) (fun _ => Nat.le_of_ble_eq_true rfl))) (q_mnL (fun _ => Nat.le_of_ble_eq_true rfl) (q_mnL (fun _ => Nat.le_of_ble_eq_true rfl) (fun _ => Nat.le_of_ble_eq_true rfl)))))) (q_mnL (q_mnL (q_mnL (q_mnL (fun _ => Nat.le_of_ble_eq_true rfl) (q_mnL (fun _ => Nat.le_of_ble_eq_true rfl) (fun _ => Nat.le_of_ble_eq_true rfl))) (q_mnL (fun _ => Nat.le_of_ble_eq_true rfl) (q_mnL (fun _ => Nat.le_of_ble_eq_true rfl) (fun _ => Nat.le_of_ble_eq_true rfl)))) (q_mnL (q_mnL (fun _ => Nat.le_of_ble_eq_true rfl) (q_mnL (fun _ => Nat.le_of_ble_eq_true rfl) (fun _ => Nat.le_of_ble_eq_true rfl))) (q_mnL (fun _ => Nat.le_of_ble_eq_true rfl) (q_mnL (fun _ => Nat.le_of_ble_eq_true rfl) (fun _ => Nat.le_of_ble_eq_true rfl))))) (q_mnL (q_mnL (q_mnL (fun _ => Nat.le_of_ble_eq_true rfl) (q_mnL (fun _ => Nat.le_of_ble_eq_true rfl) (fun _ => Nat.le_of_ble_eq_true rfl))) (q_mnL (fun _ => Nat.le_of_ble_eq_true rfl) (q_mnL (fun _ => Nat.le_of_ble_eq_true rfl) (fun _ => Nat.le_of_ble_eq_true rfl)))) (q_mnL (q_mnL (fun _ => Nat.le_of_ble_eq_true rfl) (q_mnL (fun _ => Nat.le_of_ble_eq_true rfl) (fun _ => Nat.le_of_ble_eq_true rfl))) (q_mnL (fun _ => Nat.le_of_ble_eq_true rfl) (q_mnL (fun _ => Nat.le_of_ble_eq_true rfl) (fun _ => Nat.le_of_ble_eq_true rfl)))))))) (q_mnL (q_mnL (q_mnL (q_mnL (q_mnL (q_mnL (fun _ => Nat.le_of_ble_eq_true rfl) (fun _ => Nat.le_of_ble_eq_true rfl)) (q_mnL (fun _ => Nat.le_of_ble_eq_true rfl) (q_mnL (fun _ => Nat.le_of_ble_eq_true rfl) (fun _ => Nat.le_of_ble_eq_true rfl)))) (q_mnL (q_mnL (fun _ => Nat.le_of_ble_eq_true rfl) (q_mnL (fun _ => Nat.le_of_ble_eq_true rfl) (fun _ => Nat.le_of_ble_eq_true rfl))) (q_mnL (fun _ => Nat.le_of_ble_eq_true rfl) (q_mnL (fun _ => Nat.le_of_ble_eq_true rfl) (fun _ => Nat.le_of_ble_eq_true rfl))))) (q_mnL (q_mnL (q_mnL (fun _ => Nat.le_of_ble_eq_true rfl) (q_mnL (fun _ => Nat.le_of_ble_eq_true rfl) (fun _ => Nat.le_of_ble_eq_true rfl))) (q_mnL (fun _ => Nat.le_of_ble_eq_true rfl) (q_mnL (fun _ => Nat.le_of_ble_eq_true rfl) (fun _ => Nat.le_of_ble_eq_true rfl)))) (q_mnL (q_mnL (fun _ => Nat.le_of_ble_eq_true rfl) (q_mnL (fun _ => Nat.le_of_ble_eq_true rfl) (fun _ => Nat.le_of_ble_eq_true rfl))) (q_mnL (fun _ => Nat.le_of_ble_eq_true rfl) (q_mnL (fun _ => Nat.le_of_ble_eq_true rfl) (fun _ => Nat.le_of_ble_eq_true rfl)))))) (q_mnL (q_mnL (q_mnL (q_mnL (fun _ => Nat.le_of_ble_eq_true rfl) (q_mnL (fun _ => Nat.le_of_ble_eq_true rfl) (fun _ => Nat.le_of_ble_eq_true rfl))) (q_mnL (fun _ => Nat.le_of_ble_eq_true rfl) (q_mnL (fun _ => Nat.le_of_ble_eq_true rfl) (fun _ => Nat.le_of_ble_eq_true rfl)))) (q_mnL (q_mnL (fun _ => Nat.le_of_ble_eq_true rfl) (q_mnL (fun _ => Nat.le_of_ble_eq_true rfl) (fun _ => Nat.le_of_ble_eq_true rfl))) (q_mnL (fun _ => Nat.le_of_ble_eq_true rfl) (q_mnL (fun _ => Nat.le_of_ble_eq_true rfl) (fun _ => Nat.le_of_ble_eq_true rfl))))) (q_mnL (q_mnL (q_mnL (fun _ => Nat.le_of_ble_eq_true rfl) (q_mnL (fun _ => Nat.le_of_ble_eq_true rfl) (fun _ => Nat.le_of_ble_eq_true rfl))) (q_mnL (fun _ => Nat.le_of_ble_eq_true rfl) (q_mnL (fun _ => Nat.le_of_ble_eq_true rfl) (fun _ => Nat.le_of_ble_eq_true rfl)))) (q_mnL (q_mnL (fun _ => Nat.le_of_ble_eq_true rfl) (q_mnL (fun _ => Nat.le_of_ble_eq_true rfl) (fun _ => Nat.le_of_ble_eq_true rfl))) (q_mnL (fun _ => Nat.le_of_ble_eq_true rfl) (q_mnL (fun _ => Nat.le_of_ble_eq_true rfl) (fun _ => Nat.le_of_ble_eq_true rfl))))))) (q_mnL (q_mnL (q_mnL (q_mnL (q_mnL (fun _ => Nat.le_of_ble_eq_true rfl) (q_mnL (fun _ => Nat.le_of_ble_eq_true rfl) (fun _ => Nat.le_of_ble_eq_true rfl))) (q_mnL (fun _ => Nat.le_of_ble_eq_true rfl) (q_mnL (fun _ => Nat.le_of_ble_eq_true rfl) (fun _ => Nat.le_of_ble_eq_true rfl)))) (q_mnL (q_mnL (fun _ => Nat.le_of_ble_eq_true rfl) (q_mnL (fun _ => Nat.le_of_ble_eq_true rfl) (fun _ => Nat.le_of_ble_eq_true rfl))) (q_mnL (fun _ => Nat.le_of_ble_eq_true rfl) (q_mnL (fun _ => Nat.le_of_ble_eq_true rfl) (fun _ => Nat.le_of_ble_eq_true rfl))))) (q_mnL (q_mnL (q_mnL (fun _ => Nat.le_of_ble_eq_true rfl) (q_mnL (fun _ => Nat.le_of_ble_eq_true rfl) (fun _ => Nat.le_of_ble_eq_true rfl))) (q_mnL (fun _ => Nat.le_of_ble_eq_true rfl) (q_mnL (fun _ => Nat.le_of_ble_eq_true rfl) (fun _ => Nat.le_of_ble_eq_true rfl)))) (q_mnL (q_mnL (fun _ => Nat.le_of_ble_eq_true rfl) (q_mnL (fun _ => Nat.le_of_ble_eq_true rfl) (fun _ => Nat.le_of_ble_eq_true rfl))) (q_mnL (fun _ => Nat.le_of_ble_eq_true rfl) (q_mnL (fun _ => Nat.le_of_ble_eq_true rfl) (fun _ => Nat.le_of_ble_eq_true rfl)))))) (q_mnL (q_mnL (q_mnL (q_mnL (fun _ => Nat.le_of_ble_eq_true rfl) (q_mnL (fun _ => Nat.le_of_ble_eq_true rfl) (fun _ => Nat.le_of_ble_eq_true rfl))) (q_mnL (fun _ => Nat.le_of_ble_eq_true rfl) (q_mnL (fun _ => Nat.le_of_ble_eq_true rfl) (fun _ => Nat.le_of_ble_eq_true rfl)))) (q_mnL (q_mnL (fun _ => Nat.le_of_ble_eq_true rfl) (q_mnL (fun _ => Nat.le_of_ble_eq_true rfl) (fun _ => Nat.le_of_ble_eq_true rfl))) (q_mnL (fun _ => Nat.le_of_ble_eq_true rfl) (q_mnL (fun _ => Nat.le_of_ble_eq_true rfl) (fun _ => Nat.le_of_ble_eq_true rfl))))) (q_mnL (q_mnL (q_mnL (fun _ => Nat.le_of_ble_eq_true rfl) (q_mnL (fun _ => Nat.le_of_ble_eq_true rfl) (fun _ => Nat.le_of_ble_eq_true rfl))) (q_mnL (fun _ => Nat.le_of_ble_eq_true rfl) (q_mnL (fun _ => Nat.le_of_ble_eq_true rfl) (fun _ => Nat.le_of_ble_eq_true rfl)))) (q_mnL (q_mnL (fun _ => Nat.le_of_ble_eq_true rfl) (q_mnL (fun _ => Nat.le_of_ble_eq_true rfl) (fun _ => Nat.le_of_ble_eq_true rfl))) (q_mnL (fun _ => Nat.le_of_ble_eq_true rfl) (q_mnL (fun _ => Nat.le_of_ble_eq_true rfl) (fun _ => Nat.le_of_ble_eq_true rfl)))))))))
theorem q_mt_pl : ∀ j, plainName (q_mt j).1.cls = true := q_mnP (q_mnP (q_mnP (q_mnP (q_mnP (q_mnP (q_mnP (q_mnP (fun _ => rfl) (fun _ => rfl)) (q_mnP (fun _ => rfl) (q_mnP (fun _ => rfl) (fun _ => rfl)))) (q_mnP (q_mnP (fun _ => rfl) (q_mnP (fun _ => rfl) (fun _ => rfl))) (q_mnP (fun _ => rfl) (q_mnP (fun _ => rfl) (fun _ => rfl))))) (q_mnP (q_mnP (q_mnP (fun _ => rfl) (q_mnP (fun _ => rfl) (fun _ => rfl))) (q_mnP (fun _ => rfl) (q_mnP (fun _ => rfl) (fun _ => rfl)))) (q_mnP (q_mnP (fun _ => rfl) (q_mnP (fun _ => rfl) (fun _ => rfl))) (q_mnP (fun _ => rfl) (q_mnP (fun _ => rfl) (fun _ => rfl)))))) (q_mnP (q_mnP (q_mnP (q_mnP (fun _ => rfl) (q_mnP (fun _ => rfl) (fun _ => rfl))) (q_mnP (fun _ => rfl) (q_mnP (fun _ => rfl) (fun _ => rfl)))) (q_mnP (q_mnP (fun _ => rfl) (q_mnP (fun _ => rfl) (fun _ => rfl))) (q_mnP (fun _ => rfl) (q_mnP (fun _ => rfl) (fun _ => rfl))))) (q_mnP (q_mnP (q_mnP (fun _ => rfl) (q_mnP (fun _ => rfl) (fun _ => rfl))) (q_mnP (fun _ => rfl) (q_mnP (fun _ => rfl) (fun _ => rfl)))) (q_mnP (q_mnP (fun _ => rfl) (q_mnP (fun _ => rfl) (fun _ => rfl))) (q_mnP (fun _ => rfl) (q_mnP (fun _ => rfl) (fun _ => rfl))))))) (q_mnP (q_mnP (q_mnP (q_mnP (q_mnP (fun _ => rfl) (fun _ => rfl)) (q_mnP (fun _ => rfl) (q_mnP (fun _ => rfl) (fun _ => rfl)))) (q_mnP (q_mnP (fun _ => rfl) (q_mnP (fun _ => rfl) (fun _ => rfl))) (q_mnP (fun _ => rfl) (q_mnP (fun _ => rfl) (fun _ => rfl))))) (q_mnP (q_mnP (q_mnP (fun _ => rfl) (q_mnP (fun _ => rfl) (fun _ => rfl))) (q_mnP (fun _ => rfl) (q_mnP (fun _ => rfl) (fun _ => rfl)))) (q_mnP (q_mnP (fun _ => rfl) (q_mnP (fun _ => rfl) (fun _ => rfl))) (q_mnP (fun _ => rfl) (q_mnP (fun _ => rfl) (fun _ => rfl)))))) (q_mnP (q_mnP (q_mnP (q_mnP (fun _ => rfl) (q_mnP (fun _ => rfl) (fun _ => rfl))) (q_mnP (fun _ => rfl) (q_mnP (fun _ => rfl) (fun _ => rfl)))) (q_mnP (q_mnP (fun _ => rfl) (q_mnP (fun _ => rfl) (fun _ => rfl))) (q_mnP (fun _ => rfl) (q_mnP (fun _ => rfl) (fun _ => rfl))))) (q_mnP (q_mnP (q_mnP (fun _ => rfl) (q_mnP (fun _ => rfl) (fun _ => rfl))) (q_mnP (fun _ => rfl) (q_mnP (fun _ => rfl) (fun _ => rfl)))) (q_mnP (q_mnP (fun _ => rfl) (q_mnP (fun _ => rfl) (fun _ => rfl))) (q_mnP (fun _ => rfl) (q_mnP (fun _ => rfl) (fun _ => rfl)))))))) (q_mnP (q_mnP (q_mnP (q_mnP (q_mnP (q_mnP (fun _ => rfl) (fun _ => rfl)) (q_mnP (fun _ => rfl) (q_mnP (fun _ => rfl) (fun _ => rfl)))) (q_mnP (q_mnP (fun _ => rfl) (q_mnP (fun _ => rfl) (fun _ => rfl))) (q_mnP (fun _ => rfl) (q_mnP (fun _ => rfl) (fun _ => rfl))))) (q_mnP (q_mnP (q_mnP (fun _ => rfl) (q_mnP (fun _ => rfl) (fun _ => rfl))) (q_mnP (fun _ => rfl) (q_mnP (fun _ => rfl) (fun _ => rfl)))) (q_mnP (q_mnP (fun _ => rfl) (q_mnP (fun _ => rfl) (fun _ => rfl))) (q_mnP (fun _ => rfl) (q_mnP (fun _ => rfl) (fun _ => rfl)))))) (q_mnP (q_mnP (q_mnP (q_mnP (fun _ => rfl) (q_mnP (fun _ => rfl) (fun _ => rfl))) (q_mnP (fun _ => rfl) (q_mnP (fun _ => rfl) (fun _ => rfl)))) (q_mnP (q_mnP (fun _ => rfl) (q_mnP (fun _ => rfl) (fun _ => rfl))) (q_mnP (fun _ => rfl) (q_mnP (fun _ => rfl) (fun _ => rfl))))) (q_mnP (q_mnP (q_mnP (fun _ => rfl) (q_mnP (fun _ => rfl) (fun _ => rfl))) (q_mnP (fun _ => rfl) (q_mnP (fun _ => rfl) (fun _ => rfl)))) (q_mnP (q_mnP (fun _ => rfl) (q_mnP (fun _ => rfl) (fun _ => rfl))) (q_mnP (fun _ => rfl) (q_mnP (fun _ => rfl) (fun _ => rfl))))))) (q_mnP (q_mnP (q_mnP (q_mnP (q_mnP (fun _ => rfl) (fun _ => rfl)) (q_mnP (fun _ => rfl) (q_mnP (fun _ => rfl) (fun _ => rfl)))) (q_mnP (q_mnP (fun _ => rfl) (q_mnP (fun _ => rfl) (fun _ => rfl))) (q_mnP (fun _ => rfl) (q_mnP (fun _ => rfl) (fun _ => rfl))))) (q_mnP (q_mnP (q_mnP (fun _ => rfl) (q_mnP (fun _ => rfl) (fun _ => rfl))) (q_mnP (fun _ => rfl) (q_mnP (fun _ => rfl) (fun _ => rfl)))) (q_mnP (q_mnP (fun _ => rfl) (q_mnP (fun _ => rfl) (fun _ => rfl))) (q_mnP (fun _ => rfl) (q_mnP (fun _ => rfl) (fun _ => rfl)))))) (q_mnP (q_mnP (q_mnP (q_mnP (fun _ => rfl) (q_mnP (fun _ => rfl) (fun _ => rfl))) (q_mnP (fun _ => rfl) (q_mnP (fun _ => rfl) (fun _ => rfl)))) (q_mnP (q_mnP (fun _ => rfl) (q_mnP (fun _ => rfl) (fun _ => rfl))) (q_mnP (fun _ => rfl) (q_mnP (fun _ => rfl) (fun _ => rfl))))) (q_mnP (q_mnP (q_mnP (fun _ => rfl) (q_mnP (fun _ => rfl) (fun _ => rfl))) (q_mnP (fun _ => rfl) (q_mnP (fun _ => rfl) (fun _ => rfl)))) (q_mnP (q_mnP (fun _ => rfl) (q_mnP (fun _ => rfl) (fun _ => rfl))) (q_mnP (fun _ => rfl) (q_mnP (fun _ => rfl) (fun _ => rfl))))))))) (q_mnP (q_mnP (q_mnP (q_mnP (q_mnP (q_mnP (q_mnP (fun _ => rfl) (fun _ => rfl)) (q_mnP (fun _ => rfl) (q_mnP (fun _ => rfl) (fun _ => rfl)))) (q_mnP (q_mnP (fun _ => rfl) (q_mnP (fun _ => rfl) (fun _ => rfl))) (q_mnP (fun _ => rfl) (q_mnP (fun _ => rfl) (fun _ => rfl))))) (q_mnP (q_mnP (q_mnP (fun _ => rfl) (q_mnP (fun _ => rfl) (fun _ => rfl))) (q_mnP (fun _ => rfl) (q_mnP (fun _ => rfl) (fun _ => rfl)))) (q_mnP (q_mnP (fun _ => rfl) (q_mnP (fun _ => rfl) (fun _ => rfl))) (q_mnP (fun _ => rfl) (q_mnP (fun _ => rfl) (fun _ => rfl)))))) (q_mnP (q_mnP (q_mnP (q_mnP (fun _ => rfl) (q_mnP (fun _ => rfl) (fun _ => rfl))) (q_mnP (fun _ => rfl) (q_mnP (fun _ => rfl) (fun _ => rfl)))) (q_mnP (q_mnP (fun _ => rfl) (q_mnP (fun _ => rfl) (fun _ => rfl))) (q_mnP (fun _ => rfl) (q_mnP (fun _ => rfl) (fun _ => rfl))))) (q_mnP (q_mnP (q_mnP (fun _ => rfl) (q_mnP (fun _ => rfl) (fun _ => rfl))) (q_mnP (fun _ => rfl) (q_mnP (fun _ => rfl) (fun _ => rfl)))) (q_mnP (q_mnP (fun _ => rfl) (q_mnP (fun _ => rfl) (fun _ => rfl))) (q_mnP (fun _ => rfl) (q_mnP (fun _ => rfl) (fun _ => rfl))))))) (q_mnP (q_mnP (q_mnP (q_mnP (q_mnP (fun _ => rfl) (fun _ => rfl)) (q_mnP (fun _ => rfl) (q_mnP (fun _ => rfl) (fun _ => rfl)))) (q_mnP (q_mnP (fun _ => rfl) (q_mnP (fun _ => rfl) (fun _ => rfl))) (q_mnP (fun _ => rfl) (q_mnP (fun _ => rfl) (fun _ => rfl))))) (q_mnP (q_mnP (q_mnP (fun _ => rfl) (q_mnP (fun _ => rfl) (fun _ => rfl))) (q_mnP (fun _ => rfl) (q_mnP (fun _ => rfl) (fun _ => rfl)))) (q_mnP (q_mnP (fun _ => rfl) (q_mnP (fun _ => rfl) (fun _ => rfl))) (q_mnP (fun _ => rfl) (q_mnP (fun _ => rfl) (fun _ => rfl)))))) (q_mnP (q_mnP (q_mnP (q_mnP (fun _ => rfl) (q_mnP (fun _ => rfl) (fun _ => rfl))) (q_mnP (fun _ => rfl) (q_mnP (fun _ => rfl) (fun _ => rfl)))) (q_mnP (q_mnP (fun _ => rfl) (q_mnP (fun _ => rfl) (fun _ => rfl))) (q_mnP (fun _ => rfl) (q_mnP (fun _ => rfl) (fun _ => rfl))))) (q_mnP (q_mnP (q_mnP (fun _ => rfl) (q_mnP (fun _ => rfl) (fun _ => rfl))) (q_mnP (fun _ => rfl) (q_mnP (fun _ => rfl) (fun _ => rfl)))) (q_mnP (q_mnP (fun _ => rfl) (q_mnP (fun _ => rfl) (fun _ => rfl))) (q_mnP (fun _ => rfl) (q_mnP (fun _ => rfl) (fun _ => rfl)))))))) (q_mnP (q_mnP (q_mnP (q_mnP (q_mnP (q_mnP (fun _ => rfl) (fun _ => rfl)) (q_mnP (fun _ => rfl) (q_mnP (fun _ => rfl) (fun _ => rfl)))) (q_mnP (q_mnP (fun _ => rfl) (q_mnP (fun _ => rfl) (fun _ => rfl))) (q_mnP (fun _ => rfl) (q_mnP (fun _ => rfl) (fun _ => rfl))))) (q_mnP (q_mnP (q_mnP (fun _ => rfl) (q_mnP (fun _ => rfl) (fun _ => rfl))) (q_mnP (fun _ => rfl) (q_mnP (fun _ => rfl) (fun _ => rfl)))) (q_mnP (q_mnP (fun _ => rfl) (q_mnP (fun _ => rfl) (fun _ => rfl))) (q_mnP (fun _ => rfl) (q_mnP (fun _ => rfl) (fun _ => rfl)))))) (q_mnP (q_mnP (q_mnP (q_mnP (fun _ => rfl) (q_mnP (fun _ => rfl) (fun _ => rfl))) (q_mnP (fun _ => rfl) (q_mnP (fun _ => rfl) (fun _ => rfl)))) (q_mnP (q_mnP (fun _ => rfl) (q_mnP (fun _ => rfl) (fun _ => rfl))) (q_mnP (fun _ => rfl) (q_mnP (fun _ => rfl) (fun _ => rfl))))) (q_mnP (q_mnP (q_mnP (fun _ => rfl) (q_mnP (fun _ => rfl) (fun _ => rfl))) (q_mnP (fun _ => rfl) (q_mnP (fun _ => rfl) (fun _ => rfl)))) (q_mnP (q_mnP (fun _ => rfl) (q_mnP (fun _ => rfl) (fun _ => rfl))) (q_mnP (fun _ => rfl) (q_mnP (fun _ => rfl) (fun _ => rfl))))))) (q_mnP (q_mnP (q_mnP (q_mnP (q_mnP (fun _ => rfl) (q_mnP (fun _ => rfl) (fun _ => rfl))) (q_mnP (fun _ => rfl) (q_mnP (fun _ => rfl) (fun _ => rfl)))) (q_mnP (q_mnP (fun _ => rfl) (q_mnP (fun _ => rfl) (fun _ => rfl))) (q_mnP (fun _ => rfl) (q_mnP (fun _ => rfl) (fun _ => rfl))))) (q_mnP (q_mnP (q_mnP (fun _ => rfl) (q_mnP (fun _ => rfl) (fun _ => rfl))) (q_mnP (fun _ => rfl) (q_mnP (fun _ => rfl) (fun _ => rfl)))) (q_mnP (q_mnP (fun _ => rfl) (q_mnP (fun _ => rfl) (fun _ => rfl))) (q_mnP (fun _ => rfl) (q_mnP (fun _ => rfl) (fun _ => rfl)))))) (q_mnP (q_mnP (q_mnP (q_mnP (fun _ => rfl) (q_mnP (fun _ => rfl) (fun _ => rfl))) (q_mnP (fun _ => rfl) (q_mnP (fun _ => rfl) (fun _ => rfl)))) (q_mnP (q_mnP (fun _ => rfl) (q_mnP (fun _ => rfl) (fun _ => rfl))) (q_mnP (fun _ => rfl) (q_mnP (fun _ => rfl) (fun _ => rfl))))) (q_mnP (q_mnP (q_mnP (fun _ => rfl) (q_mnP (fun _ => rfl) (fun _ => rfl))) (q_mnP (fun _ => rfl) (q_mnP (fun _ => rfl) (fun _ => rfl)))) (q_mnP (q_mnP (fun _ => rfl) (q_mnP (fun _ => rfl) (fun _ => rfl))) (q_mnP (fun _ => rfl) (q_mnP (fun _ => rfl) (fun _ => rfl)))))))))
theorem qk_bm100 : (Int8.ofInt (-100)).toInt32 = (-100) := by decide +kernel
theorem qk_bm10 : (Int8.ofInt (-10)).toInt32 = (-10) := by decide +kernel
theorem qk_bm9 : (Int8.ofInt (-9)).toInt32 = (-9) := by decide +kernel
theorem qk_b6 : (Int8.ofInt 6).toInt32 = 6 := by decide +kernel
theorem qk_b7 : (Int8.ofInt 7).toInt32 = 7 := by decide +kernel
theorem qk_b8 : (Int8.ofInt 8).toInt32 = 8 := by decide +kernel
theorem qk_b9 : (Int8.ofInt 9).toInt32 = 9 := by decide +kernel
theorem qk_b10 : (Int8.ofInt 10).toInt32 = 10 := by decide +kernel
theorem qk_b11 : (Int8.ofInt 11).toInt32 = 11 := by decide +kernel
theorem qk_b12 : (Int8.ofInt 12).toInt32 = 12 := by decide +kernel
theorem qk_b13 : (Int8.ofInt 13).toInt32 = 13 := by decide +kernel
theorem qk_b14 : (Int8.ofInt 14).toInt32 = 14 := by decide +kernel
theorem qk_b15 : (Int8.ofInt 15).toInt32 = 15 := by decide +kernel
theorem qk_b16 : (Int8.ofInt 16).toInt32 = 16 := by decide +kernel
theorem qk_b17 : (Int8.ofInt 17).toInt32 = 17 := by decide +kernel
theorem qk_b18 : (Int8.ofInt 18).toInt32 = 18 := by decide +kernel
theorem qk_b19 : (Int8.ofInt 19).toInt32 = 19 := by decide +kernel
theorem qk_b20 : (Int8.ofInt 20).toInt32 = 20 := by decide +kernel
theorem qk_b21 : (Int8.ofInt 21).toInt32 = 21 := by decide +kernel
theorem qk_b23 : (Int8.ofInt 23).toInt32 = 23 := by decide +kernel
theorem qk_b24 : (Int8.ofInt 24).toInt32 = 24 := by decide +kernel
theorem qk_b27 : (Int8.ofInt 27).toInt32 = 27 := by decide +kernel
theorem qk_b28 : (Int8.ofInt 28).toInt32 = 28 := by decide +kernel
theorem qk_b29 : (Int8.ofInt 29).toInt32 = 29 := by decide +kernel
theorem qk_b30 : (Int8.ofInt 30).toInt32 = 30 := by decide +kernel
theorem qk_b31 : (Int8.ofInt 31).toInt32 = 31 := by decide +kernel
theorem qk_b32 : (Int8.ofInt 32).toInt32 = 32 := by decide +kernel
theorem qk_b34 : (Int8.ofInt 34).toInt32 = 34 := by decide +kernel
theorem qk_b35 : (Int8.ofInt 35).toInt32 = 35 := by decide +kernel
theorem qk_b39 : (Int8.ofInt 39).toInt32 = 39 := by decide +kernel
theorem qk_b40 : (Int8.ofInt 40).toInt32 = 40 := by decide +kernel
theorem qk_b41 : (Int8.ofInt 41).toInt32 = 41 := by decide +kernel
theorem qk_b43 : (Int8.ofInt 43).toInt32 = 43 := by decide +kernel
theorem qk_b44 : (Int8.ofInt 44).toInt32 = 44 := by decide +kernel
theorem qk_b45 : (Int8.ofInt 45).toInt32 = 45 := by decide +kernel
theorem qk_b48 : (Int8.ofInt 48).toInt32 = 48 := by decide +kernel
theorem qk_b63 : (Int8.ofInt 63).toInt32 = 63 := by decide +kernel
theorem qk_b64 : (Int8.ofInt 64).toInt32 = 64 := by decide +kernel
theorem qk_b72 : (Int8.ofInt 72).toInt32 = 72 := by decide +kernel
theorem qk_b97 : (Int8.ofInt 97).toInt32 = 97 := by decide +kernel
theorem qk_b100 : (Int8.ofInt 100).toInt32 = 100 := by decide +kernel
theorem qk_b106 : (Int8.ofInt 106).toInt32 = 106 := by decide +kernel
theorem qk_b108 : (Int8.ofInt 108).toInt32 = 108 := by decide +kernel
theorem qk_b109 : (Int8.ofInt 109).toInt32 = 109 := by decide +kernel
theorem qk_b110 : (Int8.ofInt 110).toInt32 = 110 := by decide +kernel
theorem qk_b117 : (Int8.ofInt 117).toInt32 = 117 := by decide +kernel
theorem qk_b120 : (Int8.ofInt 120).toInt32 = 120 := by decide +kernel
theorem qk_b121 : (Int8.ofInt 121).toInt32 = 121 := by decide +kernel
theorem qk_b127 : (Int8.ofInt 127).toInt32 = 127 := by decide +kernel
theorem qk_im10 : Int32.ofInt (-10) = (-10) := by decide +kernel
theorem qk_im1 : Int32.ofInt (-1) = (-1) := by decide +kernel
theorem qk_i0 : Int32.ofInt 0 = 0 := by decide +kernel
theorem qk_i1 : Int32.ofInt 1 = 1 := by decide +kernel
theorem qk_i2 : Int32.ofInt 2 = 2 := by decide +kernel
theorem qk_i3 : Int32.ofInt 3 = 3 := by decide +kernel
theorem qk_i4 : Int32.ofInt 4 = 4 := by decide +kernel
theorem qk_i5 : Int32.ofInt 5 = 5 := by decide +kernel
theorem qk_i10 : Int32.ofInt 10 = 10 := by decide +kernel
theorem qk_sm131 : (Int16.ofInt (-131)).toInt32 = (-131) := by decide +kernel
theorem qk_s128 : (Int16.ofInt 128).toInt32 = 128 := by decide +kernel
theorem qk_s137 : (Int16.ofInt 137).toInt32 = 137 := by decide +kernel
theorem qk_s138 : (Int16.ofInt 138).toInt32 = 138 := by decide +kernel
theorem qk_s139 : (Int16.ofInt 139).toInt32 = 139 := by decide +kernel
theorem qk_s140 : (Int16.ofInt 140).toInt32 = 140 := by decide +kernel
theorem qk_s141 : (Int16.ofInt 141).toInt32 = 141 := by decide +kernel
theorem qk_s142 : (Int16.ofInt 142).toInt32 = 142 := by decide +kernel
theorem qk_s144 : (Int16.ofInt 144).toInt32 = 144 := by decide +kernel
theorem qk_s148 : (Int16.ofInt 148).toInt32 = 148 := by decide +kernel
theorem qk_s150 : (Int16.ofInt 150).toInt32 = 150 := by decide +kernel
theorem qk_s151 : (Int16.ofInt 151).toInt32 = 151 := by decide +kernel
theorem qk_s152 : (Int16.ofInt 152).toInt32 = 152 := by decide +kernel
theorem qk_s154 : (Int16.ofInt 154).toInt32 = 154 := by decide +kernel
theorem qk_s155 : (Int16.ofInt 155).toInt32 = 155 := by decide +kernel
theorem qk_s156 : (Int16.ofInt 156).toInt32 = 156 := by decide +kernel
theorem qk_s157 : (Int16.ofInt 157).toInt32 = 157 := by decide +kernel
theorem qk_s158 : (Int16.ofInt 158).toInt32 = 158 := by decide +kernel
theorem qk_s159 : (Int16.ofInt 159).toInt32 = 159 := by decide +kernel
theorem qk_s160 : (Int16.ofInt 160).toInt32 = 160 := by decide +kernel
theorem qk_s161 : (Int16.ofInt 161).toInt32 = 161 := by decide +kernel
theorem qk_s162 : (Int16.ofInt 162).toInt32 = 162 := by decide +kernel
theorem qk_s163 : (Int16.ofInt 163).toInt32 = 163 := by decide +kernel
theorem qk_s164 : (Int16.ofInt 164).toInt32 = 164 := by decide +kernel
theorem qk_s165 : (Int16.ofInt 165).toInt32 = 165 := by decide +kernel
theorem qk_s166 : (Int16.ofInt 166).toInt32 = 166 := by decide +kernel
theorem qk_s167 : (Int16.ofInt 167).toInt32 = 167 := by decide +kernel
theorem qk_s192 : (Int16.ofInt 192).toInt32 = 192 := by decide +kernel
theorem qk_s200 : (Int16.ofInt 200).toInt32 = 200 := by decide +kernel
theorem qk_s207 : (Int16.ofInt 207).toInt32 = 207 := by decide +kernel
theorem qk_s231 : (Int16.ofInt 231).toInt32 = 231 := by decide +kernel
theorem qk_s255 : (Int16.ofInt 255).toInt32 = 255 := by decide +kernel
theorem qk_s256 : (Int16.ofInt 256).toInt32 = 256 := by decide +kernel
theorem qk_s511 : (Int16.ofInt 511).toInt32 = 511 := by decide +kernel
theorem qk_s512 : (Int16.ofInt 512).toInt32 = 512 := by decide +kernel
theorem qk_s999 : (Int16.ofInt 999).toInt32 = 999 := by decide +kernel
theorem qk_s1000 : (Int16.ofInt 1000).toInt32 = 1000 := by decide +kernel
theorem qk_s1023 : (Int16.ofInt 1023).toInt32 = 1023 := by decide +kernel
theorem qk_s1024 : (Int16.ofInt 1024).toInt32 = 1024 := by decide +kernel
theorem qk_s1536 : (Int16.ofInt 1536).toInt32 = 1536 := by decide +kernel
theorem qk_s2047 : (Int16.ofInt 2047).toInt32 = 2047 := by decide +kernel
theorem qk_s2048 : (Int16.ofInt 2048).toInt32 = 2048 := by decide +kernel
theorem qk_s2559 : (Int16.ofInt 2559).toInt32 = 2559 := by decide +kernel
theorem qk_s2560 : (Int16.ofInt 2560).toInt32 = 2560 := by decide +kernel
theorem qk_s3072 : (Int16.ofInt 3072).toInt32 = 3072 := by decide +kernel
theorem qk_s3583 : (Int16.ofInt 3583).toInt32 = 3583 := by decide +kernel
theorem qk_s3584 : (Int16.ofInt 3584).toInt32 = 3584 := by decide +kernel
theorem qk_s3834 : (Int16.ofInt 3834).toInt32 = 3834 := by decide +kernel
theorem qk_s3836 : (Int16.ofInt 3836).toInt32 = 3836 := by decide +kernel
theorem qk_s3838 : (Int16.ofInt 3838).toInt32 = 3838 := by decide +kernel
theorem qk_s3840 : (Int16.ofInt 3840).toInt32 = 3840 := by decide +kernel
theorem qk_s3850 : (Int16.ofInt 3850).toInt32 = 3850 := by decide +kernel
theorem qk_s3856 : (Int16.ofInt 3856).toInt32 = 3856 := by decide +kernel
theorem qk_s3869 : (Int16.ofInt 3869).toInt32 = 3869 := by decide +kernel
theorem qk_s3870 : (Int16.ofInt 3870).toInt32 = 3870 := by decide +kernel
theorem qk_s3887 : (Int16.ofInt 3887).toInt32 = 3887 := by decide +kernel
theorem qk_s4095 : (Int16.ofInt 4095).toInt32 = 4095 := by decide +kernel
theorem qk_s4096 : (Int16.ofInt 4096).toInt32 = 4096 := by decide +kernel
theorem qk_s6144 : (Int16.ofInt 6144).toInt32 = 6144 := by decide +kernel
theorem qk_s8191 : (Int16.ofInt 8191).toInt32 = 8191 := by decide +kernel
theorem qk_s12288 : (Int16.ofInt 12288).toInt32 = 12288 := by decide +kernel
theorem qk_s16384 : (Int16.ofInt 16384).toInt32 = 16384 := by decide +kernel
theorem qk_l0 : Int64.ofNat ((0 : Fin 2) : Nat) = 0 := by decide +kernel
theorem qk_l1 : Int64.ofNat ((1 : Fin 2) : Nat) = 1 := by decide +kernel
def q_vS (TB : Nat → Option (Nat × Nat × (Nat → Int32))) : Value := match TB 9 with
  | none => .null
  | some x => cond (Nat.beq x.1 99) (.ref 9) .null
theorem q_vS_ok {TB : Nat → Option (Nat × Nat × (Nat → Int32))} : ∀ a, q_vS TB = .ref a → a < 64 := by
  intro a h
  unfold q_vS at h
  split at h
  · cases h
  · rename_i x _
    cases hb : Nat.beq x.1 99 with
    | true => rw [hb] at h; cases h; exact Nat.le_of_ble_eq_true rfl
    | false => rw [hb] at h; cases h
def q_fvS (TB : Nat → Option (Nat × Nat × (Nat → Int32))) (_ : q_L) (st : List Value) : Option (List Value) := match TB 9 with
  | none => none
  | some x => some (cond (Nat.beq x.1 99) (.ref 9) .null :: st)
theorem q_fvS_J {WU : List Cond} {cl : List vw_C} {tyl : List FieldType} {GF : (Nat → Prop) → State → Heap → Prop} {τ : Nat → Nat} {own mname : String} {cc : ByteArray} {nL pc nx : Nat} {TB : Nat → Option (Nat × Nat × (Nat → Int32))} (h : q_J WU cl tyl GF τ own mname cc nL pc (q_st nx (q_fk (q_vS TB)))) : q_J WU cl tyl GF τ own mname cc nL pc (q_st nx (q_fvS TB)) := by
  intro g g' h1 h2
  refine h g g' h1 ?_
  unfold q_st q_fvS at h2
  unfold q_st q_fk q_vS
  dsimp only at h2 ⊢
  cases hT : TB 9 with
  | none => rw [hT] at h2; cases h2
  | some x => rw [hT] at h2; exact h2
abbrev q_tyl : List FieldType := [.int, .boolean, .long, .char, .byte, .object "Rasterbox$Machine"]
abbrev q_NWn : List Cond := [.methodLinkNest RX11 9 ⟨"Rasterbox$Machine", "<init>", "()V"⟩ "Rasterbox", .methodLinkNest RX4 11 ⟨"Rasterbox$Board", "<init>", "()V"⟩ "Rasterbox", .methodLinkNest RX0 11 ⟨"Rasterbox$Scene", "<init>", "()V"⟩ "Rasterbox", .methodLinkNest RX0 30 ⟨"Rasterbox$Tape", "<init>", "()V"⟩ "Rasterbox", .methodLinkNest RX0 37 ⟨"Rasterbox$Keys", "<init>", "()V"⟩ "Rasterbox", .methodLinkNest RX0 44 ⟨"Rasterbox$Frame", "<init>", "()V"⟩ "Rasterbox", .methodLinkNest RX2 11 ⟨"Rasterbox$Scene", "<init>", "()V"⟩ "Rasterbox", .methodLinkNest RX4 20 ⟨"Rasterbox$Processor", "<init>", "()V"⟩ "Rasterbox", .methodLinkNest RX4 27 ⟨"Rasterbox$Voices", "<init>", "()V"⟩ "Rasterbox", .methodLinkNest RX11 22 ⟨"Rasterbox$Recording", "<init>", "()V"⟩ "Rasterbox", .methodLinkNest RX7 11 ⟨"Rasterbox$Machine", "<init>", "()V"⟩ "Rasterbox", .methodLinkNest RX11 36 ⟨"Rasterbox$Scene", "<init>", "()V"⟩ "Rasterbox"]
abbrev q_exn : List String := ["java/lang/RuntimeException", "java/lang/Exception"]
def q_NW0 : List Cond := (vx_atS RX11 252 "java/lang/IndexOutOfBoundsException" q_exn).filter (fun w => !goodWord w)
def q_NW1 : List Cond := (vx_atS RX11 257 "java/lang/IllegalArgumentException" q_exn).filter (fun w => !goodWord w)
def q_NW2 : List Cond := (vx_atS RX11 117 "java/lang/IllegalStateException" q_exn).filter (fun w => !goodWord w)
def q_bsN : ByteArray := ⟨#[0x2a, 0x2b, 0xb7, 0x00, 0x0d, 0xb1]⟩
def q_NW3 : List Cond := (q_atN RX11 205 "java/util/NoSuchElementException" 13 q_bsN "java/lang/RuntimeException" ["java/lang/Exception"]).filter (fun w => !goodWord w)
def q_NW : List Cond := q_NWn ++ (q_NW0 ++ (q_NW1 ++ (q_NW2 ++ (([.castable "java/util/NoSuchElementException" "java/util/NoSuchElementException"]) ++ q_NW3))))
theorem q_NW_ok : ∀ w ∈ q_NW, q_nw w = true := by decide +kernel
def qd_chk (p : Cond → Bool) (T : List Cond) : List Cond → List Nat → Bool
  | [], _ => true
  | _ :: _, [] => false
  | w :: l, i :: r => (!p w || decide (T[i]? = some w)) && qd_chk p T l r
theorem qd_memI {p : Cond → Bool} {T : List Cond} : ∀ {l : List Cond} {r : List Nat}, qd_chk p T l r = true → ∀ w ∈ l, p w = true → w ∈ T
  | [], _, _, _, hw, _ => by cases hw
  | _ :: _, [], h, _, _, _ => absurd (show false = true from h) Bool.false_ne_true
  | v :: l, i :: r, h, w, hw, hp => by
    have h' : ((!p v || decide (T[i]? = some v)) && qd_chk p T l r) = true := h
    rw [Bool.and_eq_true] at h'
    rcases List.mem_cons.mp hw with e | hw
    · subst e
      have h2 := h'.1
      rw [hp] at h2
      exact List.mem_of_getElem? (of_decide_eq_true h2)
    · exact qd_memI h'.2 w hw hp
def qd_vg (w : Cond) : Bool := vx_no w && goodWord w
theorem qd_thI {l : List Cond} {r : List Nat} (h : qd_chk qd_vg lw_tbl l r = true) : ∀ w ∈ (l.filter vx_no).filter goodWord, w ∈ q_WU := fun w hw => by
  have h1 := List.mem_filter.mp hw
  have h2 := List.mem_filter.mp h1.1
  exact q_WU_of w (qd_memI h w h2.1 (show (vx_no w && goodWord w) = true by rw [h2.2, h1.2]; rfl)) h1.2
theorem q_th0_a : ∀ w ∈ (vx_atS RX11 252 "java/lang/IndexOutOfBoundsException" q_exn).filter goodWord, w ∈ q_WU := qd_thI (r := [81, 982, 991, 998, 1001, 1003, 983, 984, 106, 107, 985, 990, 999, 1019, 972, 1020, 974, 1021, 976, 986, 987, 988, 989, 978, 1015, 1016, 1018, 978, 1006, 1007, 1008, 1009, 964, 1009, 1010, 1011, 1012, 966, 1012, 1013, 1014, 1015, 968, 1005, 961, 962, 969, 970, 971, 973, 975, 977, 0, 0, 981, 980, 979]) (by decide +kernel)
theorem q_th0_b : ∀ w ∈ (vx_atS RX11 252 "java/lang/IndexOutOfBoundsException" q_exn).filter (fun w => !goodWord w), w ∈ q_NW := fun w hw => List.mem_append_right _ (List.mem_append_left _ hw)
theorem q_th0_c : ∀ w ∈ Cond.classLink RX11 248 "java/lang/IndexOutOfBoundsException" :: Cond.initialized "java/lang/IndexOutOfBoundsException" :: vx_atS RX11 252 "java/lang/IndexOutOfBoundsException" q_exn, vx_ot w = true := by decide +kernel
theorem q_th0_d : ∀ w ∈ (vx_atS RX11 252 "java/lang/IndexOutOfBoundsException" q_exn).filter (fun w => !goodWord w), w.onTables = true := by decide +kernel
theorem q_cast0 : Cond.castable "java/lang/IndexOutOfBoundsException" "java/lang/IndexOutOfBoundsException" ∈ q_NW := q_th0_b _ (by decide +kernel)
theorem q_th1_a : ∀ w ∈ (vx_atS RX11 257 "java/lang/IllegalArgumentException" q_exn).filter goodWord, w ∈ q_WU := qd_thI (r := [81, 982, 991, 998, 1001, 1003, 983, 984, 106, 107, 985, 990, 999, 1019, 972, 1020, 974, 1021, 976, 986, 987, 988, 989, 978, 1015, 1016, 1018, 978, 1047, 1048, 1049, 1009, 964, 1009, 1010, 1011, 1012, 966, 1012, 1013, 1014, 1015, 968, 1046, 1037, 1038, 1039, 994, 1040, 1041, 1042, 1043, 0, 0, 981, 980, 1044]) (by decide +kernel)
theorem q_th1_b : ∀ w ∈ (vx_atS RX11 257 "java/lang/IllegalArgumentException" q_exn).filter (fun w => !goodWord w), w ∈ q_NW := fun w hw => List.mem_append_right _ (List.mem_append_right _ (List.mem_append_left _ hw))
theorem q_th1_c : ∀ w ∈ Cond.classLink RX11 253 "java/lang/IllegalArgumentException" :: Cond.initialized "java/lang/IllegalArgumentException" :: vx_atS RX11 257 "java/lang/IllegalArgumentException" q_exn, vx_ot w = true := by decide +kernel
theorem q_th1_d : ∀ w ∈ (vx_atS RX11 257 "java/lang/IllegalArgumentException" q_exn).filter (fun w => !goodWord w), w.onTables = true := by decide +kernel
theorem q_cast1 : Cond.castable "java/lang/IllegalArgumentException" "java/lang/IllegalArgumentException" ∈ q_NW := q_th1_b _ (by decide +kernel)
theorem q_th2_a : ∀ w ∈ (vx_atS RX11 117 "java/lang/IllegalStateException" q_exn).filter goodWord, w ∈ q_WU := qd_thI (r := [81, 982, 991, 998, 1001, 1003, 983, 984, 106, 107, 985, 990, 999, 1019, 972, 1020, 974, 1021, 976, 986, 987, 988, 989, 978, 1015, 1016, 1018, 978, 1488, 1489, 1490, 1009, 964, 1009, 1010, 1011, 1012, 966, 1012, 1013, 1014, 1015, 968, 1487, 1478, 1479, 1480, 995, 1481, 1482, 1483, 1484, 0, 0, 981, 980, 1485]) (by decide +kernel)
theorem q_th2_b : ∀ w ∈ (vx_atS RX11 117 "java/lang/IllegalStateException" q_exn).filter (fun w => !goodWord w), w ∈ q_NW := fun w hw => List.mem_append_right _ (List.mem_append_right _ (List.mem_append_right _ (List.mem_append_left _ hw)))
theorem q_th2_c : ∀ w ∈ Cond.classLink RX11 113 "java/lang/IllegalStateException" :: Cond.initialized "java/lang/IllegalStateException" :: vx_atS RX11 117 "java/lang/IllegalStateException" q_exn, vx_ot w = true := by decide +kernel
theorem q_th2_d : ∀ w ∈ (vx_atS RX11 117 "java/lang/IllegalStateException" q_exn).filter (fun w => !goodWord w), w.onTables = true := by decide +kernel
theorem q_cast2 : Cond.castable "java/lang/IllegalStateException" "java/lang/IllegalStateException" ∈ q_NW := q_th2_b _ (by decide +kernel)
theorem q_cast3 : Cond.castable "java/util/NoSuchElementException" "java/util/NoSuchElementException" ∈ q_NW := List.mem_append_right _ (List.mem_append_right _ (List.mem_append_right _ (List.mem_append_right _ (List.mem_append_left _ (List.mem_singleton.mpr rfl)))))
theorem q_th3_a : ∀ w ∈ (q_atN RX11 205 "java/util/NoSuchElementException" 13 q_bsN "java/lang/RuntimeException" ["java/lang/Exception"]).filter goodWord, w ∈ q_WU := qd_thI (r := [81, 982, 991, 998, 1001, 1003, 983, 984, 106, 107, 985, 990, 999, 1019, 972, 1020, 974, 1021, 976, 986, 987, 988, 989, 978, 1015, 1016, 1018, 978, 1618, 1619, 1620, 1009, 964, 1009, 1010, 1011, 1012, 966, 1012, 1013, 1014, 1015, 968, 1617, 1608, 1610, 997, 1611, 1612, 1613, 1614, 0, 0, 981, 980, 1615]) (by decide +kernel)
theorem q_th3_b : ∀ w ∈ (q_atN RX11 205 "java/util/NoSuchElementException" 13 q_bsN "java/lang/RuntimeException" ["java/lang/Exception"]).filter (fun w => !goodWord w), w ∈ q_NW := fun w hw => List.mem_append_right _ (List.mem_append_right _ (List.mem_append_right _ (List.mem_append_right _ (List.mem_append_right _ hw))))
theorem q_th3_c : ∀ w ∈ Cond.classLink RX11 201 "java/util/NoSuchElementException" :: Cond.initialized "java/util/NoSuchElementException" :: (q_atN RX11 205 "java/util/NoSuchElementException" 13 q_bsN "java/lang/RuntimeException" ["java/lang/Exception"]), vx_ot w = true := by decide +kernel
theorem q_th3_d : ∀ w ∈ (q_atN RX11 205 "java/util/NoSuchElementException" 13 q_bsN "java/lang/RuntimeException" ["java/lang/Exception"]).filter (fun w => !goodWord w), w.onTables = true := by decide +kernel
abbrev q_NC : List (String × String) := [("java/lang/IllegalArgumentException", "java/lang/IndexOutOfBoundsException"), ("java/lang/IllegalStateException", "java/lang/IndexOutOfBoundsException"), ("java/lang/IllegalStateException", "java/lang/IllegalArgumentException")]
abbrev q_AO : List String := ["Rasterbox$Machine"]
abbrev q_SR : List (String × Nat × String × Nat) := [(RX11, 250, "no such index", 10), (RX11, 255, "out of range", 11), (RX1, 26, "ldaldxldystastxstyadcsbcandoraeorcmpcpxcpyincdeclaxsaxdcpiscbit", 12), (RX1, 28, "inxdexinydeytaxtxataytyatsxtxsphaplaphpplpsecclcsedcldseicliclvnopasllsrrolrorbrkrtirtsjmpjsrjmibnebeqbccbcsbplbmibvcbvs", 13), (RX1, 36, "jam", 14), (RX5, 60, ",x", 15), (RX5, 65, ",y", 16), (RX5, 67, "),y", 17), (RX5, 69, ",x)", 18), (RX11, 115, "an instruction or an interrupt is under way", 19), (RX11, 127, "the processor is jammed", 20), (RX11, 183, "the tape is full", 21), (RX11, 191, "there are 3 snapshots", 22), (RX11, 203, "no such snapshot", 23), (RX11, 217, "there is no record", 24)]
abbrev q_ZZ (TB : Nat → Option (Nat × Nat × (Nat → Int32))) : List (String × String × String × Value) := [("Rasterbox$Scene", "MASKS", "[I", .ref 1), ("Rasterbox$Codes", "MODE_CYCLES", "[I", .ref 2), ("Rasterbox$Codes", "SPECIAL_CYCLES", "[I", .ref 3), ("RasterboxModel", "NAMES", "[C", .ref 4), ("RasterboxModel", "OTHERS", "[C", .ref 5), ("java/lang/Integer", "DigitOnes", "[B", .ref 6), ("java/lang/Integer", "DigitTens", "[B", .ref 7), ("java/lang/String", "COMPACT_STRINGS", "Z", .int 1), ("java/lang/StringUTF16", "$assertionsDisabled", "Z", .int 1), ("java/lang/StringUTF16", "HI_BYTE_SHIFT", "I", .int 0), ("java/lang/StringUTF16", "LO_BYTE_SHIFT", "I", .int 8)] ++ [("jdk/internal/util/Preconditions", "SIOOBE_FORMATTER", "Ljava/util/function/BiFunction;", q_vS TB)]
abbrev q_SK : List Nat := [12, 13, 14, 15, 16, 17, 18]
abbrev q_SV : List (Nat × Value) := [(12, .ref 40), (13, .ref 41), (14, .ref 42), (15, .ref 43), (16, .ref 44), (17, .ref 45), (18, .ref 46)]
abbrev q_SC : List (Nat × Value) := [(12, .int 0), (13, .int 0), (14, .int 0), (15, .int 0), (16, .int 0), (17, .int 0), (18, .int 0)]
theorem q_SK_lo : ∀ x ∈ q_SK, x < 64 := by decide
theorem q_SV_lo : ∀ x ∈ q_SV, x.1 < 64 := fun x hx => of_decide_eq_true (List.all_eq_true.mp (show (q_SV.all fun x => decide (x.1 < 64)) = true from rfl) x hx)
theorem q_SC_lo : ∀ x ∈ q_SC, x.1 < 64 := fun x hx => of_decide_eq_true (List.all_eq_true.mp (show (q_SC.all fun x => decide (x.1 < 64)) = true from rfl) x hx)
def q_oklt (v : Value) : Bool := match v with | .ref a => decide (a < 64) | _ => true
theorem q_oklt_ok {t : List (Nat × Value)} (h : t.all (fun x => q_oklt x.2) = true) : ∀ x ∈ t, ∀ a, x.2 = .ref a → a < 64 := fun x hx a e => by have h2 : q_oklt x.2 = true := List.all_eq_true.mp h x hx; rw [e] at h2; exact of_decide_eq_true h2
theorem q_SV_ok : ∀ x ∈ q_SV, ∀ a, x.2 = .ref a → a < 64 := q_oklt_ok rfl
theorem q_SC_ok : ∀ x ∈ q_SC, ∀ a, x.2 = .ref a → a < 64 := q_oklt_ok rfl
def q_OB : List (String × String × String × Value × Nat) := q_SV.map (fun x => ("java/lang/String", "value", "[B", x.2, x.1)) ++ q_SC.map (fun x => ("java/lang/String", "coder", "B", x.2, x.1))
def q_OO : List (String × Nat) := q_SK.map fun k => ("java/lang/String", k)
theorem q_SV_in : ∀ x ∈ q_SV, ("java/lang/String", "value", "[B", x.2, x.1) ∈ q_OB := fun x hx => List.mem_append_left _ (List.mem_map.mpr ⟨x, hx, rfl⟩)
theorem q_SC_in : ∀ x ∈ q_SC, ("java/lang/String", "coder", "B", x.2, x.1) ∈ q_OB := fun x hx => List.mem_append_right _ (List.mem_map.mpr ⟨x, hx, rfl⟩)
abbrev q_gF (TB : Nat → Option (Nat × Nat × (Nat → Int32))) (τ : Nat → Nat) : (Nat → Prop) → State → Heap → Prop := q_gf9 q_NW q_NC q_AO q_SR (q_ZZ TB) q_OB q_OO q_tyl τ TB
theorem q_hTB {TB : Nat → Option (Nat × Nat × (Nat → Int32))} {τ : Nat → Nat} : q_TB TB q_tyl (q_gF TB τ) τ := fun a t n f ty A U H h1 h2 h => h.2.2.2.2.2.2.2.1 a t n f ty h1 h2
abbrev q_S9 (TB : Nat → Option (Nat × Nat × (Nat → Int32))) (τ : Nat → Nat) (M : q_M) (pc : Nat) (x : q_E) : Prop := q_Snd q_WU vwCl q_tyl (q_gF TB τ) τ q_mt M pc x
theorem q_sm_0 : (RX11, 250, "no such index", 10) ∈ q_SR := List.mem_cons_self
theorem q_sr0 {TB : Nat → Option (Nat × Nat × (Nat → Int32))} {τ : Nat → Nat} : ∀ A U H, q_gF TB τ A U H → vk_R RX11 250 "no such index" (τ 10) U := fun A U H h => h.2.2.2.1 (RX11, 250, "no such index", 10) q_sm_0
theorem q_sm_1 : (RX11, 255, "out of range", 11) ∈ q_SR := List.mem_cons_of_mem _ (List.mem_cons_self)
theorem q_sr1 {TB : Nat → Option (Nat × Nat × (Nat → Int32))} {τ : Nat → Nat} : ∀ A U H, q_gF TB τ A U H → vk_R RX11 255 "out of range" (τ 11) U := fun A U H h => h.2.2.2.1 (RX11, 255, "out of range", 11) q_sm_1
theorem q_sm_2 : (RX1, 26, "ldaldxldystastxstyadcsbcandoraeorcmpcpxcpyincdeclaxsaxdcpiscbit", 12) ∈ q_SR := List.mem_cons_of_mem _ (List.mem_cons_of_mem _ (List.mem_cons_self))
theorem q_sr2 {TB : Nat → Option (Nat × Nat × (Nat → Int32))} {τ : Nat → Nat} : ∀ A U H, q_gF TB τ A U H → vk_R RX1 26 "ldaldxldystastxstyadcsbcandoraeorcmpcpxcpyincdeclaxsaxdcpiscbit" (τ 12) U := fun A U H h => h.2.2.2.1 (RX1, 26, "ldaldxldystastxstyadcsbcandoraeorcmpcpxcpyincdeclaxsaxdcpiscbit", 12) q_sm_2
theorem q_sm_3 : (RX1, 28, "inxdexinydeytaxtxataytyatsxtxsphaplaphpplpsecclcsedcldseicliclvnopasllsrrolrorbrkrtirtsjmpjsrjmibnebeqbccbcsbplbmibvcbvs", 13) ∈ q_SR := List.mem_cons_of_mem _ (List.mem_cons_of_mem _ (List.mem_cons_of_mem _ (List.mem_cons_self)))
theorem q_sr3 {TB : Nat → Option (Nat × Nat × (Nat → Int32))} {τ : Nat → Nat} : ∀ A U H, q_gF TB τ A U H → vk_R RX1 28 "inxdexinydeytaxtxataytyatsxtxsphaplaphpplpsecclcsedcldseicliclvnopasllsrrolrorbrkrtirtsjmpjsrjmibnebeqbccbcsbplbmibvcbvs" (τ 13) U := fun A U H h => h.2.2.2.1 (RX1, 28, "inxdexinydeytaxtxataytyatsxtxsphaplaphpplpsecclcsedcldseicliclvnopasllsrrolrorbrkrtirtsjmpjsrjmibnebeqbccbcsbplbmibvcbvs", 13) q_sm_3
theorem q_sm_4 : (RX1, 36, "jam", 14) ∈ q_SR := List.mem_cons_of_mem _ (List.mem_cons_of_mem _ (List.mem_cons_of_mem _ (List.mem_cons_of_mem _ (List.mem_cons_self))))
theorem q_sr4 {TB : Nat → Option (Nat × Nat × (Nat → Int32))} {τ : Nat → Nat} : ∀ A U H, q_gF TB τ A U H → vk_R RX1 36 "jam" (τ 14) U := fun A U H h => h.2.2.2.1 (RX1, 36, "jam", 14) q_sm_4
theorem q_sm_5 : (RX5, 60, ",x", 15) ∈ q_SR := List.mem_cons_of_mem _ (List.mem_cons_of_mem _ (List.mem_cons_of_mem _ (List.mem_cons_of_mem _ (List.mem_cons_of_mem _ (List.mem_cons_self)))))
theorem q_sr5 {TB : Nat → Option (Nat × Nat × (Nat → Int32))} {τ : Nat → Nat} : ∀ A U H, q_gF TB τ A U H → vk_R RX5 60 ",x" (τ 15) U := fun A U H h => h.2.2.2.1 (RX5, 60, ",x", 15) q_sm_5
theorem q_sm_6 : (RX5, 65, ",y", 16) ∈ q_SR := List.mem_cons_of_mem _ (List.mem_cons_of_mem _ (List.mem_cons_of_mem _ (List.mem_cons_of_mem _ (List.mem_cons_of_mem _ (List.mem_cons_of_mem _ (List.mem_cons_self))))))
theorem q_sr6 {TB : Nat → Option (Nat × Nat × (Nat → Int32))} {τ : Nat → Nat} : ∀ A U H, q_gF TB τ A U H → vk_R RX5 65 ",y" (τ 16) U := fun A U H h => h.2.2.2.1 (RX5, 65, ",y", 16) q_sm_6
theorem q_sm_7 : (RX5, 67, "),y", 17) ∈ q_SR := List.mem_cons_of_mem _ (List.mem_cons_of_mem _ (List.mem_cons_of_mem _ (List.mem_cons_of_mem _ (List.mem_cons_of_mem _ (List.mem_cons_of_mem _ (List.mem_cons_of_mem _ (List.mem_cons_self)))))))
theorem q_sr7 {TB : Nat → Option (Nat × Nat × (Nat → Int32))} {τ : Nat → Nat} : ∀ A U H, q_gF TB τ A U H → vk_R RX5 67 "),y" (τ 17) U := fun A U H h => h.2.2.2.1 (RX5, 67, "),y", 17) q_sm_7
theorem q_sm_8 : (RX5, 69, ",x)", 18) ∈ q_SR := List.mem_cons_of_mem _ (List.mem_cons_of_mem _ (List.mem_cons_of_mem _ (List.mem_cons_of_mem _ (List.mem_cons_of_mem _ (List.mem_cons_of_mem _ (List.mem_cons_of_mem _ (List.mem_cons_of_mem _ (List.mem_cons_self))))))))
theorem q_sr8 {TB : Nat → Option (Nat × Nat × (Nat → Int32))} {τ : Nat → Nat} : ∀ A U H, q_gF TB τ A U H → vk_R RX5 69 ",x)" (τ 18) U := fun A U H h => h.2.2.2.1 (RX5, 69, ",x)", 18) q_sm_8
theorem q_sm_9 : (RX11, 115, "an instruction or an interrupt is under way", 19) ∈ q_SR := List.mem_cons_of_mem _ (List.mem_cons_of_mem _ (List.mem_cons_of_mem _ (List.mem_cons_of_mem _ (List.mem_cons_of_mem _ (List.mem_cons_of_mem _ (List.mem_cons_of_mem _ (List.mem_cons_of_mem _ (List.mem_cons_of_mem _ (List.mem_cons_self)))))))))
theorem q_sr9 {TB : Nat → Option (Nat × Nat × (Nat → Int32))} {τ : Nat → Nat} : ∀ A U H, q_gF TB τ A U H → vk_R RX11 115 "an instruction or an interrupt is under way" (τ 19) U := fun A U H h => h.2.2.2.1 (RX11, 115, "an instruction or an interrupt is under way", 19) q_sm_9
theorem q_sm_10 : (RX11, 127, "the processor is jammed", 20) ∈ q_SR := List.mem_cons_of_mem _ (List.mem_cons_of_mem _ (List.mem_cons_of_mem _ (List.mem_cons_of_mem _ (List.mem_cons_of_mem _ (List.mem_cons_of_mem _ (List.mem_cons_of_mem _ (List.mem_cons_of_mem _ (List.mem_cons_of_mem _ (List.mem_cons_of_mem _ (List.mem_cons_self))))))))))
theorem q_sr10 {TB : Nat → Option (Nat × Nat × (Nat → Int32))} {τ : Nat → Nat} : ∀ A U H, q_gF TB τ A U H → vk_R RX11 127 "the processor is jammed" (τ 20) U := fun A U H h => h.2.2.2.1 (RX11, 127, "the processor is jammed", 20) q_sm_10
theorem q_sm_11 : (RX11, 183, "the tape is full", 21) ∈ q_SR := List.mem_cons_of_mem _ (List.mem_cons_of_mem _ (List.mem_cons_of_mem _ (List.mem_cons_of_mem _ (List.mem_cons_of_mem _ (List.mem_cons_of_mem _ (List.mem_cons_of_mem _ (List.mem_cons_of_mem _ (List.mem_cons_of_mem _ (List.mem_cons_of_mem _ (List.mem_cons_of_mem _ (List.mem_cons_self)))))))))))
theorem q_sr11 {TB : Nat → Option (Nat × Nat × (Nat → Int32))} {τ : Nat → Nat} : ∀ A U H, q_gF TB τ A U H → vk_R RX11 183 "the tape is full" (τ 21) U := fun A U H h => h.2.2.2.1 (RX11, 183, "the tape is full", 21) q_sm_11
theorem q_sm_12 : (RX11, 191, "there are 3 snapshots", 22) ∈ q_SR := List.mem_cons_of_mem _ (List.mem_cons_of_mem _ (List.mem_cons_of_mem _ (List.mem_cons_of_mem _ (List.mem_cons_of_mem _ (List.mem_cons_of_mem _ (List.mem_cons_of_mem _ (List.mem_cons_of_mem _ (List.mem_cons_of_mem _ (List.mem_cons_of_mem _ (List.mem_cons_of_mem _ (List.mem_cons_of_mem _ (List.mem_cons_self))))))))))))
theorem q_sr12 {TB : Nat → Option (Nat × Nat × (Nat → Int32))} {τ : Nat → Nat} : ∀ A U H, q_gF TB τ A U H → vk_R RX11 191 "there are 3 snapshots" (τ 22) U := fun A U H h => h.2.2.2.1 (RX11, 191, "there are 3 snapshots", 22) q_sm_12
theorem q_sm_13 : (RX11, 203, "no such snapshot", 23) ∈ q_SR := List.mem_cons_of_mem _ (List.mem_cons_of_mem _ (List.mem_cons_of_mem _ (List.mem_cons_of_mem _ (List.mem_cons_of_mem _ (List.mem_cons_of_mem _ (List.mem_cons_of_mem _ (List.mem_cons_of_mem _ (List.mem_cons_of_mem _ (List.mem_cons_of_mem _ (List.mem_cons_of_mem _ (List.mem_cons_of_mem _ (List.mem_cons_of_mem _ (List.mem_cons_self)))))))))))))
theorem q_sr13 {TB : Nat → Option (Nat × Nat × (Nat → Int32))} {τ : Nat → Nat} : ∀ A U H, q_gF TB τ A U H → vk_R RX11 203 "no such snapshot" (τ 23) U := fun A U H h => h.2.2.2.1 (RX11, 203, "no such snapshot", 23) q_sm_13
theorem q_sm_14 : (RX11, 217, "there is no record", 24) ∈ q_SR := List.mem_cons_of_mem _ (List.mem_cons_of_mem _ (List.mem_cons_of_mem _ (List.mem_cons_of_mem _ (List.mem_cons_of_mem _ (List.mem_cons_of_mem _ (List.mem_cons_of_mem _ (List.mem_cons_of_mem _ (List.mem_cons_of_mem _ (List.mem_cons_of_mem _ (List.mem_cons_of_mem _ (List.mem_cons_of_mem _ (List.mem_cons_of_mem _ (List.mem_cons_of_mem _ (List.mem_cons_self))))))))))))))
theorem q_sr14 {TB : Nat → Option (Nat × Nat × (Nat → Int32))} {τ : Nat → Nat} : ∀ A U H, q_gF TB τ A U H → vk_R RX11 217 "there is no record" (τ 24) U := fun A U H h => h.2.2.2.1 (RX11, 217, "there is no record", 24) q_sm_14
end
