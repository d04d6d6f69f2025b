/-! ===== the heap of the small machine ===== -/
def q_at (h : q_H) (a : Nat) : Option q_C := if a < 64 then none else h.1[a - 64]?
theorem q_at_in {h : q_H} {a : Nat} {c : q_C} (e : q_at h a = some c) : a = 64 + (a - 64) ∧ h.1[a - 64]? = some c := by
  unfold q_at at e
  split at e
  · cases e
  · exact ⟨by omega, e⟩
def q_in (i : Int32) (n : Nat) : Bool := !(decide (i < 0)) && decide (i.toNatClampNeg < n)
theorem q_in_vp {i : Int32} {n : Nat} (h : q_in i n = true) : vp_in i n := by
  unfold q_in at h
  rw [Bool.and_eq_true] at h
  obtain ⟨h1, h2⟩ := h
  rintro (q | q)
  · rw [decide_eq_true q] at h1; cases h1
  · exact absurd (of_decide_eq_true h2) (Nat.not_lt.mpr q)
theorem q_in_of {i : Int32} {n : Nat} (h : vp_in i n) : q_in i n = true := by
  unfold q_in
  rw [decide_eq_false (fun q => h (Or.inl q)), decide_eq_true (Nat.not_le.mp fun q => h (Or.inr q))]
  rfl
def q_gf (nx ci k : Nat) (g : q_G) : Option q_G := match g.2.2.1 with
  | .ref a :: r => match q_at g.2.2.2 a with
    | some (.inr (cj, fs)) => if cj = ci then (match fs[k]? with
      | some v => some (nx, g.2.1, v :: r, g.2.2.2)
      | none => none) else none
    | _ => none
  | _ => none
def q_pf (nx ci k : Nat) (chk : Value → Bool) (g : q_G) : Option q_G := match g.2.2.1 with
  | v :: .ref a :: r => match q_at g.2.2.2 a with
    | some (.inr (cj, fs)) => if cj = ci ∧ k < fs.length ∧ chk v = true then some (nx, g.2.1, r, g.2.2.2.1.set (a - 64) (.inr (ci, fs.set k v)), g.2.2.2.2) else none
    | _ => none
  | _ => none
def q_ck (ty : FieldType) (chk : Value → Bool) : Prop := ∀ (v : Value) (α : Nat → Nat), chk v = true → narrow ty (q_v α v) = q_v α v ∧ fits ty (q_v α v) = true
def q_ck_i (v : Value) : Bool := match v with | .int _ => true | _ => false
def q_ck_l (v : Value) : Bool := match v with | .long _ => true | _ => false
def q_ck_z (v : Value) : Bool := match v with | .int x => decide (x = 0) || decide (x = 1) | _ => false
def q_ck_b (v : Value) : Bool := match v with | .int x => decide (x.toInt8.toInt32 = x) | _ => false
def q_ck_r (v : Value) : Bool := match v with | .ref _ => true | .null => true | _ => false
theorem q_ck_i_ok : q_ck .int q_ck_i := fun v α h => by cases v <;> first | exact ⟨rfl, rfl⟩ | cases h
theorem q_ck_l_ok : q_ck .long q_ck_l := fun v α h => by cases v <;> first | exact ⟨rfl, rfl⟩ | cases h
theorem q_ck_z_ok : q_ck .boolean q_ck_z := fun v α h => by
  cases v <;> first | cases h | skip
  rename_i x
  have h : (decide (x = 0) || decide (x = 1)) = true := h
  rcases Bool.or_eq_true_iff.mp h with h | h
  · rw [of_decide_eq_true h]; exact ⟨rfl, rfl⟩
  · rw [of_decide_eq_true h]; exact ⟨rfl, rfl⟩
theorem q_ck_b_ok : q_ck .byte q_ck_b := fun v α h => by
  cases v <;> first | cases h | skip
  rename_i x
  have h : decide (x.toInt8.toInt32 = x) = true := h
  have e := of_decide_eq_true h
  show narrow .byte (.int x) = .int x ∧ fits .byte (.int x) = true
  rw [← e]
  exact ⟨pk_nb x, pk_fb x⟩
theorem q_ck_o_ok (C : String) : q_ck (.object C) q_ck_r := fun v α h => by cases v <;> first | exact ⟨rfl, rfl⟩ | cases h
theorem q_ck_a_ok (t : FieldType) : q_ck (.array t) q_ck_r := fun v α h => by cases v <;> first | exact ⟨rfl, rfl⟩ | cases h
section QH
variable {WU : List Cond} {cl : List vw_C} {tyl : List FieldType} {GF : (Nat → Prop) → State → Heap → Prop} {τ : Nat → Nat} {own mname : String} {cc : ByteArray} {nL pc nx : Nat}
theorem q_getf {idx ci k N : Nat} {C : String} {T : u_T} (hdg : decode cc pc = .ok (.getfield idx, 3)) (hc : cl[ci]? = some (C, T, N)) (hin : ∀ w ∈ u_ws C T N, w ∈ WU) (hk : k < N) (hw : Cond.fieldLink own idx (T k).1 (T k).2.1 (T k).2.2.1 ∈ WU) (hx : nx = pc + 3) :
    q_J WU cl tyl GF τ own mname cc nL pc (q_gf nx ci k) := by
  intro g g' hpc hf hg
  obtain ⟨pc', L, st, h⟩ := g
  obtain rfl : pc' = pc := hpc
  unfold q_gf at hf
  dsimp only at hf
  split at hf
  · rename_i a r
    split at hf
    · rename_i cj fs e1
      split at hf
      · rename_i ecj
        split at hf
        · rename_i v ev
          cases hf; subst ecj
          obtain ⟨ea, e2⟩ := q_at_in e1
          have hv : q_ok h.1.length v := (show ∀ v ∈ fs, q_ok h.1.length v from hg.2.2 _ (List.mem_of_getElem? e2)) v (List.mem_of_getElem? ev)
          refine ⟨⟨⟨hg.1, q_okcons hv (q_ok1 hg.2.1), hg.2.2⟩, Nat.le_refl _, Nat.le_refl _, Nat.le_refl _⟩, ?_⟩
          intro p l e R s m args below meth c Q D cA A k0 n0 α hC hR1 hR2 hτ hk' hn kk H locs ls cells slots hP hD hS hl ek en
          have hw0 := q_w_get (cA := cA) (α := α) e2
          rw [← ea] at hw0
          subst hx
          exact va_get hC.1 hC.2.1 hC.2.2.2.2.1 hin hC.2.2.1 hC.2.2.2.2.2.1 hP _ hw0 hc k hk (hC.2.2.2.2.1 _ hw) (fun _ h9 => h9) (v := q_v α v) (by rw [List.getElem?_map, ev]; rfl) hdg (kk α q_ag.rf H locs ls cells slots hP hD hS hl ek en)
        · cases hf
      · cases hf
    · cases hf
  · cases hf

theorem q_putf {idx ci k N : Nat} {C : String} {T : u_T} {ty0 : Nat → FieldType} {ty : FieldType} {chk : Value → Bool} (hdg : decode cc pc = .ok (.putfield idx, 3)) (hc : cl[ci]? = some (C, T, N)) (hin : ∀ w ∈ u_ws C T N, w ∈ WU) (hty : ∀ k, k < N → parseFieldDescriptor (T k).2.2.1 = some (ty0 k)) (hnm : ∀ a, a < N → ∀ b, b < N → a ≠ b → (T a).2.1 ≠ (T b).2.1) (hk : k < N) (hw : Cond.fieldLink own idx (T k).1 (T k).2.1 (T k).2.2.1 ∈ WU) (hfin : (T k).2.2.2 = false) (hd : parseFieldDescriptor (T k).2.2.1 = some ty) (hck : q_ck ty chk) (hx : nx = pc + 3) :
    q_J WU cl tyl GF τ own mname cc nL pc (q_pf nx ci k chk) := by
  intro g g' hpc hf hg
  obtain ⟨pc', L, st, h⟩ := g
  obtain rfl : pc' = pc := hpc
  unfold q_pf at hf
  dsimp only at hf
  split at hf
  · rename_i v a r
    split at hf
    · rename_i cj fs e1
      split at hf
      · rename_i ecj
        cases hf
        obtain ⟨ecj, hlen, hv0⟩ := ecj
        subst ecj
        obtain ⟨ea, e2⟩ := q_at_in e1
        have hfs : ∀ v ∈ fs, q_ok h.1.length v := hg.2.2 _ (List.mem_of_getElem? e2)
        have hv : q_ok h.1.length v := q_ok0 hg.2.1
        have hcell : q_okc h.1.length (.inr (cj, fs.set k v)) := fun z hz => by
          rcases List.mem_or_eq_of_mem_set hz with h1 | h1
          · exact hfs z h1
          · rw [h1]; exact hv
        have hlen2 : (h.1.set (a - 64) (.inr (cj, fs.set k v) : q_C)).length = h.1.length := List.length_set
        refine ⟨⟨⟨?_, ?_, hg.2.2.set _ hcell⟩, by show _ ≤ (h.1.set _ _).length; rw [hlen2]; exact Nat.le_refl _, Nat.le_refl _, Nat.le_refl _⟩, ?_⟩
        · show ∀ q ∈ L, q_ok (h.1.set (a - 64) (.inr (cj, fs.set k v) : q_C)).length q.2
          rw [hlen2]; exact hg.1
        · show ∀ v' ∈ r, q_ok (h.1.set (a - 64) (.inr (cj, fs.set k v) : q_C)).length v'
          rw [hlen2]; exact q_ok2 hg.2.1
        intro p l e R s m args below meth c Q D cA A k0 n0 α hC hR1 hR2 hτ hk' hn kk H locs ls cells slots hP hD hS hl ek en
        have hw0 := q_w_get (cA := cA) (α := α) e2
        rw [← ea] at hw0
        subst hx
        obtain ⟨cn, cf⟩ := hck v α hv0
        have hset : (q_w cA α h.1).set (a - 64) (α a, .inr (cj, (fs.map (q_v α)).set k (q_v α v))) = q_w cA α (h.1.set (a - 64) (.inr (cj, fs.set k v))) := by
          rw [← q_w_set, ← ea]
          show _ = (q_w cA α h.1).set (a - 64) (α a, Sum.inr (cj, (fs.set k v).map (q_v α)))
          rw [List.map_set]
        refine va_put hC.1 hC.2.1 hC.2.2.2.2.1 hin ty0 hty hnm hC.2.2.1 hC.2.2.2.2.2.1 hP hD hS _ hw0 hc k hk (hC.2.2.2.2.1 _ hw) (fun _ h9 => h9) hfin hd cn cf (by rw [List.length_map]; exact hlen) hdg (fun H1 locs1 hP1 hD1 hS1 => ?_)
        rw [hset] at hP1 hD1
        exact kk α q_ag.rf H1 locs1 ls cells slots hP1 hD1 hS1 hl ek en
      · cases hf
    · cases hf
  · cases hf
theorem q_putfF {idx ci k N : Nat} {C : String} {T : u_T} {ty0 : Nat → FieldType} {ty : FieldType} {chk : Value → Bool} (hdg : decode cc pc = .ok (.putfield idx, 3)) (hc : cl[ci]? = some (C, T, N)) (hin : ∀ w ∈ u_ws C T N, w ∈ WU) (hty : ∀ k, k < N → parseFieldDescriptor (T k).2.2.1 = some (ty0 k)) (hnm : ∀ a, a < N → ∀ b, b < N → a ≠ b → (T a).2.1 ≠ (T b).2.1) (hk : k < N) (hw : Cond.fieldLink own idx (T k).1 (T k).2.1 (T k).2.2.1 ∈ WU) (hfin : (T k).2.2.2 = true) (hin2 : mname = "<init>") (hdecl : (T k).1 = own) (hd : parseFieldDescriptor (T k).2.2.1 = some ty) (hck : q_ck ty chk) (hx : nx = pc + 3) :
    q_J WU cl tyl GF τ own mname cc nL pc (q_pf nx ci k chk) := by
  intro g g' hpc hf hg
  obtain ⟨pc', L, st, h⟩ := g
  obtain rfl : pc' = pc := hpc
  unfold q_pf at hf
  dsimp only at hf
  split at hf
  · rename_i v a r
    split at hf
    · rename_i cj fs e1
      split at hf
      · rename_i ecj
        cases hf
        obtain ⟨ecj, hlen, hv0⟩ := ecj
        subst ecj
        obtain ⟨ea, e2⟩ := q_at_in e1
        have hfs : ∀ v ∈ fs, q_ok h.1.length v := hg.2.2 _ (List.mem_of_getElem? e2)
        have hv : q_ok h.1.length v := q_ok0 hg.2.1
        have hcell : q_okc h.1.length (.inr (cj, fs.set k v)) := fun z hz => by
          rcases List.mem_or_eq_of_mem_set hz with h1 | h1
          · exact hfs z h1
          · rw [h1]; exact hv
        have hlen2 : (h.1.set (a - 64) (.inr (cj, fs.set k v) : q_C)).length = h.1.length := List.length_set
        refine ⟨⟨⟨?_, ?_, hg.2.2.set _ hcell⟩, by show _ ≤ (h.1.set _ _).length; rw [hlen2]; exact Nat.le_refl _, Nat.le_refl _, Nat.le_refl _⟩, ?_⟩
        · show ∀ q ∈ L, q_ok (h.1.set (a - 64) (.inr (cj, fs.set k v) : q_C)).length q.2
          rw [hlen2]; exact hg.1
        · show ∀ v' ∈ r, q_ok (h.1.set (a - 64) (.inr (cj, fs.set k v) : q_C)).length v'
          rw [hlen2]; exact q_ok2 hg.2.1
        intro p l e R s m args below meth c Q D cA A k0 n0 α hC hR1 hR2 hτ hk' hn kk H locs ls cells slots hP hD hS hl ek en
        have hw0 := q_w_get (cA := cA) (α := α) e2
        rw [← ea] at hw0
        subst hx
        obtain ⟨cn, cf⟩ := hck v α hv0
        have hset : (q_w cA α h.1).set (a - 64) (α a, .inr (cj, (fs.map (q_v α)).set k (q_v α v))) = q_w cA α (h.1.set (a - 64) (.inr (cj, fs.set k v))) := by
          rw [← q_w_set, ← ea]
          show _ = (q_w cA α h.1).set (a - 64) (α a, Sum.inr (cj, (fs.set k v).map (q_v α)))
          rw [List.map_set]
        refine va_putF hC.1 hC.2.1 hC.2.2.2.2.1 hin ty0 hty hnm hC.2.2.1 hC.2.2.2.2.2.1 hP hD hS _ hw0 hc k hk (hC.2.2.2.2.1 _ hw) (fun _ h9 => h9) hfin (hC.2.2.2.2.2.2.2.2.2.2.trans hin2) hdecl hd cn cf (by rw [List.length_map]; exact hlen) hdg (fun H1 locs1 hP1 hD1 hS1 => ?_)
        rw [hset] at hP1 hD1
        exact kk α q_ag.rf H1 locs1 ls cells slots hP1 hD1 hS1 hl ek en
      · cases hf
    · cases hf
  · cases hf
/-- rows of ints (and bytes, chars, booleans): those outside by TB, those of the heap -/
def q_ar (TB : Nat → Option (Nat × Nat × (Nat → Int32))) (h : q_H) (a : Nat) : Option (Nat × Nat × (Nat → Int32)) := if a < 64 then TB a else match h.1[a - 64]? with
  | some (.inl (t, n, .inl f)) => some (t, n, f)
  | _ => none
theorem q_ar_out {TB : Nat → Option (Nat × Nat × (Nat → Int32))} {h : q_H} {a : Nat} {c : Nat × Nat × (Nat → Int32)} (e : q_ar TB h a = some c) : (a < 64 ∧ TB a = some c) ∨ (a = 64 + (a - 64) ∧ h.1[a - 64]? = some (.inl (c.1, c.2.1, .inl c.2.2))) := by
  unfold q_ar at e
  split at e
  · rename_i hl
    exact Or.inl ⟨hl, e⟩
  · rename_i hl
    split at e
    · rename_i t n f e2
      cases e
      exact Or.inr ⟨by omega, e2⟩
    · cases e
def q_ald (TB : Nat → Option (Nat × Nat × (Nat → Int32))) (nx t : Nat) (g : q_G) : Option (Bool × q_G × Option q_G) := match g.2.2.1 with
  | .int i :: .ref a :: r => match q_ar TB g.2.2.2 a with
    | some (u, n, f) => if u = t then some (q_in i n, (nx, g.2.1, .int (f i.toNatClampNeg) :: r, g.2.2.2), none) else none
    | none => none
  | _ => none
def q_ast (nx t : Nat) (nar : Int32 → Int32) (g : q_G) : Option (Bool × q_G × Option q_G) := match g.2.2.1 with
  | .int x :: .int i :: .ref a :: r => match q_at g.2.2.2 a with
    | some (.inl (u, n, .inl f)) => if u = t then some (q_in i n, (nx, g.2.1, r, g.2.2.2.1.set (a - 64) (.inl (t, n, .inl (upd f i.toNatClampNeg (nar x)))), g.2.2.2.2), none) else none
    | _ => none
  | _ => none
def q_lld (nx t : Nat) (g : q_G) : Option (Bool × q_G × Option q_G) := match g.2.2.1 with
  | .int i :: .ref a :: r => match q_at g.2.2.2 a with
    | some (.inl (u, n, .inr (.inl f))) => if u = t then some (q_in i n, (nx, g.2.1, .long (f i.toNatClampNeg) :: r, g.2.2.2), none) else none
    | _ => none
  | _ => none
def q_lst (nx t : Nat) (g : q_G) : Option (Bool × q_G × Option q_G) := match g.2.2.1 with
  | .long x :: .int i :: .ref a :: r => match q_at g.2.2.2 a with
    | some (.inl (u, n, .inr (.inl f))) => if u = t then some (q_in i n, (nx, g.2.1, r, g.2.2.2.1.set (a - 64) (.inl (t, n, .inr (.inl (vp_updL f i.toNatClampNeg x)))), g.2.2.2.2), none) else none
    | _ => none
  | _ => none
def q_qld (nx t : Nat) (g : q_G) : Option (Bool × q_G × Option q_G) := match g.2.2.1 with
  | .int i :: .ref a :: r => match q_at g.2.2.2 a with
    | some (.inl (u, n, .inr (.inr (.inr (.inr f))))) => if u = t then some (q_in i n, (nx, g.2.1, va_rf (f i.toNatClampNeg) :: r, g.2.2.2), none) else none
    | _ => none
  | _ => none
def q_qst (nx t ci : Nat) (g : q_G) : Option (Bool × q_G × Option q_G) := match g.2.2.1 with
  | .ref v :: .int i :: .ref a :: r => match q_at g.2.2.2 a, q_at g.2.2.2 v with
    | some (.inl (u, n, .inr (.inr (.inr (.inr f))))), some (.inr (cj, _)) => if u = t ∧ cj = ci then some (q_in i n, (nx, g.2.1, r, g.2.2.2.1.set (a - 64) (.inl (t, n, .inr (.inr (.inr (.inr (va_up f i.toNatClampNeg (some v))))))), g.2.2.2.2), none) else none
    | _, _ => none
  | _ => none
def q_aln (TB : Nat → Option (Nat × Nat × (Nat → Int32))) (nx t : Nat) (g : q_G) : Option q_G := match g.2.2.1 with
  | .ref a :: r => if a < 64 then (match TB a with
      | some (u, n, _) => if u = t then some (nx, g.2.1, .int (Int32.ofNat n) :: r, g.2.2.2) else none
      | none => none) else match g.2.2.2.1[a - 64]? with
      | some (.inl (u, n, _)) => if u = t then some (nx, g.2.1, .int (Int32.ofNat n) :: r, g.2.2.2) else none
      | _ => none
  | _ => none
def q_new (nx ci N : Nat) (fs : List Value) (g : q_G) : Option q_G := some (nx, g.2.1, .ref (64 + g.2.2.2.1.length) :: g.2.2.1, g.2.2.2.1 ++ [.inr (ci, fs)], g.2.2.2.2.1 + 1, g.2.2.2.2.2 + N)
def q_nwa (nx t : Nat) (z : (Nat → Int32) ⊕ (Nat → Int64) ⊕ (Nat → UInt32) ⊕ (Nat → UInt64) ⊕ (Nat → Option Nat)) (g : q_G) : Option (Bool × q_G × Option q_G) := match g.2.2.1 with
  | .int n :: r => some (!(decide (n < 0)) && decide (n.toNatClampNeg ≤ 1000000), (nx, g.2.1, .ref (64 + g.2.2.2.1.length) :: r, g.2.2.2.1 ++ [.inl (t, n.toNatClampNeg, z)], g.2.2.2.2.1 + 1, g.2.2.2.2.2 + n.toNatClampNeg), none)
  | _ => none
/-- what is outside: TB tells the rows of it -/
def q_TB (TB : Nat → Option (Nat × Nat × (Nat → Int32))) (tyl : List FieldType) (GF : (Nat → Prop) → State → Heap → Prop) (τ : Nat → Nat) : Prop :=
  ∀ (a t n : Nat) (f : Nat → Int32) (ty : FieldType) (A : Nat → Prop) (U : State) (H : Heap), TB a = some (t, n, f) → tyl[t]? = some ty → GF A U H → va_T ty (τ a) n (fun j => .int (f j)) A U H
section QA
variable {TB : Nat → Option (Nat × Nat × (Nat → Int32))}
theorem q_rs_ok {f : q_G → Option (Bool × q_G × Option q_G)} {g g' : q_G} (h : q_rs f g = some g') : ∃ t g1 g2, f g = some (t, g1, g2) ∧ ((t = true ∧ g' = g1) ∨ (t = false ∧ g2 = some g')) := by
  unfold q_rs at h
  split at h
  · cases h
  · rename_i t g1 g2 e
    split at h
    · cases h; exact ⟨_, _, _, e, Or.inl ⟨rfl, rfl⟩⟩
    · exact ⟨_, _, _, e, Or.inr ⟨rfl, h⟩⟩

theorem q_iaload {t : Nat} (hTB : q_TB TB tyl GF τ) (hdg : decode cc pc = .ok (.iaload, 1)) (ht : tyl[t]? = some .int) (hx : nx = pc + 1) : q_J WU cl tyl GF τ own mname cc nL pc (q_rs (q_ald TB nx t)) := by
  intro g g' hpc hf hg
  obtain ⟨pc', L, st, h⟩ := g
  obtain rfl : pc' = pc := hpc
  obtain ⟨b, g1, g2, ef, hb⟩ := q_rs_ok hf
  unfold q_ald at ef
  dsimp only at ef
  split at ef
  · rename_i i a r
    split at ef
    · rename_i u n f ea
      split at ef
      · rename_i eu
        cases ef; subst eu
        rcases hb with ⟨hb, rfl⟩ | ⟨-, hb⟩
        · have hin := q_in_vp hb
          refine ⟨⟨⟨hg.1, q_okcons (q_ok_int _ _) (q_ok2 hg.2.1), hg.2.2⟩, Nat.le_refl _, Nat.le_refl _, Nat.le_refl _⟩, ?_⟩
          intro p l e R s m args below meth c Q D cA A k0 n0 α hC hR1 hR2 hτ hk' hn kk H locs ls cells slots hP hD hS hl ek en
          subst hx
          rcases q_ar_out ea with ⟨hlt, eT⟩ | ⟨eq, e2⟩
          · have hT := hTB a _ n f _ A s s.heap eT ht hC.2.2.2.2.2.2.2.1
            rw [← hτ a hlt] at hT
            exact va_ti hC.1 hC.2.1 hT hS hin rfl hdg (kk α q_ag.rf H locs ls cells slots hP hD hS hl ek en)
          · have hw0 := q_w_get (cA := cA) (α := α) e2
            rw [← eq] at hw0
            exact va_iald hC.1 hC.2.1 hC.2.2.2.2.2.1 hP _ _ hw0 (q_T_at ht) hin hdg (kk α q_ag.rf H locs ls cells slots hP hD hS hl ek en)
        · cases hb
      · cases ef
    · cases ef
  · cases ef
theorem q_baload {t : Nat} (hTB : q_TB TB tyl GF τ) (hdg : decode cc pc = .ok (.baload, 1)) (ht : tyl[t]? = some .byte) (hx : nx = pc + 1) : q_J WU cl tyl GF τ own mname cc nL pc (q_rs (q_ald TB nx t)) := by
  intro g g' hpc hf hg
  obtain ⟨pc', L, st, h⟩ := g
  obtain rfl : pc' = pc := hpc
  obtain ⟨b, g1, g2, ef, hb⟩ := q_rs_ok hf
  unfold q_ald at ef
  dsimp only at ef
  split at ef
  · rename_i i a r
    split at ef
    · rename_i u n f ea
      split at ef
      · rename_i eu
        cases ef; subst eu
        rcases hb with ⟨hb, rfl⟩ | ⟨-, hb⟩
        · have hin := q_in_vp hb
          refine ⟨⟨⟨hg.1, q_okcons (q_ok_int _ _) (q_ok2 hg.2.1), hg.2.2⟩, Nat.le_refl _, Nat.le_refl _, Nat.le_refl _⟩, ?_⟩
          intro p l e R s m args below meth c Q D cA A k0 n0 α hC hR1 hR2 hτ hk' hn kk H locs ls cells slots hP hD hS hl ek en
          subst hx
          rcases q_ar_out ea with ⟨hlt, eT⟩ | ⟨eq, e2⟩
          · have hT := hTB a _ n f _ A s s.heap eT ht hC.2.2.2.2.2.2.2.1
            rw [← hτ a hlt] at hT
            exact va_tb hC.1 hC.2.1 hT hS hin rfl hdg (kk α q_ag.rf H locs ls cells slots hP hD hS hl ek en)
          · have hw0 := q_w_get (cA := cA) (α := α) e2
            rw [← eq] at hw0
            exact va_bald hC.1 hC.2.1 hC.2.2.2.2.2.1 hP _ _ hw0 (q_T_at ht) hin hdg (kk α q_ag.rf H locs ls cells slots hP hD hS hl ek en)
        · cases hb
      · cases ef
    · cases ef
  · cases ef
theorem q_zaload {t : Nat} (hTB : q_TB TB tyl GF τ) (hdg : decode cc pc = .ok (.baload, 1)) (ht : tyl[t]? = some .boolean) (hx : nx = pc + 1) : q_J WU cl tyl GF τ own mname cc nL pc (q_rs (q_ald TB nx t)) := by
  intro g g' hpc hf hg
  obtain ⟨pc', L, st, h⟩ := g
  obtain rfl : pc' = pc := hpc
  obtain ⟨b, g1, g2, ef, hb⟩ := q_rs_ok hf
  unfold q_ald at ef
  dsimp only at ef
  split at ef
  · rename_i i a r
    split at ef
    · rename_i u n f ea
      split at ef
      · rename_i eu
        cases ef; subst eu
        rcases hb with ⟨hb, rfl⟩ | ⟨-, hb⟩
        · have hin := q_in_vp hb
          refine ⟨⟨⟨hg.1, q_okcons (q_ok_int _ _) (q_ok2 hg.2.1), hg.2.2⟩, Nat.le_refl _, Nat.le_refl _, Nat.le_refl _⟩, ?_⟩
          intro p l e R s m args below meth c Q D cA A k0 n0 α hC hR1 hR2 hτ hk' hn kk H locs ls cells slots hP hD hS hl ek en
          subst hx
          rcases q_ar_out ea with ⟨hlt, eT⟩ | ⟨eq, e2⟩
          · have hT := hTB a _ n f _ A s s.heap eT ht hC.2.2.2.2.2.2.2.1
            rw [← hτ a hlt] at hT
            exact va_tz hC.1 hC.2.1 hT hS hin rfl hdg (kk α q_ag.rf H locs ls cells slots hP hD hS hl ek en)
          · have hw0 := q_w_get (cA := cA) (α := α) e2
            rw [← eq] at hw0
            exact va_zald hC.1 hC.2.1 hC.2.2.2.2.2.1 hP _ _ hw0 (q_T_at ht) hin hdg (kk α q_ag.rf H locs ls cells slots hP hD hS hl ek en)
        · cases hb
      · cases ef
    · cases ef
  · cases ef
theorem q_caload {t : Nat} (hTB : q_TB TB tyl GF τ) (hdg : decode cc pc = .ok (.caload, 1)) (ht : tyl[t]? = some .char) (hx : nx = pc + 1) : q_J WU cl tyl GF τ own mname cc nL pc (q_rs (q_ald TB nx t)) := by
  intro g g' hpc hf hg
  obtain ⟨pc', L, st, h⟩ := g
  obtain rfl : pc' = pc := hpc
  obtain ⟨b, g1, g2, ef, hb⟩ := q_rs_ok hf
  unfold q_ald at ef
  dsimp only at ef
  split at ef
  · rename_i i a r
    split at ef
    · rename_i u n f ea
      split at ef
      · rename_i eu
        cases ef; subst eu
        rcases hb with ⟨hb, rfl⟩ | ⟨-, hb⟩
        · have hin := q_in_vp hb
          refine ⟨⟨⟨hg.1, q_okcons (q_ok_int _ _) (q_ok2 hg.2.1), hg.2.2⟩, Nat.le_refl _, Nat.le_refl _, Nat.le_refl _⟩, ?_⟩
          intro p l e R s m args below meth c Q D cA A k0 n0 α hC hR1 hR2 hτ hk' hn kk H locs ls cells slots hP hD hS hl ek en
          subst hx
          rcases q_ar_out ea with ⟨hlt, eT⟩ | ⟨eq, e2⟩
          · have hT := hTB a _ n f _ A s s.heap eT ht hC.2.2.2.2.2.2.2.1
            rw [← hτ a hlt] at hT
            exact va_tc hC.1 hC.2.1 hT hS hin rfl hdg (kk α q_ag.rf H locs ls cells slots hP hD hS hl ek en)
          · have hw0 := q_w_get (cA := cA) (α := α) e2
            rw [← eq] at hw0
            exact va_cald hC.1 hC.2.1 hC.2.2.2.2.2.1 hP _ _ hw0 (q_T_at ht) hin hdg (kk α q_ag.rf H locs ls cells slots hP hD hS hl ek en)
        · cases hb
      · cases ef
    · cases ef
  · cases ef
theorem q_iastore {t : Nat} (hdg : decode cc pc = .ok (.iastore, 1)) (ht : tyl[t]? = some .int) (hx : nx = pc + 1) : q_J WU cl tyl GF τ own mname cc nL pc (q_rs (q_ast nx t fun x => x)) := by
  intro g g' hpc hf hg
  obtain ⟨pc', L, st, h⟩ := g
  obtain rfl : pc' = pc := hpc
  obtain ⟨b, g1, g2, ef, hb⟩ := q_rs_ok hf
  unfold q_ast at ef
  dsimp only at ef
  split at ef
  · rename_i x i a r
    split at ef
    · rename_i u n f e1
      split at ef
      · rename_i eu
        cases ef; subst eu
        rcases hb with ⟨hb, rfl⟩ | ⟨-, hb⟩
        · have hin := q_in_vp hb
          obtain ⟨ea, e2⟩ := q_at_in e1
          have hcell : q_okc h.1.length (.inl (u, n, .inl (upd f i.toNatClampNeg x)) : q_C) := trivial
          have hlen2 : (h.1.set (a - 64) (.inl (u, n, .inl (upd f i.toNatClampNeg x)) : q_C)).length = h.1.length := List.length_set
          refine ⟨⟨⟨?_, ?_, hg.2.2.set _ hcell⟩, by show _ ≤ (h.1.set _ _).length; rw [List.length_set]; exact Nat.le_refl _, Nat.le_refl _, Nat.le_refl _⟩, ?_⟩
          · show ∀ q ∈ L, q_ok (h.1.set (a - 64) (.inl (u, n, .inl (upd f i.toNatClampNeg x)) : q_C)).length q.2
            rw [hlen2]; exact hg.1
          · show ∀ v' ∈ r, q_ok (h.1.set (a - 64) (.inl (u, n, .inl (upd f i.toNatClampNeg x)) : q_C)).length v'
            rw [hlen2]; exact q_ok1 (q_ok2 hg.2.1)
          intro p l e R s m args below meth c Q D cA A k0 n0 α hC hR1 hR2 hτ hk' hn kk H locs ls cells slots hP hD hS hl ek en
          have hw0 := q_w_get (cA := cA) (α := α) e2
          rw [← ea] at hw0
          subst hx
          have hset : (q_w cA α h.1).set (a - 64) (α a, q_e cA α (.inl (u, n, .inl (upd f i.toNatClampNeg x)) : q_C)) = q_w cA α (h.1.set (a - 64) (.inl (u, n, .inl (upd f i.toNatClampNeg x)) : q_C)) := by
            rw [← q_w_set, ← ea]
          refine va_iast hC.1 hC.2.1 hC.2.2.2.2.2.1 hP hD hS _ _ hw0 (q_T_at ht) hin hdg (fun H1 locs1 hP1 hD1 hS1 => ?_)
          have hP2 : va_P D cl ((q_w cA α h.1).set (a - 64) (α a, q_e cA α (.inl (u, n, .inl (upd f i.toNatClampNeg x)) : q_C))) H1 := hP1
          have hD2 : va_D A ((q_w cA α h.1).set (a - 64) (α a, q_e cA α (.inl (u, n, .inl (upd f i.toNatClampNeg x)) : q_C))) := hD1
          rw [hset] at hP2 hD2
          exact kk α q_ag.rf H1 locs1 ls cells slots hP2 hD2 hS1 hl ek en
        · cases hb
      · cases ef
    · cases ef
  · cases ef
theorem q_bastore {t : Nat} (hdg : decode cc pc = .ok (.bastore, 1)) (ht : tyl[t]? = some .byte) (hx : nx = pc + 1) : q_J WU cl tyl GF τ own mname cc nL pc (q_rs (q_ast nx t (vp_nar .byte))) := by
  intro g g' hpc hf hg
  obtain ⟨pc', L, st, h⟩ := g
  obtain rfl : pc' = pc := hpc
  obtain ⟨b, g1, g2, ef, hb⟩ := q_rs_ok hf
  unfold q_ast at ef
  dsimp only at ef
  split at ef
  · rename_i x i a r
    split at ef
    · rename_i u n f e1
      split at ef
      · rename_i eu
        cases ef; subst eu
        rcases hb with ⟨hb, rfl⟩ | ⟨-, hb⟩
        · have hin := q_in_vp hb
          obtain ⟨ea, e2⟩ := q_at_in e1
          have hcell : q_okc h.1.length (.inl (u, n, .inl (upd f i.toNatClampNeg (vp_nar .byte x))) : q_C) := trivial
          have hlen2 : (h.1.set (a - 64) (.inl (u, n, .inl (upd f i.toNatClampNeg (vp_nar .byte x))) : q_C)).length = h.1.length := List.length_set
          refine ⟨⟨⟨?_, ?_, hg.2.2.set _ hcell⟩, by show _ ≤ (h.1.set _ _).length; rw [List.length_set]; exact Nat.le_refl _, Nat.le_refl _, Nat.le_refl _⟩, ?_⟩
          · show ∀ q ∈ L, q_ok (h.1.set (a - 64) (.inl (u, n, .inl (upd f i.toNatClampNeg (vp_nar .byte x))) : q_C)).length q.2
            rw [hlen2]; exact hg.1
          · show ∀ v' ∈ r, q_ok (h.1.set (a - 64) (.inl (u, n, .inl (upd f i.toNatClampNeg (vp_nar .byte x))) : q_C)).length v'
            rw [hlen2]; exact q_ok1 (q_ok2 hg.2.1)
          intro p l e R s m args below meth c Q D cA A k0 n0 α hC hR1 hR2 hτ hk' hn kk H locs ls cells slots hP hD hS hl ek en
          have hw0 := q_w_get (cA := cA) (α := α) e2
          rw [← ea] at hw0
          subst hx
          have hset : (q_w cA α h.1).set (a - 64) (α a, q_e cA α (.inl (u, n, .inl (upd f i.toNatClampNeg (vp_nar .byte x))) : q_C)) = q_w cA α (h.1.set (a - 64) (.inl (u, n, .inl (upd f i.toNatClampNeg (vp_nar .byte x))) : q_C)) := by
            rw [← q_w_set, ← ea]
          refine va_bast hC.1 hC.2.1 hC.2.2.2.2.2.1 hP hD hS _ _ hw0 (q_T_at ht) hin hdg (fun H1 locs1 hP1 hD1 hS1 => ?_)
          have hP2 : va_P D cl ((q_w cA α h.1).set (a - 64) (α a, q_e cA α (.inl (u, n, .inl (upd f i.toNatClampNeg (vp_nar .byte x))) : q_C))) H1 := hP1
          have hD2 : va_D A ((q_w cA α h.1).set (a - 64) (α a, q_e cA α (.inl (u, n, .inl (upd f i.toNatClampNeg (vp_nar .byte x))) : q_C))) := hD1
          rw [hset] at hP2 hD2
          exact kk α q_ag.rf H1 locs1 ls cells slots hP2 hD2 hS1 hl ek en
        · cases hb
      · cases ef
    · cases ef
  · cases ef
theorem q_zastore {t : Nat} (hdg : decode cc pc = .ok (.bastore, 1)) (ht : tyl[t]? = some .boolean) (hx : nx = pc + 1) : q_J WU cl tyl GF τ own mname cc nL pc (q_rs (q_ast nx t (vp_nar .boolean))) := by
  intro g g' hpc hf hg
  obtain ⟨pc', L, st, h⟩ := g
  obtain rfl : pc' = pc := hpc
  obtain ⟨b, g1, g2, ef, hb⟩ := q_rs_ok hf
  unfold q_ast at ef
  dsimp only at ef
  split at ef
  · rename_i x i a r
    split at ef
    · rename_i u n f e1
      split at ef
      · rename_i eu
        cases ef; subst eu
        rcases hb with ⟨hb, rfl⟩ | ⟨-, hb⟩
        · have hin := q_in_vp hb
          obtain ⟨ea, e2⟩ := q_at_in e1
          have hcell : q_okc h.1.length (.inl (u, n, .inl (upd f i.toNatClampNeg (vp_nar .boolean x))) : q_C) := trivial
          have hlen2 : (h.1.set (a - 64) (.inl (u, n, .inl (upd f i.toNatClampNeg (vp_nar .boolean x))) : q_C)).length = h.1.length := List.length_set
          refine ⟨⟨⟨?_, ?_, hg.2.2.set _ hcell⟩, by show _ ≤ (h.1.set _ _).length; rw [List.length_set]; exact Nat.le_refl _, Nat.le_refl _, Nat.le_refl _⟩, ?_⟩
          · show ∀ q ∈ L, q_ok (h.1.set (a - 64) (.inl (u, n, .inl (upd f i.toNatClampNeg (vp_nar .boolean x))) : q_C)).length q.2
            rw [hlen2]; exact hg.1
          · show ∀ v' ∈ r, q_ok (h.1.set (a - 64) (.inl (u, n, .inl (upd f i.toNatClampNeg (vp_nar .boolean x))) : q_C)).length v'
            rw [hlen2]; exact q_ok1 (q_ok2 hg.2.1)
          intro p l e R s m args below meth c Q D cA A k0 n0 α hC hR1 hR2 hτ hk' hn kk H locs ls cells slots hP hD hS hl ek en
          have hw0 := q_w_get (cA := cA) (α := α) e2
          rw [← ea] at hw0
          subst hx
          have hset : (q_w cA α h.1).set (a - 64) (α a, q_e cA α (.inl (u, n, .inl (upd f i.toNatClampNeg (vp_nar .boolean x))) : q_C)) = q_w cA α (h.1.set (a - 64) (.inl (u, n, .inl (upd f i.toNatClampNeg (vp_nar .boolean x))) : q_C)) := by
            rw [← q_w_set, ← ea]
          refine va_zast hC.1 hC.2.1 hC.2.2.2.2.2.1 hP hD hS _ _ hw0 (q_T_at ht) hin hdg (fun H1 locs1 hP1 hD1 hS1 => ?_)
          have hP2 : va_P D cl ((q_w cA α h.1).set (a - 64) (α a, q_e cA α (.inl (u, n, .inl (upd f i.toNatClampNeg (vp_nar .boolean x))) : q_C))) H1 := hP1
          have hD2 : va_D A ((q_w cA α h.1).set (a - 64) (α a, q_e cA α (.inl (u, n, .inl (upd f i.toNatClampNeg (vp_nar .boolean x))) : q_C))) := hD1
          rw [hset] at hP2 hD2
          exact kk α q_ag.rf H1 locs1 ls cells slots hP2 hD2 hS1 hl ek en
        · cases hb
      · cases ef
    · cases ef
  · cases ef
theorem q_castore {t : Nat} (hdg : decode cc pc = .ok (.castore, 1)) (ht : tyl[t]? = some .char) (hx : nx = pc + 1) : q_J WU cl tyl GF τ own mname cc nL pc (q_rs (q_ast nx t (vp_nar .char))) := by
  intro g g' hpc hf hg
  obtain ⟨pc', L, st, h⟩ := g
  obtain rfl : pc' = pc := hpc
  obtain ⟨b, g1, g2, ef, hb⟩ := q_rs_ok hf
  unfold q_ast at ef
  dsimp only at ef
  split at ef
  · rename_i x i a r
    split at ef
    · rename_i u n f e1
      split at ef
      · rename_i eu
        cases ef; subst eu
        rcases hb with ⟨hb, rfl⟩ | ⟨-, hb⟩
        · have hin := q_in_vp hb
          obtain ⟨ea, e2⟩ := q_at_in e1
          have hcell : q_okc h.1.length (.inl (u, n, .inl (upd f i.toNatClampNeg (vp_nar .char x))) : q_C) := trivial
          have hlen2 : (h.1.set (a - 64) (.inl (u, n, .inl (upd f i.toNatClampNeg (vp_nar .char x))) : q_C)).length = h.1.length := List.length_set
          refine ⟨⟨⟨?_, ?_, hg.2.2.set _ hcell⟩, by show _ ≤ (h.1.set _ _).length; rw [List.length_set]; exact Nat.le_refl _, Nat.le_refl _, Nat.le_refl _⟩, ?_⟩
          · show ∀ q ∈ L, q_ok (h.1.set (a - 64) (.inl (u, n, .inl (upd f i.toNatClampNeg (vp_nar .char x))) : q_C)).length q.2
            rw [hlen2]; exact hg.1
          · show ∀ v' ∈ r, q_ok (h.1.set (a - 64) (.inl (u, n, .inl (upd f i.toNatClampNeg (vp_nar .char x))) : q_C)).length v'
            rw [hlen2]; exact q_ok1 (q_ok2 hg.2.1)
          intro p l e R s m args below meth c Q D cA A k0 n0 α hC hR1 hR2 hτ hk' hn kk H locs ls cells slots hP hD hS hl ek en
          have hw0 := q_w_get (cA := cA) (α := α) e2
          rw [← ea] at hw0
          subst hx
          have hset : (q_w cA α h.1).set (a - 64) (α a, q_e cA α (.inl (u, n, .inl (upd f i.toNatClampNeg (vp_nar .char x))) : q_C)) = q_w cA α (h.1.set (a - 64) (.inl (u, n, .inl (upd f i.toNatClampNeg (vp_nar .char x))) : q_C)) := by
            rw [← q_w_set, ← ea]
          refine va_cast hC.1 hC.2.1 hC.2.2.2.2.2.1 hP hD hS _ _ hw0 (q_T_at ht) hin hdg (fun H1 locs1 hP1 hD1 hS1 => ?_)
          have hP2 : va_P D cl ((q_w cA α h.1).set (a - 64) (α a, q_e cA α (.inl (u, n, .inl (upd f i.toNatClampNeg (vp_nar .char x))) : q_C))) H1 := hP1
          have hD2 : va_D A ((q_w cA α h.1).set (a - 64) (α a, q_e cA α (.inl (u, n, .inl (upd f i.toNatClampNeg (vp_nar .char x))) : q_C))) := hD1
          rw [hset] at hP2 hD2
          exact kk α q_ag.rf H1 locs1 ls cells slots hP2 hD2 hS1 hl ek en
        · cases hb
      · cases ef
    · cases ef
  · cases ef
theorem q_lastore {t : Nat} (hdg : decode cc pc = .ok (.lastore, 1)) (ht : tyl[t]? = some .long) (hx : nx = pc + 1) : q_J WU cl tyl GF τ own mname cc nL pc (q_rs (q_lst nx t)) := by
  intro g g' hpc hf hg
  obtain ⟨pc', L, st, h⟩ := g
  obtain rfl : pc' = pc := hpc
  obtain ⟨b, g1, g2, ef, hb⟩ := q_rs_ok hf
  unfold q_lst at ef
  dsimp only at ef
  split at ef
  · rename_i x i a r
    split at ef
    · rename_i u n f e1
      split at ef
      · rename_i eu
        cases ef; subst eu
        rcases hb with ⟨hb, rfl⟩ | ⟨-, hb⟩
        · have hin := q_in_vp hb
          obtain ⟨ea, e2⟩ := q_at_in e1
          have hcell : q_okc h.1.length (.inl (u, n, .inr (.inl (vp_updL f i.toNatClampNeg x))) : q_C) := trivial
          have hlen2 : (h.1.set (a - 64) (.inl (u, n, .inr (.inl (vp_updL f i.toNatClampNeg x))) : q_C)).length = h.1.length := List.length_set
          refine ⟨⟨⟨?_, ?_, hg.2.2.set _ hcell⟩, by show _ ≤ (h.1.set _ _).length; rw [List.length_set]; exact Nat.le_refl _, Nat.le_refl _, Nat.le_refl _⟩, ?_⟩
          · show ∀ q ∈ L, q_ok (h.1.set (a - 64) (.inl (u, n, .inr (.inl (vp_updL f i.toNatClampNeg x))) : q_C)).length q.2
            rw [hlen2]; exact hg.1
          · show ∀ v' ∈ r, q_ok (h.1.set (a - 64) (.inl (u, n, .inr (.inl (vp_updL f i.toNatClampNeg x))) : q_C)).length v'
            rw [hlen2]; exact q_ok1 (q_ok2 hg.2.1)
          intro p l e R s m args below meth c Q D cA A k0 n0 α hC hR1 hR2 hτ hk' hn kk H locs ls cells slots hP hD hS hl ek en
          have hw0 := q_w_get (cA := cA) (α := α) e2
          rw [← ea] at hw0
          subst hx
          have hset : (q_w cA α h.1).set (a - 64) (α a, q_e cA α (.inl (u, n, .inr (.inl (vp_updL f i.toNatClampNeg x))) : q_C)) = q_w cA α (h.1.set (a - 64) (.inl (u, n, .inr (.inl (vp_updL f i.toNatClampNeg x))) : q_C)) := by
            rw [← q_w_set, ← ea]
          refine va_last hC.1 hC.2.1 hC.2.2.2.2.2.1 hP hD hS _ _ hw0 (q_T_at ht) hin hdg (fun H1 locs1 hP1 hD1 hS1 => ?_)
          have hP2 : va_P D cl ((q_w cA α h.1).set (a - 64) (α a, q_e cA α (.inl (u, n, .inr (.inl (vp_updL f i.toNatClampNeg x))) : q_C))) H1 := hP1
          have hD2 : va_D A ((q_w cA α h.1).set (a - 64) (α a, q_e cA α (.inl (u, n, .inr (.inl (vp_updL f i.toNatClampNeg x))) : q_C))) := hD1
          rw [hset] at hP2 hD2
          exact kk α q_ag.rf H1 locs1 ls cells slots hP2 hD2 hS1 hl ek en
        · cases hb
      · cases ef
    · cases ef
  · cases ef
theorem q_laload {t : Nat} (hdg : decode cc pc = .ok (.laload, 1)) (ht : tyl[t]? = some .long) (hx : nx = pc + 1) : q_J WU cl tyl GF τ own mname cc nL pc (q_rs (q_lld nx t)) := by
  intro g g' hpc hf hg
  obtain ⟨pc', L, st, h⟩ := g
  obtain rfl : pc' = pc := hpc
  obtain ⟨b, g1, g2, ef, hb⟩ := q_rs_ok hf
  unfold q_lld at ef
  dsimp only at ef
  split at ef
  · rename_i i a r
    split at ef
    · rename_i u n f e1
      split at ef
      · rename_i eu
        cases ef; subst eu
        rcases hb with ⟨hb, rfl⟩ | ⟨-, hb⟩
        · have hin := q_in_vp hb
          obtain ⟨ea, e2⟩ := q_at_in e1
          refine ⟨⟨⟨hg.1, q_okcons (q_ok_long _ _) (q_ok2 hg.2.1), hg.2.2⟩, Nat.le_refl _, Nat.le_refl _, Nat.le_refl _⟩, ?_⟩
          intro p l e R s m args below meth c Q D cA A k0 n0 α hC hR1 hR2 hτ hk' hn kk H locs ls cells slots hP hD hS hl ek en
          have hw0 := q_w_get (cA := cA) (α := α) e2
          rw [← ea] at hw0
          subst hx
          exact va_lald hC.1 hC.2.1 hC.2.2.2.2.2.1 hP _ _ hw0 (q_T_at ht) hin hdg (kk α q_ag.rf H locs ls cells slots hP hD hS hl ek en)
        · cases hb
      · cases ef
    · cases ef
  · cases ef
theorem q_rf_v (α : Nat → Nat) (o : Option Nat) : va_rf (o.map α) = q_v α (va_rf o) := by cases o <;> rfl
theorem q_aaload {t : Nat} {C : String} (hdg : decode cc pc = .ok (.aaload, 1)) (ht : tyl[t]? = some (.object C)) (hx : nx = pc + 1) : q_J WU cl tyl GF τ own mname cc nL pc (q_rs (q_qld nx t)) := by
  intro g g' hpc hf hg
  obtain ⟨pc', L, st, h⟩ := g
  obtain rfl : pc' = pc := hpc
  obtain ⟨b, g1, g2, ef, hb⟩ := q_rs_ok hf
  unfold q_qld at ef
  dsimp only at ef
  split at ef
  · rename_i i a r
    split at ef
    · rename_i u n f e1
      split at ef
      · rename_i eu
        cases ef; subst eu
        rcases hb with ⟨hb, rfl⟩ | ⟨-, hb⟩
        · have hin := q_in_vp hb
          obtain ⟨ea, e2⟩ := q_at_in e1
          have hf2 : ∀ j a, f j = some a → a < 64 + h.1.length := hg.2.2 _ (List.mem_of_getElem? e2)
          have hv : q_ok h.1.length (va_rf (f i.toNatClampNeg)) := by
            cases hj : f i.toNatClampNeg with
            | none => exact q_ok_null _
            | some b => exact fun b2 hb2 => by cases hb2; exact hf2 _ _ hj
          refine ⟨⟨⟨hg.1, q_okcons hv (q_ok2 hg.2.1), hg.2.2⟩, Nat.le_refl _, Nat.le_refl _, Nat.le_refl _⟩, ?_⟩
          intro p l e R s m args below meth c Q D cA A k0 n0 α hC hR1 hR2 hτ hk' hn kk H locs ls cells slots hP hD hS hl ek en
          have hw0 := q_w_get (cA := cA) (α := α) e2
          rw [← ea] at hw0
          subst hx
          have k2 := kk α q_ag.rf H locs ls cells slots hP hD hS hl ek en
          dsimp only at k2
          rw [List.map_cons, ← q_rf_v] at k2
          exact va_aldq hC.1 hC.2.1 hC.2.2.2.2.2.1 hP _ _ hw0 (q_T_at ht) hin hdg k2
        · cases hb
      · cases ef
    · cases ef
  · cases ef
theorem q_aastore {t ci : Nat} {r : vw_C} (hdg : decode cc pc = .ok (.aastore, 1)) (ht : tyl[t]? = some (.object r.1)) (hc : cl[ci]? = some r) (hx : nx = pc + 1) : q_J WU cl tyl GF τ own mname cc nL pc (q_rs (q_qst nx t ci)) := by
  intro g g' hpc hf hg
  obtain ⟨pc', L, st, h⟩ := g
  obtain rfl : pc' = pc := hpc
  obtain ⟨b, g1, g2, ef, hb⟩ := q_rs_ok hf
  unfold q_qst at ef
  dsimp only at ef
  split at ef
  · rename_i v i a r'
    split at ef
    · rename_i u n f cj fs e1 e3
      split at ef
      · rename_i eu
        cases ef
        obtain ⟨rfl, rfl⟩ := eu
        rcases hb with ⟨hb, rfl⟩ | ⟨-, hb⟩
        · have hin := q_in_vp hb
          obtain ⟨ea, e2⟩ := q_at_in e1
          obtain ⟨ev, e4⟩ := q_at_in e3
          have hf2 : ∀ j a, f j = some a → a < 64 + h.1.length := hg.2.2 _ (List.mem_of_getElem? e2)
          have hv : v < 64 + h.1.length := q_ok0 hg.2.1 v rfl
          have hcell : q_okc h.1.length (.inl (u, n, .inr (.inr (.inr (.inr (va_up f i.toNatClampNeg (some v)))))) : q_C) := fun j b hj => by
            unfold va_up at hj
            split at hj
            · cases hj; exact hv
            · exact hf2 _ _ hj
          have hlen2 : (h.1.set (a - 64) (.inl (u, n, .inr (.inr (.inr (.inr (va_up f i.toNatClampNeg (some v)))))) : q_C)).length = h.1.length := List.length_set
          refine ⟨⟨⟨?_, ?_, hg.2.2.set _ hcell⟩, by show _ ≤ (h.1.set _ _).length; rw [List.length_set]; exact Nat.le_refl _, Nat.le_refl _, Nat.le_refl _⟩, ?_⟩
          · show ∀ q ∈ L, q_ok (h.1.set (a - 64) (.inl (u, n, .inr (.inr (.inr (.inr (va_up f i.toNatClampNeg (some v)))))) : q_C)).length q.2
            rw [hlen2]; exact hg.1
          · show ∀ v' ∈ r', q_ok (h.1.set (a - 64) (.inl (u, n, .inr (.inr (.inr (.inr (va_up f i.toNatClampNeg (some v)))))) : q_C)).length v'
            rw [hlen2]; exact q_ok1 (q_ok2 hg.2.1)
          intro p l e R s m args below meth c Q D cA A k0 n0 α hC hR1 hR2 hτ hk' hn kk H locs ls cells slots hP hD hS hl ek en
          have hw0 := q_w_get (cA := cA) (α := α) e2
          rw [← ea] at hw0
          have hw1 := q_w_get (cA := cA) (α := α) e4
          rw [← ev] at hw1
          subst hx
          have hset : (q_w cA α h.1).set (a - 64) (α a, q_e cA α (.inl (u, n, .inr (.inr (.inr (.inr (va_up f i.toNatClampNeg (some v)))))) : q_C)) = q_w cA α (h.1.set (a - 64) (.inl (u, n, .inr (.inr (.inr (.inr (va_up f i.toNatClampNeg (some v)))))) : q_C)) := by
            rw [← q_w_set, ← ea]
          have hup : (fun j => (va_up f i.toNatClampNeg (some v) j).map α) = va_up (fun j => (f j).map α) i.toNatClampNeg (some (α v)) := by
            funext j
            unfold va_up
            split <;> rfl
          refine va_astq hC.1 hC.2.1 hC.2.2.2.2.2.1 hP hD hS _ _ _ _ hw0 (q_T_at ht) hw1 hc hin hdg (fun H1 locs1 hP1 hD1 hS1 => ?_)
          rw [← hup] at hP1 hD1
          have hP2 : va_P D cl ((q_w cA α h.1).set (a - 64) (α a, q_e cA α (.inl (u, n, .inr (.inr (.inr (.inr (va_up f i.toNatClampNeg (some v)))))) : q_C))) H1 := hP1
          have hD2 : va_D A ((q_w cA α h.1).set (a - 64) (α a, q_e cA α (.inl (u, n, .inr (.inr (.inr (.inr (va_up f i.toNatClampNeg (some v)))))) : q_C))) := hD1
          rw [hset] at hP2 hD2
          exact kk α q_ag.rf H1 locs1 ls cells slots hP2 hD2 hS1 hl ek en
        · cases hb
      · cases ef
    · cases ef
  · cases ef
theorem q_arraylength {t : Nat} {ty : FieldType} (hTB : q_TB TB tyl GF τ) (ht : tyl[t]? = some ty) (hdg : decode cc pc = .ok (.arraylength, 1)) (hx : nx = pc + 1) : q_J WU cl tyl GF τ own mname cc nL pc (q_aln TB nx t) := by
  intro g g' hpc hf hg
  obtain ⟨pc', L, st, h⟩ := g
  obtain rfl : pc' = pc := hpc
  unfold q_aln at hf
  dsimp only at hf
  split at hf
  · rename_i a r
    split at hf
    · rename_i hlt
      split at hf
      · rename_i u n f eT
        split at hf
        · rename_i eu
          cases hf; subst eu
          refine ⟨⟨⟨hg.1, q_okcons (q_ok_int _ _) (q_ok1 hg.2.1), hg.2.2⟩, Nat.le_refl _, Nat.le_refl _, Nat.le_refl _⟩, ?_⟩
          intro p l e R s m args below meth c Q D cA A k0 n0 α hC hR1 hR2 hτ hk' hn kk H locs ls cells slots hP hD hS hl ek en
          subst hx
          have hT := hTB a _ n f _ A s s.heap eT ht hC.2.2.2.2.2.2.2.1
          rw [← hτ a hlt] at hT
          exact va_tlen hC.1 hC.2.1 hT hS rfl hdg (kk α q_ag.rf H locs ls cells slots hP hD hS hl ek en)
        · cases hf
      · cases hf
    · rename_i hlt
      split at hf
      · rename_i u n x e2
        split at hf
        · rename_i eu
          cases hf; subst eu
          refine ⟨⟨⟨hg.1, q_okcons (q_ok_int _ _) (q_ok1 hg.2.1), hg.2.2⟩, Nat.le_refl _, Nat.le_refl _, Nat.le_refl _⟩, ?_⟩
          intro p l e R s m args below meth c Q D cA A k0 n0 α hC hR1 hR2 hτ hk' hn kk H locs ls cells slots hP hD hS hl ek en
          subst hx
          have hw0 := q_w_get (cA := cA) (α := α) e2
          have ea : 64 + (a - 64) = a := Nat.add_sub_of_le (Nat.not_lt.mp hlt)
          rw [ea] at hw0
          exact va_alen hC.1 hC.2.1 hC.2.2.2.2.2.1 hP _ _ hw0 (q_T_at ht) rfl hdg (kk α q_ag.rf H locs ls cells slots hP hD hS hl ek en)
        · cases hf
      · cases hf
  · cases hf
/-- things made -/
theorem q_pushed {cl : List vw_C} {D : va_G} {cA : Nat → ClassId} {A : Nat → Prop} {nL : Nat} {p : Program} {l : Launch} {e : Env} {R : Room} {s : State} {m : MethodId} {args : Array Value} {below : List Frame} {meth : Method} {c : Code} {Q : State → Prop} {k0 n0 nx N : Nat} {α : Nat → Nat} {L : q_L} {st : List Value} {h : q_H} {d : q_C} (hL : ∀ q ∈ L, q_ok h.1.length q.2) (hst : ∀ v ∈ st, q_ok h.1.length v) (hh : q_okh h.1) (hd : q_okc h.1.length d)
    (kk : ∀ β, q_ag α β h.1.length → q_W cl D cA A nL p l e R s m args below meth c Q k0 n0 β (nx, L, .ref (64 + h.1.length) :: st, h.1 ++ [d], h.2.1 + 1, h.2.2 + N))
    (q : Nat) {H1 : Heap} {locs : List Loc} {ls : Array Slot} {cells slots : Nat} (hP : va_P D cl (q_w cA α h.1 ++ [(q, q_e cA α d)]) H1) (hD : va_D A (q_w cA α h.1 ++ [(q, q_e cA α d)])) (hS : va_S A s.heap H1 locs) (hl : lv_has ls nL (q_l α L)) (ek : k0 + cells = h.2.1) (en : n0 + slots = h.2.2) :
    W p l e R s m args below meth c H1 locs (cells + 1) (slots + N) Q (F0 m nx ls (.ref q :: st.map (q_v α))) := by
  have ag := q_up_ag α h.1.length q
  have k2 := kk (q_up α h.1.length q) ag H1 locs ls (cells + 1) (slots + N)
  dsimp only at k2
  rw [q_w_push hh q d hd, q_l_ag ag hL, List.map_cons, q_v_ref, q_up_at, q_vs_ag ag hst] at k2
  exact k2 hP hD hS hl (by omega) (by omega)
theorem q_newo {idx ci N : Nat} {C : String} {T : u_T} {ty0 : Nat → FieldType} {fs : List Value} (hdg : decode cc pc = .ok (.new idx, 3)) (hc : cl[ci]? = some (C, T, N)) (hin : ∀ w ∈ u_ws C T N, w ∈ WU) (hty : ∀ k, k < N → parseFieldDescriptor (T k).2.2.1 = some (ty0 k)) (hw1 : Cond.classLink own idx C ∈ WU) (hw2 : Cond.instantiable C N ∈ WU) (hw3 : Cond.initialized C ∈ WU) (hfs : ∀ j, j < N → defaultValue (ty0 j) = vp_V fs j) (hnr : ∀ v ∈ fs, ∀ a, ¬ v = .ref a) (hx : nx = pc + 3) :
    q_J WU cl tyl GF τ own mname cc nL pc (q_new nx ci N fs) := by
  intro g g' hpc hf hg
  obtain ⟨pc', L, st, h⟩ := g
  obtain rfl : pc' = pc := hpc
  cases hf
  have hcell : q_okc h.1.length (.inr (ci, fs)) := fun v hv a ha => absurd ha (hnr v hv a)
  have hlen : (h.1 ++ [(.inr (ci, fs) : q_C)]).length = h.1.length + 1 := by simp
  refine ⟨⟨⟨?_, ?_, hg.2.2.push hcell⟩, by show _ ≤ (h.1 ++ [_]).length; rw [hlen]; exact Nat.le_succ _, Nat.le_succ _, Nat.le_add_right _ _⟩, ?_⟩
  · show ∀ q ∈ L, q_ok (h.1 ++ [(.inr (ci, fs) : q_C)]).length q.2
    rw [hlen]; exact fun q hq => (hg.1 q hq).le (Nat.le_succ _)
  · show ∀ v ∈ Value.ref (64 + h.1.length) :: st, q_ok (h.1 ++ [(.inr (ci, fs) : q_C)]).length v
    rw [hlen]; exact q_okcons (fun a ha => by cases ha; exact Nat.lt_succ_self _) (fun v hv => (hg.2.1 v hv).le (Nat.le_succ _))
  intro p l e R s m args below meth c Q D cA A k0 n0 α hC hR1 hR2 hτ hk' hn kk H locs ls cells slots hP hD hS hl ek en
  subst hx
  have hfe : fs.map (q_v α) = fs := by
    have e1 : fs.map (q_v α) = fs.map id := List.map_congr_left fun v hv => by
      have := hnr v hv
      cases v <;> first | rfl | exact absurd rfl (this _)
    rw [e1, List.map_id]
  have hk2 : h.2.1 + 1 ≤ k0 + R.cells := hk'
  have hn2 : h.2.2 + N ≤ n0 + R.slots := hn
  have ek : k0 + cells = h.2.1 := ek
  have en : n0 + slots = h.2.2 := en
  refine va_new hC.1 hC.2.1 hC.2.2.2.2.1 hin ty0 hty hC.2.2.1 (hC.2.2.2.2.1 _ hw1) (hC.2.2.2.2.1 _ hw2) (hC.2.2.2.2.1 _ hw3) hC.2.2.2.2.2.1 hP hD hS hC.2.2.2.2.2.2.1 hc hfs (by omega) (by omega) hdg (fun q H1 hP1 hD1 hS1 => ?_)
  have he : q_e cA α (.inr (ci, fs)) = .inr (ci, fs) := by
    show Sum.inr (ci, fs.map (q_v α)) = _
    rw [hfe]
  rw [← he] at hP1 hD1
  exact q_pushed hg.1 hg.2.1 hg.2.2 hcell kk q hP1 hD1 hS1 hl ek en
theorem q_newarray {at9 : ArrayType} {t : Nat} {ty : FieldType} {z : (Nat → Int32) ⊕ (Nat → Int64) ⊕ (Nat → UInt32) ⊕ (Nat → UInt64) ⊕ (Nat → Option Nat)} (hdg : decode cc pc = .ok (.newarray at9, 2)) (hw : Cond.arrayClass (newarray.typeOf at9) ∈ WU) (hty : newarray.typeOf at9 = ty) (ht : tyl[t]? = some ty) (hno : ∀ C, ¬ ty = .object C) (hb8 : componentBytes ty ≤ 8) (hz : ∀ (cA : ClassId) (N : Nat) (α : Nat → Nat), vp_cell cA (N, q_x α z) = arrV cA N (fun _ => defaultValue ty)) (hz2 : ∀ L, q_okx L z) (hx : nx = pc + 2) :
    q_J WU cl tyl GF τ own mname cc nL pc (q_rs (q_nwa nx t z)) := by
  intro g g' hpc hf hg
  obtain ⟨pc', L, st, h⟩ := g
  obtain rfl : pc' = pc := hpc
  obtain ⟨b, g1, g2, ef, hb⟩ := q_rs_ok hf
  unfold q_nwa at ef
  dsimp only at ef
  split at ef
  · rename_i n r
    cases ef
    rcases hb with ⟨hb, rfl⟩ | ⟨-, hb⟩
    · rw [Bool.and_eq_true] at hb
      obtain ⟨hb1, hb2⟩ := hb
      have hn0 : ¬ n < 0 := fun q => by rw [decide_eq_true q] at hb1; cases hb1
      have hn1 : n.toNatClampNeg ≤ 1000000 := of_decide_eq_true hb2
      have hcell : q_okc h.1.length (.inl (t, n.toNatClampNeg, z)) := hz2 _
      have hlen : (h.1 ++ [(.inl (t, n.toNatClampNeg, z) : q_C)]).length = h.1.length + 1 := by simp
      refine ⟨⟨⟨?_, ?_, hg.2.2.push hcell⟩, by show _ ≤ (h.1 ++ [_]).length; rw [hlen]; exact Nat.le_succ _, Nat.le_succ _, Nat.le_add_right _ _⟩, ?_⟩
      · show ∀ q ∈ L, q_ok (h.1 ++ [(.inl (t, n.toNatClampNeg, z) : q_C)]).length q.2
        rw [hlen]; exact fun q hq => (hg.1 q hq).le (Nat.le_succ _)
      · show ∀ v ∈ Value.ref (64 + h.1.length) :: r, q_ok (h.1 ++ [(.inl (t, n.toNatClampNeg, z) : q_C)]).length v
        rw [hlen]; exact q_okcons (fun a ha => by cases ha; exact Nat.lt_succ_self _) (fun v hv => (q_ok1 hg.2.1 v hv).le (Nat.le_succ _))
      intro p l e R s m args below meth c Q D cA A k0 n0 α hC hR1 hR2 hτ hk' hn kk H locs ls cells slots hP hD hS hl ek en
      subst hx; subst hty
      have hk2 : h.2.1 + 1 ≤ k0 + R.cells := hk'
      have hn2 : h.2.2 + n.toNatClampNeg ≤ n0 + R.slots := hn
      have ek : k0 + cells = h.2.1 := ek
      have en : n0 + slots = h.2.2 := en
      have hmul : n.toNatClampNeg * componentBytes (newarray.typeOf at9) ≤ 536870912 := Nat.le_trans (Nat.mul_le_mul hn1 hb8) (Nat.le_of_ble_eq_true rfl)
      refine va_newaK hC.1 hC.2.1 (hC.2.2.2.2.1 _ hw) rfl hdg rfl hn0 rfl hmul (by omega) (by omega) rfl (fun H1 cA' e1 z1 o1 hAr hNm => ?_)
      have hK := hC.2.2.2.2.2.1
      have hRA := (hK.2 t _ (q_T_at ht)).2
      have hcA : cA' = cA t := by
        have h2 : s.vm.findClass ("[" ++ (newarray.typeOf at9).toString) = some (cA t) := by
          have h3 : va_RA s (cA t) (newarray.typeOf at9) := hRA
          unfold va_RA at h3
          split at h3
          · rename_i C hC9
            exact absurd hC9 (hno C)
          · exact h3
        exact Option.some.inj (hNm.symm.trans h2)
      subst hcA
      have hk : ∀ (k : Nat) (x : Nat × va_E), (q_w cA α h.1)[k]? = some x → H1[x.1]? = H[x.1]? := fun k x hx => o1 x.1 ((hP k x hx).lt)
      have hS2 := hS.1
      have hP1 : va_P D cl (q_w cA α h.1 ++ [(H.size, q_e cA α (.inl (t, n.toNatClampNeg, z)))]) H1 := (hP.kept hk).app (fun k x hx => by
        have hz9 : k < 1 := (List.getElem?_eq_some_iff.mp hx).1
        rw [show k = 0 by omega] at hx
        cases hx
        show H1[H.size]? = some (vp_cell (cA t) (n.toNatClampNeg, q_x α z))
        rw [hz]
        exact e1)
      have hD1 : va_D A (q_w cA α h.1 ++ [(H.size, q_e cA α (.inl (t, n.toNatClampNeg, z)))]) := hD.push hP rfl (hC.2.2.2.2.2.2.1 _ hS2)
      have hS1 : va_S A s.heap H1 locs := ⟨Nat.le_trans hS2 (by omega), fun x h1 h2 => (o1 x (Nat.lt_of_lt_of_le h1 hS2)).trans (hS.2.1 x h1 h2), hS.2.2⟩
      exact q_pushed hg.1 (q_ok1 hg.2.1) hg.2.2 hcell kk H.size hP1 hD1 hS1 hl ek en
    · cases hb
  · cases ef
theorem q_anewarray {idx t : Nat} {C : String} (hAO : ∀ A U H, GF A U H → va_AO C U) (hdg : decode cc pc = .ok (.anewarray idx, 3)) (hw : Cond.classLink own idx C ∈ WU) (ht : tyl[t]? = some (.object C)) (hx : nx = pc + 3) :
    q_J WU cl tyl GF τ own mname cc nL pc (q_rs (q_nwa nx t (.inr (.inr (.inr (.inr fun _ => none)))))) := by
  intro g g' hpc hf hg
  obtain ⟨pc', L, st, h⟩ := g
  obtain rfl : pc' = pc := hpc
  obtain ⟨b, g1, g2, ef, hb⟩ := q_rs_ok hf
  unfold q_nwa at ef
  dsimp only at ef
  split at ef
  · rename_i n r
    cases ef
    rcases hb with ⟨hb, rfl⟩ | ⟨-, hb⟩
    · rw [Bool.and_eq_true] at hb
      obtain ⟨hb1, hb2⟩ := hb
      have hn0 : ¬ n < 0 := fun q => by rw [decide_eq_true q] at hb1; cases hb1
      have hn1 : n.toNatClampNeg ≤ 1000000 := of_decide_eq_true hb2
      have hcell : q_okc h.1.length (.inl (t, n.toNatClampNeg, .inr (.inr (.inr (.inr fun _ => none)))) : q_C) := fun j a hj => by cases hj
      have hlen : (h.1 ++ [(.inl (t, n.toNatClampNeg, .inr (.inr (.inr (.inr fun _ => none)))) : q_C)]).length = h.1.length + 1 := by simp
      refine ⟨⟨⟨?_, ?_, hg.2.2.push hcell⟩, by show _ ≤ (h.1 ++ [_]).length; rw [hlen]; exact Nat.le_succ _, Nat.le_succ _, Nat.le_add_right _ _⟩, ?_⟩
      · show ∀ q ∈ L, q_ok (h.1 ++ [(.inl (t, n.toNatClampNeg, .inr (.inr (.inr (.inr fun _ => none)))) : q_C)]).length q.2
        rw [hlen]; exact fun q hq => (hg.1 q hq).le (Nat.le_succ _)
      · show ∀ v ∈ Value.ref (64 + h.1.length) :: r, q_ok (h.1 ++ [(.inl (t, n.toNatClampNeg, .inr (.inr (.inr (.inr fun _ => none)))) : q_C)]).length v
        rw [hlen]; exact q_okcons (fun a ha => by cases ha; exact Nat.lt_succ_self _) (fun v hv => (q_ok1 hg.2.1 v hv).le (Nat.le_succ _))
      intro p l e R s m args below meth c Q D cA A k0 n0 α hC hR1 hR2 hτ hk' hn kk H locs ls cells slots hP hD hS hl ek en
      subst hx
      have hk2 : h.2.1 + 1 ≤ k0 + R.cells := hk'
      have hn2 : h.2.2 + n.toNatClampNeg ≤ n0 + R.slots := hn
      have ek : k0 + cells = h.2.1 := ek
      have en : n0 + slots = h.2.2 := en
      have hK := hC.2.2.2.2.2.1
      have hmul : n.toNatClampNeg * 4 ≤ 536870912 := Nat.le_trans (Nat.mul_le_mul_right 4 hn1) (Nat.le_of_ble_eq_true rfl)
      refine va_newq hC.1 hC.2.1 hC.2.2.1 (hC.2.2.2.2.1 _ hw) (hAO A s s.heap hC.2.2.2.2.2.2.2.1) hK hP hD hS hC.2.2.2.2.2.2.1 hn0 rfl hmul (by omega) (by omega) hdg (fun q cA' H1 hK1 hP1 hD1 hS1 => ?_)
      have hcA : cA' = cA t := by
        have h3 := (hK1.2 (q_T cA tyl).length (cA', .object C) (by rw [List.getElem?_append_right (Nat.le_refl _), Nat.sub_self]; rfl)).2
        obtain ⟨_, _, _, _, _, h5⟩ := h3
        obtain ⟨_, _, _, _, _, h6⟩ := (hK.2 t _ (q_T_at ht)).2
        exact Option.some.inj (h5.symm.trans h6)
      subst hcA
      have he : q_e cA α (.inl (t, n.toNatClampNeg, .inr (.inr (.inr (.inr fun _ => none))))) = .inl (cA t, n.toNatClampNeg, .inr (.inr (.inr (.inr fun _ => none)))) := rfl
      rw [← he] at hP1 hD1
      exact q_pushed hg.1 (q_ok1 hg.2.1) hg.2.2 hcell kk q hP1 hD1 hS1 hl ek en
    · cases hb
  · cases ef
/-- a static that nobody writes -/
theorem q_getstatic {idx : Nat} {C n d : String} {v : Value} (hv : ∀ a, v = .ref a → a < 64) (hZ : ∀ A U H, GF A U H → va_Z C n d (q_v τ v) A U H) (hdg : decode cc pc = .ok (.getstatic idx, 3)) (hw : Cond.fieldLink own idx C n d ∈ WU) (hx : nx = pc + 3) : q_J WU cl tyl GF τ own mname cc nL pc (q_st nx (q_fk v)) := by
  intro g g' hpc hf hg
  obtain ⟨pc', L, st, h⟩ := g
  obtain rfl : pc' = pc := hpc
  cases hf
  have hv2 : q_ok h.1.length v := fun a ha => Nat.lt_of_lt_of_le (hv a ha) (Nat.le_add_right _ _)
  refine ⟨⟨⟨hg.1, q_okcons hv2 hg.2.1, hg.2.2⟩, Nat.le_refl _, Nat.le_refl _, Nat.le_refl _⟩, ?_⟩
  intro p l e R s m args below meth c Q D cA A k0 n0 α hC hR1 hR2 hτ hk' hn kk H locs ls cells slots hP hD hS hl ek en
  subst hx
  have hvα : q_v τ v = q_v α v := by
    cases v <;> try rfl
    rename_i a
    show Value.ref (τ a) = Value.ref (α a)
    rw [hτ a (hv a rfl)]
  have k2 := kk α q_ag.rf H locs ls cells slots hP hD hS hl ek en
  have hZ2 := hZ A s s.heap hC.2.2.2.2.2.2.2.1
  rw [hvα] at hZ2
  exact va_gets hC.1 hC.2.1 hZ2 hS hC.2.2.1 (hC.2.2.2.2.1 _ hw) (fun _ h9 => h9) hdg k2
end QA

end QH
