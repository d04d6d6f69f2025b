/-! ===== a small machine over the cells alone: values are those of the machine, but that a reference is a place: below 64 a thing outside, from 64 on a cell of the heap ===== -/
abbrev q_C : Type := (Nat × vp_A) ⊕ (Nat × List Value)
abbrev q_H : Type := List q_C × Nat × Nat
abbrev q_L : Type := List (Nat × Value)
abbrev q_G : Type := Nat × q_L × List Value × q_H
def q_v (α : Nat → Nat) (v : Value) : Value := match v with
  | .ref a => .ref (α a)
  | v => v
theorem q_v_int (α : Nat → Nat) (x : Int32) : q_v α (.int x) = .int x := rfl
theorem q_v_ref (α : Nat → Nat) (x : Nat) : q_v α (.ref x) = .ref (α x) := rfl
theorem q_v_cat (α : Nat → Nat) (v : Value) : (q_v α v).category = v.category := by cases v <;> rfl
def q_x (α : Nat → Nat) (x : (Nat → Int32) ⊕ (Nat → Int64) ⊕ (Nat → UInt32) ⊕ (Nat → UInt64) ⊕ (Nat → Option Nat)) : (Nat → Int32) ⊕ (Nat → Int64) ⊕ (Nat → UInt32) ⊕ (Nat → UInt64) ⊕ (Nat → Option Nat) := match x with
  | .inr (.inr (.inr (.inr f))) => .inr (.inr (.inr (.inr (fun j => (f j).map α))))
  | x => x
def q_e (cA : Nat → ClassId) (α : Nat → Nat) (c : q_C) : va_E := match c with
  | .inl (t, n, x) => .inl (cA t, n, q_x α x)
  | .inr (ci, fs) => .inr (ci, fs.map (q_v α))
def q_w (cA : Nat → ClassId) (α : Nat → Nat) (cs : List q_C) : va_W := cs.mapIdx fun i c => (α (64 + i), q_e cA α c)
theorem q_w_at (cA : Nat → ClassId) (α : Nat → Nat) (cs : List q_C) (i : Nat) : (q_w cA α cs)[i]? = (cs[i]?).map fun c => (α (64 + i), q_e cA α c) := by
  unfold q_w
  exact List.getElem?_mapIdx
theorem q_w_len (cA : Nat → ClassId) (α : Nat → Nat) (cs : List q_C) : (q_w cA α cs).length = cs.length := by
  unfold q_w
  exact List.length_mapIdx
theorem q_w_get {cA : Nat → ClassId} {α : Nat → Nat} {cs : List q_C} {i : Nat} {c : q_C} (h : cs[i]? = some c) : (q_w cA α cs)[i]? = some (α (64 + i), q_e cA α c) := by rw [q_w_at, h]; rfl
theorem q_w_set (cA : Nat → ClassId) (α : Nat → Nat) (cs : List q_C) (i : Nat) (c : q_C) : (q_w cA α cs).set i (α (64 + i), q_e cA α c) = q_w cA α (cs.set i c) := by
  apply List.ext_getElem?
  intro j
  rw [q_w_at]
  by_cases h : i = j
  · subst h
    by_cases hl : i < cs.length
    · rw [List.getElem?_set_self (by rw [q_w_len]; exact hl), List.getElem?_set_self hl]; rfl
    · rw [List.getElem?_eq_none (by rw [List.length_set, q_w_len]; omega), List.getElem?_eq_none (by rw [List.length_set]; omega)]; rfl
  · rw [List.getElem?_set_ne h, List.getElem?_set_ne h, q_w_at]
/-- references are to things that are there -/
def q_ok (L : Nat) (v : Value) : Prop := ∀ a, v = .ref a → a < 64 + L
def q_okx (L : Nat) (x : (Nat → Int32) ⊕ (Nat → Int64) ⊕ (Nat → UInt32) ⊕ (Nat → UInt64) ⊕ (Nat → Option Nat)) : Prop := match x with
  | .inr (.inr (.inr (.inr f))) => ∀ j a, f j = some a → a < 64 + L
  | _ => True
def q_okc (L : Nat) (c : q_C) : Prop := match c with
  | .inl (_, _, x) => q_okx L x
  | .inr (_, fs) => ∀ v ∈ fs, q_ok L v
def q_okh (cs : List q_C) : Prop := ∀ c ∈ cs, q_okc cs.length c
def q_okg (g : q_G) : Prop := (∀ q ∈ g.2.1, q_ok g.2.2.2.1.length q.2) ∧ (∀ v ∈ g.2.2.1, q_ok g.2.2.2.1.length v) ∧ q_okh g.2.2.2.1
/-- two choices of addresses that agree where things are -/
def q_ag (α β : Nat → Nat) (L : Nat) : Prop := ∀ a, a < 64 + L → β a = α a
theorem q_ag.rf {α : Nat → Nat} {L : Nat} : q_ag α α L := fun _ _ => rfl
theorem q_ag.tr {α β γ : Nat → Nat} {L M : Nat} (h : q_ag α β L) (h2 : q_ag β γ M) (hL : L ≤ M) : q_ag α γ L := fun a ha => (h2 a (by omega)).trans (h a ha)
theorem q_ag.le {α β : Nat → Nat} {L M : Nat} (h : q_ag α β M) (hL : L ≤ M) : q_ag α β L := fun a ha => h a (by omega)
theorem q_v_ag {α β : Nat → Nat} {L : Nat} (h : q_ag α β L) {v : Value} (hv : q_ok L v) : q_v β v = q_v α v := by
  cases v <;> simp only [q_v]
  rename_i a
  rw [h a (hv a rfl)]
theorem q_vs_ag {α β : Nat → Nat} {L : Nat} (h : q_ag α β L) {vs : List Value} (hv : ∀ v ∈ vs, q_ok L v) : vs.map (q_v β) = vs.map (q_v α) := List.map_congr_left fun v hm => q_v_ag h (hv v hm)
def q_l (α : Nat → Nat) (L : q_L) : List (Nat × Value) := L.map fun q => (q.1, q_v α q.2)
theorem q_l_ag {α β : Nat → Nat} {L : Nat} (h : q_ag α β L) {ls : q_L} (hv : ∀ q ∈ ls, q_ok L q.2) : q_l β ls = q_l α ls := List.map_congr_left fun q hm => by rw [q_v_ag h (hv q hm)]
theorem q_e_ag {cA : Nat → ClassId} {α β : Nat → Nat} {L : Nat} (h : q_ag α β L) {c : q_C} (hc : q_okc L c) : q_e cA β c = q_e cA α c := by
  obtain ⟨t, n, x⟩ | ⟨ci, fs⟩ := c
  · show Sum.inl (cA t, n, q_x β x) = Sum.inl (cA t, n, q_x α x)
    obtain f | f | f | f | f := x <;> try rfl
    have hf : ∀ j a, f j = some a → a < 64 + L := hc
    have e : (fun j => (f j).map β) = (fun j => (f j).map α) := by
      funext j
      cases hj : f j with
      | none => rfl
      | some a => exact congrArg some (h a (hf j a hj))
    show Sum.inl (cA t, n, Sum.inr (Sum.inr (Sum.inr (Sum.inr (fun j => (f j).map β))))) = Sum.inl (cA t, n, Sum.inr (Sum.inr (Sum.inr (Sum.inr (fun j => (f j).map α)))))
    rw [e]
  · show Sum.inr (ci, fs.map (q_v β)) = Sum.inr (ci, fs.map (q_v α))
    rw [q_vs_ag h hc]
theorem q_w_ag {cA : Nat → ClassId} {α β : Nat → Nat} {cs : List q_C} (h : q_ag α β cs.length) (hc : q_okh cs) : q_w cA β cs = q_w cA α cs := by
  apply List.ext_getElem?
  intro j
  rw [q_w_at, q_w_at]
  cases hj : cs[j]? with
  | none => rfl
  | some c =>
    have hl : j < cs.length := (List.getElem?_eq_some_iff.mp hj).1
    show some (β (64 + j), q_e cA β c) = some (α (64 + j), q_e cA α c)
    rw [q_e_ag h (hc c (List.mem_of_getElem? hj)), h (64 + j) (Nat.add_lt_add_left hl 64)]
/-- a new cell, at the address a -/
def q_up (α : Nat → Nat) (L a : Nat) : Nat → Nat := fun b => if b = 64 + L then a else α b
theorem q_up_ag (α : Nat → Nat) (L a : Nat) : q_ag α (q_up α L a) L := fun b hb => by
  unfold q_up
  rw [if_neg (by omega)]
theorem q_up_at (α : Nat → Nat) (L a : Nat) : q_up α L a (64 + L) = a := by
  unfold q_up
  rw [if_pos rfl]
theorem q_w_push {cA : Nat → ClassId} {α : Nat → Nat} {cs : List q_C} (hc : q_okh cs) (a : Nat) (c : q_C) (hn : q_okc cs.length c) : q_w cA (q_up α cs.length a) (cs ++ [c]) = q_w cA α cs ++ [(a, q_e cA α c)] := by
  apply List.ext_getElem?
  intro j
  rw [q_w_at]
  by_cases hl : j < cs.length
  · rw [List.getElem?_append_left hl, List.getElem?_append_left (by rw [q_w_len]; exact hl), ← q_w_at, q_w_ag (q_up_ag α _ a) hc]
  · by_cases he : j = cs.length
    · subst he
      rw [List.getElem?_append_right (Nat.le_refl _), List.getElem?_append_right (by rw [q_w_len]; exact Nat.le_refl _), q_w_len, Nat.sub_self]
      show some (q_up α cs.length a (64 + cs.length), q_e cA (q_up α cs.length a) c) = some (a, q_e cA α c)
      rw [q_up_at, q_e_ag (q_up_ag α _ a) hn]
    · rw [List.getElem?_eq_none (by rw [List.length_append]; simp; omega), List.getElem?_eq_none (by rw [List.length_append, q_w_len]; simp; omega)]; rfl
theorem q_ok.le {L M : Nat} {v : Value} (h : q_ok L v) (hl : L ≤ M) : q_ok M v := fun a ha => Nat.lt_of_lt_of_le (h a ha) (Nat.add_le_add_left hl 64)
theorem q_okc.le {L M : Nat} {c : q_C} (h : q_okc L c) (hl : L ≤ M) : q_okc M c := by
  obtain ⟨t, n, x⟩ | ⟨ci, fs⟩ := c
  · obtain f | f | f | f | f := x <;> try exact trivial
    exact fun j a ha => Nat.lt_of_lt_of_le ((show ∀ j a, f j = some a → a < 64 + L from h) j a ha) (Nat.add_le_add_left hl 64)
  · exact fun v hv => (h v hv).le hl
theorem q_okh.push {cs : List q_C} (h : q_okh cs) {c : q_C} (hc : q_okc cs.length c) : q_okh (cs ++ [c]) := by
  intro d hd
  rw [List.length_append]
  rcases List.mem_append.mp hd with h1 | h1
  · exact (h d h1).le (Nat.le_add_right _ _)
  · rw [List.mem_singleton.mp h1]
    exact hc.le (Nat.le_add_right _ _)
theorem q_okh.set {cs : List q_C} (h : q_okh cs) {c : q_C} (i : Nat) (hc : q_okc cs.length c) : q_okh (cs.set i c) := by
  intro d hd
  rw [List.length_set]
  rcases List.mem_or_eq_of_mem_set hd with h1 | h1
  · exact h d h1
  · rw [h1]; exact hc
theorem q_ok_int (L : Nat) (x : Int32) : q_ok L (.int x) := fun a h => by cases h
theorem q_ok_long (L : Nat) (x : Int64) : q_ok L (.long x) := fun a h => by cases h
theorem q_ok_float (L : Nat) (x : UInt32) : q_ok L (.float x) := fun a h => by cases h
theorem q_ok_double (L : Nat) (x : UInt64) : q_ok L (.double x) := fun a h => by cases h
theorem q_ok_null (L : Nat) : q_ok L .null := fun a h => by cases h
/-- locals: the first that is told -/
def q_ld (L : q_L) (i : Nat) : Option Value := match L with
  | [] => none
  | q :: r => if q.1 = i then some q.2 else q_ld r i
theorem q_ld_mem {L : q_L} {i : Nat} {v : Value} (h : q_ld L i = some v) : (i, v) ∈ L := by
  induction L with
  | nil => cases h
  | cons q r ih =>
    obtain ⟨j, w⟩ := q
    unfold q_ld at h
    by_cases e : j = i
    · rw [if_pos e] at h
      cases h; cases e
      exact List.mem_cons_self
    · rw [if_neg e] at h
      exact List.mem_cons_of_mem _ (ih h)
theorem q_ld_at {α : Nat → Nat} {ls : Array Slot} {nL : Nat} {L : q_L} {i : Nat} {v : Value} (hl : lv_has ls nL (q_l α L)) (h : q_ld L i = some v) : ls[i]? = some (.val (q_v α v)) :=
  hl.2.2 (i, q_v α v) (List.mem_map.mpr ⟨(i, v), q_ld_mem h, rfl⟩)
def q_s1 (L : q_L) (i : Nat) (v : Value) : q_L := (i, v) :: L.filter (fun q => !(q.1 == i) && !(q.1 + 1 == i && q.2.category == 2))
def q_s2 (L : q_L) (i : Nat) (v : Value) : q_L := (i, v) :: L.filter (fun q => !(q.1 == i) && (!(q.1 == i + 1) && !(q.1 + 1 == i && q.2.category == 2)))
theorem q_s1_l (α : Nat → Nat) (L : q_L) (i : Nat) (v : Value) : (i, q_v α v) :: (q_l α L).filter (fun q => !(q.1 == i) && !(q.1 + 1 == i && q.2.category == 2)) = q_l α (q_s1 L i v) := by
  unfold q_s1 q_l
  rw [List.map_cons, List.filter_map]
  congr 3
  funext q
  show (_ : Bool) = _
  simp only [Function.comp, q_v_cat]
theorem q_s2_l (α : Nat → Nat) (L : q_L) (i : Nat) (v : Value) : (i, q_v α v) :: (q_l α L).filter (fun q => !(q.1 == i) && (!(q.1 == i + 1) && !(q.1 + 1 == i && q.2.category == 2))) = q_l α (q_s2 L i v) := by
  unfold q_s2 q_l
  rw [List.map_cons, List.filter_map]
  congr 3
  funext q
  show (_ : Bool) = _
  simp only [Function.comp, q_v_cat]
theorem q_s1_ok {L : q_L} {n i : Nat} {v : Value} (h : ∀ q ∈ L, q_ok n q.2) (hv : q_ok n v) : ∀ q ∈ q_s1 L i v, q_ok n q.2 := fun q hq => by
  rcases List.mem_cons.mp hq with e | e
  · rw [e]; exact hv
  · exact h q (List.mem_filter.mp e).1
theorem q_s2_ok {L : q_L} {n i : Nat} {v : Value} (h : ∀ q ∈ L, q_ok n q.2) (hv : q_ok n v) : ∀ q ∈ q_s2 L i v, q_ok n q.2 := fun q hq => by
  rcases List.mem_cons.mp hq with e | e
  · rw [e]; exact hv
  · exact h q (List.mem_filter.mp e).1
