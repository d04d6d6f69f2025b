/-! ===== more of the stack, branches, locals ===== -/
section QB
variable {WU : List Cond} {cl : List vw_C} {tyl : List FieldType} {GF : (Nat → Prop) → State → Heap → Prop} {τ : Nat → Nat} {own mname : String} {cc : ByteArray} {nL pc nx tgt : Nat}
theorem q_ll {o : Int64 → Int64 → Int64} (h2 : ∀ {p : Program} {l : Launch} {e : Env} {R : Room} {s : State} {m : MethodId} {args : Array Value} {below : List Frame} {meth : Method} {c : Code} {H : Heap} {locs : List Loc} {cells slots : Nat} {Q : State → Prop} {ls : Array Slot} {rest : List Value} {x y : Int64}, p.tables.exec = Jvm.exec → c.code = cc →
      W p l e R s m args below meth c H locs cells slots Q (F0 m nx ls (.long (o x y) :: rest)) → W p l e R s m args below meth c H locs cells slots Q (F0 m pc ls (.long y :: .long x :: rest))) : q_J WU cl tyl GF τ own mname cc nL pc (q_st nx (q_f2 (q_o_ll o))) :=
  q_J_2 (fun u v w h a => by
    unfold q_o_ll at h
    split at h
    · cases h; exact fun h => by cases h
    · cases h) (fun {_ _ _ _ _ _ _ _ _ _ _ _ _ _ _ _ _ u v w} α he hb h k => by
    unfold q_o_ll at h
    split at h
    · cases h; exact h2 he hb k
    · cases h)
theorem q_lz {o : Int64 → Int64 → Int64} (h2 : ∀ {p : Program} {l : Launch} {e : Env} {R : Room} {s : State} {m : MethodId} {args : Array Value} {below : List Frame} {meth : Method} {c : Code} {H : Heap} {locs : List Loc} {cells slots : Nat} {Q : State → Prop} {ls : Array Slot} {rest : List Value} {x y : Int64}, p.tables.exec = Jvm.exec → c.code = cc → ¬ y = 0 →
      W p l e R s m args below meth c H locs cells slots Q (F0 m nx ls (.long (o x y) :: rest)) → W p l e R s m args below meth c H locs cells slots Q (F0 m pc ls (.long y :: .long x :: rest))) : q_J WU cl tyl GF τ own mname cc nL pc (q_st nx (q_f2 (q_o_lz o))) :=
  q_J_2 (fun u v w h a => by
    unfold q_o_lz at h
    split at h
    · split at h
      · cases h
      · cases h; exact fun h => by cases h
    · cases h) (fun {_ _ _ _ _ _ _ _ _ _ _ _ _ _ _ _ _ u v w} α he hb h k => by
    unfold q_o_lz at h
    split at h
    · split at h
      · cases h
      · rename_i hy
        cases h; exact h2 he hb hy k
    · cases h)
theorem q_ladd (hdg : decode cc pc = .ok (.ladd, 1)) (hx : nx = pc + 1) : q_J WU cl tyl GF τ own mname cc nL pc (q_st nx (q_f2 (q_o_ll fun x y => x + y))) := q_ll (fun he hb k => by subst hx; exact lv_ladd he hb hdg k)
theorem q_lsub (hdg : decode cc pc = .ok (.lsub, 1)) (hx : nx = pc + 1) : q_J WU cl tyl GF τ own mname cc nL pc (q_st nx (q_f2 (q_o_ll fun x y => x - y))) := q_ll (fun he hb k => by subst hx; exact lv_lsub he hb hdg k)
theorem q_ldiv (hdg : decode cc pc = .ok (.ldiv, 1)) (hx : nx = pc + 1) : q_J WU cl tyl GF τ own mname cc nL pc (q_st nx (q_f2 (q_o_lz fun x y => x / y))) := q_lz (fun he hb hy k => by subst hx; exact lv_ldiv he hb hdg hy k)
theorem q_lrem (hdg : decode cc pc = .ok (.lrem, 1)) (hx : nx = pc + 1) : q_J WU cl tyl GF τ own mname cc nL pc (q_st nx (q_f2 (q_o_lz fun x y => x - x / y * y))) := q_lz (fun he hb hy k => by subst hx; exact lv_lrem he hb hdg hy k)
def q_o_lcmp (u v : Value) : Option Value := match u, v with | .long x, .long y => some (.int (lg_cmp x y)) | _, _ => none
theorem q_lcmp (hdg : decode cc pc = .ok (.lcmp, 1)) (hx : nx = pc + 1) : q_J WU cl tyl GF τ own mname cc nL pc (q_st nx (q_f2 q_o_lcmp)) :=
  q_J_2 (fun u v w h a => by
    unfold q_o_lcmp at h
    split at h
    · cases h; exact fun h => by cases h
    · cases h) (fun {_ _ _ _ _ _ _ _ _ _ _ _ _ _ _ _ _ u v w} α he hb h k => by
    unfold q_o_lcmp at h
    split at h
    · cases h; subst hx; exact W.lcmp he hb hdg k
    · cases h)
def q_o_dcmp (op : CmpOp) (u v : Value) : Option Value := match u, v with | .double x, .double y => some (.int (Op.cmpValue (FP.dcmp x y) op)) | _, _ => none
theorem q_dcmp {op : CmpOp} (hdg : decode cc pc = .ok (.dcmp op, 1)) (hx : nx = pc + 1) : q_J WU cl tyl GF τ own mname cc nL pc (q_st nx (q_f2 (q_o_dcmp op))) :=
  q_J_2 (fun u v w h a => by
    unfold q_o_dcmp at h
    split at h
    · cases h; exact fun h => by cases h
    · cases h) (fun {_ _ _ _ _ _ _ _ _ _ _ _ _ _ _ _ _ u v w} α he hb h k => by
    unfold q_o_dcmp at h
    split at h
    · cases h; subst hx; exact lv_dcmp he hb hdg k
    · cases h)
def q_o_fdiv (u v : Value) : Option Value := match u, v with | .float x, .float y => if FP.fdiv x y &&& 0x7fffffff ≤ 0x7f800000 then some (.float (FP.fdiv x y)) else none | _, _ => none
def q_o_ddiv (u v : Value) : Option Value := match u, v with | .double x, .double y => if FP.ddiv x y &&& 0x7fffffffffffffff ≤ 0x7ff0000000000000 then some (.double (FP.ddiv x y)) else none | _, _ => none
def q_o_f2d (v : Value) : Option Value := match v with | .float x => if FP.f2d x &&& 0x7fffffffffffffff ≤ 0x7ff0000000000000 then some (.double (FP.f2d x)) else none | _ => none
theorem q_fdiv (hdg : decode cc pc = .ok (.fdiv, 1)) (hx : nx = pc + 1) : q_J WU cl tyl GF τ own mname cc nL pc (q_st nx (q_f2 q_o_fdiv)) :=
  q_J_2 (fun u v w h a => by
    unfold q_o_fdiv at h
    split at h
    · split at h
      · cases h; exact fun h => by cases h
      · cases h
    · cases h) (fun {_ _ _ _ _ _ _ _ _ _ _ _ _ _ _ _ _ u v w} α he hb h k => by
    unfold q_o_fdiv at h
    split at h
    · split at h
      · rename_i hz
        cases h; subst hx; exact lv_fdiv he hb hdg hz k
      · cases h
    · cases h)
theorem q_ddiv (hdg : decode cc pc = .ok (.ddiv, 1)) (hx : nx = pc + 1) : q_J WU cl tyl GF τ own mname cc nL pc (q_st nx (q_f2 q_o_ddiv)) :=
  q_J_2 (fun u v w h a => by
    unfold q_o_ddiv at h
    split at h
    · split at h
      · cases h; exact fun h => by cases h
      · cases h
    · cases h) (fun {_ _ _ _ _ _ _ _ _ _ _ _ _ _ _ _ _ u v w} α he hb h k => by
    unfold q_o_ddiv at h
    split at h
    · split at h
      · rename_i hz
        cases h; subst hx; exact lv_ddiv he hb hdg hz k
      · cases h
    · cases h)
theorem q_f2d (hdg : decode cc pc = .ok (.f2d, 1)) (hx : nx = pc + 1) : q_J WU cl tyl GF τ own mname cc nL pc (q_st nx (q_f1 q_o_f2d)) :=
  q_J_1 (fun v w h a => by
    unfold q_o_f2d at h
    split at h
    · split at h
      · cases h; exact fun h => by cases h
      · cases h
    · cases h) (fun {_ _ _ _ _ _ _ _ _ _ _ _ _ _ _ _ _ v w} α he hb h k => by
    unfold q_o_f2d at h
    split at h
    · split at h
      · rename_i hz
        cases h; subst hx; exact lv_f2d he hb hdg hz k
      · cases h
    · cases h)
theorem q_ldcf {idx : Nat} {v : UInt32} (hdg : decode cc pc = .ok (.ldc idx, 2)) (hw : Jvm.Cond.constantFloat own idx v ∈ WU) (hx : nx = pc + 2) : q_J WU cl tyl GF τ own mname cc nL pc (q_st nx (q_fk (.float v))) :=
  q_J_st (q_fk_ok _ (fun a h => by cases h)) (fun he hb ho ht α ls L st st' hl hs k => by cases hs; subst hx; exact lv_ldcf he hb ho (ht _ hw) hdg k)
theorem q_ldc2d {idx : Nat} {v : UInt64} (hdg : decode cc pc = .ok (.ldc2_w idx, 3)) (hw : Jvm.Cond.constantDouble own idx v ∈ WU) (hx : nx = pc + 3) : q_J WU cl tyl GF τ own mname cc nL pc (q_st nx (q_fk (.double v))) :=
  q_J_st (q_fk_ok _ (fun a h => by cases h)) (fun he hb ho ht α ls L st st' hl hs k => by cases hs; subst hx; exact lv_ldc2d he hb ho (ht _ hw) hdg k)
/-- dup, pop .. -/
def q_c1 (v : Value) : Bool := match v with
  | .long _ => false
  | .double _ => false
  | _ => true
theorem q_c1_cat {v : Value} (h : q_c1 v = true) (α : Nat → Nat) : (q_v α v).category = 1 := by cases v <;> first | rfl | cases h
def q_fdup (_ : q_L) (st : List Value) : Option (List Value) := match st with
  | v :: r => if q_c1 v = true then some (v :: v :: r) else none
  | _ => none
def q_fpop (_ : q_L) (st : List Value) : Option (List Value) := match st with
  | v :: r => if q_c1 v = true then some r else none
  | _ => none
def q_c2 (v : Value) : Bool := match v with
  | .long _ => true
  | .double _ => true
  | _ => false
theorem q_c2_cat {v : Value} (h : q_c2 v = true) (α : Nat → Nat) : (q_v α v).category = 2 := by cases v <;> first | rfl | cases h
def q_fpop2 (_ : q_L) (st : List Value) : Option (List Value) := match st with
  | v :: r => if q_c2 v = true then some r else none
  | _ => none
def q_fdupx1 (_ : q_L) (st : List Value) : Option (List Value) := match st with
  | v :: u :: r => if q_c1 v = true ∧ q_c1 u = true then some (v :: u :: v :: r) else none
  | _ => none
def q_fdup2 (_ : q_L) (st : List Value) : Option (List Value) := match st with
  | v :: u :: r => if q_c1 v = true ∧ q_c1 u = true then some (v :: u :: v :: u :: r) else none
  | _ => none
theorem q_dup (hdg : decode cc pc = .ok (.dup, 1)) (hx : nx = pc + 1) : q_J WU cl tyl GF τ own mname cc nL pc (q_st nx q_fdup) :=
  q_J_st (fun L st st' n h _ hs => by
    unfold q_fdup at h
    split at h
    · split at h
      · cases h; exact q_okcons (q_ok0 hs) hs
      · cases h
    · cases h) (fun he hb _ _ α ls L st st' hl hs k => by
    unfold q_fdup at hs
    split at hs
    · split at hs
      · rename_i hc
        cases hs; subst hx; exact lv_dup he hb hdg (q_c1_cat hc α) k
      · cases hs
    · cases hs)
theorem q_pop (hdg : decode cc pc = .ok (.pop, 1)) (hx : nx = pc + 1) : q_J WU cl tyl GF τ own mname cc nL pc (q_st nx q_fpop) :=
  q_J_st (fun L st st' n h _ hs => by
    unfold q_fpop at h
    split at h
    · split at h
      · cases h; exact q_ok1 hs
      · cases h
    · cases h) (fun he hb _ _ α ls L st st' hl hs k => by
    unfold q_fpop at hs
    split at hs
    · split at hs
      · rename_i hc
        cases hs; subst hx; exact lv_pop he hb hdg (q_c1_cat hc α) k
      · cases hs
    · cases hs)
theorem q_pop2 (hdg : decode cc pc = .ok (.pop2, 1)) (hx : nx = pc + 1) : q_J WU cl tyl GF τ own mname cc nL pc (q_st nx q_fpop2) :=
  q_J_st (fun L st st' n h _ hs => by
    unfold q_fpop2 at h
    split at h
    · split at h
      · cases h; exact q_ok1 hs
      · cases h
    · cases h) (fun he hb _ _ α ls L st st' hl hs k => by
    unfold q_fpop2 at hs
    split at hs
    · split at hs
      · rename_i hc
        cases hs; subst hx; exact lv_pop2_2 he hb hdg (q_c2_cat hc α) k
      · cases hs
    · cases hs)
theorem q_dup_x1 (hdg : decode cc pc = .ok (.dup_x1, 1)) (hx : nx = pc + 1) : q_J WU cl tyl GF τ own mname cc nL pc (q_st nx q_fdupx1) :=
  q_J_st (fun L st st' n h _ hs => by
    unfold q_fdupx1 at h
    split at h
    · split at h
      · cases h; exact q_okcons (q_ok0 hs) (q_okcons (q_ok0 (q_ok1 hs)) (q_okcons (q_ok0 hs) (q_ok2 hs)))
      · cases h
    · cases h) (fun he hb _ _ α ls L st st' hl hs k => by
    unfold q_fdupx1 at hs
    split at hs
    · split at hs
      · rename_i hc
        cases hs; subst hx; exact lv_dup_x1 he hb hdg (q_c1_cat hc.1 α) (q_c1_cat hc.2 α) k
      · cases hs
    · cases hs)
theorem q_dup2 (hdg : decode cc pc = .ok (.dup2, 1)) (hx : nx = pc + 1) : q_J WU cl tyl GF τ own mname cc nL pc (q_st nx q_fdup2) :=
  q_J_st (fun L st st' n h _ hs => by
    unfold q_fdup2 at h
    split at h
    · split at h
      · cases h; exact q_okcons (q_ok0 hs) (q_okcons (q_ok0 (q_ok1 hs)) hs)
      · cases h
    · cases h) (fun he hb _ _ α ls L st st' hl hs k => by
    unfold q_fdup2 at hs
    split at hs
    · split at hs
      · rename_i hc
        cases hs; subst hx; exact lv_dup2_11 he hb hdg (q_c1_cat hc.1 α) (q_c1_cat hc.2 α) k
      · cases hs
    · cases hs)
theorem q_goto {off : Int} (hdg : decode cc pc = .ok (.goto off, 3)) (ht : (pc : Int) + off = (tgt : Int)) : q_J WU cl tyl GF τ own mname cc nL pc (q_st tgt fun _ st => some st) :=
  q_J_st (fun L st st' n h _ hs => by cases h; exact hs) (fun he hb _ _ α ls L st st' hl hs k => by cases hs; exact lv_goto he hb hdg ht k)
/-- branches: what is asked, then where -/
def q_br (tgt nx : Nat) (b : List Value → Option (Bool × List Value)) (g : q_G) : Option (Bool × q_G × Option q_G) := match b g.2.2.1 with
  | none => none
  | some (t, st) => some (t, (tgt, g.2.1, st, g.2.2.2), some (nx, g.2.1, st, g.2.2.2))
def q_rs (f : q_G → Option (Bool × q_G × Option q_G)) (g : q_G) : Option q_G := match f g with
  | none => none
  | some (t, g1, g2) => match t with
    | true => some g1
    | false => g2
theorem q_J_br {b : List Value → Option (Bool × List Value)} (h1 : ∀ (st st' : List Value) (t : Bool) (n : Nat), b st = some (t, st') → (∀ v ∈ st, q_ok n v) → ∀ v ∈ st', q_ok n v)
    (h2 : ∀ {p : Program} {l : Launch} {e : Env} {R : Room} {s : State} {m : MethodId} {args : Array Value} {below : List Frame} {meth : Method} {c : Code} {H : Heap} {locs : List Loc} {cells slots : Nat} {Q : State → Prop}, p.tables.exec = Jvm.exec → c.code = cc → ∀ (α : Nat → Nat) (ls : Array Slot) (st st' : List Value) (t : Bool), b st = some (t, st') →
      (t = true → W p l e R s m args below meth c H locs cells slots Q (F0 m tgt ls (st'.map (q_v α)))) → (t = false → W p l e R s m args below meth c H locs cells slots Q (F0 m nx ls (st'.map (q_v α)))) → W p l e R s m args below meth c H locs cells slots Q (F0 m pc ls (st.map (q_v α)))) :
    q_J WU cl tyl GF τ own mname cc nL pc (q_rs (q_br tgt nx b)) := by
  intro g g' hpc hf hg
  obtain ⟨pc', L, st, h⟩ := g
  obtain rfl : pc' = pc := hpc
  unfold q_rs q_br at hf
  dsimp only at hf
  cases hs : b st with
  | none => rw [hs] at hf; cases hf
  | some x =>
    obtain ⟨t, st'⟩ := x
    rw [hs] at hf
    cases t with
    | true =>
      cases hf
      refine ⟨⟨⟨hg.1, h1 st st' _ _ hs hg.2.1, hg.2.2⟩, Nat.le_refl _, Nat.le_refl _, Nat.le_refl _⟩, ?_⟩
      intro p l e R s m args below meth c Q D cA A k0 n0 α hC hR1 hR2 hτ hk hn kk H locs ls cells slots hP hD hS hl ek en
      exact h2 hC.1 hC.2.1 α ls st st' true hs (fun _ => kk α q_ag.rf H locs ls cells slots hP hD hS hl ek en) (fun h => by cases h)
    | false =>
      cases hf
      refine ⟨⟨⟨hg.1, h1 st st' _ _ hs hg.2.1, hg.2.2⟩, Nat.le_refl _, Nat.le_refl _, Nat.le_refl _⟩, ?_⟩
      intro p l e R s m args below meth c Q D cA A k0 n0 α hC hR1 hR2 hτ hk hn kk H locs ls cells slots hP hD hS hl ek en
      exact h2 hC.1 hC.2.1 α ls st st' false hs (fun h => by cases h) (fun _ => kk α q_ag.rf H locs ls cells slots hP hD hS hl ek en)
def q_b1 (t : Int32 → Bool) (st : List Value) : Option (Bool × List Value) := match st with
  | .int x :: r => some (t x, r)
  | _ => none
def q_b2 (t : Int32 → Int32 → Bool) (st : List Value) : Option (Bool × List Value) := match st with
  | .int y :: .int x :: r => some (t x y, r)
  | _ => none
theorem q_J_b1 {t : Int32 → Bool} (h2 : ∀ {p : Program} {l : Launch} {e : Env} {R : Room} {s : State} {m : MethodId} {args : Array Value} {below : List Frame} {meth : Method} {c : Code} {H : Heap} {locs : List Loc} {cells slots : Nat} {Q : State → Prop} {ls : Array Slot} {rest : List Value} {x : Int32}, p.tables.exec = Jvm.exec → c.code = cc →
      (t x = true → W p l e R s m args below meth c H locs cells slots Q (F0 m tgt ls rest)) → (t x = false → W p l e R s m args below meth c H locs cells slots Q (F0 m nx ls rest)) → W p l e R s m args below meth c H locs cells slots Q (F0 m pc ls (.int x :: rest))) : q_J WU cl tyl GF τ own mname cc nL pc (q_rs (q_br tgt nx (q_b1 t))) :=
  q_J_br (fun st st' u n h hs => by
    unfold q_b1 at h
    split at h
    · cases h; exact q_ok1 hs
    · cases h) (fun he hb α ls st st' u h kt kf => by
    unfold q_b1 at h
    split at h
    · cases h; exact h2 he hb kt kf
    · cases h)
theorem q_J_b2 {t : Int32 → Int32 → Bool} (h2 : ∀ {p : Program} {l : Launch} {e : Env} {R : Room} {s : State} {m : MethodId} {args : Array Value} {below : List Frame} {meth : Method} {c : Code} {H : Heap} {locs : List Loc} {cells slots : Nat} {Q : State → Prop} {ls : Array Slot} {rest : List Value} {x y : Int32}, p.tables.exec = Jvm.exec → c.code = cc →
      (t x y = true → W p l e R s m args below meth c H locs cells slots Q (F0 m tgt ls rest)) → (t x y = false → W p l e R s m args below meth c H locs cells slots Q (F0 m nx ls rest)) → W p l e R s m args below meth c H locs cells slots Q (F0 m pc ls (.int y :: .int x :: rest))) : q_J WU cl tyl GF τ own mname cc nL pc (q_rs (q_br tgt nx (q_b2 t))) :=
  q_J_br (fun st st' u n h hs => by
    unfold q_b2 at h
    split at h
    · cases h; exact q_ok2 hs
    · cases h) (fun he hb α ls st st' u h kt kf => by
    unfold q_b2 at h
    split at h
    · cases h; exact h2 he hb kt kf
    · cases h)

theorem q_if_eq {off : Int} (hdg : decode cc pc = .ok (.ifCond .eq off, 3)) (ht : (pc : Int) + off = (tgt : Int)) (hx : nx = pc + 3) : q_J WU cl tyl GF τ own mname cc nL pc (q_rs (q_br tgt nx (q_b1 fun x => decide (x = 0)))) := q_J_b1 (fun he hb kt kf => by subst hx; exact lv_if_eq he hb hdg ht (fun h => kt (decide_eq_true h)) (fun h => kf (decide_eq_false h)))
theorem q_if_lt {off : Int} (hdg : decode cc pc = .ok (.ifCond .lt off, 3)) (ht : (pc : Int) + off = (tgt : Int)) (hx : nx = pc + 3) : q_J WU cl tyl GF τ own mname cc nL pc (q_rs (q_br tgt nx (q_b1 fun x => decide (x < 0)))) := q_J_b1 (fun he hb kt kf => by subst hx; exact lv_if_lt he hb hdg ht (fun h => kt (decide_eq_true h)) (fun h => kf (decide_eq_false h)))
theorem q_if_ge {off : Int} (hdg : decode cc pc = .ok (.ifCond .ge off, 3)) (ht : (pc : Int) + off = (tgt : Int)) (hx : nx = pc + 3) : q_J WU cl tyl GF τ own mname cc nL pc (q_rs (q_br tgt nx (q_b1 fun x => decide (0 ≤ x)))) := q_J_b1 (fun he hb kt kf => by subst hx; exact lv_if_ge he hb hdg ht (fun h => kt (decide_eq_true h)) (fun h => kf (decide_eq_false h)))
theorem q_if_gt {off : Int} (hdg : decode cc pc = .ok (.ifCond .gt off, 3)) (ht : (pc : Int) + off = (tgt : Int)) (hx : nx = pc + 3) : q_J WU cl tyl GF τ own mname cc nL pc (q_rs (q_br tgt nx (q_b1 fun x => decide (0 < x)))) := q_J_b1 (fun he hb kt kf => by subst hx; exact lv_if_gt he hb hdg ht (fun h => kt (decide_eq_true h)) (fun h => kf (decide_eq_false h)))
theorem q_if_le {off : Int} (hdg : decode cc pc = .ok (.ifCond .le off, 3)) (ht : (pc : Int) + off = (tgt : Int)) (hx : nx = pc + 3) : q_J WU cl tyl GF τ own mname cc nL pc (q_rs (q_br tgt nx (q_b1 fun x => decide (x ≤ 0)))) := q_J_b1 (fun he hb kt kf => by subst hx; exact lv_if_le he hb hdg ht (fun h => kt (decide_eq_true h)) (fun h => kf (decide_eq_false h)))
theorem q_if_ne {off : Int} (hdg : decode cc pc = .ok (.ifCond .ne off, 3)) (ht : (pc : Int) + off = (tgt : Int)) (hx : nx = pc + 3) : q_J WU cl tyl GF τ own mname cc nL pc (q_rs (q_br tgt nx (q_b1 fun x => decide (¬ x = 0)))) := q_J_b1 (fun he hb kt kf => by subst hx; exact lv_if_ne he hb hdg ht (fun h => kt (decide_eq_true h)) (fun h => kf (decide_eq_false (not_not_intro h))))
theorem q_icmp_eq {off : Int} (hdg : decode cc pc = .ok (.if_icmp .eq off, 3)) (ht : (pc : Int) + off = (tgt : Int)) (hx : nx = pc + 3) : q_J WU cl tyl GF τ own mname cc nL pc (q_rs (q_br tgt nx (q_b2 fun x y => decide (x = y)))) := q_J_b2 (fun he hb kt kf => by subst hx; exact lv_icmp_eq he hb hdg ht (fun h => kt (decide_eq_true h)) (fun h => kf (decide_eq_false h)))
theorem q_icmp_lt {off : Int} (hdg : decode cc pc = .ok (.if_icmp .lt off, 3)) (ht : (pc : Int) + off = (tgt : Int)) (hx : nx = pc + 3) : q_J WU cl tyl GF τ own mname cc nL pc (q_rs (q_br tgt nx (q_b2 fun x y => decide (x < y)))) := q_J_b2 (fun he hb kt kf => by subst hx; exact lv_icmp_lt he hb hdg ht (fun h => kt (decide_eq_true h)) (fun h => kf (decide_eq_false h)))
theorem q_icmp_ge {off : Int} (hdg : decode cc pc = .ok (.if_icmp .ge off, 3)) (ht : (pc : Int) + off = (tgt : Int)) (hx : nx = pc + 3) : q_J WU cl tyl GF τ own mname cc nL pc (q_rs (q_br tgt nx (q_b2 fun x y => decide (y ≤ x)))) := q_J_b2 (fun he hb kt kf => by subst hx; exact lv_icmp_ge he hb hdg ht (fun h => kt (decide_eq_true h)) (fun h => kf (decide_eq_false h)))
theorem q_icmp_gt {off : Int} (hdg : decode cc pc = .ok (.if_icmp .gt off, 3)) (ht : (pc : Int) + off = (tgt : Int)) (hx : nx = pc + 3) : q_J WU cl tyl GF τ own mname cc nL pc (q_rs (q_br tgt nx (q_b2 fun x y => decide (y < x)))) := q_J_b2 (fun he hb kt kf => by subst hx; exact lv_icmp_gt he hb hdg ht (fun h => kt (decide_eq_true h)) (fun h => kf (decide_eq_false h)))
theorem q_icmp_le {off : Int} (hdg : decode cc pc = .ok (.if_icmp .le off, 3)) (ht : (pc : Int) + off = (tgt : Int)) (hx : nx = pc + 3) : q_J WU cl tyl GF τ own mname cc nL pc (q_rs (q_br tgt nx (q_b2 fun x y => decide (x ≤ y)))) := q_J_b2 (fun he hb kt kf => by subst hx; exact lv_icmp_le he hb hdg ht (fun h => kt (decide_eq_true h)) (fun h => kf (decide_eq_false h)))
theorem q_icmp_ne {off : Int} (hdg : decode cc pc = .ok (.if_icmp .ne off, 3)) (ht : (pc : Int) + off = (tgt : Int)) (hx : nx = pc + 3) : q_J WU cl tyl GF τ own mname cc nL pc (q_rs (q_br tgt nx (q_b2 fun x y => decide (¬ x = y)))) := q_J_b2 (fun he hb kt kf => by subst hx; exact lv_icmp_ne he hb hdg ht (fun h => kt (decide_eq_true h)) (fun h => kf (decide_eq_false (not_not_intro h))))
def q_bn (st : List Value) : Option (Bool × List Value) := match st with
  | .null :: r => some (true, r)
  | .ref _ :: r => some (false, r)
  | _ => none
def q_bnn (st : List Value) : Option (Bool × List Value) := match st with
  | .null :: r => some (false, r)
  | .ref _ :: r => some (true, r)
  | _ => none
theorem q_ifnull {off : Int} (hdg : decode cc pc = .ok (.ifnull off, 3)) (ht : (pc : Int) + off = (tgt : Int)) (hx : nx = pc + 3) : q_J WU cl tyl GF τ own mname cc nL pc (q_rs (q_br tgt nx q_bn)) :=
  q_J_br (fun st st' u n h hs => by
    unfold q_bn at h
    split at h
    · cases h; exact q_ok1 hs
    · cases h; exact q_ok1 hs
    · cases h) (fun he hb α ls st st' u h kt kf => by
    unfold q_bn at h
    split at h
    · cases h; exact lv_ifnullN he hb hdg ht (kt rfl)
    · cases h; subst hx; exact lv_ifnull he hb hdg (kf rfl)
    · cases h)
theorem q_ifnonnull {off : Int} (hdg : decode cc pc = .ok (.ifnonnull off, 3)) (ht : (pc : Int) + off = (tgt : Int)) (hx : nx = pc + 3) : q_J WU cl tyl GF τ own mname cc nL pc (q_rs (q_br tgt nx q_bnn)) :=
  q_J_br (fun st st' u n h hs => by
    unfold q_bnn at h
    split at h
    · cases h; exact q_ok1 hs
    · cases h; exact q_ok1 hs
    · cases h) (fun he hb α ls st st' u h kt kf => by
    unfold q_bnn at h
    split at h
    · cases h; subst hx; exact lv_ifnonnullN he hb hdg (kf rfl)
    · cases h; exact lv_ifnonnull he hb hdg ht (kt rfl)
    · cases h)
/-- locals -/
def q_lo (nx : Nat) (σ : q_L → List Value → Option (q_L × List Value)) (g : q_G) : Option q_G := match σ g.2.1 g.2.2.1 with
  | none => none
  | some (L, st) => some (nx, L, st, g.2.2.2)
theorem q_J_lo {σ : q_L → List Value → Option (q_L × List Value)}
    (h1 : ∀ (L L' : q_L) (st st' : List Value) (n : Nat), σ L st = some (L', st') → (∀ q ∈ L, q_ok n q.2) → (∀ v ∈ st, q_ok n v) → (∀ q ∈ L', q_ok n q.2) ∧ ∀ v ∈ st', q_ok n v)
    (h2 : ∀ {p : Program} {l : Launch} {e : Env} {R : Room} {s : State} {m : MethodId} {args : Array Value} {below : List Frame} {meth : Method} {c : Code} {H : Heap} {locs : List Loc} {cells slots : Nat} {Q : State → Prop}, p.tables.exec = Jvm.exec → c.code = cc → ∀ (α : Nat → Nat) (ls : Array Slot) (L L' : q_L) (st st' : List Value), lv_has ls nL (q_l α L) → σ L st = some (L', st') →
      (∀ ls' : Array Slot, lv_has ls' nL (q_l α L') → W p l e R s m args below meth c H locs cells slots Q (F0 m nx ls' (st'.map (q_v α)))) → W p l e R s m args below meth c H locs cells slots Q (F0 m pc ls (st.map (q_v α)))) :
    q_J WU cl tyl GF τ own mname cc nL pc (q_lo nx σ) := by
  intro g g' hpc hf hg
  obtain ⟨pc', L, st, h⟩ := g
  obtain rfl : pc' = pc := hpc
  unfold q_lo at hf
  dsimp only at hf
  cases hs : σ L st with
  | none => rw [hs] at hf; cases hf
  | some x =>
    obtain ⟨L', st'⟩ := x
    rw [hs] at hf
    cases hf
    obtain ⟨o1, o2⟩ := h1 L L' st st' _ hs hg.1 hg.2.1
    refine ⟨⟨⟨o1, o2, hg.2.2⟩, Nat.le_refl _, Nat.le_refl _, Nat.le_refl _⟩, ?_⟩
    intro p l e R s m args below meth c Q D cA A k0 n0 α hC hR1 hR2 hτ hk hn kk H locs ls cells slots hP hD hS hl ek en
    exact h2 hC.1 hC.2.1 α ls L L' st st' hl hs (fun ls' hl' => kk α q_ag.rf H locs ls' cells slots hP hD hS hl' ek en)
def q_fis (i : Nat) (L : q_L) (st : List Value) : Option (q_L × List Value) := match st with
  | .int x :: r => some (q_s1 L i (.int x), r)
  | _ => none
def q_fls (i : Nat) (L : q_L) (st : List Value) : Option (q_L × List Value) := match st with
  | .long x :: r => some (q_s2 L i (.long x), r)
  | _ => none
def q_fds (i : Nat) (L : q_L) (st : List Value) : Option (q_L × List Value) := match st with
  | .double x :: r => some (q_s2 L i (.double x), r)
  | _ => none
def q_fas (i : Nat) (L : q_L) (st : List Value) : Option (q_L × List Value) := match st with
  | .ref a :: r => some (q_s1 L i (.ref a), r)
  | .null :: r => some (q_s1 L i .null, r)
  | _ => none
def q_finc (i : Nat) (d : Int32) (L : q_L) (st : List Value) : Option (q_L × List Value) := match q_ld L i with
  | some (.int x) => some (q_s1 L i (.int (x + d)), st)
  | _ => none

theorem q_istore_n {k : Fin 4} {i : Nat} (hdg : decode cc pc = .ok (.istore_n k, 1)) (hi : (k : Nat) = i) (hn : i < nL) (hx : nx = pc + 1) : q_J WU cl tyl GF τ own mname cc nL pc (q_lo nx (q_fis i)) :=
  q_J_lo (fun L L' st st' n h hL hs => by
    unfold q_fis at h
    split at h
    · cases h; exact ⟨q_s1_ok hL (q_ok0 hs), q_ok1 hs⟩
    · cases h) (fun he hb α ls L L' st st' hl hs k => by
    subst hx
    unfold q_fis at hs
    split at hs
    · rename_i x r
      cases hs; exact lv_istore_n he hb hdg hi hl hn (q_s1_l α L i (.int x)) k
    · cases hs)
theorem q_istore {i : Nat} (hdg : decode cc pc = .ok (.istore i, 2)) (hn : i < nL) (hx : nx = pc + 2) : q_J WU cl tyl GF τ own mname cc nL pc (q_lo nx (q_fis i)) :=
  q_J_lo (fun L L' st st' n h hL hs => by
    unfold q_fis at h
    split at h
    · cases h; exact ⟨q_s1_ok hL (q_ok0 hs), q_ok1 hs⟩
    · cases h) (fun he hb α ls L L' st st' hl hs k => by
    subst hx
    unfold q_fis at hs
    split at hs
    · rename_i x r
      cases hs; exact lv_istore he hb hdg hl hn (q_s1_l α L i (.int x)) k
    · cases hs)
theorem q_lstore_n {k : Fin 4} {i : Nat} (hdg : decode cc pc = .ok (.lstore_n k, 1)) (hi : (k : Nat) = i) (hn : i + 1 < nL) (hx : nx = pc + 1) : q_J WU cl tyl GF τ own mname cc nL pc (q_lo nx (q_fls i)) :=
  q_J_lo (fun L L' st st' n h hL hs => by
    unfold q_fls at h
    split at h
    · cases h; exact ⟨q_s2_ok hL (q_ok0 hs), q_ok1 hs⟩
    · cases h) (fun he hb α ls L L' st st' hl hs k => by
    subst hx
    unfold q_fls at hs
    split at hs
    · rename_i x r
      cases hs; exact lv_lstore_n he hb hdg hi hl hn (q_s2_l α L i (.long x)) k
    · cases hs)
theorem q_lstore {i : Nat} (hdg : decode cc pc = .ok (.lstore i, 2)) (hn : i + 1 < nL) (hx : nx = pc + 2) : q_J WU cl tyl GF τ own mname cc nL pc (q_lo nx (q_fls i)) :=
  q_J_lo (fun L L' st st' n h hL hs => by
    unfold q_fls at h
    split at h
    · cases h; exact ⟨q_s2_ok hL (q_ok0 hs), q_ok1 hs⟩
    · cases h) (fun he hb α ls L L' st st' hl hs k => by
    subst hx
    unfold q_fls at hs
    split at hs
    · rename_i x r
      cases hs; exact lv_lstore he hb hdg hl hn (q_s2_l α L i (.long x)) k
    · cases hs)
theorem q_dstore_n {k : Fin 4} {i : Nat} (hdg : decode cc pc = .ok (.dstore_n k, 1)) (hi : (k : Nat) = i) (hn : i + 1 < nL) (hx : nx = pc + 1) : q_J WU cl tyl GF τ own mname cc nL pc (q_lo nx (q_fds i)) :=
  q_J_lo (fun L L' st st' n h hL hs => by
    unfold q_fds at h
    split at h
    · cases h; exact ⟨q_s2_ok hL (q_ok0 hs), q_ok1 hs⟩
    · cases h) (fun he hb α ls L L' st st' hl hs k => by
    subst hx
    unfold q_fds at hs
    split at hs
    · rename_i x r
      cases hs; exact lv_dstore_n he hb hdg hi hl hn (q_s2_l α L i (.double x)) k
    · cases hs)
theorem q_dstore {i : Nat} (hdg : decode cc pc = .ok (.dstore i, 2)) (hn : i + 1 < nL) (hx : nx = pc + 2) : q_J WU cl tyl GF τ own mname cc nL pc (q_lo nx (q_fds i)) :=
  q_J_lo (fun L L' st st' n h hL hs => by
    unfold q_fds at h
    split at h
    · cases h; exact ⟨q_s2_ok hL (q_ok0 hs), q_ok1 hs⟩
    · cases h) (fun he hb α ls L L' st st' hl hs k => by
    subst hx
    unfold q_fds at hs
    split at hs
    · rename_i x r
      cases hs; exact lv_dstore he hb hdg hl hn (q_s2_l α L i (.double x)) k
    · cases hs)
theorem q_astore_n {k : Fin 4} {i : Nat} (hdg : decode cc pc = .ok (.astore_n k, 1)) (hi : (k : Nat) = i) (hn : i < nL) (hx : nx = pc + 1) : q_J WU cl tyl GF τ own mname cc nL pc (q_lo nx (q_fas i)) :=
  q_J_lo (fun L L' st st' n h hL hs => by
    unfold q_fas at h
    split at h
    · cases h; exact ⟨q_s1_ok hL (q_ok0 hs), q_ok1 hs⟩
    · cases h; exact ⟨q_s1_ok hL (q_ok0 hs), q_ok1 hs⟩
    · cases h) (fun he hb α ls L L' st st' hl hs k => by
    subst hx
    unfold q_fas at hs
    split at hs
    · rename_i x r
      cases hs; exact lv_astore_n he hb hdg hi hl hn (q_s1_l α L i (.ref x)) k
    · cases hs; exact lv_astore_nN he hb hdg hi hl hn (q_s1_l α L i .null) k
    · cases hs)
theorem q_astore {i : Nat} (hdg : decode cc pc = .ok (.astore i, 2)) (hn : i < nL) (hx : nx = pc + 2) : q_J WU cl tyl GF τ own mname cc nL pc (q_lo nx (q_fas i)) :=
  q_J_lo (fun L L' st st' n h hL hs => by
    unfold q_fas at h
    split at h
    · cases h; exact ⟨q_s1_ok hL (q_ok0 hs), q_ok1 hs⟩
    · cases h; exact ⟨q_s1_ok hL (q_ok0 hs), q_ok1 hs⟩
    · cases h) (fun he hb α ls L L' st st' hl hs k => by
    subst hx
    unfold q_fas at hs
    split at hs
    · rename_i x r
      cases hs; exact lv_astore he hb hdg hl hn (q_s1_l α L i (.ref x)) k
    · cases hs; exact lv_astoreN he hb hdg hl hn (q_s1_l α L i .null) k
    · cases hs)
theorem q_iinc {i : Nat} {n : Int} {d : Int32} (hdg : decode cc pc = .ok (.iinc i n, 3)) (hd : Int32.ofInt n = d) (hn : i < nL) (hx : nx = pc + 3) : q_J WU cl tyl GF τ own mname cc nL pc (q_lo nx (q_finc i d)) :=
  q_J_lo (fun L L' st st' n h hL hs => by
    unfold q_finc at h
    split at h
    · cases h; exact ⟨q_s1_ok hL (q_ok_int _ _), hs⟩
    · cases h) (fun he hb α ls L L' st st' hl hs k => by
    subst hx; subst hd
    unfold q_finc at hs
    split at hs
    · rename_i x hq
      cases hs
      have hm : (i, Value.int x) ∈ q_l α L := List.mem_map.mpr ⟨(i, .int x), q_ld_mem hq, rfl⟩
      obtain ⟨j, hj⟩ := List.getElem?_of_mem hm
      exact lv_iinc he hb hdg hl hj rfl hn (q_s1_l α L i (.int _)) k
    · cases hs)

end QB
