/-! ===== what it is that a step of the small machine is one of the machine ===== -/
def q_T (cA : Nat → ClassId) (tyl : List FieldType) : List (ClassId × FieldType) := tyl.mapIdx fun t ty => (cA t, ty)
theorem q_T_at {cA : Nat → ClassId} {tyl : List FieldType} {t : Nat} {ty : FieldType} (h : tyl[t]? = some ty) : (q_T cA tyl)[t]? = some (cA t, ty) := by
  unfold q_T
  rw [List.getElem?_mapIdx, h]; rfl
/-- what holds all over a method's run: the code, its class, the words, the known classes, what lies outside -/
def q_Ctx (WU : List Cond) (cl : List vw_C) (tyl : List FieldType) (GF : (Nat → Prop) → State → Heap → Prop) (own mname : String) (bytes : ByteArray) (nL : Nat) (p : Program) (l : Launch) (s : State) (m : MethodId) (args : Array Value) (meth : Method) (c : Code) (D : va_G) (cA : Nat → ClassId) (A : Nat → Prop) : Prop :=
  p.tables.exec = Jvm.exec ∧ c.code = bytes ∧ s.vm.findClass own = some m.cls ∧ c.maxLocals = nL ∧ (∀ w ∈ WU, w.before args s = true) ∧ va_K D cl (q_T cA tyl) s ∧ (∀ q, s.heap.size ≤ q → A q) ∧ GF A s s.heap ∧ l.stackTraces = false ∧ meth.locks = false ∧ meth.name = mname
def q_W (cl : List vw_C) (D : va_G) (cA : Nat → ClassId) (A : Nat → Prop) (nL : Nat) (p : Program) (l : Launch) (e : Env) (R : Room) (s : State) (m : MethodId) (args : Array Value) (below : List Frame) (meth : Method) (c : Code) (Q : State → Prop) (k0 n0 : Nat) (α : Nat → Nat) (g : q_G) : Prop :=
  ∀ (H : Heap) (locs : List Loc) (ls : Array Slot) (cells slots : Nat), va_P D cl (q_w cA α g.2.2.2.1) H → va_D A (q_w cA α g.2.2.2.1) → va_S A s.heap H locs → lv_has ls nL (q_l α g.2.1) → k0 + cells = g.2.2.2.2.1 → n0 + slots = g.2.2.2.2.2 →
    W p l e R s m args below meth c H locs cells slots Q (F0 m g.1 ls (g.2.2.1.map (q_v α)))
/-- nothing that there was is lost -/
def q_gr (g g' : q_G) : Prop := q_okg g' ∧ g.2.2.2.1.length ≤ g'.2.2.2.1.length ∧ g.2.2.2.2.1 ≤ g'.2.2.2.2.1 ∧ g.2.2.2.2.2 ≤ g'.2.2.2.2.2
/-- a step that is neither call nor end -/
def q_J (WU : List Cond) (cl : List vw_C) (tyl : List FieldType) (GF : (Nat → Prop) → State → Heap → Prop) (τ : Nat → Nat) (own mname : String) (bytes : ByteArray) (nL pc : Nat) (f : q_G → Option q_G) : Prop :=
  ∀ (g g' : q_G), g.1 = pc → f g = some g' → q_okg g → q_gr g g' ∧
    ∀ (p : Program) (l : Launch) (e : Env) (R : Room) (s : State) (m : MethodId) (args : Array Value) (below : List Frame) (meth : Method) (c : Code) (Q : State → Prop) (D : va_G) (cA : Nat → ClassId) (A : Nat → Prop) (k0 n0 : Nat) (α : Nat → Nat),
      q_Ctx WU cl tyl GF own mname bytes nL p l s m args meth c D cA A → 1 ≤ R.frames → 60 ≤ R.locals → (∀ a, a < 64 → α a = τ a) → g'.2.2.2.2.1 ≤ k0 + R.cells → g'.2.2.2.2.2 ≤ n0 + R.slots →
      (∀ β, q_ag α β g.2.2.2.1.length → q_W cl D cA A nL p l e R s m args below meth c Q k0 n0 β g') → q_W cl D cA A nL p l e R s m args below meth c Q k0 n0 α g
/-- on the stack alone -/
def q_st (nx : Nat) (σ : q_L → List Value → Option (List Value)) (g : q_G) : Option q_G := match σ g.2.1 g.2.2.1 with
  | none => none
  | some st => some (nx, g.2.1, st, g.2.2.2)
section QS
variable {WU : List Cond} {cl : List vw_C} {tyl : List FieldType} {GF : (Nat → Prop) → State → Heap → Prop} {τ : Nat → Nat} {own mname : String} {cc : ByteArray} {nL pc nx len : Nat}
theorem q_J_st {σ : q_L → List Value → Option (List Value)}
    (h1 : ∀ (L : q_L) (st st' : List Value) (n : Nat), σ L st = some st' → (∀ q ∈ L, q_ok n q.2) → (∀ v ∈ st, q_ok n v) → ∀ v ∈ st', q_ok n v)
    (h2 : ∀ {p : Program} {l : Launch} {e : Env} {R : Room} {s : State} {m : MethodId} {args : Array Value} {below : List Frame} {meth : Method} {c : Code} {H : Heap} {locs : List Loc} {cells slots : Nat} {Q : State → Prop}, p.tables.exec = Jvm.exec → c.code = cc → s.vm.findClass own = some m.cls → (∀ w ∈ WU, w.before args s = true) → ∀ (α : Nat → Nat) (ls : Array Slot) (L : q_L) (st st' : List Value), lv_has ls nL (q_l α L) → σ L st = some st' →
      W p l e R s m args below meth c H locs cells slots Q (F0 m nx ls (st'.map (q_v α))) → W p l e R s m args below meth c H locs cells slots Q (F0 m pc ls (st.map (q_v α)))) :
    q_J WU cl tyl GF τ own mname cc nL pc (q_st nx σ) := by
  intro g g' hpc hf hg
  obtain ⟨pc', L, st, h⟩ := g
  obtain rfl : pc' = pc := hpc
  unfold q_st at hf
  dsimp only at hf
  cases hs : σ L st with
  | none => rw [hs] at hf; cases hf
  | some st' =>
    rw [hs] at hf
    cases hf
    refine ⟨⟨⟨hg.1, h1 L st st' _ hs hg.1 hg.2.1, hg.2.2⟩, Nat.le_refl _, Nat.le_refl _, Nat.le_refl _⟩, ?_⟩
    intro p l e R s m args below meth c Q D cA A k0 n0 α hC hR1 hR2 hτ hk hn kk H locs ls cells slots hP hD hS hl ek en
    exact h2 hC.1 hC.2.1 hC.2.2.1 hC.2.2.2.2.1 α ls L st st' hl hs (kk α q_ag.rf H locs ls cells slots hP hD hS hl ek en)
/-- pushing -/
def q_fk (v : Value) (_ : q_L) (st : List Value) : Option (List Value) := some (v :: st)
theorem q_fk_ok (v : Value) (hv : ∀ a, ¬ v = .ref a) (L : q_L) (st st' : List Value) (n : Nat) (h : q_fk v L st = some st') (_ : ∀ q ∈ L, q_ok n q.2) (hs : ∀ v ∈ st, q_ok n v) : ∀ w ∈ st', q_ok n w := by
  cases h
  intro w hw
  rcases List.mem_cons.mp hw with rfl | h1
  · exact fun a ha => absurd ha (hv a)
  · exact hs w h1
theorem q_iconst {n : Int} {v : Int32} (hdg : decode cc pc = .ok (.iconst n, 1)) (hv : Int32.ofInt n = v) (hx : nx = pc + 1) : q_J WU cl tyl GF τ own mname cc nL pc (q_st nx (q_fk (.int v))) :=
  q_J_st (q_fk_ok _ (fun a h => by cases h)) (fun he hb _ _ α ls L st st' hl hs k => by cases hs; subst hx; exact lv_iconst he hb hdg hv k)
theorem q_bipush {n : Int} {v : Int32} (hdg : decode cc pc = .ok (.bipush n, 2)) (hv : (Int8.ofInt n).toInt32 = v) (hx : nx = pc + 2) : q_J WU cl tyl GF τ own mname cc nL pc (q_st nx (q_fk (.int v))) :=
  q_J_st (q_fk_ok _ (fun a h => by cases h)) (fun he hb _ _ α ls L st st' hl hs k => by cases hs; subst hx; exact lv_bipush he hb hdg hv k)
theorem q_sipush {n : Int} {v : Int32} (hdg : decode cc pc = .ok (.sipush n, 3)) (hv : (Int16.ofInt n).toInt32 = v) (hx : nx = pc + 3) : q_J WU cl tyl GF τ own mname cc nL pc (q_st nx (q_fk (.int v))) :=
  q_J_st (q_fk_ok _ (fun a h => by cases h)) (fun he hb _ _ α ls L st st' hl hs k => by cases hs; subst hx; exact lv_sipush he hb hdg hv k)
theorem q_lconst {n : Fin 2} {v : Int64} (hdg : decode cc pc = .ok (.lconst n, 1)) (hv : Int64.ofNat (n : Nat) = v) (hx : nx = pc + 1) : q_J WU cl tyl GF τ own mname cc nL pc (q_st nx (q_fk (.long v))) :=
  q_J_st (q_fk_ok _ (fun a h => by cases h)) (fun he hb _ _ α ls L st st' hl hs k => by cases hs; subst hx; exact lv_lconst he hb hdg hv k)
theorem q_null (hdg : decode cc pc = .ok (.aconst_null, 1)) (hx : nx = pc + 1) : q_J WU cl tyl GF τ own mname cc nL pc (q_st nx (q_fk .null)) :=
  q_J_st (q_fk_ok _ (fun a h => by cases h)) (fun he hb _ _ α ls L st st' hl hs k => by cases hs; subst hx; exact lv_null he hb hdg k)
theorem q_ldc {idx : Nat} {v : Int32} (hdg : decode cc pc = .ok (.ldc idx, 2)) (hw : Jvm.Cond.constant own idx v ∈ WU) (hx : nx = pc + 2) : q_J WU cl tyl GF τ own mname cc nL pc (q_st nx (q_fk (.int v))) :=
  q_J_st (q_fk_ok _ (fun a h => by cases h)) (fun he hb ho ht α ls L st st' hl hs k => by cases hs; subst hx; exact lv_ldc he hb ho (ht _ hw) hdg k)
theorem q_ldc2 {idx : Nat} {v : Int64} (hdg : decode cc pc = .ok (.ldc2_w idx, 3)) (hw : Jvm.Cond.constantLong own idx v ∈ WU) (hx : nx = pc + 3) : q_J WU cl tyl GF τ own mname cc nL pc (q_st nx (q_fk (.long v))) :=
  q_J_st (q_fk_ok _ (fun a h => by cases h)) (fun he hb ho ht α ls L st st' hl hs k => by cases hs; subst hx; exact lv_ldc2 he hb ho (ht _ hw) hdg k)
/-- loads -/
def q_fil (i : Nat) (L : q_L) (st : List Value) : Option (List Value) := match q_ld L i with
  | some (.int x) => some (.int x :: st)
  | _ => none
def q_fll (i : Nat) (L : q_L) (st : List Value) : Option (List Value) := match q_ld L i with
  | some (.long x) => some (.long x :: st)
  | _ => none
def q_fdl (i : Nat) (L : q_L) (st : List Value) : Option (List Value) := match q_ld L i with
  | some (.double x) => some (.double x :: st)
  | _ => none
def q_fal (i : Nat) (L : q_L) (st : List Value) : Option (List Value) := match q_ld L i with
  | some (.ref a) => some (.ref a :: st)
  | some .null => some (.null :: st)
  | _ => none
theorem q_okcons {n : Nat} {v : Value} {st : List Value} (hv : q_ok n v) (hs : ∀ w ∈ st, q_ok n w) : ∀ w ∈ v :: st, q_ok n w := fun w hw => by
  rcases List.mem_cons.mp hw with rfl | h1
  · exact hv
  · exact hs w h1
theorem q_fil_ok (i : Nat) (L : q_L) (st st' : List Value) (n : Nat) (h : q_fil i L st = some st') (_ : ∀ q ∈ L, q_ok n q.2) (hs : ∀ v ∈ st, q_ok n v) : ∀ w ∈ st', q_ok n w := by
  unfold q_fil at h
  split at h
  · cases h; exact q_okcons (q_ok_int _ _) hs
  · cases h
theorem q_fll_ok (i : Nat) (L : q_L) (st st' : List Value) (n : Nat) (h : q_fll i L st = some st') (_ : ∀ q ∈ L, q_ok n q.2) (hs : ∀ v ∈ st, q_ok n v) : ∀ w ∈ st', q_ok n w := by
  unfold q_fll at h
  split at h
  · cases h; exact q_okcons (q_ok_long _ _) hs
  · cases h
theorem q_fdl_ok (i : Nat) (L : q_L) (st st' : List Value) (n : Nat) (h : q_fdl i L st = some st') (_ : ∀ q ∈ L, q_ok n q.2) (hs : ∀ v ∈ st, q_ok n v) : ∀ w ∈ st', q_ok n w := by
  unfold q_fdl at h
  split at h
  · cases h; exact q_okcons (q_ok_double _ _) hs
  · cases h
theorem q_fal_ok (i : Nat) (L : q_L) (st st' : List Value) (n : Nat) (h : q_fal i L st = some st') (hL : ∀ q ∈ L, q_ok n q.2) (hs : ∀ v ∈ st, q_ok n v) : ∀ w ∈ st', q_ok n w := by
  unfold q_fal at h
  split at h
  · rename_i a ha
    cases h; exact q_okcons (hL _ (q_ld_mem ha)) hs
  · cases h; exact q_okcons (q_ok_null _) hs
  · cases h
theorem q_iload_n {k : Fin 4} {i : Nat} (hdg : decode cc pc = .ok (.iload_n k, 1)) (hi : (k : Nat) = i) (hx : nx = pc + 1) : q_J WU cl tyl GF τ own mname cc nL pc (q_st nx (q_fil i)) :=
  q_J_st (q_fil_ok i) (fun he hb _ _ α ls L st st' hl hs k => by
    unfold q_fil at hs
    split at hs
    · rename_i x hq
      cases hs; subst hx; exact lv_iload_n he hb hdg hi (q_ld_at hl hq) k
    · cases hs)
theorem q_iload {i : Nat} (hdg : decode cc pc = .ok (.iload i, 2)) (hx : nx = pc + 2) : q_J WU cl tyl GF τ own mname cc nL pc (q_st nx (q_fil i)) :=
  q_J_st (q_fil_ok i) (fun he hb _ _ α ls L st st' hl hs k => by
    unfold q_fil at hs
    split at hs
    · rename_i x hq
      cases hs; subst hx; exact lv_iload he hb hdg (q_ld_at hl hq) k
    · cases hs)
theorem q_lload_n {k : Fin 4} {i : Nat} (hdg : decode cc pc = .ok (.lload_n k, 1)) (hi : (k : Nat) = i) (hx : nx = pc + 1) : q_J WU cl tyl GF τ own mname cc nL pc (q_st nx (q_fll i)) :=
  q_J_st (q_fll_ok i) (fun he hb _ _ α ls L st st' hl hs k => by
    unfold q_fll at hs
    split at hs
    · rename_i x hq
      cases hs; subst hx; exact lv_lload_n he hb hdg hi (q_ld_at hl hq) k
    · cases hs)
theorem q_lload {i : Nat} (hdg : decode cc pc = .ok (.lload i, 2)) (hx : nx = pc + 2) : q_J WU cl tyl GF τ own mname cc nL pc (q_st nx (q_fll i)) :=
  q_J_st (q_fll_ok i) (fun he hb _ _ α ls L st st' hl hs k => by
    unfold q_fll at hs
    split at hs
    · rename_i x hq
      cases hs; subst hx; exact lv_lload he hb hdg (q_ld_at hl hq) k
    · cases hs)
theorem q_dload {i : Nat} (hdg : decode cc pc = .ok (.dload i, 2)) (hx : nx = pc + 2) : q_J WU cl tyl GF τ own mname cc nL pc (q_st nx (q_fdl i)) :=
  q_J_st (q_fdl_ok i) (fun he hb _ _ α ls L st st' hl hs k => by
    unfold q_fdl at hs
    split at hs
    · rename_i x hq
      cases hs; subst hx; exact lv_dload he hb hdg (q_ld_at hl hq) k
    · cases hs)
theorem q_aload_n {k : Fin 4} {i : Nat} (hdg : decode cc pc = .ok (.aload_n k, 1)) (hi : (k : Nat) = i) (hx : nx = pc + 1) : q_J WU cl tyl GF τ own mname cc nL pc (q_st nx (q_fal i)) :=
  q_J_st (q_fal_ok i) (fun he hb _ _ α ls L st st' hl hs k => by
    unfold q_fal at hs
    split at hs
    · rename_i x hq
      cases hs; subst hx; exact lv_aload_n he hb hdg hi (q_ld_at hl hq) k
    · rename_i hq
      cases hs; subst hx; exact lv_aload_nN he hb hdg hi (q_ld_at hl hq) k
    · cases hs)
theorem q_aload {i : Nat} (hdg : decode cc pc = .ok (.aload i, 2)) (hx : nx = pc + 2) : q_J WU cl tyl GF τ own mname cc nL pc (q_st nx (q_fal i)) :=
  q_J_st (q_fal_ok i) (fun he hb _ _ α ls L st st' hl hs k => by
    unfold q_fal at hs
    split at hs
    · rename_i x hq
      cases hs; subst hx; exact lv_aload he hb hdg (q_ld_at hl hq) k
    · rename_i hq
      cases hs; subst hx; exact lv_aloadN he hb hdg (q_ld_at hl hq) k
    · cases hs)
/-- two ints make an int -/
def q_fii (o : Int32 → Int32 → Int32) (_ : q_L) (st : List Value) : Option (List Value) := match st with
  | .int y :: .int x :: r => some (.int (o x y) :: r)
  | _ => none
theorem q_ok2 {n : Nat} {a b : Value} {r : List Value} (h : ∀ v ∈ a :: b :: r, q_ok n v) : ∀ v ∈ r, q_ok n v := fun v hv => h v (List.mem_cons_of_mem _ (List.mem_cons_of_mem _ hv))
theorem q_ok1 {n : Nat} {a : Value} {r : List Value} (h : ∀ v ∈ a :: r, q_ok n v) : ∀ v ∈ r, q_ok n v := fun v hv => h v (List.mem_cons_of_mem _ hv)
theorem q_ok0 {n : Nat} {a : Value} {r : List Value} (h : ∀ v ∈ a :: r, q_ok n v) : q_ok n a := h a List.mem_cons_self
theorem q_fii_ok (o : Int32 → Int32 → Int32) (L : q_L) (st st' : List Value) (n : Nat) (h : q_fii o L st = some st') (_ : ∀ q ∈ L, q_ok n q.2) (hs : ∀ v ∈ st, q_ok n v) : ∀ w ∈ st', q_ok n w := by
  unfold q_fii at h
  split at h
  · cases h; exact q_okcons (q_ok_int _ _) (q_ok2 hs)
  · cases h
theorem q_J_ii {o : Int32 → Int32 → Int32} (h2 : ∀ {p : Program} {l : Launch} {e : Env} {R : Room} {s : State} {m : MethodId} {args : Array Value} {below : List Frame} {meth : Method} {c : Code} {H : Heap} {locs : List Loc} {cells slots : Nat} {Q : State → Prop} {ls : Array Slot} {rest : List Value} {x y : Int32}, p.tables.exec = Jvm.exec → c.code = cc →
      W p l e R s m args below meth c H locs cells slots Q (F0 m nx ls (.int (o x y) :: rest)) → W p l e R s m args below meth c H locs cells slots Q (F0 m pc ls (.int y :: .int x :: rest))) : q_J WU cl tyl GF τ own mname cc nL pc (q_st nx (q_fii o)) :=
  q_J_st (q_fii_ok o) (fun he hb _ _ α ls L st st' hl hs k => by
    unfold q_fii at hs
    split at hs
    · cases hs; exact h2 he hb k
    · cases hs)
theorem q_iadd (hdg : decode cc pc = .ok (.iadd, 1)) (hx : nx = pc + 1) : q_J WU cl tyl GF τ own mname cc nL pc (q_st nx (q_fii fun x y => x + y)) := q_J_ii (fun he hb k => by subst hx; exact lv_iadd he hb hdg k)
theorem q_isub (hdg : decode cc pc = .ok (.isub, 1)) (hx : nx = pc + 1) : q_J WU cl tyl GF τ own mname cc nL pc (q_st nx (q_fii fun x y => x - y)) := q_J_ii (fun he hb k => by subst hx; exact lv_isub he hb hdg k)
theorem q_imul (hdg : decode cc pc = .ok (.imul, 1)) (hx : nx = pc + 1) : q_J WU cl tyl GF τ own mname cc nL pc (q_st nx (q_fii fun x y => x * y)) := q_J_ii (fun he hb k => by subst hx; exact lv_imul he hb hdg k)
theorem q_iand (hdg : decode cc pc = .ok (.iand, 1)) (hx : nx = pc + 1) : q_J WU cl tyl GF τ own mname cc nL pc (q_st nx (q_fii fun x y => x &&& y)) := q_J_ii (fun he hb k => by subst hx; exact lv_iand he hb hdg k)
theorem q_ior (hdg : decode cc pc = .ok (.ior, 1)) (hx : nx = pc + 1) : q_J WU cl tyl GF τ own mname cc nL pc (q_st nx (q_fii fun x y => x ||| y)) := q_J_ii (fun he hb k => by subst hx; exact lv_ior he hb hdg k)
theorem q_ixor (hdg : decode cc pc = .ok (.ixor, 1)) (hx : nx = pc + 1) : q_J WU cl tyl GF τ own mname cc nL pc (q_st nx (q_fii fun x y => x ^^^ y)) := q_J_ii (fun he hb k => by subst hx; exact lv_ixor he hb hdg k)
theorem q_ishl (hdg : decode cc pc = .ok (.ishl, 1)) (hx : nx = pc + 1) : q_J WU cl tyl GF τ own mname cc nL pc (q_st nx (q_fii fun x y => x <<< (y &&& 31))) := q_J_ii (fun he hb k => by subst hx; exact lv_ishl he hb hdg k)
theorem q_ishr (hdg : decode cc pc = .ok (.ishr, 1)) (hx : nx = pc + 1) : q_J WU cl tyl GF τ own mname cc nL pc (q_st nx (q_fii fun x y => x >>> (y &&& 31))) := q_J_ii (fun he hb k => by subst hx; exact lv_ishr he hb hdg k)
theorem q_iushr (hdg : decode cc pc = .ok (.iushr, 1)) (hx : nx = pc + 1) : q_J WU cl tyl GF τ own mname cc nL pc (q_st nx (q_fii fun x y => (x.toUInt32 >>> (y.toUInt32 &&& Int32.toUInt32 31)).toInt32)) := q_J_ii (fun he hb k => by subst hx; exact lv_iushr he hb hdg rfl k)
/-- a division: the divisor isn't 0 -/
def q_fiz (o : Int32 → Int32 → Int32) (_ : q_L) (st : List Value) : Option (List Value) := match st with
  | .int y :: .int x :: r => if y = 0 then none else some (.int (o x y) :: r)
  | _ => none
theorem q_J_iz {o : Int32 → Int32 → Int32} (h2 : ∀ {p : Program} {l : Launch} {e : Env} {R : Room} {s : State} {m : MethodId} {args : Array Value} {below : List Frame} {meth : Method} {c : Code} {H : Heap} {locs : List Loc} {cells slots : Nat} {Q : State → Prop} {ls : Array Slot} {rest : List Value} {x y : Int32}, p.tables.exec = Jvm.exec → c.code = cc → ¬ y = 0 →
      W p l e R s m args below meth c H locs cells slots Q (F0 m nx ls (.int (o x y) :: rest)) → W p l e R s m args below meth c H locs cells slots Q (F0 m pc ls (.int y :: .int x :: rest))) : q_J WU cl tyl GF τ own mname cc nL pc (q_st nx (q_fiz o)) :=
  q_J_st (fun L st st' n h _ hs => by
    unfold q_fiz at h
    split at h
    · split at h
      · cases h
      · cases h; exact q_okcons (q_ok_int _ _) (q_ok2 hs)
    · cases h) (fun he hb _ _ α ls L st st' hl hs k => by
    unfold q_fiz at hs
    split at hs
    · split at hs
      · cases hs
      · rename_i hy
        cases hs; exact h2 he hb hy k
    · cases hs)
theorem q_idiv (hdg : decode cc pc = .ok (.idiv, 1)) (hx : nx = pc + 1) : q_J WU cl tyl GF τ own mname cc nL pc (q_st nx (q_fiz fun x y => x / y)) := q_J_iz (fun he hb hy k => by subst hx; exact lv_idiv he hb hdg hy k)
theorem q_irem (hdg : decode cc pc = .ok (.irem, 1)) (hx : nx = pc + 1) : q_J WU cl tyl GF τ own mname cc nL pc (q_st nx (q_fiz fun x y => x - x / y * y)) := q_J_iz (fun he hb hy k => by subst hx; exact lv_irem he hb hdg hy k)
/-- any other thing of the stack alone: 'one' and 'two' values taken, a value of no reference put -/
def q_f1 (o : Value → Option Value) (_ : q_L) (st : List Value) : Option (List Value) := match st with
  | v :: r => match o v with
    | none => none
    | some w => some (w :: r)
  | [] => none
def q_f2 (o : Value → Value → Option Value) (_ : q_L) (st : List Value) : Option (List Value) := match st with
  | y :: x :: r => match o x y with
    | none => none
    | some w => some (w :: r)
  | _ => none
theorem q_J_1 {o : Value → Option Value} (hr : ∀ v w, o v = some w → ∀ a, ¬ w = .ref a) (h2 : ∀ {p : Program} {l : Launch} {e : Env} {R : Room} {s : State} {m : MethodId} {args : Array Value} {below : List Frame} {meth : Method} {c : Code} {H : Heap} {locs : List Loc} {cells slots : Nat} {Q : State → Prop} {ls : Array Slot} {rest : List Value} {v w : Value} (α : Nat → Nat), p.tables.exec = Jvm.exec → c.code = cc → o v = some w →
      W p l e R s m args below meth c H locs cells slots Q (F0 m nx ls (w :: rest)) → W p l e R s m args below meth c H locs cells slots Q (F0 m pc ls (q_v α v :: rest))) : q_J WU cl tyl GF τ own mname cc nL pc (q_st nx (q_f1 o)) :=
  q_J_st (fun L st st' n h _ hs => by
    unfold q_f1 at h
    split at h
    · split at h
      · cases h
      · rename_i w hw
        cases h; exact q_okcons (fun a ha => absurd ha (hr _ _ hw a)) (q_ok1 hs)
    · cases h) (fun he hb _ _ α ls L st st' hl hs k => by
    unfold q_f1 at hs
    split at hs
    · split at hs
      · cases hs
      · rename_i w hw
        cases hs
        rw [List.map_cons] at k ⊢
        have e : q_v α w = w := by
          have := hr _ _ hw
          cases w <;> first | rfl | exact absurd rfl (this _)
        rw [e] at k
        exact h2 α he hb hw k
    · cases hs)
theorem q_J_2 {o : Value → Value → Option Value} (hr : ∀ u v w, o u v = some w → ∀ a, ¬ w = .ref a) (h2 : ∀ {p : Program} {l : Launch} {e : Env} {R : Room} {s : State} {m : MethodId} {args : Array Value} {below : List Frame} {meth : Method} {c : Code} {H : Heap} {locs : List Loc} {cells slots : Nat} {Q : State → Prop} {ls : Array Slot} {rest : List Value} {u v w : Value} (α : Nat → Nat), p.tables.exec = Jvm.exec → c.code = cc → o u v = some w →
      W p l e R s m args below meth c H locs cells slots Q (F0 m nx ls (w :: rest)) → W p l e R s m args below meth c H locs cells slots Q (F0 m pc ls (q_v α v :: q_v α u :: rest))) : q_J WU cl tyl GF τ own mname cc nL pc (q_st nx (q_f2 o)) :=
  q_J_st (fun L st st' n h _ hs => by
    unfold q_f2 at h
    split at h
    · split at h
      · cases h
      · rename_i w hw
        cases h; exact q_okcons (fun a ha => absurd ha (hr _ _ _ hw a)) (q_ok2 hs)
    · cases h) (fun he hb _ _ α ls L st st' hl hs k => by
    unfold q_f2 at hs
    split at hs
    · split at hs
      · cases hs
      · rename_i w hw
        cases hs
        rw [List.map_cons] at k
        rw [List.map_cons, List.map_cons]
        have e : q_v α w = w := by
          have := hr _ _ _ hw
          cases w <;> first | rfl | exact absurd rfl (this _)
        rw [e] at k
        exact h2 α he hb hw k
    · cases hs)
def q_o_i2l (v : Value) : Option Value := match v with | .int x => some (.long x.toInt64) | _ => none
def q_o_l2i (v : Value) : Option Value := match v with | .long x => some (.int x.toInt32) | _ => none
def q_o_i2c (v : Value) : Option Value := match v with | .int x => some (.int (x.toUInt32 % 65536).toInt32) | _ => none
def q_o_i2b (v : Value) : Option Value := match v with | .int x => some (.int x.toInt8.toInt32) | _ => none
def q_o_ineg (v : Value) : Option Value := match v with | .int x => some (.int (-x)) | _ => none
def q_o_i2f (v : Value) : Option Value := match v with | .int x => some (.float (FP.i2f x)) | _ => none
def q_o_i2d (v : Value) : Option Value := match v with | .int x => some (.double (FP.i2d x)) | _ => none
def q_o_ll (o : Int64 → Int64 → Int64) (u v : Value) : Option Value := match u, v with | .long x, .long y => some (.long (o x y)) | _, _ => none
def q_o_lz (o : Int64 → Int64 → Int64) (u v : Value) : Option Value := match u, v with | .long x, .long y => if y = 0 then none else some (.long (o x y)) | _, _ => none
theorem q_i2l (hdg : decode cc pc = .ok (.i2l, 1)) (hx : nx = pc + 1) : q_J WU cl tyl GF τ own mname cc nL pc (q_st nx (q_f1 q_o_i2l)) :=
  q_J_1 (fun v w h a => by cases v <;> cases h; exact fun h => by cases h) (fun {_ _ _ _ _ _ _ _ _ _ _ _ _ _ _ _ _ v w} α he hb h k => by cases v <;> cases h; subst hx; exact lv_i2l he hb hdg rfl k)
theorem q_l2i (hdg : decode cc pc = .ok (.l2i, 1)) (hx : nx = pc + 1) : q_J WU cl tyl GF τ own mname cc nL pc (q_st nx (q_f1 q_o_l2i)) :=
  q_J_1 (fun v w h a => by cases v <;> cases h; exact fun h => by cases h) (fun {_ _ _ _ _ _ _ _ _ _ _ _ _ _ _ _ _ v w} α he hb h k => by cases v <;> cases h; subst hx; exact lv_l2i he hb hdg rfl k)
theorem q_i2c (hdg : decode cc pc = .ok (.i2c, 1)) (hx : nx = pc + 1) : q_J WU cl tyl GF τ own mname cc nL pc (q_st nx (q_f1 q_o_i2c)) :=
  q_J_1 (fun v w h a => by cases v <;> cases h; exact fun h => by cases h) (fun {_ _ _ _ _ _ _ _ _ _ _ _ _ _ _ _ _ v w} α he hb h k => by cases v <;> cases h; subst hx; exact lv_i2c he hb hdg rfl k)
theorem q_i2b (hdg : decode cc pc = .ok (.i2b, 1)) (hx : nx = pc + 1) : q_J WU cl tyl GF τ own mname cc nL pc (q_st nx (q_f1 q_o_i2b)) :=
  q_J_1 (fun v w h a => by cases v <;> cases h; exact fun h => by cases h) (fun {_ _ _ _ _ _ _ _ _ _ _ _ _ _ _ _ _ v w} α he hb h k => by cases v <;> cases h; subst hx; exact lv_i2b he hb hdg rfl k)
theorem q_ineg (hdg : decode cc pc = .ok (.ineg, 1)) (hx : nx = pc + 1) : q_J WU cl tyl GF τ own mname cc nL pc (q_st nx (q_f1 q_o_ineg)) :=
  q_J_1 (fun v w h a => by cases v <;> cases h; exact fun h => by cases h) (fun {_ _ _ _ _ _ _ _ _ _ _ _ _ _ _ _ _ v w} α he hb h k => by cases v <;> cases h; subst hx; exact lv_ineg he hb hdg k)
theorem q_i2f (hdg : decode cc pc = .ok (.i2f, 1)) (hx : nx = pc + 1) : q_J WU cl tyl GF τ own mname cc nL pc (q_st nx (q_f1 q_o_i2f)) :=
  q_J_1 (fun v w h a => by cases v <;> cases h; exact fun h => by cases h) (fun {_ _ _ _ _ _ _ _ _ _ _ _ _ _ _ _ _ v w} α he hb h k => by cases v <;> cases h; subst hx; exact lv_i2f he hb hdg k)
theorem q_i2d (hdg : decode cc pc = .ok (.i2d, 1)) (hx : nx = pc + 1) : q_J WU cl tyl GF τ own mname cc nL pc (q_st nx (q_f1 q_o_i2d)) :=
  q_J_1 (fun v w h a => by cases v <;> cases h; exact fun h => by cases h) (fun {_ _ _ _ _ _ _ _ _ _ _ _ _ _ _ _ _ v w} α he hb h k => by cases v <;> cases h; subst hx; exact lv_i2d he hb hdg k)
end QS
