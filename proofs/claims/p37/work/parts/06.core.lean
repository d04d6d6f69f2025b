/-! ===== methods of the small machine, and what it is that a method of the machine does as one of the small machine ===== -/
abbrev q_M : Type := MethodName × ByteArray × Nat × Option FieldType × List (Nat × Nat × Nat × Nat) × String
abbrev q_Out : Type := (Option Value ⊕ String) × q_H
abbrev q_E : Type := (q_G → Option q_G) ⊕ (q_G → Option (Bool × q_G × Option q_G)) ⊕ (q_G → Option (Option Value)) ⊕ (q_G → Option String) ⊕ (Nat × (q_G → Option (Nat × List Value × List Value)) × Option (String → Option (Nat × Nat)))
def q_cw (M : q_M) : Cond := match M.2.2.2.2.1 with
  | [] => .code M.1 M.2.1 M.2.2.1 M.2.2.2.1
  | hh => .codeWith M.1 M.2.1 M.2.2.1 M.2.2.2.1 hh
def q_rm (d mc ms : Nat) : Room := { frames := d + 8, cells := mc, slots := ms, locals := 100 * d + 300 }
def q_drop (L : q_L) (i : Nat) : q_L := L.filter (fun q => !(q.1 == i) && !(q.1 + 1 == i && q.2.category == 2))
def q_step (ex : Nat → List Value → q_H → Option q_Out) (tb : Nat → Option q_E) (g : q_G) : Option (q_G ⊕ q_Out) := match tb g.1 with
  | none => none
  | some (.inl f) => match f g with
    | none => none
    | some g' => some (.inl g')
  | some (.inr (.inl f)) => match q_rs f g with
    | none => none
    | some g' => some (.inl g')
  | some (.inr (.inr (.inl f))) => match f g with
    | none => none
    | some v => some (.inr (.inl v, g.2.2.2))
  | some (.inr (.inr (.inr (.inl f)))) => match f g with
    | none => none
    | some E => some (.inr (.inr E, g.2.2.2.1, g.2.2.2.2.1 + 1, g.2.2.2.2.2 + 6))
  | some (.inr (.inr (.inr (.inr (nx, f, hd))))) => match f g with
    | none => none
    | some (k, as, rest) => match ex k as g.2.2.2 with
      | none => none
      | some (.inl v, h) => some (.inl (nx, g.2.1, v.toList ++ rest, h))
      | some (.inr E, h) => match hd with
        | none => some (.inr (.inr E, h))
        | some hf => match hf E with
          | none => none
          | some (tg, i) => some (.inl (tg, q_drop g.2.1 i, [], h))
noncomputable def q_loop (ex : Nat → List Value → q_H → Option q_Out) (tb : Nat → Option q_E) (n : Nat) : q_G → Option q_Out :=
  Nat.rec (motive := fun _ => q_G → Option q_Out) (fun _ => none) (fun _ ih g => match q_step ex tb g with
    | none => none
    | some (.inr o) => some o
    | some (.inl g') => ih g') n
def q_wd (as : List Value) : Nat := match as with
  | [] => 0
  | .long _ :: r => q_wd r + 2
  | .double _ :: r => q_wd r + 2
  | _ :: r => q_wd r + 1
noncomputable def q_exec (mt : Nat → q_M) (mtab : Nat → Nat → Option q_E) (n : Nat) (d : Nat) : Nat → List Value → q_H → Option q_Out :=
  Nat.rec (motive := fun _ => Nat → List Value → q_H → Option q_Out) (fun _ _ _ => none) (fun _ ih k as h => match decide (q_wd as ≤ (mt k).2.2.1) with
    | true => q_loop ih (mtab k) n (0, lv_args 0 as, [], h)
    | false => none) d
theorem q_loop_0 (ex : Nat → List Value → q_H → Option q_Out) (tb : Nat → Option q_E) (g : q_G) : q_loop ex tb 0 g = none := rfl
theorem q_loop_s (ex : Nat → List Value → q_H → Option q_Out) (tb : Nat → Option q_E) (n : Nat) (g : q_G) : q_loop ex tb (n + 1) g = match q_step ex tb g with
    | none => none
    | some (.inr o) => some o
    | some (.inl g') => q_loop ex tb n g' := rfl
theorem q_exec_0 (mt : Nat → q_M) (mtab : Nat → Nat → Option q_E) (n k : Nat) (as : List Value) (h : q_H) : q_exec mt mtab n 0 k as h = none := rfl
theorem q_exec_s {mt : Nat → q_M} {mtab : Nat → Nat → Option q_E} {n d k : Nat} {as : List Value} {h : q_H} (hw : q_wd as ≤ (mt k).2.2.1) : q_exec mt mtab n (d + 1) k as h = q_loop (q_exec mt mtab n d) (mtab k) n (0, lv_args 0 as, [], h) := by
  show (match decide (q_wd as ≤ (mt k).2.2.1) with
    | true => q_loop (q_exec mt mtab n d) (mtab k) n (0, lv_args 0 as, [], h)
    | false => none) = _
  rw [decide_eq_true hw]
theorem q_exec_w {mt : Nat → q_M} {mtab : Nat → Nat → Option q_E} {n d k : Nat} {as : List Value} {h : q_H} {out : q_Out} (e : q_exec mt mtab n (d + 1) k as h = some out) : q_wd as ≤ (mt k).2.2.1 := by
  by_cases hw : q_wd as ≤ (mt k).2.2.1
  · exact hw
  · have e2 : (match decide (q_wd as ≤ (mt k).2.2.1) with
      | true => q_loop (q_exec mt mtab n d) (mtab k) n (0, lv_args 0 as, [], h)
      | false => none) = some out := e
    rw [decide_eq_false hw] at e2
    cases e2
/-- what outside stays as it is -/
def q_GFk (GF : (Nat → Prop) → State → Heap → Prop) : Prop := ∀ (A B : Nat → Prop) (s U : State), GF A s s.heap → s.WarmedH U.vm → (∀ q, B q → A q) → (∀ a, a < s.heap.size → ¬ A a → U.heap[a]? = s.heap[a]?) → GF B U U.heap
/-- a method's start, its return, its throw -/
def q_Pc (cl : List vw_C) (tyl : List FieldType) (GF : (Nat → Prop) → State → Heap → Prop) (D : va_G) (cA : Nat → ClassId) (α : Nat → Nat) (sz : Nat) (as : List Value) (h : q_H) : Array Value → State → Prop :=
  va_Pc (as.map (q_v α)) (fun U => U.heap.size = sz ∧ va_P D cl (q_w cA α h.1) U.heap ∧ va_K D cl (q_T cA tyl) U ∧ va_D (fun _ => True) (q_w cA α h.1) ∧ GF (va_A (q_w cA α h.1) sz) U U.heap)
def q_Qc (cl : List vw_C) (D : va_G) (cA : Nat → ClassId) (α : Nat → Nat) (sz : Nat) (h : q_H) (out : q_Out) : Array Value → State → Outcome → State → Prop := fun _ st o t => match out.1 with
  | .inl v => (∃ β, q_ag α β h.1.length ∧ o = .returned (v.map (q_v β)) ∧ va_P D cl (q_w cA β out.2.1) t.heap ∧ va_D (va_A (q_w cA α h.1) sz) (q_w cA β out.2.1)) ∧ va_F (va_A (q_w cA α h.1) sz) st t
  | .inr _ => False
def q_XC (cl : List vw_C) (D : va_G) (cA : Nat → ClassId) (α : Nat → Nat) (sz : Nat) (h : q_H) (out : q_Out) : String → State → State → Prop := fun E st t => match out.1 with
  | .inl _ => False
  | .inr E' => E = E' ∧ (∃ β, q_ag α β h.1.length ∧ va_P D cl (q_w cA β out.2.1) t.heap ∧ va_D (va_A (q_w cA α h.1) sz) (q_w cA β out.2.1)) ∧ va_F (va_A (q_w cA α h.1) sz) st t
def q_Con (WU : List Cond) (cl : List vw_C) (tyl : List FieldType) (GF : (Nat → Prop) → State → Heap → Prop) (τ : Nat → Nat) (M : q_M) (l : Launch) (d : Nat) (as : List Value) (h : q_H) (out : q_Out) : Prop :=
  ∀ (D : va_G) (cA : Nat → ClassId) (α : Nat → Nat) (sz : Nat), (∀ a, a < 64 → α a = τ a) →
    vx_Met l M.1 (q_cw M :: WU) (q_rm d (out.2.2.1 - h.2.1) (out.2.2.2 - h.2.2)) (q_Pc cl tyl GF D cA α sz as h) (q_Qc cl D cA α sz h out) (q_XC cl D cA α sz h out) (out.2.2.1 - h.2.1) (out.2.2.2 - h.2.2) (va_A (q_w cA α h.1) sz)
/-- the value of an end is one that is there; nothing is lost -/
def q_oko (h : q_H) (out : q_Out) : Prop := (∀ v, out.1 = .inl (some v) → q_ok out.2.1.length v) ∧ q_okh out.2.1 ∧ h.1.length ≤ out.2.1.length ∧ h.2.1 ≤ out.2.2.1 ∧ h.2.2 ≤ out.2.2.2
/-- returns -/
def q_Re (M : q_M) (pc : Nat) (f : q_G → Option (Option Value)) : Prop := ∀ (g : q_G) (v : Option Value), g.1 = pc → f g = some v → (∀ w, v = some w → w ∈ g.2.2.1) ∧
  ∀ {p : Program} {l : Launch} {e : Env} {R : Room} {s : State} {m : MethodId} {args : Array Value} {below : List Frame} {meth : Method} {c : Code} {H : Heap} {locs : List Loc} {cells slots : Nat} {Qc : Array Value → State → Outcome → State → Prop} {free : Addr → Prop} {ls : Array Slot} (α : Nat → Nat), p.tables.exec = Jvm.exec → c.code = M.2.1 → meth.sig.returnType = M.2.2.2.1 → meth.locks = false →
    (∀ t : State, t.heap = H → s.WarmedH t.vm → Qc args s (.returned (v.map (q_v α))) t) → (∀ q ∈ locs, free q.base) → W p l e R s m args below meth c H locs cells slots (MQ below Qc args s cells slots free) (F0 m pc ls (g.2.2.1.map (q_v α)))
/-- throws of one's own: 'throw new E(text)', in a method without a table -/
def q_Th (WU : List Cond) (GF : (Nat → Prop) → State → Heap → Prop) (own : String) (cc : ByteArray) (nL pc : Nat) (f : q_G → Option String) : Prop := ∀ (g : q_G) (E : String), g.1 = pc → f g = some E →
  ∀ {p : Program} {l : Launch} {e : Env} {R : Room} {s : State} {m : MethodId} {args : Array Value} {below : List Frame} {meth : Method} {c : Code} {H : Heap} {locs : List Loc} {cells slots mc ms : Nat} {Qc : Array Value → State → Outcome → State → Prop} {XC : String → State → State → Prop} {free A : Nat → Prop} {ls : Array Slot} (α : Nat → Nat), p.tables.exec = Jvm.exec → c.code = cc → l.stackTraces = false → s.vm.findClass own = some m.cls → (∀ w ∈ WU, w.before args s = true) → GF A s s.heap → meth.locks = false → (∀ x ∈ c.exceptionTable.toList, False) →
    c.maxLocals = nL → ls.size = nL → va_S A s.heap H locs → 8 ≤ R.frames → 300 ≤ R.locals → cells + 1 ≤ R.cells → slots + 6 ≤ R.slots → (∀ t : State, s.vm.Alike t.vm → H.size ≤ t.heap.size → (∀ q : Nat, q < H.size → t.heap[q]? = H[q]?) → XC E s t) → (∀ q ∈ locs, free q.base) → cells + 1 ≤ mc → slots + 6 ≤ ms →
    W p l e R s m args below meth c H locs cells slots (vx_MQ below Qc XC args s mc ms free) (F0 m pc ls (g.2.2.1.map (q_v α)))
/-- calls -/
def q_Cs (WU : List Cond) (cl : List vw_C) (tyl : List FieldType) (GF : (Nat → Prop) → State → Heap → Prop) (τ : Nat → Nat) (mt : Nat → q_M) (own : String) (cc : ByteArray) (nL pc nx : Nat) (f : q_G → Option (Nat × List Value × List Value)) : Prop := nx = pc + 3 ∧ ∀ (g : q_G) (k : Nat) (as rest : List Value), g.1 = pc → f g = some (k, as, rest) → (∀ v ∈ as, v ∈ g.2.2.1) ∧ (∀ v ∈ rest, v ∈ g.2.2.1) ∧
  ∀ {p : Program} {l : Launch} {e : Env} {R : Room} {s : State} {m : MethodId} {args : Array Value} {below : List Frame} {meth : Method} {c : Code} {H : Heap} {locs : List Loc} {cells slots mc ms : Nat} {rm : Room} {Pc : Array Value → State → Prop} {Qc : Array Value → State → Outcome → State → Prop} {XC : String → State → State → Prop} {free A : Nat → Prop} {ls : Array Slot} {D : va_G} {cA : Nat → ClassId} (α : Nat → Nat), p.tables.exec = Jvm.exec → c.code = cc → c.maxLocals = nL → s.vm.findClass own = some m.cls → (∀ w ∈ WU, w.before args s = true) → (∀ w ∈ WU, goodWord w = true) → GF A s s.heap → va_K D cl (q_T cA tyl) s → va_S A s.heap H locs → (∀ a, a < 64 → α a = τ a) →
    vx_Met l (mt k).1 (q_cw (mt k) :: WU) rm Pc Qc XC mc ms free → rm.cells = mc → rm.slots = ms → rm.frames + 1 ≤ R.frames → 99 + rm.locals ≤ R.locals → FrameBlind Pc → (∀ U : State, U.heap = H → s.WarmedH U.vm → Pc (as.map (q_v α)).toArray U) → cells + mc ≤ R.cells → slots + ms ≤ R.slots → va_P D cl (q_w cA α g.2.2.2.1) H → ls.size = nL →
    vx_Run p l e R s m args below meth c H locs cells slots mc ms (F0 m pc ls (g.2.2.1.map (q_v α))) (rest.map (q_v α)) (Qc (as.map (q_v α)).toArray) XC free
/-- handlers: where a throw out of the call at pc goes -/
def q_Hd (WU : List Cond) (GF : (Nat → Prop) → State → Heap → Prop) (M : q_M) (own : String) (nL pc : Nat) (hd : String → Option (Nat × Nat)) : Prop := ∀ (E : String) (tg i : Nat), hd E = some (tg, i) →
  ∀ {p : Program} {l : Launch} {e : Env} {R : Room} {s : State} {m : MethodId} {args : Array Value} {below : List Frame} {meth : Method} {c : Code} {H : Heap} {locs : List Loc} {cells slots : Nat} {Q : State → Prop} {A : Nat → Prop} {ls : Array Slot} {rest : List Value} {ce : Cell} {q : Addr} (lv : List (Nat × Value)), p.tables.exec = Jvm.exec → c.code = M.2.1 → s.vm.findClass own = some m.cls → (∀ w ∈ WU, w.before args s = true) → GF A s s.heap → c.exceptionTable.toList = tableOf M.2.2.2.2.1 → lv_has ls nL lv → H[q]? = some ce → ce.vm = .none → s.vm.findClass E = some ce.cls →
    (∀ ls' : Array Slot, lv_has ls' nL (lv.filter (fun q => !(q.1 == i) && !(q.1 + 1 == i && q.2.category == 2))) → W p l e R s m args below meth c H locs cells slots Q (F0 m tg ls' [])) → vx_W p l e R s m args below meth c H locs cells slots Q (F0 m pc ls rest) q
/-- an entry of the code table that is sound -/
def q_Snd (WU : List Cond) (cl : List vw_C) (tyl : List FieldType) (GF : (Nat → Prop) → State → Heap → Prop) (τ : Nat → Nat) (mt : Nat → q_M) (M : q_M) (pc : Nat) (x : q_E) : Prop := match x with
  | .inl f => q_J WU cl tyl GF τ M.1.cls M.1.name M.2.1 M.2.2.1 pc f
  | .inr (.inl f) => q_J WU cl tyl GF τ M.1.cls M.1.name M.2.1 M.2.2.1 pc (q_rs f)
  | .inr (.inr (.inl f)) => q_Re M pc f
  | .inr (.inr (.inr (.inl f))) => M.2.2.2.2.1 = [] ∧ q_Th WU GF M.1.cls M.2.1 M.2.2.1 pc f
  | .inr (.inr (.inr (.inr (nx, f, hd)))) => q_Cs WU cl tyl GF τ mt M.1.cls M.2.1 M.2.2.1 pc nx f ∧ (match hd with
    | none => M.2.2.2.2.1 = []
    | some hf => q_Hd WU GF M M.1.cls M.2.2.1 pc hf)
