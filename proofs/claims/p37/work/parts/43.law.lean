/-! THE CLAIM OUT OF ONE WALK OF THE LAW'S BODY. Your part is whole_start (and what it stands on); all else here is the same for every law, but numbers. -/
def R_law : String := "RasterboxLaw"
def lw_P (b : Addr) (xs : List Int32) (args : Array Value) (s : State) : Prop := args = #[.ref b] ∧ s.IntsAt b xs ∧ xs.length ≤ 2048 ∧ (Jvm.Cond.and given_1 narrow_1).before args s = true
/-- what a walk over the start with the record d0 says of its end, said of the start itself -/
theorem lw_closed {s t : State} {o : Outcome} {d0 : Drawn} {L : List Loc} {k n : Nat} (hd0 : s.drawn.sameBut d0 lw_cs) (hv : ∃ v, o = .returned v) (hW : (s.setDrawn d0).WarmedH t.vm) (hs : (s.setDrawn d0).sameButNew ({ t with vm := s.vm } : State) L k n) : State.butDraws s t lw_cs (fun t1 => Framed s o t1 L k n) := by
  have h2 : t.drawn = d0 := congrArg State.drawn hs.1
  refine ⟨⟨hv, hW, State.sameButNew.setDrawn hs s.drawn⟩, ?_, by decide⟩
  rw [h2]
  exact hd0
def lw_Q (_ : Array Value) (s : State) (o : Outcome) (t : State) : Prop := o = .returned (some (.int 1)) ∧ State.butDraws s t lw_cs (fun t1 => Framed s o t1 [] 601024 7293034)
def lw_Z (below : List Frame) (a : Array Value) (s : State) : State → Prop := fun t => ∃ o, t.status = .running ∧ Ended t below o ∧ lw_Q a s o t
/-- the law's own end, with 1 on the stack, nothing written that was there before, its room as the claim has it; d0: the record of draws at this point (at the entry s.drawn: begin with 'refine W.base ?_' and 'have hd0 := Drawn.sameBut.refl s.drawn lw_cs') -/
theorem lw_ret {p : Program} {l : Launch} {e : Env} {s : State} {m : MethodId} {below : List Frame} {meth : Method} {c : Code} {b : Nat} {d0 : Drawn} (hd0 : s.drawn.sameBut d0 lw_cs) (hx : p.tables.exec = Jvm.exec) (hb : c.code = code) (hr : meth.sig.returnType = ret) (hlocks : meth.locks = false) {pc : Nat} {H : Heap} {ls : Array Slot} (hdg : decode code pc = .ok (.ireturn, 1)) : W p l e room_1 (s.setDrawn d0) m #[Value.ref b] below meth c H [] 601024 7293034 (lw_Z below #[Value.ref b] s) (F0 m pc ls [.int 1]) := by
  intro T hT X
  obtain ⟨fs, hret, hrun, hended, hW, hframe⟩ := X.leave (v := some (.int 1)) (hlocks := hlocks) (fun h => by rw [hr] at h; cases h)
  have hmeth' : T.vm.method? m = some meth := X.method'
  refine ⟨T.setFrames fs, ?_, .returned (some (.int 1)), hrun, hended, rfl, lw_closed hd0 ⟨_, rfl⟩ hW hframe⟩
  jvm_step X.here [X.here.top, hx, hb, hdg, hmeth', hr, ret, narrow_b1]
  (try refine ⟨rfl, ?_⟩); (try refine ⟨rfl, ?_⟩)
  first | (intro acts; rw [hret _ acts rfl rfl rfl]) | rw [hret _ _ rfl rfl rfl]
  exact Steps.refl _
/-- what holds at the law's entry: the machine, the code, the tables' words (any of lw_tbl by 'hts w (by decide +kernel)'), the script of L ints xs at the cell b, what the Statement gives of the start (any of its parts by flat_of_before) -/
def lw_At (p : Program) (s : State) (m : MethodId) (meth : Method) (c : Code) (b L : Nat) (xs : Nat → Int32) : Prop :=
  p.tables.exec = Jvm.exec ∧ c.code = code ∧ meth.sig.returnType = ret ∧ c.maxLocals = 9 ∧ s.vm.findClass R_law = some m.cls ∧ (∀ w ∈ lw_tbl, w.before #[Value.ref b] s = true) ∧ va_X b L xs s s.heap ∧ b < s.heap.size ∧ meth.locks = false ∧ (Jvm.Cond.and given_1 narrow_1).before #[Value.ref b] s = true ∧ meth.name = "law" ∧ c.exceptionTable.toList = []
theorem q_ac0 : Cond.arrayClass .int ∈ lw_tbl := List.mem_append_right _ (show _ ∈ tables_1 from List.mem_append_left _ (List.mem_of_getElem? (i := 74) rfl))
theorem q_ac1 : Cond.arrayClass .boolean ∈ lw_tbl := List.mem_append_right _ (show _ ∈ tables_1 from List.mem_append_right _ (List.mem_append_right _ (List.mem_append_right _ (List.mem_append_right _ (List.mem_append_right _ (List.mem_append_right _ (List.mem_append_right _ (List.mem_append_left _ (List.mem_of_getElem? (i := 45) rfl)))))))))
theorem q_ac2 : Cond.arrayClass .long ∈ lw_tbl := List.mem_append_right _ (show _ ∈ tables_1 from List.mem_append_right _ (List.mem_append_right _ (List.mem_append_right _ (List.mem_append_right _ (List.mem_append_right _ (List.mem_append_right _ (List.mem_append_right _ (List.mem_append_left _ (List.mem_of_getElem? (i := 46) rfl)))))))))
theorem q_ac3 : Cond.arrayClass .char ∈ lw_tbl := List.mem_append_right _ (show _ ∈ tables_1 from List.mem_append_right _ (List.mem_append_right _ (List.mem_append_right _ (List.mem_append_right _ (List.mem_append_right _ (List.mem_append_right _ (List.mem_append_right _ (List.mem_append_left _ (List.mem_of_getElem? (i := 47) rfl)))))))))
theorem q_ac4 : Cond.arrayClass .byte ∈ lw_tbl := List.mem_append_right _ (show _ ∈ tables_1 from List.mem_append_right _ (List.mem_append_left _ (List.mem_of_getElem? (i := 114) rfl)))
theorem q_whole (hrun : ∀ (z L : Nat) (xs : Nat → Int32), (z = 98 ∨ z = 99) → L ≤ 2048 → ∃ (n d : Nat) (h : q_H), d ≤ 800 ∧ q_loop (q_exec q_mt (q_mtab (q_TBs z L xs)) n d) (q_mtab (q_TBs z L xs) 375) n (0, [(0, .ref 0)], [], ([], 0, 0)) = some (.inl (some (.int 1)), h) ∧ h.2.1 ≤ 601024 ∧ h.2.2 ≤ 7293034)
    {p : Program} {e : Env} {s : State} {m : MethodId} {below : List Frame} {meth : Method} {c : Code} (l : Launch) (hflags : l.flags = flags0) {b L : Nat} {xs : Nat → Int32} (hL : L ≤ 2048) (C0 : lw_At p s m meth c b L xs) : W p l e room_1 s m #[Value.ref b] below meth c s.heap [] 0 0 (lw_Z below #[Value.ref b] s) (entryFrame m ([Value.ref b] : List Value).toArray 9) := by
  obtain ⟨hx, hb, hr, hml, hown, hts, hX, hbl, hlocks, hgv, hnm, hex⟩ := C0
  have hlt : l.stackTraces = false := by
    show (!l.flags.contains _) = false
    rw [hflags]
    decide +kernel
  obtain ⟨τ, z, hz, hτ0, hG⟩ := q_entry hts hX (by omega) hbl hgv
  obtain ⟨cA, hT⟩ := q_KT (args := #[Value.ref b]) (s := s) (hts _ q_ac0) (hts _ q_ac1) (hts _ q_ac2) (hts _ q_ac3) (hts _ q_ac4) (hts _ q_AO_in)
  obtain ⟨dC, dI, hKc⟩ := q_cls hts
  obtain ⟨n, d, h, hd, hq, hk, hn⟩ := hrun z L xs hz hL
  have hWU := q_hts hts
  have hGF : q_GFk (q_gF (q_TBs z L xs) τ) := q_gf9_k q_NW_ok
  have IH := q_sound (WU := q_WU) (cl := vwCl) (tyl := q_tyl) (GF := q_gF (q_TBs z L xs) τ) (τ := τ) (mt := q_mt) (mtab := q_mtab (q_TBs z L xs)) (l := l) hlt hGF q_WU_good q_mt_ml q_mt_pl q_mtab_ok n d
  have hg0 : q_okg (0, [(0, Value.ref 0)], ([] : List Value), (([] : List q_C), 0, 0)) := ⟨fun q hq9 => by
    rw [List.mem_singleton.mp hq9]
    intro a ha
    cases ha
    exact Nat.le_of_ble_eq_true rfl, fun v hv => (by cases hv), fun c9 hc => (by cases hc)⟩
  obtain ⟨-, hW⟩ := q_loop_W (d := d) (k := 375) hlt hGF q_WU_good q_mt_ml IH (q_mtab_ok 375) n _ _ hq hg0
  have hA0 : ∀ q, va_A (q_w cA τ ([] : List q_C)) s.heap.size q → s.heap.size ≤ q := by
    intro q hq9
    rcases hq9 with ⟨i, x9, hi⟩ | hq9
    · cases hi
    · exact hq9
  have hG2 : q_gF (q_TBs z L xs) τ (va_A (q_w cA τ ([] : List q_C)) s.heap.size) s s.heap := hGF _ _ s s hG (State.WarmedH.refl s) hA0 (fun a _ _ => rfl)
  have hC : q_Ctx q_WU vwCl q_tyl (q_gF (q_TBs z L xs) τ) (q_mt 375).1.cls (q_mt 375).1.name (q_mt 375).2.1 (q_mt 375).2.2.1 p l s m #[Value.ref b] meth c (dC, dI) cA (va_A (q_w cA τ ([] : List q_C)) s.heap.size) :=
    ⟨hx, hb, hown, hml, hWU, ⟨hKc, hT⟩, fun q hq9 => Or.inr hq9, hG2, hlt, hlocks, hnm⟩
  have hP : va_P (dC, dI) vwCl (q_w cA τ ([] : List q_C)) s.heap := fun k q h9 => by cases h9
  have hD : va_D (va_A (q_w cA τ ([] : List q_C)) s.heap.size) (q_w cA τ ([] : List q_C)) := ⟨fun i j p q h9 => (by cases h9), fun k q h9 => (by cases h9)⟩
  have hl := lv_entry ([.ref b]) (n := 9) (Nat.le_of_ble_eq_true rfl)
  rw [lg_entry_eq]
  generalize (lg_sl ([.ref b]) ++ List.replicate (9 - (lg_sl ([.ref b])).length) Slot.unset).toArray = ls at hl ⊢
  have hl : lv_has ls 9 (q_l τ [(0, .ref 0)]) := by
    show lv_has ls 9 [(0, .ref (τ 0))]
    rw [hτ0]
    exact hl
  have e1 : room_1.frames = 2048 := rfl
  have e2 : room_1.locals = 84000 := rfl
  have e3 : room_1.cells = 601024 := rfl
  have e4 : room_1.slots = 7293034 := rfl
  have key := hW p e room_1 s m #[Value.ref b] below meth c (dC, dI) cA _ 0 0 τ τ ([], 0, 0) hC hr hex (by omega) (by omega) (fun a _ => rfl) rfl q_ag.rf (Nat.le_refl _) (by show h.2.1 ≤ 0 + room_1.cells; omega) (by show h.2.2 ≤ 0 + room_1.slots; omega) s.heap [] ls 0 0 hP hD va_S.rf hl rfl rfl
  intro T hT9 X
  obtain ⟨t, a1, o, b1, b2, b3⟩ := key T hT9 X
  refine ⟨t, a1, o, b1, b2, ?_⟩
  rcases b3 with ⟨⟨⟨β, -, ho, -, -⟩, -⟩, Ls, hF, hfree⟩ | ⟨q9, -, hx9⟩
  · have ho : o = .returned (some (.int 1)) := ho
    refine ⟨ho, ?_⟩
    obtain ⟨hv, hWm, hsame⟩ := hF
    refine lw_closed (s := s) (d0 := s.drawn) (Drawn.sameBut.refl s.drawn lw_cs) ⟨_, ho⟩ hWm (hsame.weaken (fun y hy hlt9 => ?_) (by show h.2.1 - 0 ≤ 601024; omega) (by show h.2.2 - 0 ≤ 7293034; omega))
    have h9 := hA0 _ (hfree y hy)
    exact absurd hlt9 (Nat.not_lt.mpr h9)
  · obtain ⟨E, ce, L9, hXC, -⟩ := hx9
    exact absurd hXC (fun h => h)
