/-! ===== what holds at the entry of the law ===== -/
def q_fl : List Cond := flatC (Cond.and given_1 narrow_1)
theorem q_fl_at {args : Array Value} {s : State} (h : (Cond.and given_1 narrow_1).before args s = true) {i : Nat} {c : Cond} (e : q_fl[i]? = some c) : c.before args s = true := flat_of_before _ h c (List.mem_of_getElem? e)
theorem q_KT {args : Array Value} {s : State} (h0 : (Cond.arrayClass .int).before args s = true) (h1 : (Cond.arrayClass .boolean).before args s = true) (h2 : (Cond.arrayClass .long).before args s = true) (h3 : (Cond.arrayClass .char).before args s = true) (h4 : (Cond.arrayClass .byte).before args s = true) (h5 : (Cond.arrayOver (.object "Rasterbox$Machine")).before args s = true) :
    ∃ cA : Nat → ClassId, ∀ (k : Nat) (q : ClassId × FieldType), (q_T cA q_tyl)[k]? = some q → ArrOfT s q.1 q.2 ∧ va_RA s q.1 q.2 := by
  obtain ⟨c0, k0, p0, a0, b0, d0⟩ := Cond.arrayClass_spec h0
  obtain ⟨c1, k1, p1, a1, b1, d1⟩ := Cond.arrayClass_spec h1
  obtain ⟨c2, k2, p2, a2, b2, d2⟩ := Cond.arrayClass_spec h2
  obtain ⟨c3, k3, p3, a3, b3, d3⟩ := Cond.arrayClass_spec h3
  obtain ⟨c4, k4, p4, a4, b4, d4⟩ := Cond.arrayClass_spec h4
  obtain ⟨p5, c5, k5, a5, -, b5, d5, e5⟩ := Cond.arrayOver_spec h5
  refine ⟨fun k => [c0, c1, c2, c3, c4, c5].getD k 0, ?_⟩
  intro k q hq
  match k, hq with
  | 0, hq => cases hq; exact ⟨fun n z => ⟨fun k h => (by cases h), k0, b0, p0, d0⟩, a0⟩
  | 1, hq => cases hq; exact ⟨fun n z => ⟨fun k h => (by cases h), k1, b1, p1, d1⟩, a1⟩
  | 2, hq => cases hq; exact ⟨fun n z => ⟨fun k h => (by cases h), k2, b2, p2, d2⟩, a2⟩
  | 3, hq => cases hq; exact ⟨fun n z => ⟨fun k h => (by cases h), k3, b3, p3, d3⟩, a3⟩
  | 4, hq => cases hq; exact ⟨fun n z => ⟨fun k h => (by cases h), k4, b4, p4, d4⟩, a4⟩
  | 5, hq => cases hq; exact ⟨fun n z => ⟨fun k h => (by cases h), k5, b5, p5, d5⟩, k5, p5, b5, d5, a5, e5⟩
  | k + 6, hq => cases hq
theorem q_selP {args : Array Value} {s : State} {C : String} {N : Nat} {y z : MethodName} (hins : (Cond.instantiable C N).before args s = true) (hpriv : (Cond.privateMethod y).before args s = true) (hinst : (Cond.instanceMethod y).before args s = true) (hz : (Cond.selects C z z).before args s = true) (hzc : z.cls = y.cls) (hy : y.cls ≠ "java/lang/invoke/MethodHandle" ∧ y.cls ≠ "java/lang/invoke/VarHandle") : (Cond.selects C y y).before args s = true := by
  obtain ⟨c, k, hc, hk, -, -, -, -⟩ := Cond.instantiable_spec hins
  obtain ⟨mk, methM, hnamed, hmethM, -, -⟩ := Cond.instanceMethod_spec hinst
  have hfound : s.methodFound? y.cls y.name y.desc = some mk := State.methodFound?_of_named hnamed hy
  have hsel : selectMethod {} s.vm c mk = .method mk := selectMethod_private hmethM (Cond.privateMethod_at hpriv mk methM hnamed hmethM)
  obtain ⟨c2, r2, m2, q1, q2, q3, q4, kz, hkz, hni⟩ := Cond.selects_spec hz
  have e1 : s.vm.findClass z.cls = some m2.cls := findClass_of_methodNamed q3
  have e2 : s.vm.findClass y.cls = some mk.cls := findClass_of_methodNamed hnamed
  rw [hzc, e2] at e1
  have e3 : mk.cls = m2.cls := Option.some.inj e1
  rw [← e3] at hkz
  simp only [Cond.before, Cond.holds, Cond.value, hc, hfound, hnamed, hsel, hkz]
  simp; exact hni
theorem q_hts {args : Array Value} {s : State} (hts : ∀ w ∈ lw_tbl, w.before args s = true) : ∀ w ∈ q_WU, w.before args s = true := by
  intro w hw
  rcases q_WU_in w hw with h | h
  · have hi : (Cond.instantiable RJ4 4).before args s = true := hts _ (List.mem_append_right _ (show _ ∈ tables_1 from List.mem_append_right _ (List.mem_append_left _ (List.mem_of_getElem? (i := 83) rfl))))
    have hz : (Cond.selects RJ4 yJ5_isLatin1_aae02 yJ5_isLatin1_aae02).before args s = true := hts _ (List.mem_append_right _ (show _ ∈ tables_1 from List.mem_append_right _ (List.mem_append_right _ (List.mem_append_right _ (List.mem_append_right _ (List.mem_append_left _ (List.mem_of_getElem? (i := 138) rfl)))))))
    exact (show ∀ w ∈ q_xs, w.before args s = true from List.forall_mem_cons.mpr ⟨q_selP (y := yJ5_newCapacity_0f7a4) hi (hts _ (List.mem_append_right _ (show _ ∈ tables_1 from List.mem_append_right _ (List.mem_append_right _ (List.mem_append_right _ (List.mem_append_right _ (List.mem_append_left _ (List.mem_of_getElem? (i := 107) rfl)))))))) (hts _ (List.mem_append_right _ (show _ ∈ tables_1 from List.mem_append_right _ (List.mem_append_right _ (List.mem_append_right _ (List.mem_append_right _ (List.mem_append_left _ (List.mem_of_getElem? (i := 108) rfl)))))))) hz rfl ⟨by decide +kernel, by decide +kernel⟩, List.forall_mem_cons.mpr ⟨q_selP (y := yJ5_ensureCapacityInternal_d00df) hi (hts _ (List.mem_append_right _ (show _ ∈ tables_1 from List.mem_append_right _ (List.mem_append_right _ (List.mem_append_right _ (List.mem_append_right _ (List.mem_append_left _ (List.mem_of_getElem? (i := 103) rfl)))))))) (hts _ (List.mem_append_right _ (show _ ∈ tables_1 from List.mem_append_right _ (List.mem_append_right _ (List.mem_append_right _ (List.mem_append_right _ (List.mem_append_left _ (List.mem_of_getElem? (i := 104) rfl)))))))) hz rfl ⟨by decide +kernel, by decide +kernel⟩, List.forall_mem_cons.mpr ⟨q_selP (y := yJ5_appendNull_278bc) hi (hts _ (List.mem_append_right _ (show _ ∈ tables_1 from List.mem_append_right _ (List.mem_append_right _ (List.mem_append_right _ (List.mem_append_right _ (List.mem_append_left _ (List.mem_of_getElem? (i := 99) rfl)))))))) (hts _ (List.mem_append_right _ (show _ ∈ tables_1 from List.mem_append_right _ (List.mem_append_right _ (List.mem_append_right _ (List.mem_append_right _ (List.mem_append_left _ (List.mem_of_getElem? (i := 100) rfl)))))))) hz rfl ⟨by decide +kernel, by decide +kernel⟩, List.forall_mem_cons.mpr ⟨q_selP (y := yJ5_putStringAt_47b60) hi (hts _ (List.mem_append_right _ (show _ ∈ tables_1 from List.mem_append_right _ (List.mem_append_right _ (List.mem_append_right _ (List.mem_append_right _ (List.mem_append_left _ (List.mem_of_getElem? (i := 176) rfl)))))))) (hts _ (List.mem_append_right _ (show _ ∈ tables_1 from List.mem_append_right _ (List.mem_append_right _ (List.mem_append_right _ (List.mem_append_right _ (List.mem_append_left _ (List.mem_of_getElem? (i := 177) rfl)))))))) hz rfl ⟨by decide +kernel, by decide +kernel⟩, List.forall_mem_cons.mpr ⟨q_selP (y := yJ5_inflate_da8c8) hi (hts _ (List.mem_append_right _ (show _ ∈ tables_1 from List.mem_append_right _ (List.mem_append_right _ (List.mem_append_right _ (List.mem_append_right _ (List.mem_append_left _ (List.mem_of_getElem? (i := 185) rfl)))))))) (hts _ (List.mem_append_right _ (show _ ∈ tables_1 from List.mem_append_right _ (List.mem_append_right _ (List.mem_append_right _ (List.mem_append_right _ (List.mem_append_left _ (List.mem_of_getElem? (i := 186) rfl)))))))) hz rfl ⟨by decide +kernel, by decide +kernel⟩, List.forall_mem_cons.mpr ⟨q_selP (y := yJ5_inflateIfNeededFor_a7421) hi (hts _ (List.mem_append_right _ (show _ ∈ tables_1 from List.mem_append_right _ (List.mem_append_right _ (List.mem_append_right _ (List.mem_append_right _ (List.mem_append_left _ (List.mem_of_getElem? (i := 180) rfl)))))))) (hts _ (List.mem_append_right _ (show _ ∈ tables_1 from List.mem_append_right _ (List.mem_append_right _ (List.mem_append_right _ (List.mem_append_right _ (List.mem_append_left _ (List.mem_of_getElem? (i := 181) rfl)))))))) hz rfl ⟨by decide +kernel, by decide +kernel⟩, fun _ h => absurd h List.not_mem_nil⟩⟩⟩⟩⟩⟩) w h
  · exact hts w h
