/-! ===== what lies outside, and stays; tables of code as trees ===== -/
def q_nw (w : Cond) : Bool := match w with
  | .castable .. => true
  | .declares _ => true
  | .methodLinkNest .. => true
  | _ => false
theorem q_nw_warm {w : Cond} (h : q_nw w = true) {s U : State} (hW : s.WarmedH U.vm) (hZ : va_Nw w s) : va_Nw w U := by
  cases w <;> first | exact va_Nw.warmC hW hZ | exact va_Nw.warmD hW hZ | exact va_Nw.warmM hW hZ | cases h
/-- words that the tables alone keep; classes that aren't castable; a class with an array class; texts; statics; rows; fields of objects; objects -/
def q_gf9 (NW : List Cond) (NC : List (String × String)) (AO : List String) (SR : List (String × Nat × String × Nat)) (ZZ : List (String × String × String × Value)) (OB : List (String × String × String × Value × Nat)) (OO : List (String × Nat)) (tyl : List FieldType) (τ : Nat → Nat) (TB : Nat → Option (Nat × Nat × (Nat → Int32))) (A : Nat → Prop) (U : State) (H : Heap) : Prop :=
  (∀ w ∈ NW, va_Nw w U) ∧ (∀ x ∈ NC, va_Nc x.1 x.2 U) ∧ (∀ x ∈ AO, va_AO x U) ∧ (∀ x ∈ SR, vk_R x.1 x.2.1 x.2.2.1 (τ x.2.2.2) U) ∧ vx_Zq Bundle.tN "UNASSIGNED_STACK" Bundle.steD A U H ∧ vx_Zq Bundle.tN "SUPPRESSED_SENTINEL" Bundle.listD A U H ∧
  (∀ x ∈ ZZ, va_Z x.1 x.2.1 x.2.2.1 (q_v τ x.2.2.2) A U H) ∧ (∀ (a t n : Nat) (f : Nat → Int32) (ty : FieldType), TB a = some (t, n, f) → tyl[t]? = some ty → va_T ty (τ a) n (fun j => .int (f j)) A U H) ∧ (∀ x ∈ OB, va_OF x.1 x.2.1 x.2.2.1 (q_v τ x.2.2.2.1) (τ x.2.2.2.2) A U H) ∧ (∀ x ∈ OO, va_O x.1 (τ x.2) A U H)
theorem q_gf9_k {NW : List Cond} {NC : List (String × String)} {AO : List String} {SR : List (String × Nat × String × Nat)} {ZZ : List (String × String × String × Value)} {OB : List (String × String × String × Value × Nat)} {OO : List (String × Nat)} {tyl : List FieldType} {τ : Nat → Nat} {TB : Nat → Option (Nat × Nat × (Nat → Int32))} (hNW : ∀ w ∈ NW, q_nw w = true) : q_GFk (q_gf9 NW NC AO SR ZZ OB OO tyl τ TB) := by
  rintro A B s U ⟨g1, g2, g3, g4, g5, g6, g7, g8, g9, g10⟩ hW hBA hq
  have hvm := hW.alike
  exact ⟨fun w hw => q_nw_warm (hNW w hw) hW (g1 w hw), fun x hx => (g2 x hx).moved hvm, fun x hx => (g3 x hx).moved hvm, fun x hx => (g4 x hx).warm hW,
    ((g5.moved hvm).kept hq).narrow hBA, ((g6.moved hvm).kept hq).narrow hBA, fun x hx => (((g7 x hx).moved hvm).kept hq).narrow hBA,
    fun a t n f ty h1 h2 => (((g8 a t n f ty h1 h2).moved hvm).kept hq).narrow hBA, fun x hx => (((g9 x hx).moved hvm).kept hq).narrow hBA, fun x hx => (((g10 x hx).moved hvm).kept hq).narrow hBA⟩
/-- tables -/
def q_nd (m : Nat) (A B : Nat → Option q_E) (pc : Nat) : Option q_E := cond (Nat.ble pc m) (A pc) (B pc)
def q_lf (m : Nat) (x : q_E) (pc : Nat) : Option q_E := cond (Nat.beq pc m) (some x) none
def q_n0 (_ : Nat) : Option q_E := none
theorem q_nd_ok {P : Nat → q_E → Prop} {m : Nat} {A B : Nat → Option q_E} (hA : ∀ pc x, A pc = some x → P pc x) (hB : ∀ pc x, B pc = some x → P pc x) : ∀ pc x, q_nd m A B pc = some x → P pc x := by
  intro pc x h
  unfold q_nd at h
  cases hb : Nat.ble pc m with
  | true => rw [hb] at h; exact hA pc x h
  | false => rw [hb] at h; exact hB pc x h
theorem q_lf_ok {P : Nat → q_E → Prop} {m : Nat} {y : q_E} (hP : P m y) : ∀ pc x, q_lf m y pc = some x → P pc x := by
  intro pc x h
  unfold q_lf at h
  cases hb : Nat.beq pc m with
  | true => rw [hb] at h; cases h; rw [Nat.eq_of_beq_eq_true hb]; exact hP
  | false => rw [hb] at h; cases h
theorem q_n0_ok {P : Nat → q_E → Prop} : ∀ pc x, q_n0 pc = some x → P pc x := fun _ _ h => by cases h
def q_md (m : Nat) (A B : Nat → Nat → Option q_E) (k : Nat) : Nat → Option q_E := cond (Nat.ble k m) (A k) (B k)
def q_ml (m : Nat) (t : Nat → Option q_E) (k : Nat) : Nat → Option q_E := cond (Nat.beq k m) t q_n0
theorem q_md_ok {P : Nat → Nat → q_E → Prop} {m : Nat} {A B : Nat → Nat → Option q_E} (hA : ∀ k pc x, A k pc = some x → P k pc x) (hB : ∀ k pc x, B k pc = some x → P k pc x) : ∀ k pc x, q_md m A B k pc = some x → P k pc x := by
  intro k pc x h
  unfold q_md at h
  cases hb : Nat.ble k m with
  | true => rw [hb] at h; exact hA k pc x h
  | false => rw [hb] at h; exact hB k pc x h
theorem q_ml_ok {P : Nat → Nat → q_E → Prop} {m : Nat} {t : Nat → Option q_E} (h : ∀ pc x, t pc = some x → P m pc x) : ∀ k pc x, q_ml m t k pc = some x → P k pc x := by
  intro k pc x h9
  unfold q_ml at h9
  cases hb : Nat.beq k m with
  | true => rw [hb] at h9; rw [Nat.eq_of_beq_eq_true hb]; exact h pc x h9
  | false => rw [hb] at h9; cases h9
def q_mn (m : Nat) (A B : Nat → q_M) (k : Nat) : q_M := cond (Nat.ble k m) (A k) (B k)
theorem q_mn_ok {P : q_M → Prop} {m : Nat} {A B : Nat → q_M} (hA : ∀ k, P (A k)) (hB : ∀ k, P (B k)) : ∀ k, P (q_mn m A B k) := fun k => by
  unfold q_mn
  cases hb : Nat.ble k m with
  | true => exact hA k
  | false => exact hB k
theorem q_noref {fs : List Value} (h : fs.all (fun v => match v with | .ref _ => false | _ => true) = true) : ∀ v ∈ fs, ∀ a, ¬ v = .ref a := by
  intro v hv a e
  subst e
  have := List.all_eq_true.mp h _ hv
  cases this
section QG
variable {WU : List Cond} {cl : List vw_C} {tyl : List FieldType} {GF : (Nat → Prop) → State → Heap → Prop} {τ : Nat → Nat} {mt : Nat → q_M} {M : q_M} {own mname : String} {cc : ByteArray} {nL pc nx : Nat}
/-- a char's return -/
def q_rc (st : q_G) : Option (Option Value) := match st.2.2.1 with
  | [.int x] => if vp_nar .char x = x then some (some (.int x)) else none
  | _ => none
theorem q_creturn (hdg : decode M.2.1 pc = .ok (.ireturn, 1)) (hr : M.2.2.2.1 = some .char) : q_Re M pc q_rc := by
  intro g v hpc hf
  obtain ⟨pc', L, st, h⟩ := g
  obtain rfl : pc' = pc := hpc
  unfold q_rc at hf
  dsimp only at hf
  split at hf
  · split at hf
    · rename_i x hx
      cases hf
      refine ⟨fun w hw => by cases hw; exact List.mem_cons_self, fun α he hb hr9 hlk hq hf9 => W.zret he hb (hr9.trans hr) ?_ hq hf9 hdg hlk⟩
      show narrow .char (.int x) = .int x
      have e1 : narrow .char (.int x) = .int (vp_nar .char x) := rfl
      rw [e1, hx]
    · cases hf
  · cases hf
/-- Math.max, Math.min -/
def q_fm (o : Int32 → Int32 → Int32) (_ : q_L) (st : List Value) : Option (List Value) := match st with
  | .int y :: .int x :: r => if (r.map fun v => v.category).sum ≤ 8 then some (.int (o x y) :: r) else none
  | _ => none
theorem q_J_mm {o : Int32 → Int32 → Int32} (h2 : ∀ {p : Program} {l : Launch} {e : Env} {R : Room} {s : State} {m : MethodId} {args : Array Value} {below : List Frame} {meth : Method} {c : Code} {H : Heap} {locs : List Loc} {cells slots : Nat} {Q : State → Prop} {ls : Array Slot} {rest : List Value} {x y : Int32}, p.tables.exec = Jvm.exec → c.code = cc → c.maxLocals = ls.size → s.vm.findClass own = some m.cls → (∀ w ∈ WU, w.before args s = true) → 1 ≤ R.frames → (rest.map fun v => v.category).sum + 13 ≤ R.locals → cells ≤ R.cells → slots ≤ R.slots →
      W p l e R s m args below meth c H locs cells slots Q (F0 m nx ls (.int (o x y) :: rest)) → W p l e R s m args below meth c H locs cells slots Q (F0 m pc ls (.int y :: .int x :: rest))) : q_J WU cl tyl GF τ own mname cc nL pc (q_st nx (q_fm o)) := by
  intro g g' hpc hf hg
  obtain ⟨pc', L, st, h⟩ := g
  obtain rfl : pc' = pc := hpc
  unfold q_st q_fm at hf
  dsimp only at hf
  split at hf
  · cases hf
  · rename_i st' hs
    cases hf
    split at hs
    · rename_i y x r
      split at hs
      · rename_i hsum
        cases hs
        refine ⟨⟨⟨hg.1, q_okcons (q_ok_int _ _) (q_ok2 hg.2.1), hg.2.2⟩, Nat.le_refl _, Nat.le_refl _, Nat.le_refl _⟩, ?_⟩
        intro p l e R s m args below meth c Q D cA A k0 n0 α hC hR1 hR2 hτ hk hn kk H locs ls cells slots hP hD hS hl ek en
        have hk : h.2.1 ≤ k0 + R.cells := hk
        have hn : h.2.2 ≤ n0 + R.slots := hn
        have ek : k0 + cells = h.2.1 := ek
        have en : n0 + slots = h.2.2 := en
        exact h2 hC.1 hC.2.1 (hC.2.2.2.1.trans hl.1.symm) hC.2.2.1 hC.2.2.2.2.1 hR1 (by rw [q_catsum]; omega) (by omega) (by omega) (kk α q_ag.rf H locs ls cells slots hP hD hS hl ek en)
      · cases hs
    · cases hs
theorem q_mmax {idx : Nat} (hdg : decode cc pc = .ok (.invokestatic idx, 3)) (hw1 : Cond.methodLink own idx Lib.Math.max.name ∈ WU) (hw2 : Cond.static Lib.Math.max.name ∈ WU) (hw3 : Cond.initialized "java/lang/Math" ∈ WU) (hw4 : Cond.code Lib.Math.max.name Lib.Math.max.code 2 (some .int) ∈ WU) (hx : nx = pc + 3) : q_J WU cl tyl GF τ own mname cc nL pc (q_st nx (q_fm fun x y => if x < y then y else x)) :=
  q_J_mm (fun he hb hml ho ht hR1 hR2 hc hs k => by subst hx; exact va_mmax he hb hml ho (ht _ hw1) (ht _ hw2) (ht _ hw3) (ht _ hw4) hR1 hR2 hc hs hdg k)
theorem q_mmin {idx : Nat} (hdg : decode cc pc = .ok (.invokestatic idx, 3)) (hw1 : Cond.methodLink own idx Lib.Math.min.name ∈ WU) (hw2 : Cond.static Lib.Math.min.name ∈ WU) (hw3 : Cond.initialized "java/lang/Math" ∈ WU) (hw4 : Cond.code Lib.Math.min.name Lib.Math.min.code 2 (some .int) ∈ WU) (hx : nx = pc + 3) : q_J WU cl tyl GF τ own mname cc nL pc (q_st nx (q_fm fun x y => if y < x then y else x)) :=
  q_J_mm (fun he hb hml ho ht hR1 hR2 hc hs k => by subst hx; exact va_mmin he hb hml ho (ht _ hw1) (ht _ hw2) (ht _ hw3) (ht _ hw4) hR1 hR2 hc hs hdg k)
/-- the calls again, the callee's record named -/
theorem q_callS' {k nA idx : Nat} {N : q_M} (hM : mt k = N) (hdg : decode cc pc = .ok (.invokestatic idx, 3)) (hx : nx = pc + 3) (hh : N.2.2.2.2.1 = []) (hml : N.2.2.1 ≤ 80) (hwl : Cond.methodLink own idx N.1 ∈ WU) (hws : Cond.static N.1 ∈ WU) (hwi : Cond.initialized N.1.cls ∈ WU) (hwc : q_cw N ∈ WU)
    (hd : N.1.cls ≠ "java/lang/invoke/MethodHandle" ∧ N.1.cls ≠ "java/lang/invoke/VarHandle" ∧ (parseMethodDescriptor N.1.desc).map (fun d => d.parameters.length) = some nA) : q_Cs WU cl tyl GF τ mt own cc nL pc nx (q_fc k nA) := by
  subst hM
  exact q_callS hdg hx hh hml hwl hws hwi hwc hd
theorem q_callSX' {k nA idx : Nat} {N : q_M} {x9 : Nat × Nat × Nat × Nat} {r9 : List (Nat × Nat × Nat × Nat)} (hM : mt k = N) (hdg : decode cc pc = .ok (.invokestatic idx, 3)) (hx : nx = pc + 3) (hh : N.2.2.2.2.1 = x9 :: r9) (hml : N.2.2.1 ≤ 80) (hwl : Cond.methodLink own idx N.1 ∈ WU) (hws : Cond.static N.1 ∈ WU) (hwi : Cond.initialized N.1.cls ∈ WU) (hwc : q_cw N ∈ WU)
    (hd : N.1.cls ≠ "java/lang/invoke/MethodHandle" ∧ N.1.cls ≠ "java/lang/invoke/VarHandle" ∧ (parseMethodDescriptor N.1.desc).map (fun d => d.parameters.length) = some nA) : q_Cs WU cl tyl GF τ mt own cc nL pc nx (q_fc k nA) := by
  subst hM
  exact q_callSX hdg hx hh hml hwl hws hwi hwc hd
theorem q_callV' {k nA idx ci n : Nat} {N : q_M} {C : String} {T : u_T} (hM : mt k = N) (hdg : decode cc pc = .ok (.invokevirtual idx, 3)) (hx : nx = pc + 3) (hc : cl[ci]? = some (C, T, n)) (hh : N.2.2.2.2.1 = []) (hml : N.2.2.1 ≤ 80) (hwl : Cond.methodLink own idx N.1 ∈ WU) (hws : Cond.instanceMethod N.1 ∈ WU) (hwe : Cond.selects C N.1 N.1 ∈ WU) (hwi : Cond.initialized C ∈ WU) (hwc : q_cw N ∈ WU)
    (hd : N.1.cls = C ∧ N.1.cls ≠ "java/lang/invoke/MethodHandle" ∧ N.1.cls ≠ "java/lang/invoke/VarHandle" ∧ (parseMethodDescriptor N.1.desc).map (fun d => d.parameters.length) = some nA) : q_Cs WU cl tyl GF τ mt own cc nL pc nx (q_fv k nA ci) := by
  subst hM
  exact q_callV hdg hx hc hh hml hwl hws hwe hwi hwc hd
theorem q_callI' {k nA idx : Nat} {N : q_M} (hM : mt k = N) (hdg : decode cc pc = .ok (.invokespecial idx, 3)) (hx : nx = pc + 3) (hh : N.2.2.2.2.1 = []) (hml : N.2.2.1 ≤ 80) (hret : N.2.2.2.1 = none) (hwl : Cond.methodLink own idx N.1 ∈ WU) (hws : Cond.instanceMethod N.1 ∈ WU) (hwi : Cond.initialized N.1.cls ∈ WU) (hwc : q_cw N ∈ WU) (hy1 : N.1.name = "<init>")
    (hd : N.1.cls ≠ "java/lang/invoke/MethodHandle" ∧ N.1.cls ≠ "java/lang/invoke/VarHandle" ∧ (parseMethodDescriptor N.1.desc).map (fun d => d.parameters.length) = some nA) : q_Cs WU cl tyl GF τ mt own cc nL pc nx (q_fi k nA) := by
  subst hM
  exact q_callI hdg hx hh hml hret hwl hws hwi hwc hy1 hd
theorem q_callIN' {k nA idx : Nat} {N : q_M} {host : String} (hM : mt k = N) (hdg : decode cc pc = .ok (.invokespecial idx, 3)) (hx : nx = pc + 3) (hh : N.2.2.2.2.1 = []) (hml : N.2.2.1 ≤ 80) (hret : N.2.2.2.1 = none) (hwl : ∀ A U H, GF A U H → va_Nw (.methodLinkNest own idx N.1 host) U) (hws : Cond.instanceMethod N.1 ∈ WU) (hwi : Cond.initialized N.1.cls ∈ WU) (hwc : q_cw N ∈ WU) (hy1 : N.1.name = "<init>")
    (hd : N.1.cls ≠ "java/lang/invoke/MethodHandle" ∧ N.1.cls ≠ "java/lang/invoke/VarHandle" ∧ (parseMethodDescriptor N.1.desc).map (fun d => d.parameters.length) = some nA) : q_Cs WU cl tyl GF τ mt own cc nL pc nx (q_fi k nA) := by
  subst hM
  exact q_callIN hdg hx hh hml hret hwl hws hwi hwc hy1 hd
theorem q_hd2 {E0 name : String} {tg0 i0 : Nat} (pre : List (Nat × Nat × Nat × Nat)) (x : Nat × Nat × Nat × Nat) (suf : List (Nat × Nat × Nat × Nat)) (hsplit : M.2.2.2.2.1 = pre ++ x :: suf) (hpass : ∀ z ∈ pre, z.2.2.2 ≠ 0 ∧ ∃ nm : String, Cond.classLink own z.2.2.2 nm ∈ WU ∧ ∀ A U H, GF A U H → va_Nc E0 nm U)
    (hx1 : x.1 ≤ pc ∧ pc < x.2.1) (h0 : x.2.2.2 ≠ 0) (hlink : Cond.classLink own x.2.2.2 name ∈ WU) (hcast : ∀ A U H, GF A U H → va_Nw (.castable E0 name) U) (hdg : decode M.2.1 x.2.2.1 = .ok (.astore i0, 2)) (hi0 : i0 < nL) (htg : tg0 = x.2.2.1 + 2) :
    q_Hd WU GF M own nL pc (fun E => if E0 = E then some (tg0, i0) else none) := by
  intro E tg i e
  dsimp only at e
  split at e
  · rename_i e0
    cases e; subst e0; subst htg
    intro p l e R s m args below meth c H locs cells slots Q A ls rest ce q lv he hb hown hts hG hT hl hce hcv hcl kk
    refine vx_catch hown (pre.map fun q => ⟨q.1, q.2.1, q.2.2.1, q.2.2.2⟩) ⟨x.1, x.2.1, x.2.2.1, x.2.2.2⟩ (suf.map fun q => ⟨q.1, q.2.1, q.2.2.1, q.2.2.2⟩) ?_ ?_ ?_ h0 (hts _ hlink) (va_Nw.use rfl (hcast _ _ _ hG)) hce hcv hcl ?_
    · rw [hT, hsplit]
      unfold tableOf
      rw [List.map_append, List.map_cons]
    · intro z hz
      obtain ⟨z0, hz0, rfl⟩ := List.mem_map.mp hz
      obtain ⟨hn0, nm, hw, hnc⟩ := hpass z0 hz0
      exact Or.inr ⟨hn0, nm, hts _ hw, hnc _ _ _ hG⟩
    · show (decide (x.1 ≤ pc) && decide (pc < x.2.1)) = true
      rw [decide_eq_true hx1.1, decide_eq_true hx1.2]
      rfl
    · refine lv_astore (lv' := (i0, .ref q) :: lv.filter (fun q => !(q.1 == i0) && !(q.1 + 1 == i0 && q.2.category == 2))) he hb hdg hl hi0 rfl (fun ls' hl' => ?_)
      exact kk ls' ⟨hl'.1, hl'.2.1, fun w hw => hl'.2.2 w (List.mem_cons_of_mem _ hw)⟩
  · cases e
end QG
