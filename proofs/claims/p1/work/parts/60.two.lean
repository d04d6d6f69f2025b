/-! ===== from the calls on a fresh object to the law ===== -/
theorem q_CaF {TB : Nat → Option (Nat × Nat × (Nat → Int32))} {d k : Nat} {as : List Value} {h : q_H} {o : q_Out} (e : q_Ca TB d k as h o) (ha : ∀ v ∈ as, q_ok h.1.length v) (hh : q_okh h.1) {β : Nat → Nat} {δ σ : Nat} {H : q_H} (hE : q_Em β δ σ h H) : q_oko h o ∧ ∃ β2 H2, q_Ca TB d k (as.map (q_v β)) H (q_om β2 o.1, H2) ∧ q_Em β2 δ σ o.2 H2 ∧ q_Rs β β2 h o.2 H H2 := by
  obtain ⟨n, e⟩ := e
  obtain ⟨h1, h2⟩ := q_frame (WU := q_WU) (cl := vwCl) (tyl := q_tyl) (GF := q_gF TB fun a => a) (τ := fun a => a) (mt := q_mt) (mtab := q_mtab TB) (fun k pc x h9 => q_mtab_ok k pc x h9) q_mtab_rn n d k as h o e ha hh
  refine ⟨h1, ?_⟩
  obtain ⟨β2, H2, e1, e2, e3⟩ := h2 β δ σ H hE
  exact ⟨β2, H2, ⟨n, e1⟩, e2, e3⟩
theorem q_Em_lt {β : Nat → Nat} {δ σ : Nat} {h H : q_H} (hE : q_Em β δ σ h H) {i : Nat} (hi : i < h.1.length) : β (64 + i) < 64 + H.1.length := by
  obtain ⟨-, h2, -, h4, -, -⟩ := hE
  have c := h4 i _ (List.getElem?_eq_getElem hi)
  obtain ⟨q, -⟩ := List.getElem?_eq_some_iff.mp c
  have := h2 i hi
  omega
theorem q_Em_mv {β : Nat → Nat} {δ σ δ2 σ2 : Nat} {h H H2 : q_H} (hE : q_Em β δ σ h H) (hst : ∀ i, i < h.1.length → H2.1[β (64 + i) - 64]? = H.1[β (64 + i) - 64]?) (h5 : H2.2.1 = h.2.1 + δ2) (h6 : H2.2.2 = h.2.2 + σ2) : q_Em β δ2 σ2 h H2 := by
  obtain ⟨h1, h2, h3, h4, -, -⟩ := hE
  refine ⟨h1, h2, h3, fun i c hc => ?_, h5, h6⟩
  have hi : i < h.1.length := (List.getElem?_eq_some_iff.mp hc).1
  rw [hst i hi]
  exact h4 i c hc
theorem q_Em_at {β : Nat → Nat} {δ σ : Nat} {h H : q_H} (hE : q_Em β δ σ h H) {i : Nat} {c : q_C} (hc : h.1[i]? = some c) : q_at H (β (64 + i)) = some (q_mc β c) := by
  obtain ⟨-, h2, -, h4, -, -⟩ := hE
  have hi : i < h.1.length := (List.getElem?_eq_some_iff.mp hc).1
  have := h2 i hi
  unfold q_at
  rw [if_neg (by omega)]
  exact h4 i c hc
theorem q_ok_nr {as : List Value} (hv : ∀ β, as.map (q_v β) = as) (n : Nat) : ∀ v ∈ as, q_ok n v := by
  intro v hm a e
  subst e
  have h1 : as.map (q_v fun a => a + 1) = as.map id := by rw [hv, List.map_id]
  have h2 := List.map_inj_left.mp h1 _ hm
  have h3 : Value.ref (a + 1) = Value.ref a := h2
  cases h3 with
  | _ => exact absurd (Value.ref.inj h3) (by omega)
theorem q_okc_obj {n ci : Nat} {fs : List Value} (h : fs.all (fun v => match v with | .ref _ => false | _ => true) = true) : q_okc n (.inr (ci, fs)) := fun v hv a e => absurd e (q_noref h v hv a)
def q_hX : q_H := (q_cX q_AX q_IX q_J0, 40, 26520)
def q_hM : q_H := (q_cM q_AM q_IM q_J0, 34, 31630)
def q_oX : q_C := .inr (13, [.null, .null, .int 0, .null, .null, .null])
def q_oM : q_C := .inr (14, [.null, .null, .null, .null, .null, .null, .null, .null, .null, .null, .null, .null, .null, .null, .null, .long 0, .long 0, .int 0, .null, .null, .null, .null, .null, .null, .null, .null, .null, .null, .null, .null, .null, .null, .null, .null, .int 0, .int 0, .null, .null, .int 0, .int 0])
def q_out : q_C := .inl (2, 1, .inr (.inl fun _ => 0))
theorem q_Em_id {c : q_C} (hc : ∀ β, q_mc β c = c) {β : Nat → Nat} (hβ : ∀ a, a < 64 → β a = a) {H : q_H} {j : Nat} (hj : β 64 = 64 + j) (hH : H.1[j]? = some c) {k m δ σ : Nat} (h5 : H.2.1 = k + δ) (h6 : H.2.2 = m + σ) : q_Em β δ σ ([c], k, m) H := by
  refine ⟨hβ, fun i hi => ?_, fun i j9 hi hj9 _ => ?_, fun i c9 hc9 => ?_, h5, h6⟩
  · have hi : i < 1 := hi
    obtain rfl : i = 0 := by omega
    show 64 ≤ β 64
    omega
  · have hi : i < 1 := hi
    have hj9 : j9 < 1 := hj9
    omega
  · have hi : i < 1 := (List.getElem?_eq_some_iff.mp hc9).1
    obtain rfl : i = 0 := by omega
    have e : c = c9 := Option.some.inj hc9
    subst e
    show H.1[β 64 - 64]? = _
    rw [hj, hc, show 64 + j - 64 = j by omega]
    exact hH
theorem q_okX : q_okh q_hX.1 := by
  have e : q_Ca q_TB0 6 27 [.ref 64] ([q_oX], 1, 6) (.inl none, (q_cX q_AX q_IX q_J0).take 39, 39, 26519) := q_newX
  obtain ⟨⟨-, h, -⟩, -⟩ := q_CaF e (fun v hv => by rw [List.mem_singleton.mp hv]; intro a ha; cases ha; exact Nat.le_of_ble_eq_true rfl) (fun c hc => by rw [List.mem_singleton.mp hc]; exact q_okc_obj rfl) (q_Em_id (β := fun a => a) (j := 0) (H := ([q_oX], 1, 6)) (δ := 0) (σ := 0) (fun _ => rfl) (fun _ _ => rfl) rfl rfl rfl rfl)
  have h8 : q_okc ((q_cX q_AX q_IX q_J0).take 39).length q_out := trivial
  have h9 : q_okh ((q_cX q_AX q_IX q_J0).take 39 ++ [q_out]) := q_okh.push h h8
  exact h9
theorem q_okM : q_okh q_hM.1 := by
  have e : q_Ca q_TB0 2 198 [.ref 64] ([q_oM], 1, 40) (.inl none, q_cM q_AM q_IM q_J0, 34, 31630) := q_newM
  obtain ⟨⟨-, h, -⟩, -⟩ := q_CaF e (fun v hv => by rw [List.mem_singleton.mp hv]; intro a ha; cases ha; exact Nat.le_of_ble_eq_true rfl) (fun c hc => by rw [List.mem_singleton.mp hc]; exact q_okc_obj rfl) (q_Em_id (β := fun a => a) (j := 0) (H := ([q_oM], 1, 40)) (δ := 0) (σ := 0) (fun _ => rfl) (fun _ _ => rfl) rfl rfl rfl rfl)
  exact h
def q_tw (βX βM : Nat → Nat) (H : q_H) : Prop := q_Em βX 34 31630 q_hX H ∧ q_Em βM 40 26520 q_hM H ∧ ∀ i j, i < 40 → j < 34 → ¬ βX (64 + i) = βM (64 + j)
/-- a call of the class beside the model -/
theorem q_tw_X {TB : Nat → Option (Nat × Nat × (Nat → Int32))} {βX βM : Nat → Nat} {H : q_H} (hT : q_tw βX βM H) {k : Nat} {as : List Value} {o : q_Out} (e : q_Ca TB 12 k as q_hX o) (ha : ∀ v ∈ as, q_ok 40 v) :
    ∃ β2 H2, q_Ca TB 12 k (as.map (q_v βX)) H (q_om β2 o.1, H2) ∧ q_Em β2 34 31630 o.2 H2 ∧ q_Em βM o.2.2.1 o.2.2.2 q_hM H2 ∧ (∀ i, i < 40 → β2 (64 + i) = βX (64 + i)) ∧ 40 ≤ o.2.1.length := by
  obtain ⟨hX, hM, hd⟩ := hT
  obtain ⟨⟨-, -, hl, -, -⟩, β2, H2, e1, e2, e3⟩ := q_CaF e ha q_okX hX
  have hl : 40 ≤ o.2.1.length := hl
  refine ⟨β2, H2, e1, e2, ?_, fun i hi => e3.1 (64 + i) (by show 64 + i < 64 + 40; omega), hl⟩
  obtain ⟨-, -, -, -, c5, c6⟩ := e2
  refine q_Em_mv hM (fun i hi => ?_) (by rw [c5]; exact Nat.add_comm _ _) (by rw [c6]; exact Nat.add_comm _ _)
  have hi9 : i < 34 := hi
  have q1 := q_Em_lt hM hi
  have q2 := hM.2.1 i hi
  refine e3.2.2.2.2 _ (by omega) (fun i9 h9 => ?_)
  have := hd i9 i h9 hi9
  omega
/-- .. and of the model behind it; the class's cells stay -/
theorem q_tw_M {βM : Nat → Nat} {δ σ : Nat} {H : q_H} (hM : q_Em βM δ σ q_hM H) {k : Nat} {as : List Value} {o : q_Out} (e : q_Ca q_TB0 12 k as q_hM o) (ha : ∀ v ∈ as, q_ok 34 v) :
    ∃ β2 H2, q_Ca q_TB0 12 k (as.map (q_v βM)) H (q_om β2 o.1, H2) ∧ q_Em β2 δ σ o.2 H2 ∧ (∀ i, i < 34 → β2 (64 + i) = βM (64 + i)) ∧ (∀ a, 64 ≤ a → a < 64 + H.1.length → (∀ j, j < 34 → ¬ a = βM (64 + j)) → q_at H2 a = q_at H a) ∧ 34 ≤ o.2.1.length := by
  obtain ⟨⟨-, -, hl, -, -⟩, β2, H2, e1, e2, e3⟩ := q_CaF e ha q_okM hM
  have hl : 34 ≤ o.2.1.length := hl
  refine ⟨β2, H2, e1, e2, fun i hi => e3.1 (64 + i) (by show 64 + i < 64 + 34; omega), fun a h1 h2 h3 => ?_, hl⟩
  unfold q_at
  rw [if_neg (by omega), if_neg (by omega)]
  refine e3.2.2.2.2 _ (by omega) (fun i9 h9 h8 => h3 i9 h9 ?_)
  rw [h8]; omega
def q_opXT (TB : Nat → Option (Nat × Nat × (Nat → Int32))) (k : Nat) (as : List Value) (r : Int32) (w : Int64) : Prop := ∃ (h2 : q_H) (f : Nat → Int64), q_Ca TB 12 k (.ref 64 :: (as ++ [.ref 103])) (q_cX q_AX q_IX q_J0, 40, 26520) (.inl (some (.int r)), h2) ∧ h2.1[39]? = some (.inl (2, 1, .inr (.inl f))) ∧ (r = 0 → f 0 = w) ∧ h2.2.1 ≤ 100000 ∧ h2.2.2 ≤ 1000000
theorem q_opX_T {k : Nat} {as : List Value} {r : Int32} {w : Int64} (h : q_opX k as r w) (z L : Nat) (xs : Nat → Int32) : q_opXT (q_TBs z L xs) k as r w := by
  obtain ⟨h2, f, e, x⟩ := h
  exact ⟨h2, f, e.tb q_TB0_le, x⟩
theorem q_tw_opT {βX βM : Nat → Nat} {H : q_H} (hT : q_tw βX βM H) {kX kM : Nat} {as : List Value} {r b : Int32} {w : Int64} (z L : Nat) (xs : Nat → Int32) (hX : q_opXT (q_TBs z L xs) kX as r w) (hM : q_opM kM as r (.int b)) (hw : r = 0 → w = b.toInt64) (hv : ∀ β, as.map (q_v β) = as) :
    ∃ (H2 H3 : q_H) (f : Nat → Int64) (fs fs2 : List Value), q_Ca (q_TBs z L xs) 12 kX (.ref (βX 64) :: (as ++ [.ref (βX 103)])) H (.inl (some (.int r)), H2) ∧ q_Ca (q_TBs z L xs) 12 kM (.ref (βM 64) :: as) H2 (.inl (some (.int b)), H3) ∧ q_at H2 (βM 64) = some (.inr (14, fs)) ∧ q_at H3 (βM 64) = some (.inr (14, fs2)) ∧ fs2[39]? = some (.int r) ∧ q_at H3 (βX 103) = some (.inl (2, 1, .inr (.inl f))) ∧ (r = 0 → f 0 = b.toInt64) ∧ H3.2.1 ≤ 300000 ∧ H3.2.2 ≤ 3000000 := by
  obtain ⟨h2, f, x1, x2, x3, x4, x5⟩ := hX
  obtain ⟨h3, fs, m1, m2, m3, m4, m5⟩ := hM
  have ok40 : ∀ v ∈ (Value.ref 64 :: (as ++ [Value.ref 103])), q_ok 40 v := by
    intro v hm
    rcases List.mem_cons.mp hm with rfl | hm
    · intro a ha; cases ha; exact Nat.le_of_ble_eq_true rfl
    rcases List.mem_append.mp hm with hm | hm
    · exact q_ok_nr hv 40 v hm
    · rw [List.mem_singleton.mp hm]
      intro a ha; cases ha; exact Nat.le_of_ble_eq_true rfl
  have ok34 : ∀ v ∈ (Value.ref 64 :: as), q_ok 34 v := by
    intro v hm
    rcases List.mem_cons.mp hm with rfl | hm
    · intro a ha; cases ha; exact Nat.le_of_ble_eq_true rfl
    · exact q_ok_nr hv 34 v hm
  obtain ⟨β2, H2, c1, c2, c3, c4, c5⟩ := q_tw_X hT x1 ok40
  obtain ⟨β3, H3, d1, d2, d3, d4, d5⟩ := q_tw_M c3 m1 ok34
  have hXX := hT.1
  have e1 : (Value.ref 64 :: (as ++ [Value.ref 103])).map (q_v βX) = .ref (βX 64) :: (as ++ [.ref (βX 103)]) := by
    rw [List.map_cons, List.map_append, hv]; rfl
  have e2 : (Value.ref 64 :: as).map (q_v βM) = .ref (βM 64) :: as := by
    rw [List.map_cons, hv]; rfl
  rw [e1] at c1
  rw [e2] at d1
  have a1 := q_Em_at c3 (i := 0) rfl
  have a2 := q_Em_at d2 (i := 0) m2
  have a3 := q_Em_at c2 (i := 39) x2
  have b3 : β3 64 = βM 64 := d3 0 (by omega)
  have b2 : β2 103 = βX 103 := c4 39 (by omega)
  rw [show 64 + 0 = 64 from rfl, b3] at a2
  rw [show 64 + 39 = 103 from rfl, b2] at a3
  have l3 := q_Em_lt c2 (i := 39) (by omega)
  rw [show 64 + 39 = 103 from rfl, b2] at l3
  have g3 : 64 ≤ βX 103 := hXX.2.1 39 (show 39 < 40 by omega)
  have a4 := d4 (βX 103) g3 l3 (fun j hj => hT.2.2 39 j (by omega) hj)
  obtain ⟨-, -, -, -, n1, n2⟩ := d2
  have n1 : H3.2.1 = h3.2.1 + h2.2.1 := n1
  have n2 : H3.2.2 = h3.2.2 + h2.2.2 := n2
  refine ⟨H2, H3, f, _, _, c1, d1.tb q_TB0_le, a1, a2, ?_, a4.trans a3, fun h => (x3 h).trans (hw h), by omega, by omega⟩
  show (fs.map _)[39]? = _
  rw [List.getElem?_map, m3]; rfl
theorem q_tw_op {βX βM : Nat → Nat} {H : q_H} (hT : q_tw βX βM H) {kX kM : Nat} {as : List Value} {r b : Int32} {w : Int64} (hX : q_opX kX as r w) (hM : q_opM kM as r (.int b)) (hw : r = 0 → w = b.toInt64) (hv : ∀ β, as.map (q_v β) = as) (z L : Nat) (xs : Nat → Int32) :
    ∃ (H2 H3 : q_H) (f : Nat → Int64) (fs fs2 : List Value), q_Ca (q_TBs z L xs) 12 kX (.ref (βX 64) :: (as ++ [.ref (βX 103)])) H (.inl (some (.int r)), H2) ∧ q_Ca (q_TBs z L xs) 12 kM (.ref (βM 64) :: as) H2 (.inl (some (.int b)), H3) ∧ q_at H2 (βM 64) = some (.inr (14, fs)) ∧ q_at H3 (βM 64) = some (.inr (14, fs2)) ∧ fs2[39]? = some (.int r) ∧ q_at H3 (βX 103) = some (.inl (2, 1, .inr (.inl f))) ∧ (r = 0 → f 0 = b.toInt64) ∧ H3.2.1 ≤ 300000 ∧ H3.2.2 ≤ 3000000 := q_tw_opT hT z L xs (q_opX_T hX z L xs) hM hw hv
/-- .. of those without a row -/
def q_opV (kX kM : Nat) (v : Value) : Prop := ∃ (h2 h3 : q_H), q_Ca q_TB0 12 kX [.ref 64] (q_cX q_AX q_IX q_J0, 40, 26520) (.inl (some v), h2) ∧ q_Ca q_TB0 12 kM [.ref 64] (q_cM q_AM q_IM q_J0, 34, 31630) (.inl (some v), h3) ∧ h2.2.1 ≤ 100000 ∧ h2.2.2 ≤ 1000000 ∧ h3.2.1 ≤ 100000 ∧ h3.2.2 ≤ 1000000
theorem q_tw_opV {βX βM : Nat → Nat} {H : q_H} (hT : q_tw βX βM H) {kX kM : Nat} {v : Value} (hV : q_opV kX kM v) (hv : ∀ β, q_v β v = v) (z L : Nat) (xs : Nat → Int32) :
    ∃ (H2 H3 : q_H) (fs fs2 : List Value), q_at H (βX 64) = some (.inr (13, fs)) ∧ q_Ca (q_TBs z L xs) 12 kX [.ref (βX 64)] H (.inl (some v), H2) ∧ q_at H2 (βM 64) = some (.inr (14, fs2)) ∧ q_Ca (q_TBs z L xs) 12 kM [.ref (βM 64)] H2 (.inl (some v), H3) ∧ H3.2.1 ≤ 300000 ∧ H3.2.2 ≤ 3000000 := by
  obtain ⟨h2, h3, x1, m1, x4, x5, m4, m5⟩ := hV
  have ok : ∀ n, 0 < n → ∀ v ∈ [Value.ref 64], q_ok n v := by
    intro n hn v hm
    rw [List.mem_singleton.mp hm]
    intro a ha
    have ha := Value.ref.inj ha
    subst ha
    exact Nat.lt_add_of_pos_right hn
  obtain ⟨β2, H2, c1, c2, c3, c4, c5⟩ := q_tw_X hT x1 (ok 40 (by omega))
  obtain ⟨β3, H3, d1, d2, d3, d4, d5⟩ := q_tw_M c3 m1 (ok 34 (by omega))
  have a0 := q_Em_at hT.1 (i := 0) rfl
  have a1 := q_Em_at c3 (i := 0) rfl
  obtain ⟨-, -, -, -, n1, n2⟩ := d2
  have n1 : H3.2.1 = h3.2.1 + h2.2.1 := n1
  have n2 : H3.2.2 = h3.2.2 + h2.2.2 := n2
  have c1 : q_Ca q_TB0 12 kX [.ref (βX 64)] H (.inl (some (q_v β2 v)), H2) := c1
  have d1 : q_Ca q_TB0 12 kM [.ref (βM 64)] H2 (.inl (some (q_v β3 v)), H3) := d1
  rw [hv] at c1 d1
  exact ⟨H2, H3, _, _, a0, c1.tb q_TB0_le, a1, d1.tb q_TB0_le, by omega, by omega⟩
theorem q_fv_at {k nA ci b pc : Nat} {L : q_L} {st r : List Value} {H : q_H} {fs : List Value} (hat : q_at H b = some (.inr (ci, fs))) (hd : st.drop nA = .ref b :: r) (hs : (r.map fun v => v.category).sum ≤ 8) : q_fv k nA ci (pc, L, st, H) = some (k, .ref b :: (st.take nA).reverse, r) := by
  unfold q_fv
  dsimp only
  rw [hd]
  dsimp only
  rw [hat]
  dsimp only
  rw [if_pos ⟨rfl, hs⟩]
theorem q_lld_at {nx n a pc : Nat} {L : q_L} {i : Int32} {r : List Value} {H : q_H} {f : Nat → Int64} (hat : q_at H a = some (.inl (2, n, .inr (.inl f)))) : q_lld nx 2 (pc, L, .int i :: .ref a :: r, H) = some (q_in i n, (nx, L, .long (f i.toNatClampNeg) :: r, H), none) := by
  unfold q_lld
  dsimp only
  rw [hat]
  rfl
theorem q_gf_at {nx ci k a pc : Nat} {L : q_L} {r : List Value} {H : q_H} {fs : List Value} {v : Value} (hat : q_at H a = some (.inr (ci, fs))) (hk : fs[k]? = some v) : q_gf nx ci k (pc, L, .ref a :: r, H) = some (nx, L, v :: r, H) := by
  unfold q_gf
  dsimp only
  rw [hat]
  dsimp only
  rw [if_pos rfl, hk]
theorem q_thrown {TB : Nat → Option (Nat × Nat × (Nat → Int32))} {a : Nat} {H : q_H} {fs : List Value} {r : Int32} (hat : q_at H a = some (.inr (14, fs))) (hk : fs[39]? = some (.int r)) : q_Ca TB 12 199 [.ref a] H (.inl (some (.int r)), H) := by
  refine q_Ca_of (Nat.le_of_ble_eq_true rfl) ?_
  refine q_Ru_seg (g2 := (1, [(0, .ref a)], [.ref a], H)) 1 (fun _ _ => rfl) ?_
  refine q_Ru_step (r := (4, [(0, .ref a)], [.int r], H)) (fun ex => ?_) ?_
  · unfold q_step
    rw [show q_mtab TB 199 1 = some (.inl (q_gf 4 14 39)) from rfl]
    dsimp only
    rw [q_gf_at hat hk]
  · exact q_Ru_ret rfl rfl
theorem q_lcmp_rf (x : Int64) : lg_cmp x x = 0 := by
  unfold lg_cmp
  simp
