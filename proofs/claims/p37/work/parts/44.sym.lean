/-! ===== runs of the small machine, step by step ===== -/
def q_Ca (TB : Nat → Option (Nat × Nat × (Nat → Int32))) (d k : Nat) (as : List Value) (h : q_H) (o : q_Out) : Prop := ∃ n, q_exec q_mt (q_mtab TB) n d k as h = some o
def q_Ru (TB : Nat → Option (Nat × Nat × (Nat → Int32))) (d k : Nat) (g : q_G) (o : q_Out) : Prop := ∃ n, q_loop (q_exec q_mt (q_mtab TB) n d) (q_mtab TB k) n g = some o
section
variable {TB : Nat → Option (Nat × Nat × (Nat → Int32))} {d k : Nat} {g g2 : q_G} {o : q_Out}
theorem q_up_x {n n9 d d9 : Nat} (hn : n ≤ n9) (hd : d ≤ d9) : q_xLe (q_exec q_mt (q_mtab TB) n d) (q_exec q_mt (q_mtab TB) n9 d9) := q_exec_le (fun _ => q_LeT_rf) hn d d9 hd
theorem q_Ca.le {d9 : Nat} {as : List Value} {h : q_H} (hd : d ≤ d9) (e : q_Ca TB d k as h o) : q_Ca TB d9 k as h o := by
  obtain ⟨n, e⟩ := e
  exact ⟨n, q_up_x (Nat.le_refl n) hd k as h o e⟩
theorem q_Ca.tb {TB9 : Nat → Option (Nat × Nat × (Nat → Int32))} {as : List Value} {h : q_H} (ht : q_TBle TB TB9) (e : q_Ca TB d k as h o) : q_Ca TB9 d k as h o := by
  obtain ⟨n, e⟩ := e
  exact ⟨n, q_exec_le (q_mtab_le ht) (Nat.le_refl n) d d (Nat.le_refl d) k as h o e⟩
theorem q_Ca_of {as : List Value} {h : q_H} (hw : q_wd as ≤ (q_mt k).2.2.1) (e : q_Ru TB d k (0, lv_args 0 as, [], h) o) : q_Ca TB (d + 1) k as h o := by
  obtain ⟨n, e⟩ := e
  exact ⟨n, by rw [q_exec_s hw]; exact e⟩
theorem q_Ru_seg (j : Nat) (e : ∀ ex n, q_loop ex (q_mtab TB k) (n + j) g = q_loop ex (q_mtab TB k) n g2) (h : q_Ru TB d k g2 o) : q_Ru TB d k g o := by
  obtain ⟨n, h⟩ := h
  refine ⟨n + j, ?_⟩
  rw [e]
  exact q_loop_le (q_up_x (Nat.le_add_right n j) (Nat.le_refl d)) q_LeT_rf n n (Nat.le_refl n) _ _ h
theorem q_Ru_step {r : q_G} (e : ∀ ex, q_step ex (q_mtab TB k) g = some (.inl r)) (h : q_Ru TB d k r o) : q_Ru TB d k g o := q_Ru_seg 1 (fun ex n => by
  rw [q_loop_s, e]) h
theorem q_Ru_rsT {f : q_G → Option (Bool × q_G × Option q_G)} {b : Bool} {g3 : Option q_G} (ht : q_mtab TB k g.1 = some (.inr (.inl f))) (hf : f g = some (b, g2, g3)) (hb : b = true) (h : q_Ru TB d k g2 o) : q_Ru TB d k g o := q_Ru_step (fun ex => by
  unfold q_step q_rs
  rw [ht]
  dsimp only
  rw [hf]
  dsimp only
  rw [hb]) h
theorem q_Ru_rsF {f : q_G → Option (Bool × q_G × Option q_G)} {b : Bool} {g1 : q_G} (ht : q_mtab TB k g.1 = some (.inr (.inl f))) (hf : f g = some (b, g1, some g2)) (hb : b = false) (h : q_Ru TB d k g2 o) : q_Ru TB d k g o := q_Ru_step (fun ex => by
  unfold q_step q_rs
  rw [ht]
  dsimp only
  rw [hf]
  dsimp only
  rw [hb]) h
theorem q_Ru_one {r : q_G ⊕ q_Out} {n1 n2 : Nat} (e1 : q_step (q_exec q_mt (q_mtab TB) n1 d) (q_mtab TB k) g = some r) (e2 : match r with
    | .inl g2 => q_loop (q_exec q_mt (q_mtab TB) n2 d) (q_mtab TB k) n2 g2 = some o
    | .inr o2 => o2 = o) : q_Ru TB d k g o := by
  refine ⟨n1 + n2 + 1, ?_⟩
  rw [q_loop_s, q_step_le (q_up_x (by omega) (Nat.le_refl d)) q_LeT_rf e1]
  cases r with
  | inl g2 => exact q_loop_le (q_up_x (by omega) (Nat.le_refl d)) q_LeT_rf n2 _ (by omega) _ _ e2
  | inr o2 => exact congrArg some e2
theorem q_Ru_call {nx k2 : Nat} {f : q_G → Option (Nat × List Value × List Value)} {hd : Option (String → Option (Nat × Nat))} {as rest : List Value} {v : Option Value} {h2 : q_H} (ht : q_mtab TB k g.1 = some (.inr (.inr (.inr (.inr (nx, f, hd)))))) (hf : f g = some (k2, as, rest)) (hc : q_Ca TB d k2 as g.2.2.2 (.inl v, h2)) (h : q_Ru TB d k (nx, g.2.1, v.toList ++ rest, h2) o) : q_Ru TB d k g o := by
  obtain ⟨n1, e1⟩ := hc
  obtain ⟨n2, e2⟩ := h
  refine q_Ru_one (n1 := n1) (n2 := n2) (r := .inl (nx, g.2.1, v.toList ++ rest, h2)) ?_ e2
  unfold q_step
  rw [ht]
  dsimp only
  rw [hf]
  dsimp only
  rw [e1]
theorem q_Ru_callX {nx k2 : Nat} {f : q_G → Option (Nat × List Value × List Value)} {as rest : List Value} {E : String} {h2 : q_H} (ht : q_mtab TB k g.1 = some (.inr (.inr (.inr (.inr (nx, f, none)))))) (hf : f g = some (k2, as, rest)) (hc : q_Ca TB d k2 as g.2.2.2 (.inr E, h2)) : q_Ru TB d k g (.inr E, h2) := by
  obtain ⟨n1, e1⟩ := hc
  refine q_Ru_one (n1 := n1) (n2 := 0) (r := .inr (.inr E, h2)) ?_ rfl
  unfold q_step
  rw [ht]
  dsimp only
  rw [hf]
  dsimp only
  rw [e1]
theorem q_Ru_callH {nx k2 tg i : Nat} {f : q_G → Option (Nat × List Value × List Value)} {hd : String → Option (Nat × Nat)} {as rest : List Value} {E : String} {h2 : q_H} (ht : q_mtab TB k g.1 = some (.inr (.inr (.inr (.inr (nx, f, some hd)))))) (hf : f g = some (k2, as, rest)) (hc : q_Ca TB d k2 as g.2.2.2 (.inr E, h2)) (hh : hd E = some (tg, i)) (h : q_Ru TB d k (tg, q_drop g.2.1 i, [], h2) o) : q_Ru TB d k g o := by
  obtain ⟨n1, e1⟩ := hc
  obtain ⟨n2, e2⟩ := h
  refine q_Ru_one (n1 := n1) (n2 := n2) (r := .inl (tg, q_drop g.2.1 i, [], h2)) ?_ e2
  unfold q_step
  rw [ht]
  dsimp only
  rw [hf]
  dsimp only
  rw [e1]
  dsimp only
  rw [hh]
theorem q_Ru_ret {f : q_G → Option (Option Value)} {v : Option Value} (ht : q_mtab TB k g.1 = some (.inr (.inr (.inl f)))) (hf : f g = some v) : q_Ru TB d k g (.inl v, g.2.2.2) := by
  refine q_Ru_one (n1 := 0) (n2 := 0) (r := .inr (.inl v, g.2.2.2)) ?_ rfl
  unfold q_step
  rw [ht]
  dsimp only
  rw [hf]
theorem q_Ru_thr {f : q_G → Option String} {E : String} (ht : q_mtab TB k g.1 = some (.inr (.inr (.inr (.inl f))))) (hf : f g = some E) : q_Ru TB d k g (.inr E, g.2.2.2.1, g.2.2.2.2.1 + 1, g.2.2.2.2.2 + 6) := by
  refine q_Ru_one (n1 := 0) (n2 := 0) (r := .inr (.inr E, g.2.2.2.1, g.2.2.2.2.1 + 1, g.2.2.2.2.2 + 6)) ?_ rfl
  unfold q_step
  rw [ht]
  dsimp only
  rw [hf]
end
