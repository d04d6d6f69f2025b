section
variable {x y z m m2 S T : q_S} {c d w : Int} {k : Nat}
/-- a float that is no NaN becomes a double that is none -/
theorem q_f2dnn {r : UInt32} (h : q_nnf r = true) : q_nnd (FP.f2d r) = true := by
  obtain ⟨a1, a2, -⟩ := q_b32
  have hn : ¬ FP.Core.decode FP.Core.b32 r.toNat = .nan := by
    unfold q_nnf at h
    have h := of_decide_eq_true h
    have e2 : (0x7fffffff : UInt32).toNat = 2 ^ 31 - 1 := by decide
    have e3 : (0x7f800000 : UInt32).toNat = 255 * 2 ^ 23 := by decide
    rw [UInt32.le_iff_toNat_le, UInt32.toNat_and, e2, e3, Nat.and_two_pow_sub_one_eq_mod] at h
    unfold FP.Core.decode FP.Core.fieldE FP.Core.fieldT
    rw [a1, a2]
    split
    · rename_i he
      rw [if_pos (by omega)]
      exact fun q => by cases q
    · split
      · exact fun q => by cases q
      · exact fun q => by cases q
  have e : FP.f2d r = FP.Core.f2d r := by
    unfold FP.f2d
    rw [if_neg]
    intro q
    exact hn (of_decide_eq_true q)
  rw [e]
  exact q_nnd_wf (q_wf_round q_hp64 q_hq64 _ hn)
theorem q_cmp0 (a : Int64) : decide (lg_cmp a a = 0) = true := by
  unfold lg_cmp
  rw [if_neg (show ¬ a > a from fun h => by have := Int64.lt_iff_toInt_lt.mp h; omega), if_pos rfl]
  rfl
/-- the class' call leaves the model's cells -/
theorem q_psW {T : Type} {i : Nat} (h : i < 34) (f : Nat → T) (e : T) : q_ps 172 1 0 206 (172 + i) f e = e := by
  unfold q_ps
  rw [q_bltF (show 0 + 172 ≤ 172 + i by omega), q_bleF (show 172 + i < 206 by omega), Bool.and_false]
  rfl
theorem q_IvW (h : q_Iv c d w (q_vw 34 172 0 S)) (y : q_S) : q_Iv c d w (q_vw 34 172 0 (q_pt 172 1 0 206 S y)) := by
  refine ⟨fun i j => ?_, fun i j => ?_, fun i j hi => ?_⟩
  · by_cases e : i < 34
    · have g := h.1 i j
      have g : q_rgz (q_la i j) (q_ha d i j) (S.1 (q_eN 34 172 0 i) j) := g
      show q_rgz _ _ (q_ps 172 1 0 206 (q_eN 34 172 0 i) y.1 (S.1 (q_eN 34 172 0 i)) j)
      rw [q_eN34 e] at g ⊢
      rw [q_psW e]
      exact g
    · obtain ⟨b1, b2, -, -⟩ := q_bnd34 (d := d) (w := w) (i := i) (k := j) (by omega)
      rw [b1, b2]
      exact q_rg_full _
  · by_cases e : i < 34
    · have g := h.2.1 i j
      have g : q_rgz (q_lfz i j) (q_hf w i j) (S.2.1 (q_eN 34 172 0 i) j) := g
      show q_rgz _ _ (q_ps 172 1 0 206 (q_eN 34 172 0 i) y.2.1 (S.2.1 (q_eN 34 172 0 i)) j)
      rw [q_eN34 e] at g ⊢
      rw [q_psW e]
      exact g
    · obtain ⟨-, -, b1, b2⟩ := q_bnd34 (d := d) (w := w) (i := i) (k := j) (by omega)
      rw [b1, b2]
      exact q_rg_full _
  · by_cases e : i < 34
    · have g := h.2.2 i j hi
      have g : q_rgL 0 c (S.2.2 (q_eN 34 172 0 i) j) := g
      show q_rgL _ _ (q_ps 172 1 0 206 (q_eN 34 172 0 i) y.2.2 (S.2.2 (q_eN 34 172 0 i)) j)
      rw [q_eN34 e] at g ⊢
      rw [q_psW e]
      exact g
    · rw [Nat.ble_eq_true_of_le (by omega : 34 ≤ i)] at hi
      cases hi
theorem q_LXup {k : Int} (h : q_LX k m x) : q_LX (k + 1) m x := by
  obtain ⟨h1, h2, h3, h4, h5, h6, ⟨r1, r2, r3, r4, r5⟩, h8⟩ := h
  exact ⟨h1, h2, h3, h4, h5, h6, ⟨r1, r2, by omega, r4, r5⟩, h8⟩
theorem q_LXM {k : Int} (h : q_LX k m (q_vw 172 0 206 S)) : q_LX k (q_vw 34 172 0 (q_pt 34 0 172 0 S m)) (q_vw 172 0 206 (q_pt 34 0 172 0 S m)) := by
  obtain ⟨h1, h2, h3, h4, h5, h6, h7, h8⟩ := h
  exact ⟨h1, h2, h3, h4, h5, h6, h7, h8⟩
/-- what stands at the law's head behind k turns -/
def q_IV (k : Nat) (S : q_S) : Prop := q_LX k (q_vw 34 172 0 S) (q_vw 172 0 206 S) ∧ q_Iv (1000 * k) (1000 * k) 40 (q_vw 34 172 0 S)
theorem q_IVup (h : q_Iv (1000 * k) (1000 * k) 40 m) : q_Iv (1000 * (k + 1 : Nat)) (1000 * (k + 1 : Nat)) 40 m := q_Iv_mono h (by omega) (by omega) (Int.le_refl _)
/-- a turn that calls both -/
theorem q_trn {T : Type} {ox : Option (q_S × Int32 × Nat)} {F : q_S → Option (q_S × T)} {cv : T → Int64} {ex : Prop} {P : q_S × T → Prop} (h : q_IV k S) (hT : ∀ m, q_LX k m (q_vw 172 0 206 S) → q_Iv (1000 * k) (1000 * k) 40 m → q_TN k ox (F m) cv ex) (hJ : ∀ m, q_Iv (1000 * k) (1000 * k) 40 m → q_Ex (F m) P) (hP : ∀ x, P x → q_Iv (1000 * (k + 1 : Nat)) (1000 * (k + 1 : Nat)) 40 x.1) : ∃ r0 r1, ox = some r0 ∧ F (q_vw 34 172 0 (q_pt 172 1 0 206 S r0.1)) = some r1 ∧ q_IV (k + 1) (q_pt 34 0 172 0 (q_pt 172 1 0 206 S r0.1) r1.1) ∧ r0.2.2 ≤ 1 ∧ r1.1.2.1 0 39 = r0.2.1 ∧ (ex → r0.2.1 = 0 → r0.1.2.2 172 0 = cv r1.2) := by
  obtain ⟨r0, -, e0, -⟩ := hT _ h.1 h.2
  have I1 := q_IvW h.2 r0.1
  obtain ⟨r0', r1, e0', e1, hL, hn, hc, hx⟩ := hT _ (q_LXW h.1 r0.1) I1
  rw [e0] at e0'
  cases e0'
  obtain ⟨r1', e1', p⟩ := hJ _ I1
  rw [e1] at e1'
  cases e1'
  exact ⟨r0, r1, e0, e1, ⟨q_LXV hL S, q_IvV (hP r1 p) _⟩, hn, hc, hx⟩
theorem q_trw {T U : Type} {ox : Option (q_S × U)} {F : q_S → Option (q_S × T)} {Q : q_S × U → q_S × T → Prop} {P : q_S × T → Prop} (h : q_IV k S) (hT : ∀ m, q_LX k m (q_vw 172 0 206 S) → q_Iv (1000 * k) (1000 * k) 40 m → ∃ r0 r1, ox = some r0 ∧ F m = some r1 ∧ q_LX (k + 1) r1.1 r0.1 ∧ Q r0 r1) (hJ : ∀ m, q_Iv (1000 * k) (1000 * k) 40 m → q_Ex (F m) P) (hP : ∀ x, P x → q_Iv (1000 * (k + 1 : Nat)) (1000 * (k + 1 : Nat)) 40 x.1) : ∃ r0 r1, ox = some r0 ∧ F (q_vw 34 172 0 (q_pt 172 1 0 206 S r0.1)) = some r1 ∧ q_IV (k + 1) (q_pt 34 0 172 0 (q_pt 172 1 0 206 S r0.1) r1.1) ∧ Q r0 r1 := by
  obtain ⟨r0, -, e0, -⟩ := hT _ h.1 h.2
  have I1 := q_IvW h.2 r0.1
  obtain ⟨r0', r1, e0', e1, hL, hx⟩ := hT _ (q_LXW h.1 r0.1) I1
  rw [e0] at e0'
  cases e0'
  obtain ⟨r1', e1', p⟩ := hJ _ I1
  rw [e1] at e1'
  cases e1'
  exact ⟨r0, r1, e0, e1, ⟨q_LXV hL S, q_IvV (hP r1 p) _⟩, hx⟩
/-- a turn that reads -/
theorem q_rdn (h : q_IV k S) : q_IV (k + 1) (q_pt 34 0 172 0 S (q_mok (q_vw 34 172 0 S))) :=
  ⟨q_LXM (q_LXbad h.1 0), q_IvV (q_IVup (q_Ivk h.2)) _⟩
/-- a turn that does nothing -/
theorem q_nop (h : q_IV k S) : q_IV (k + 1) S := ⟨q_LXup h.1, q_IVup h.2⟩
end
