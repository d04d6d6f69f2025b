section
variable {x y z m m2 : q_S} {c d w : Int}
/-- the class' machine, its snapshots, the machine of the recording, as they stand in the class' heap -/
def q_vwM (x : q_S) : q_S := q_vw 32 1 73 x
def q_vwS (u : Nat) (x : q_S) : q_S := q_vw 32 (76 + 32 * u) 73 x
def q_vwR (x : q_S) : q_S := q_vw 32 35 73 x
/-- the record: off in both, or on with as many actions; k turns have gone by -/
def q_RK (k : Int) (x m : q_S) : Prop := (x.2.1 34 7 = 0 ∧ m.2.1 0 34 = -1 ∨ x.2.1 34 7 = 1 ∧ m.2.1 0 34 = x.2.1 34 5) ∧ 0 ≤ (x.2.1 34 5).toInt ∧ (x.2.1 34 5).toInt ≤ k ∧ 0 ≤ (x.2.1 34 6).toInt ∧ (x.2.1 34 6).toInt ≤ (x.2.1 34 5).toInt
/-- a letter of the class' line, as it is read -/
def q_chr (v : Int32) : Int32 := ((v &&& 255).toUInt32 % 65536).toInt32
/-- the class' heap beside the model's -/
def q_LX (k : Int) (m x : q_S) : Prop := q_RO m (q_vwM x) m ∧ x.2.1 0 2 = m.2.1 0 17 ∧ ((0 : Int) < (m.2.1 0 17).toInt → q_R q_TTs (q_vwS 0 x) (q_ms 0 (q_svW m) (m.2.2 31))) ∧ ((1 : Int) < (m.2.1 0 17).toInt → q_R q_TTs (q_vwS 1 x) (q_ms 1 (q_svW m) (m.2.2 31))) ∧ ((2 : Int) < (m.2.1 0 17).toInt → q_R q_TTs (q_vwS 2 x) (q_ms 2 (q_svW m) (m.2.2 31))) ∧ q_iN (q_vwR x) ∧ q_RK k x m ∧ q_rgz 0 16 (x.2.1 71 3) ∧ m.2.1 0 35 = x.2.1 71 3 ∧ ∀ i, i < (x.2.1 71 3).toNatClampNeg → q_chr (x.1 72 i) = m.1 32 i
/-- a call that is refused -/
theorem q_LXbad {k : Int} (h : q_LX k m x) (v : Int32) : q_LX (k + 1) (q_sI m 0 39 v) x := by
  obtain ⟨h1, h2, h3, h4, h5, h6, ⟨r1, r2, r3, r4, r5⟩, h8⟩ := h
  exact ⟨q_RO_I h1 39 v rfl, h2, h3, h4, h5, h6, ⟨r1, r2, by omega, r4, r5⟩, h8⟩
/-- what is kept of an action -/
theorem q_keep {k : Int} (h : q_RK k x m) (hk : k < 512) (a1 a2 a3 a4 : Int32) : dz_X184_98 x a1 a2 a3 a4 = x ∧ x.2.1 34 7 = 0 ∧ m.2.1 0 34 = -1 ∨ dz_X184_98 x a1 a2 a3 a4 = q_sI (q_sA (q_sA (q_sA (q_sA x 67 (upd (x.1 67) ((x.2.1 34 5).toNatClampNeg) a1)) 68 (upd (x.1 68) ((x.2.1 34 5).toNatClampNeg) a2)) 69 (upd (x.1 69) ((x.2.1 34 5).toNatClampNeg) a3)) 70 (upd (x.1 70) ((x.2.1 34 5).toNatClampNeg) a4)) 34 5 ((x.2.1 34 5) + 1) ∧ x.2.1 34 7 = 1 ∧ m.2.1 0 34 = x.2.1 34 5 := by
  obtain ⟨r1, r2, r3, r4, r5⟩ := h
  unfold dz_X184_98
  rcases r1 with ⟨e1, e2⟩ | ⟨e1, e2⟩
  · rw [e1]; exact Or.inl ⟨rfl, rfl, e2⟩
  · rw [e1, q_lt_F (show (0 : Int32).toInt ≤ (x.2.1 34 5).toInt from r2), q_lt_T (show (x.2.1 34 5).toInt < (512 : Int32).toInt by show _ < (512 : Int); omega)]
    exact Or.inr ⟨rfl, rfl, e2⟩
/-- an action -/
theorem q_LXact {k : Int} (h : q_LX k m x) (hk : k < 512) (a1 a2 a3 a4 : Int32) (g : Nat → Int64) (hy : q_RO m2 y m2) (ha : q_Act m m2) : q_LX (k + 1) m2 (q_sL (q_pt 32 3 1 73 (dz_X184_98 x a1 a2 a3 a4) y) 172 g) := by
  obtain ⟨h1, h2, h3, h4, h5, h6, h7, h8⟩ := h
  obtain ⟨b1, b2, b3, b4, b5, b6⟩ := ha
  have b32 : m2.1 32 = m.1 32 := congrArg (fun W => W.getD 16 (fun _ => 0)) b1
  have kp := q_keep h7 hk a1 a2 a3 a4
  obtain ⟨r1, r2, r3, r4, r5⟩ := h7
  unfold q_LX
  rw [b1, b2, b3]
  rcases kp with ⟨e0, e1, e2⟩ | ⟨e0, e1, e2⟩
  · rw [e0]
    refine ⟨hy, h2, h3, h4, h5, h6, ⟨Or.inl ⟨e1, ?_⟩, r2, ?_, r4, r5⟩, h8.1, b5.trans h8.2.1, fun i hi => (h8.2.2 i hi).trans (congrFun b32 i).symm⟩
    · rw [b4, e2]; rfl
    · show (x.2.1 34 5).toInt ≤ k + 1
      omega
  · rw [e0]
    have e5 : ((x.2.1 34 5) + 1).toInt = (x.2.1 34 5).toInt + 1 := q_addI ⟨by omega, by omega⟩ ⟨by decide, by decide⟩
    refine ⟨hy, h2, h3, h4, h5, h6, ⟨Or.inr ⟨e1, ?_⟩, ?_, ?_, r4, ?_⟩, h8.1, b5.trans h8.2.1, fun i hi => (h8.2.2 i hi).trans (congrFun b32 i).symm⟩
    · rw [b4, e2, q_lt_F (show (0 : Int32).toInt ≤ (x.2.1 34 5).toInt from r2)]; rfl
    · show 0 ≤ ((x.2.1 34 5) + 1).toInt
      omega
    · show ((x.2.1 34 5) + 1).toInt ≤ k + 1
      omega
    · show (x.2.1 34 6).toInt ≤ ((x.2.1 34 5) + 1).toInt
      omega
end
