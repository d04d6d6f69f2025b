section
variable {S : q_S}
theorem q_RZV {y m : q_S} {k : Nat} (hN : q_IV k (q_pt 34 0 172 0 (q_pt 172 1 0 206 S y) m)) (h : q_RZ y) : q_RZ (q_vw 172 0 206 (q_pt 34 0 172 0 (q_pt 172 1 0 206 S y) m)) := q_RZt (x := y) rfl rfl rfl rfl rfl rfl rfl rfl rfl hN.1.2.2.2.2.2.1 h
theorem q_RZR {m : q_S} {k : Nat} (hN : q_IV k (q_pt 34 0 172 0 S m)) (h : q_RZ (q_vw 172 0 206 S)) : q_RZ (q_vw 172 0 206 (q_pt 34 0 172 0 S m)) := q_RZt (x := q_vw 172 0 206 S) rfl rfl rfl rfl rfl rfl rfl rfl rfl hN.1.2.2.2.2.2.1 h
end
