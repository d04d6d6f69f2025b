def dz_M232_64_93 (s : q_S) (v1 : Int32) (v2 : Int32) : Option (q_S) :=
  cond (q_in (v2 + 2) 48) (q_let (dz_M206 s ((s.1 4) ((v2 + 2).toNatClampNeg)) 0) fun r2 => cond r2 (cond (q_in v1 3) (cond (q_in (v2 + 3) 48) (cond (decide (((s.1 4) ((v2 + 3).toNatClampNeg)) - ((s.1 4) ((v2 + 3).toNatClampNeg)) / 16 * 16 < (upd (s.1 12) (v1.toNatClampNeg) (((s.1 12) (v1.toNatClampNeg)) + 1)) (v1.toNatClampNeg))) (q_let ((q_sA s 12 (upd (s.1 12) (v1.toNatClampNeg) (((s.1 12) (v1.toNatClampNeg)) + 1)))) fun r3 => some (q_sA (q_sA r3 12 (upd (r3.1 12) (v1.toNatClampNeg) 0)) 11 (upd (r3.1 11) (v1.toNatClampNeg) (if (((r3.1 11) (v1.toNatClampNeg)) + 1) < (15 : Int32) then (((r3.1 11) (v1.toNatClampNeg)) + 1) else (15 : Int32))))) (some (q_sA s 12 (upd (s.1 12) (v1.toNatClampNeg) (((s.1 12) (v1.toNatClampNeg)) + 1))))) none) none) (cond (q_in v1 3) (cond (q_in (v2 + 3) 48) (cond (decide (((s.1 4) ((v2 + 3).toNatClampNeg)) / 16 < (upd (s.1 12) (v1.toNatClampNeg) (((s.1 12) (v1.toNatClampNeg)) + 1)) (v1.toNatClampNeg))) (q_let ((q_sA s 12 (upd (s.1 12) (v1.toNatClampNeg) (((s.1 12) (v1.toNatClampNeg)) + 1)))) fun r4 => some (q_sA (q_sA r4 12 (upd (r4.1 12) (v1.toNatClampNeg) 0)) 11 (upd (r4.1 11) (v1.toNatClampNeg) (if (0 : Int32) < (((r4.1 11) (v1.toNatClampNeg)) - 1) then (((r4.1 11) (v1.toNatClampNeg)) - 1) else (0 : Int32))))) (some (q_sA s 12 (upd (s.1 12) (v1.toNatClampNeg) (((s.1 12) (v1.toNatClampNeg)) + 1))))) none) none)) none
set_option maxHeartbeats 4000000 in
theorem dzt_M232_64_93 (c n : Nat) (s : q_S) (v1 : Int32) (v2 : Int32) : q_RP q_TB0 1 231 (93, [(0, .ref 64), (1, .int v1), (2, .int v2)], [], (q_kM s c n)) (q_oSM c n) (dz_M232_64_93 s v1 v2) := by
  unfold dz_M232_64_93
  refine q_RP_seg (g2 := (100, [(0, .ref 64), (1, .int v1), (2, .int v2)], [.int (v2 + 2), .ref 68], (q_kM s c n))) 5 (fun _ _ => rfl) ?_
  refine q_RP_as fun i6 => ?_
  refine q_RP_rsT (g2 := (101, [(0, .ref 64), (1, .int v1), (2, .int v2)], [.int ((s.1 4) ((v2 + 2).toNatClampNeg))], (q_kM s c n))) rfl rfl i6 ?_
  refine q_RP_seg (g2 := (102, [(0, .ref 64), (1, .int v1), (2, .int v2)], [.int 0, .int ((s.1 4) ((v2 + 2).toNatClampNeg))], (q_kM s c n))) 1 (fun _ _ => rfl) ?_
  refine q_RP_call (v := (some (.int (q_b (dz_M206 s ((s.1 4) ((v2 + 2).toNatClampNeg)) 0))))) (h2 := (q_kM s c n)) rfl rfl ((dzt_M206 s c n ((s.1 4) ((v2 + 2).toNatClampNeg)) 0).le (Nat.le_of_ble_eq_true rfl)) ?_
  generalize dz_M206 s ((s.1 4) ((v2 + 2).toNatClampNeg)) 0 = r2
  refine q_RP_let ?_
  show q_RP _ _ _ (105, [(0, .ref 64), (1, .int v1), (2, .int v2)], [.int (q_b r2)], (q_kM s c n)) _ _
  cases h7 : r2 with
  | true =>
    refine q_RP_cT ?_
    show q_RP _ _ _ (105, [(0, .ref 64), (1, .int v1), (2, .int v2)], [.int 1], (q_kM s c n)) _ _
    refine q_RP_seg (g2 := (113, [(4, .int 1), (0, .ref 64), (1, .int v1), (2, .int v2)], [.int v1, .ref 76, .int v1, .ref 76], (q_kM s c n))) 5 (fun _ _ => rfl) ?_
    refine q_RP_as fun i8 => ?_
    refine q_RP_rsT (g2 := (114, [(4, .int 1), (0, .ref 64), (1, .int v1), (2, .int v2)], [.int ((s.1 12) (v1.toNatClampNeg)), .int v1, .ref 76], (q_kM s c n))) rfl rfl i8 ?_
    refine q_RP_seg (g2 := (116, [(4, .int 1), (0, .ref 64), (1, .int v1), (2, .int v2)], [.int (((s.1 12) (v1.toNatClampNeg)) + 1), .int v1, .ref 76], (q_kM s c n))) 2 (fun _ _ => rfl) ?_
    refine q_RP_rsT (g2 := (117, [(4, .int 1), (0, .ref 64), (1, .int v1), (2, .int v2)], [], (q_kM (q_sA s 12 (upd (s.1 12) (v1.toNatClampNeg) (((s.1 12) (v1.toNatClampNeg)) + 1))) c n))) rfl q_wM12 i8 ?_
    refine q_RP_seg (g2 := (122, [(4, .int 1), (0, .ref 64), (1, .int v1), (2, .int v2)], [.int v1, .ref 76], (q_kM (q_sA s 12 (upd (s.1 12) (v1.toNatClampNeg) (((s.1 12) (v1.toNatClampNeg)) + 1))) c n))) 3 (fun _ _ => rfl) ?_
    refine q_RP_rsT (g2 := (123, [(4, .int 1), (0, .ref 64), (1, .int v1), (2, .int v2)], [.int ((upd (s.1 12) (v1.toNatClampNeg) (((s.1 12) (v1.toNatClampNeg)) + 1)) (v1.toNatClampNeg))], (q_kM (q_sA s 12 (upd (s.1 12) (v1.toNatClampNeg) (((s.1 12) (v1.toNatClampNeg)) + 1))) c n))) rfl rfl i8 ?_
    refine q_RP_seg (g2 := (135, [(4, .int 1), (0, .ref 64), (1, .int v1), (2, .int v2)], [.int (v2 + 3), .ref 68, .int ((upd (s.1 12) (v1.toNatClampNeg) (((s.1 12) (v1.toNatClampNeg)) + 1)) (v1.toNatClampNeg))], (q_kM (q_sA s 12 (upd (s.1 12) (v1.toNatClampNeg) (((s.1 12) (v1.toNatClampNeg)) + 1))) c n))) 7 (fun _ _ => rfl) ?_
    refine q_RP_as fun i9 => ?_
    refine q_RP_rsT (g2 := (136, [(4, .int 1), (0, .ref 64), (1, .int v1), (2, .int v2)], [.int ((s.1 4) ((v2 + 3).toNatClampNeg)), .int ((upd (s.1 12) (v1.toNatClampNeg) (((s.1 12) (v1.toNatClampNeg)) + 1)) (v1.toNatClampNeg))], (q_kM (q_sA s 12 (upd (s.1 12) (v1.toNatClampNeg) (((s.1 12) (v1.toNatClampNeg)) + 1))) c n))) rfl rfl i9 ?_
    refine q_RP_seg (g2 := (153, [(4, .int 1), (0, .ref 64), (1, .int v1), (2, .int v2)], [.int (((s.1 4) ((v2 + 3).toNatClampNeg)) - ((s.1 4) ((v2 + 3).toNatClampNeg)) / 16 * 16), .int ((upd (s.1 12) (v1.toNatClampNeg) (((s.1 12) (v1.toNatClampNeg)) + 1)) (v1.toNatClampNeg))], (q_kM (q_sA s 12 (upd (s.1 12) (v1.toNatClampNeg) (((s.1 12) (v1.toNatClampNeg)) + 1))) c n))) 3 (fun _ _ => rfl) ?_
    cases h10 : decide (((s.1 4) ((v2 + 3).toNatClampNeg)) - ((s.1 4) ((v2 + 3).toNatClampNeg)) / 16 * 16 < (upd (s.1 12) (v1.toNatClampNeg) (((s.1 12) (v1.toNatClampNeg)) + 1)) (v1.toNatClampNeg)) with
    | true =>
      refine q_RP_cT ?_
      refine q_RP_rsT (g2 := (157, [(4, .int 1), (0, .ref 64), (1, .int v1), (2, .int v2)], [], (q_kM (q_sA s 12 (upd (s.1 12) (v1.toNatClampNeg) (((s.1 12) (v1.toNatClampNeg)) + 1))) c n))) rfl rfl h10 ?_
      refine q_RP_seg (g2 := (163, [(4, .int 1), (0, .ref 64), (1, .int v1), (2, .int v2)], [.int 0, .int v1, .ref 76], (q_kM (q_sA s 12 (upd (s.1 12) (v1.toNatClampNeg) (((s.1 12) (v1.toNatClampNeg)) + 1))) c n))) 4 (fun _ _ => rfl) ?_
      generalize (q_sA s 12 (upd (s.1 12) (v1.toNatClampNeg) (((s.1 12) (v1.toNatClampNeg)) + 1))) = r3
      refine q_RP_let ?_
      show q_RP _ _ _ (163, [(4, .int 1), (0, .ref 64), (1, .int v1), (2, .int v2)], [.int 0, .int v1, .ref 76], (q_kM r3 c n)) _ _
      refine q_RP_rsT (g2 := (164, [(4, .int 1), (0, .ref 64), (1, .int v1), (2, .int v2)], [], (q_kM (q_sA r3 12 (upd (r3.1 12) (v1.toNatClampNeg) 0)) c n))) rfl q_wM12 i8 ?_
      refine q_RP_seg (g2 := (181, [(4, .int 1), (0, .ref 64), (1, .int v1), (2, .int v2)], [.int v1, .ref 75, .int 15, .int v1, .ref 75], (q_kM (q_sA r3 12 (upd (r3.1 12) (v1.toNatClampNeg) 0)) c n))) 9 (fun _ _ => rfl) ?_
      refine q_RP_rsT (g2 := (182, [(4, .int 1), (0, .ref 64), (1, .int v1), (2, .int v2)], [.int ((r3.1 11) (v1.toNatClampNeg)), .int 15, .int v1, .ref 75], (q_kM (q_sA r3 12 (upd (r3.1 12) (v1.toNatClampNeg) 0)) c n))) rfl rfl i8 ?_
      refine q_RP_seg (g2 := (202, [(4, .int 1), (0, .ref 64), (1, .int v1), (2, .int v2)], [.int (if (((r3.1 11) (v1.toNatClampNeg)) + 1) < (15 : Int32) then (((r3.1 11) (v1.toNatClampNeg)) + 1) else (15 : Int32)), .int v1, .ref 75], (q_kM (q_sA r3 12 (upd (r3.1 12) (v1.toNatClampNeg) 0)) c n))) 4 (fun _ _ => rfl) ?_
      refine q_RP_rsT (g2 := (203, [(4, .int 1), (0, .ref 64), (1, .int v1), (2, .int v2)], [], (q_kM (q_sA (q_sA r3 12 (upd (r3.1 12) (v1.toNatClampNeg) 0)) 11 (upd (r3.1 11) (v1.toNatClampNeg) (if (((r3.1 11) (v1.toNatClampNeg)) + 1) < (15 : Int32) then (((r3.1 11) (v1.toNatClampNeg)) + 1) else (15 : Int32)))) c n))) rfl q_wM11 i8 ?_
      exact q_RP_ret rfl rfl rfl
    | false =>
      refine q_RP_cF ?_
      refine q_RP_rsF (g2 := (156, [(4, .int 1), (0, .ref 64), (1, .int v1), (2, .int v2)], [], (q_kM (q_sA s 12 (upd (s.1 12) (v1.toNatClampNeg) (((s.1 12) (v1.toNatClampNeg)) + 1))) c n))) rfl rfl h10 ?_
      exact q_RP_ret rfl rfl rfl
  | false =>
    refine q_RP_cF ?_
    show q_RP _ _ _ (105, [(0, .ref 64), (1, .int v1), (2, .int v2)], [.int 0], (q_kM s c n)) _ _
    refine q_RP_seg (g2 := (113, [(4, .int 0), (0, .ref 64), (1, .int v1), (2, .int v2)], [.int v1, .ref 76, .int v1, .ref 76], (q_kM s c n))) 5 (fun _ _ => rfl) ?_
    refine q_RP_as fun i11 => ?_
    refine q_RP_rsT (g2 := (114, [(4, .int 0), (0, .ref 64), (1, .int v1), (2, .int v2)], [.int ((s.1 12) (v1.toNatClampNeg)), .int v1, .ref 76], (q_kM s c n))) rfl rfl i11 ?_
    refine q_RP_seg (g2 := (116, [(4, .int 0), (0, .ref 64), (1, .int v1), (2, .int v2)], [.int (((s.1 12) (v1.toNatClampNeg)) + 1), .int v1, .ref 76], (q_kM s c n))) 2 (fun _ _ => rfl) ?_
    refine q_RP_rsT (g2 := (117, [(4, .int 0), (0, .ref 64), (1, .int v1), (2, .int v2)], [], (q_kM (q_sA s 12 (upd (s.1 12) (v1.toNatClampNeg) (((s.1 12) (v1.toNatClampNeg)) + 1))) c n))) rfl q_wM12 i11 ?_
    refine q_RP_seg (g2 := (122, [(4, .int 0), (0, .ref 64), (1, .int v1), (2, .int v2)], [.int v1, .ref 76], (q_kM (q_sA s 12 (upd (s.1 12) (v1.toNatClampNeg) (((s.1 12) (v1.toNatClampNeg)) + 1))) c n))) 3 (fun _ _ => rfl) ?_
    refine q_RP_rsT (g2 := (123, [(4, .int 0), (0, .ref 64), (1, .int v1), (2, .int v2)], [.int ((upd (s.1 12) (v1.toNatClampNeg) (((s.1 12) (v1.toNatClampNeg)) + 1)) (v1.toNatClampNeg))], (q_kM (q_sA s 12 (upd (s.1 12) (v1.toNatClampNeg) (((s.1 12) (v1.toNatClampNeg)) + 1))) c n))) rfl rfl i11 ?_
    refine q_RP_seg (g2 := (149, [(4, .int 0), (0, .ref 64), (1, .int v1), (2, .int v2)], [.int (v2 + 3), .ref 68, .int ((upd (s.1 12) (v1.toNatClampNeg) (((s.1 12) (v1.toNatClampNeg)) + 1)) (v1.toNatClampNeg))], (q_kM (q_sA s 12 (upd (s.1 12) (v1.toNatClampNeg) (((s.1 12) (v1.toNatClampNeg)) + 1))) c n))) 7 (fun _ _ => rfl) ?_
    refine q_RP_as fun i12 => ?_
    refine q_RP_rsT (g2 := (150, [(4, .int 0), (0, .ref 64), (1, .int v1), (2, .int v2)], [.int ((s.1 4) ((v2 + 3).toNatClampNeg)), .int ((upd (s.1 12) (v1.toNatClampNeg) (((s.1 12) (v1.toNatClampNeg)) + 1)) (v1.toNatClampNeg))], (q_kM (q_sA s 12 (upd (s.1 12) (v1.toNatClampNeg) (((s.1 12) (v1.toNatClampNeg)) + 1))) c n))) rfl rfl i12 ?_
    refine q_RP_seg (g2 := (153, [(4, .int 0), (0, .ref 64), (1, .int v1), (2, .int v2)], [.int (((s.1 4) ((v2 + 3).toNatClampNeg)) / 16), .int ((upd (s.1 12) (v1.toNatClampNeg) (((s.1 12) (v1.toNatClampNeg)) + 1)) (v1.toNatClampNeg))], (q_kM (q_sA s 12 (upd (s.1 12) (v1.toNatClampNeg) (((s.1 12) (v1.toNatClampNeg)) + 1))) c n))) 2 (fun _ _ => rfl) ?_
    cases h13 : decide (((s.1 4) ((v2 + 3).toNatClampNeg)) / 16 < (upd (s.1 12) (v1.toNatClampNeg) (((s.1 12) (v1.toNatClampNeg)) + 1)) (v1.toNatClampNeg)) with
    | true =>
      refine q_RP_cT ?_
      refine q_RP_rsT (g2 := (157, [(4, .int 0), (0, .ref 64), (1, .int v1), (2, .int v2)], [], (q_kM (q_sA s 12 (upd (s.1 12) (v1.toNatClampNeg) (((s.1 12) (v1.toNatClampNeg)) + 1))) c n))) rfl rfl h13 ?_
      refine q_RP_seg (g2 := (163, [(4, .int 0), (0, .ref 64), (1, .int v1), (2, .int v2)], [.int 0, .int v1, .ref 76], (q_kM (q_sA s 12 (upd (s.1 12) (v1.toNatClampNeg) (((s.1 12) (v1.toNatClampNeg)) + 1))) c n))) 4 (fun _ _ => rfl) ?_
      generalize (q_sA s 12 (upd (s.1 12) (v1.toNatClampNeg) (((s.1 12) (v1.toNatClampNeg)) + 1))) = r4
      refine q_RP_let ?_
      show q_RP _ _ _ (163, [(4, .int 0), (0, .ref 64), (1, .int v1), (2, .int v2)], [.int 0, .int v1, .ref 76], (q_kM r4 c n)) _ _
      refine q_RP_rsT (g2 := (164, [(4, .int 0), (0, .ref 64), (1, .int v1), (2, .int v2)], [], (q_kM (q_sA r4 12 (upd (r4.1 12) (v1.toNatClampNeg) 0)) c n))) rfl q_wM12 i11 ?_
      refine q_RP_seg (g2 := (196, [(4, .int 0), (0, .ref 64), (1, .int v1), (2, .int v2)], [.int v1, .ref 75, .int 0, .int v1, .ref 75], (q_kM (q_sA r4 12 (upd (r4.1 12) (v1.toNatClampNeg) 0)) c n))) 9 (fun _ _ => rfl) ?_
      refine q_RP_rsT (g2 := (197, [(4, .int 0), (0, .ref 64), (1, .int v1), (2, .int v2)], [.int ((r4.1 11) (v1.toNatClampNeg)), .int 0, .int v1, .ref 75], (q_kM (q_sA r4 12 (upd (r4.1 12) (v1.toNatClampNeg) 0)) c n))) rfl rfl i11 ?_
      refine q_RP_seg (g2 := (202, [(4, .int 0), (0, .ref 64), (1, .int v1), (2, .int v2)], [.int (if (0 : Int32) < (((r4.1 11) (v1.toNatClampNeg)) - 1) then (((r4.1 11) (v1.toNatClampNeg)) - 1) else (0 : Int32)), .int v1, .ref 75], (q_kM (q_sA r4 12 (upd (r4.1 12) (v1.toNatClampNeg) 0)) c n))) 3 (fun _ _ => rfl) ?_
      refine q_RP_rsT (g2 := (203, [(4, .int 0), (0, .ref 64), (1, .int v1), (2, .int v2)], [], (q_kM (q_sA (q_sA r4 12 (upd (r4.1 12) (v1.toNatClampNeg) 0)) 11 (upd (r4.1 11) (v1.toNatClampNeg) (if (0 : Int32) < (((r4.1 11) (v1.toNatClampNeg)) - 1) then (((r4.1 11) (v1.toNatClampNeg)) - 1) else (0 : Int32)))) c n))) rfl q_wM11 i11 ?_
      exact q_RP_ret rfl rfl rfl
    | false =>
      refine q_RP_cF ?_
      refine q_RP_rsF (g2 := (156, [(4, .int 0), (0, .ref 64), (1, .int v1), (2, .int v2)], [], (q_kM (q_sA s 12 (upd (s.1 12) (v1.toNatClampNeg) (((s.1 12) (v1.toNatClampNeg)) + 1))) c n))) rfl rfl h13 ?_
      exact q_RP_ret rfl rfl rfl
def dz_M232_64 (s : q_S) (a1 : Int32) : Option (q_S) :=
  cond (q_in a1 3) (cond (q_in ((32 : Int32) + (4 * a1)) 48) (cond (q_in (((32 : Int32) + (4 * a1)) + 1) 48) (q_let ((((s.1 10) (a1.toNatClampNeg)) + ((s.1 4) (((32 : Int32) + (4 * a1)).toNatClampNeg))) + (256 * ((s.1 4) ((((32 : Int32) + (4 * a1)) + 1).toNatClampNeg)))) fun x1 => cond (decide (65535 < x1)) (cond (decide (((s.1 13) (a1.toNatClampNeg)) - ((s.1 13) (a1.toNatClampNeg)) / 2 * 2 = (((s.1 13) (a1.toNatClampNeg)) / 2) - (((s.1 13) (a1.toNatClampNeg)) / 2) / 2 * 2)) (dz_M232_64_93 (q_sA (q_sA s 10 (upd (s.1 10) (a1.toNatClampNeg) (x1 - x1 / 65536 * 65536))) 13 (upd (s.1 13) (a1.toNatClampNeg) ((((s.1 13) (a1.toNatClampNeg)) / 2) + 0))) a1 ((32 : Int32) + (4 * a1))) (dz_M232_64_93 (q_sA (q_sA s 10 (upd (s.1 10) (a1.toNatClampNeg) (x1 - x1 / 65536 * 65536))) 13 (upd (s.1 13) (a1.toNatClampNeg) ((((s.1 13) (a1.toNatClampNeg)) / 2) + 16384))) a1 ((32 : Int32) + (4 * a1)))) (dz_M232_64_93 (q_sA s 10 (upd (s.1 10) (a1.toNatClampNeg) (x1 - x1 / 65536 * 65536))) a1 ((32 : Int32) + (4 * a1)))) none) none) none
set_option maxHeartbeats 4000000 in
theorem dzt_M232_64 (s : q_S) (c n : Nat) (a1 : Int32) (x : q_S) (h : dz_M232_64 s a1 = some x) : q_Ca q_TB0 2 231 [.ref 64, .int a1] (q_kM s c n) ((q_oSM c n) x) := by
  refine q_CaP_of (φ := (q_oSM c n)) (Nat.le_of_ble_eq_true rfl) ?_ h
  clear h
  unfold dz_M232_64
  refine q_RP_seg (g2 := (12, [(2, .int ((32 : Int32) + (4 * a1))), (0, .ref 64), (1, .int a1)], [.int a1, .ref 74], (q_kM s c n))) 9 (fun _ _ => rfl) ?_
  refine q_RP_as fun i1 => ?_
  refine q_RP_rsT (g2 := (13, [(2, .int ((32 : Int32) + (4 * a1))), (0, .ref 64), (1, .int a1)], [.int ((s.1 10) (a1.toNatClampNeg))], (q_kM s c n))) rfl rfl i1 ?_
  refine q_RP_seg (g2 := (18, [(2, .int ((32 : Int32) + (4 * a1))), (0, .ref 64), (1, .int a1)], [.int ((32 : Int32) + (4 * a1)), .ref 68, .int ((s.1 10) (a1.toNatClampNeg))], (q_kM s c n))) 3 (fun _ _ => rfl) ?_
  refine q_RP_as fun i2 => ?_
  refine q_RP_rsT (g2 := (19, [(2, .int ((32 : Int32) + (4 * a1))), (0, .ref 64), (1, .int a1)], [.int ((s.1 4) (((32 : Int32) + (4 * a1)).toNatClampNeg)), .int ((s.1 10) (a1.toNatClampNeg))], (q_kM s c n))) rfl rfl i2 ?_
  refine q_RP_seg (g2 := (30, [(2, .int ((32 : Int32) + (4 * a1))), (0, .ref 64), (1, .int a1)], [.int (((32 : Int32) + (4 * a1)) + 1), .ref 68, .int 256, .int (((s.1 10) (a1.toNatClampNeg)) + ((s.1 4) (((32 : Int32) + (4 * a1)).toNatClampNeg)))], (q_kM s c n))) 7 (fun _ _ => rfl) ?_
  refine q_RP_as fun i3 => ?_
  refine q_RP_rsT (g2 := (31, [(2, .int ((32 : Int32) + (4 * a1))), (0, .ref 64), (1, .int a1)], [.int ((s.1 4) ((((32 : Int32) + (4 * a1)) + 1).toNatClampNeg)), .int 256, .int (((s.1 10) (a1.toNatClampNeg)) + ((s.1 4) (((32 : Int32) + (4 * a1)).toNatClampNeg)))], (q_kM s c n))) rfl rfl i3 ?_
  refine q_RP_seg (g2 := (33, [(2, .int ((32 : Int32) + (4 * a1))), (0, .ref 64), (1, .int a1)], [.int ((((s.1 10) (a1.toNatClampNeg)) + ((s.1 4) (((32 : Int32) + (4 * a1)).toNatClampNeg))) + (256 * ((s.1 4) ((((32 : Int32) + (4 * a1)) + 1).toNatClampNeg))))], (q_kM s c n))) 2 (fun _ _ => rfl) ?_
  generalize ((((s.1 10) (a1.toNatClampNeg)) + ((s.1 4) (((32 : Int32) + (4 * a1)).toNatClampNeg))) + (256 * ((s.1 4) ((((32 : Int32) + (4 * a1)) + 1).toNatClampNeg)))) = x1
  refine q_RP_let ?_
  show q_RP _ _ _ (33, [(2, .int ((32 : Int32) + (4 * a1))), (0, .ref 64), (1, .int a1)], [.int x1], (q_kM s c n)) _ _
  refine q_RP_seg (g2 := (43, [(3, .int x1), (2, .int ((32 : Int32) + (4 * a1))), (0, .ref 64), (1, .int a1)], [.int (x1 - x1 / 65536 * 65536), .int a1, .ref 74], (q_kM s c n))) 7 (fun _ _ => rfl) ?_
  refine q_RP_rsT (g2 := (44, [(3, .int x1), (2, .int ((32 : Int32) + (4 * a1))), (0, .ref 64), (1, .int a1)], [], (q_kM (q_sA s 10 (upd (s.1 10) (a1.toNatClampNeg) (x1 - x1 / 65536 * 65536))) c n))) rfl q_wM10 i1 ?_
  refine q_RP_seg (g2 := (47, [(3, .int x1), (2, .int ((32 : Int32) + (4 * a1))), (0, .ref 64), (1, .int a1)], [.int 65535, .int x1], (q_kM (q_sA s 10 (upd (s.1 10) (a1.toNatClampNeg) (x1 - x1 / 65536 * 65536))) c n))) 2 (fun _ _ => rfl) ?_
  cases h4 : decide (65535 < x1) with
  | true =>
    refine q_RP_cT ?_
    refine q_RP_rsF (g2 := (50, [(3, .int x1), (2, .int ((32 : Int32) + (4 * a1))), (0, .ref 64), (1, .int a1)], [], (q_kM (q_sA s 10 (upd (s.1 10) (a1.toNatClampNeg) (x1 - x1 / 65536 * 65536))) c n))) rfl rfl (q_d_geT h4) ?_
    refine q_RP_seg (g2 := (60, [(3, .int x1), (2, .int ((32 : Int32) + (4 * a1))), (0, .ref 64), (1, .int a1)], [.int a1, .ref 77, .int a1, .ref 77], (q_kM (q_sA s 10 (upd (s.1 10) (a1.toNatClampNeg) (x1 - x1 / 65536 * 65536))) c n))) 6 (fun _ _ => rfl) ?_
    refine q_RP_rsT (g2 := (61, [(3, .int x1), (2, .int ((32 : Int32) + (4 * a1))), (0, .ref 64), (1, .int a1)], [.int ((s.1 13) (a1.toNatClampNeg)), .int a1, .ref 77], (q_kM (q_sA s 10 (upd (s.1 10) (a1.toNatClampNeg) (x1 - x1 / 65536 * 65536))) c n))) rfl rfl i1 ?_
    refine q_RP_seg (g2 := (68, [(3, .int x1), (2, .int ((32 : Int32) + (4 * a1))), (0, .ref 64), (1, .int a1)], [.int a1, .ref 77, .int (((s.1 13) (a1.toNatClampNeg)) / 2), .int a1, .ref 77], (q_kM (q_sA s 10 (upd (s.1 10) (a1.toNatClampNeg) (x1 - x1 / 65536 * 65536))) c n))) 5 (fun _ _ => rfl) ?_
    refine q_RP_rsT (g2 := (69, [(3, .int x1), (2, .int ((32 : Int32) + (4 * a1))), (0, .ref 64), (1, .int a1)], [.int ((s.1 13) (a1.toNatClampNeg)), .int (((s.1 13) (a1.toNatClampNeg)) / 2), .int a1, .ref 77], (q_kM (q_sA s 10 (upd (s.1 10) (a1.toNatClampNeg) (x1 - x1 / 65536 * 65536))) c n))) rfl rfl i1 ?_
    refine q_RP_seg (g2 := (76, [(3, .int x1), (2, .int ((32 : Int32) + (4 * a1))), (0, .ref 64), (1, .int a1)], [.int a1, .ref 77, .int (((s.1 13) (a1.toNatClampNeg)) - ((s.1 13) (a1.toNatClampNeg)) / 2 * 2), .int (((s.1 13) (a1.toNatClampNeg)) / 2), .int a1, .ref 77], (q_kM (q_sA s 10 (upd (s.1 10) (a1.toNatClampNeg) (x1 - x1 / 65536 * 65536))) c n))) 5 (fun _ _ => rfl) ?_
    refine q_RP_rsT (g2 := (77, [(3, .int x1), (2, .int ((32 : Int32) + (4 * a1))), (0, .ref 64), (1, .int a1)], [.int ((s.1 13) (a1.toNatClampNeg)), .int (((s.1 13) (a1.toNatClampNeg)) - ((s.1 13) (a1.toNatClampNeg)) / 2 * 2), .int (((s.1 13) (a1.toNatClampNeg)) / 2), .int a1, .ref 77], (q_kM (q_sA s 10 (upd (s.1 10) (a1.toNatClampNeg) (x1 - x1 / 65536 * 65536))) c n))) rfl rfl i1 ?_
    refine q_RP_seg (g2 := (81, [(3, .int x1), (2, .int ((32 : Int32) + (4 * a1))), (0, .ref 64), (1, .int a1)], [.int ((((s.1 13) (a1.toNatClampNeg)) / 2) - (((s.1 13) (a1.toNatClampNeg)) / 2) / 2 * 2), .int (((s.1 13) (a1.toNatClampNeg)) - ((s.1 13) (a1.toNatClampNeg)) / 2 * 2), .int (((s.1 13) (a1.toNatClampNeg)) / 2), .int a1, .ref 77], (q_kM (q_sA s 10 (upd (s.1 10) (a1.toNatClampNeg) (x1 - x1 / 65536 * 65536))) c n))) 4 (fun _ _ => rfl) ?_
    cases h5 : decide (((s.1 13) (a1.toNatClampNeg)) - ((s.1 13) (a1.toNatClampNeg)) / 2 * 2 = (((s.1 13) (a1.toNatClampNeg)) / 2) - (((s.1 13) (a1.toNatClampNeg)) / 2) / 2 * 2) with
    | true =>
      refine q_RP_cT ?_
      refine q_RP_rsF (g2 := (84, [(3, .int x1), (2, .int ((32 : Int32) + (4 * a1))), (0, .ref 64), (1, .int a1)], [.int (((s.1 13) (a1.toNatClampNeg)) / 2), .int a1, .ref 77], (q_kM (q_sA s 10 (upd (s.1 10) (a1.toNatClampNeg) (x1 - x1 / 65536 * 65536))) c n))) rfl rfl (q_d_neT h5) ?_
      refine q_RP_seg (g2 := (92, [(3, .int x1), (2, .int ((32 : Int32) + (4 * a1))), (0, .ref 64), (1, .int a1)], [.int ((((s.1 13) (a1.toNatClampNeg)) / 2) + 0), .int a1, .ref 77], (q_kM (q_sA s 10 (upd (s.1 10) (a1.toNatClampNeg) (x1 - x1 / 65536 * 65536))) c n))) 3 (fun _ _ => rfl) ?_
      refine q_RP_rsT (g2 := (93, [(3, .int x1), (2, .int ((32 : Int32) + (4 * a1))), (0, .ref 64), (1, .int a1)], [], (q_kM (q_sA (q_sA s 10 (upd (s.1 10) (a1.toNatClampNeg) (x1 - x1 / 65536 * 65536))) 13 (upd (s.1 13) (a1.toNatClampNeg) ((((s.1 13) (a1.toNatClampNeg)) / 2) + 0))) c n))) rfl q_wM13 i1 ?_
      exact q_RP_xt (q_xt_mk (q_mn1 2 rfl (q_mn1 3 rfl (q_mn1 1 rfl q_mn0))) rfl) (dzt_M232_64_93 c n (q_sA (q_sA s 10 (upd (s.1 10) (a1.toNatClampNeg) (x1 - x1 / 65536 * 65536))) 13 (upd (s.1 13) (a1.toNatClampNeg) ((((s.1 13) (a1.toNatClampNeg)) / 2) + 0))) a1 ((32 : Int32) + (4 * a1)))
    | false =>
      refine q_RP_cF ?_
      refine q_RP_rsT (g2 := (88, [(3, .int x1), (2, .int ((32 : Int32) + (4 * a1))), (0, .ref 64), (1, .int a1)], [.int (((s.1 13) (a1.toNatClampNeg)) / 2), .int a1, .ref 77], (q_kM (q_sA s 10 (upd (s.1 10) (a1.toNatClampNeg) (x1 - x1 / 65536 * 65536))) c n))) rfl rfl (q_d_neF h5) ?_
      refine q_RP_seg (g2 := (92, [(3, .int x1), (2, .int ((32 : Int32) + (4 * a1))), (0, .ref 64), (1, .int a1)], [.int ((((s.1 13) (a1.toNatClampNeg)) / 2) + 16384), .int a1, .ref 77], (q_kM (q_sA s 10 (upd (s.1 10) (a1.toNatClampNeg) (x1 - x1 / 65536 * 65536))) c n))) 2 (fun _ _ => rfl) ?_
      refine q_RP_rsT (g2 := (93, [(3, .int x1), (2, .int ((32 : Int32) + (4 * a1))), (0, .ref 64), (1, .int a1)], [], (q_kM (q_sA (q_sA s 10 (upd (s.1 10) (a1.toNatClampNeg) (x1 - x1 / 65536 * 65536))) 13 (upd (s.1 13) (a1.toNatClampNeg) ((((s.1 13) (a1.toNatClampNeg)) / 2) + 16384))) c n))) rfl q_wM13 i1 ?_
      exact q_RP_xt (q_xt_mk (q_mn1 2 rfl (q_mn1 3 rfl (q_mn1 1 rfl q_mn0))) rfl) (dzt_M232_64_93 c n (q_sA (q_sA s 10 (upd (s.1 10) (a1.toNatClampNeg) (x1 - x1 / 65536 * 65536))) 13 (upd (s.1 13) (a1.toNatClampNeg) ((((s.1 13) (a1.toNatClampNeg)) / 2) + 16384))) a1 ((32 : Int32) + (4 * a1)))
  | false =>
    refine q_RP_cF ?_
    refine q_RP_rsT (g2 := (93, [(3, .int x1), (2, .int ((32 : Int32) + (4 * a1))), (0, .ref 64), (1, .int a1)], [], (q_kM (q_sA s 10 (upd (s.1 10) (a1.toNatClampNeg) (x1 - x1 / 65536 * 65536))) c n))) rfl rfl (q_d_geF h4) ?_
    exact q_RP_xt (q_xt_mk (q_mn1 2 rfl (q_mn1 3 rfl (q_mn1 1 rfl q_mn0))) rfl) (dzt_M232_64_93 c n (q_sA s 10 (upd (s.1 10) (a1.toNatClampNeg) (x1 - x1 / 65536 * 65536))) a1 ((32 : Int32) + (4 * a1)))
def dz_M233_64 (s : q_S) (a1 : Int32) : Option (Int32) :=
  cond (q_in ((34 : Int32) + (4 * a1)) 48) (q_let ((((s.1 4) (((34 : Int32) + (4 * a1)).toNatClampNeg)) / 2) - (((s.1 4) (((34 : Int32) + (4 * a1)).toNatClampNeg)) / 2) / 4 * 4) fun x1 => cond (decide (x1 = 0)) (cond (q_in a1 3) (q_let (dz_M206 s ((s.1 4) (((34 : Int32) + (4 * a1)).toNatClampNeg)) 3) fun r2 => cond r2 (cond (q_in ((a1 + 2) - (a1 + 2) / 3 * 3) 3) (cond (decide ((s.1 10) (((a1 + 2) - (a1 + 2) / 3 * 3).toNatClampNeg) < 32768)) (some (((s.1 10) (a1.toNatClampNeg)) / 4096)) (some ((15 : Int32) - (((s.1 10) (a1.toNatClampNeg)) / 4096)))) none) (some (((s.1 10) (a1.toNatClampNeg)) / 4096))) none) (cond (decide (x1 = 1)) (cond (q_in a1 3) (cond (decide ((s.1 10) (a1.toNatClampNeg) < 32768)) (q_let (dz_M206 s ((s.1 4) (((34 : Int32) + (4 * a1)).toNatClampNeg)) 3) fun r3 => cond r3 (cond (q_in ((a1 + 2) - (a1 + 2) / 3 * 3) 3) (cond (decide ((s.1 10) (((a1 + 2) - (a1 + 2) / 3 * 3).toNatClampNeg) < 32768)) (some 0) (some 15)) none) (some 0)) (q_let (dz_M206 s ((s.1 4) (((34 : Int32) + (4 * a1)).toNatClampNeg)) 3) fun r4 => cond r4 (cond (q_in ((a1 + 2) - (a1 + 2) / 3 * 3) 3) (cond (decide ((s.1 10) (((a1 + 2) - (a1 + 2) / 3 * 3).toNatClampNeg) < 32768)) (some 15) (some 0)) none) (some 15))) none) (cond (decide (x1 = 2)) (cond (q_in a1 3) (q_let (((s.1 13) (a1.toNatClampNeg)) - ((s.1 13) (a1.toNatClampNeg)) / 16 * 16) fun x5 => q_let (dz_M206 s ((s.1 4) (((34 : Int32) + (4 * a1)).toNatClampNeg)) 3) fun r6 => cond r6 (cond (q_in ((a1 + 2) - (a1 + 2) / 3 * 3) 3) (cond (decide ((s.1 10) (((a1 + 2) - (a1 + 2) / 3 * 3).toNatClampNeg) < 32768)) (some x5) (some ((15 : Int32) - x5))) none) (some x5)) none) (q_let (dz_M206 s ((s.1 4) (((34 : Int32) + (4 * a1)).toNatClampNeg)) 3) fun r7 => cond r7 (cond (q_in ((a1 + 2) - (a1 + 2) / 3 * 3) 3) (cond (decide ((s.1 10) (((a1 + 2) - (a1 + 2) / 3 * 3).toNatClampNeg) < 32768)) (some 0) (some 15)) none) (some 0))))) none
set_option maxHeartbeats 4000000 in
theorem dzt_M233_64 (s : q_S) (c n : Nat) (a1 : Int32) (x : Int32) (h : dz_M233_64 s a1 = some x) : q_Ca q_TB0 2 232 [.ref 64, .int a1] (q_kM s c n) ((q_oP (q_kM s c n)) x) := by
  refine q_CaP_of (φ := (q_oP (q_kM s c n))) (Nat.le_of_ble_eq_true rfl) ?_ h
  clear h
  unfold dz_M233_64
  refine q_RP_seg (g2 := (10, [(0, .ref 64), (1, .int a1)], [.int ((34 : Int32) + (4 * a1)), .ref 68], (q_kM s c n))) 7 (fun _ _ => rfl) ?_
  refine q_RP_as fun i1 => ?_
  refine q_RP_rsT (g2 := (11, [(0, .ref 64), (1, .int a1)], [.int ((s.1 4) (((34 : Int32) + (4 * a1)).toNatClampNeg))], (q_kM s c n))) rfl rfl i1 ?_
  refine q_RP_seg (g2 := (15, [(0, .ref 64), (1, .int a1)], [.int ((((s.1 4) (((34 : Int32) + (4 * a1)).toNatClampNeg)) / 2) - (((s.1 4) (((34 : Int32) + (4 * a1)).toNatClampNeg)) / 2) / 4 * 4)], (q_kM s c n))) 4 (fun _ _ => rfl) ?_
  generalize ((((s.1 4) (((34 : Int32) + (4 * a1)).toNatClampNeg)) / 2) - (((s.1 4) (((34 : Int32) + (4 * a1)).toNatClampNeg)) / 2) / 4 * 4) = x1
  refine q_RP_let ?_
  show q_RP _ _ _ (15, [(0, .ref 64), (1, .int a1)], [.int x1], (q_kM s c n)) _ _
  refine q_RP_seg (g2 := (17, [(2, .int x1), (0, .ref 64), (1, .int a1)], [.int x1], (q_kM s c n))) 2 (fun _ _ => rfl) ?_
  cases h2 : decide (x1 = 0) with
  | true =>
    refine q_RP_cT ?_
    refine q_RP_rsF (g2 := (20, [(2, .int x1), (0, .ref 64), (1, .int a1)], [], (q_kM s c n))) rfl rfl (q_d_neT h2) ?_
    refine q_RP_seg (g2 := (25, [(2, .int x1), (0, .ref 64), (1, .int a1)], [.int a1, .ref 74], (q_kM s c n))) 3 (fun _ _ => rfl) ?_
    refine q_RP_as fun i3 => ?_
    refine q_RP_rsT (g2 := (26, [(2, .int x1), (0, .ref 64), (1, .int a1)], [.int ((s.1 10) (a1.toNatClampNeg))], (q_kM s c n))) rfl rfl i3 ?_
    refine q_RP_seg (g2 := (87, [(3, .int (((s.1 10) (a1.toNatClampNeg)) / 4096)), (2, .int x1), (0, .ref 64), (1, .int a1)], [.int ((34 : Int32) + (4 * a1)), .ref 68], (q_kM s c n))) 11 (fun _ _ => rfl) ?_
    refine q_RP_rsT (g2 := (88, [(3, .int (((s.1 10) (a1.toNatClampNeg)) / 4096)), (2, .int x1), (0, .ref 64), (1, .int a1)], [.int ((s.1 4) (((34 : Int32) + (4 * a1)).toNatClampNeg))], (q_kM s c n))) rfl rfl i1 ?_
    refine q_RP_seg (g2 := (89, [(3, .int (((s.1 10) (a1.toNatClampNeg)) / 4096)), (2, .int x1), (0, .ref 64), (1, .int a1)], [.int 3, .int ((s.1 4) (((34 : Int32) + (4 * a1)).toNatClampNeg))], (q_kM s c n))) 1 (fun _ _ => rfl) ?_
    refine q_RP_call (v := (some (.int (q_b (dz_M206 s ((s.1 4) (((34 : Int32) + (4 * a1)).toNatClampNeg)) 3))))) (h2 := (q_kM s c n)) rfl rfl ((dzt_M206 s c n ((s.1 4) (((34 : Int32) + (4 * a1)).toNatClampNeg)) 3).le (Nat.le_of_ble_eq_true rfl)) ?_
    generalize dz_M206 s ((s.1 4) (((34 : Int32) + (4 * a1)).toNatClampNeg)) 3 = r2
    refine q_RP_let ?_
    show q_RP _ _ _ (92, [(3, .int (((s.1 10) (a1.toNatClampNeg)) / 4096)), (2, .int x1), (0, .ref 64), (1, .int a1)], [.int (q_b r2)], (q_kM s c n)) _ _
    cases h4 : r2 with
    | true =>
      refine q_RP_cT ?_
      show q_RP _ _ _ (92, [(3, .int (((s.1 10) (a1.toNatClampNeg)) / 4096)), (2, .int x1), (0, .ref 64), (1, .int a1)], [.int 1], (q_kM s c n)) _ _
      refine q_RP_seg (g2 := (104, [(3, .int (((s.1 10) (a1.toNatClampNeg)) / 4096)), (2, .int x1), (0, .ref 64), (1, .int a1)], [.int ((a1 + 2) - (a1 + 2) / 3 * 3), .ref 74], (q_kM s c n))) 8 (fun _ _ => rfl) ?_
      refine q_RP_as fun i5 => ?_
      refine q_RP_rsT (g2 := (105, [(3, .int (((s.1 10) (a1.toNatClampNeg)) / 4096)), (2, .int x1), (0, .ref 64), (1, .int a1)], [.int ((s.1 10) (((a1 + 2) - (a1 + 2) / 3 * 3).toNatClampNeg))], (q_kM s c n))) rfl rfl i5 ?_
      refine q_RP_seg (g2 := (107, [(3, .int (((s.1 10) (a1.toNatClampNeg)) / 4096)), (2, .int x1), (0, .ref 64), (1, .int a1)], [.int 32768, .int ((s.1 10) (((a1 + 2) - (a1 + 2) / 3 * 3).toNatClampNeg))], (q_kM s c n))) 1 (fun _ _ => rfl) ?_
      cases h6 : decide ((s.1 10) (((a1 + 2) - (a1 + 2) / 3 * 3).toNatClampNeg) < 32768) with
      | true =>
        refine q_RP_cT ?_
        refine q_RP_rsT (g2 := (117, [(3, .int (((s.1 10) (a1.toNatClampNeg)) / 4096)), (2, .int x1), (0, .ref 64), (1, .int a1)], [], (q_kM s c n))) rfl rfl h6 ?_
        refine q_RP_seg (g2 := (118, [(3, .int (((s.1 10) (a1.toNatClampNeg)) / 4096)), (2, .int x1), (0, .ref 64), (1, .int a1)], [.int (((s.1 10) (a1.toNatClampNeg)) / 4096)], (q_kM s c n))) 1 (fun _ _ => rfl) ?_
        exact q_RP_ret rfl rfl rfl
      | false =>
        refine q_RP_cF ?_
        refine q_RP_rsF (g2 := (110, [(3, .int (((s.1 10) (a1.toNatClampNeg)) / 4096)), (2, .int x1), (0, .ref 64), (1, .int a1)], [], (q_kM s c n))) rfl rfl h6 ?_
        refine q_RP_seg (g2 := (118, [(3, .int (((s.1 10) (a1.toNatClampNeg)) / 4096)), (2, .int x1), (0, .ref 64), (1, .int a1)], [.int ((15 : Int32) - (((s.1 10) (a1.toNatClampNeg)) / 4096))], (q_kM s c n))) 4 (fun _ _ => rfl) ?_
        exact q_RP_ret rfl rfl rfl
    | false =>
      refine q_RP_cF ?_
      show q_RP _ _ _ (92, [(3, .int (((s.1 10) (a1.toNatClampNeg)) / 4096)), (2, .int x1), (0, .ref 64), (1, .int a1)], [.int 0], (q_kM s c n)) _ _
      refine q_RP_seg (g2 := (118, [(3, .int (((s.1 10) (a1.toNatClampNeg)) / 4096)), (2, .int x1), (0, .ref 64), (1, .int a1)], [.int (((s.1 10) (a1.toNatClampNeg)) / 4096)], (q_kM s c n))) 2 (fun _ _ => rfl) ?_
      exact q_RP_ret rfl rfl rfl
  | false =>
    refine q_RP_cF ?_
    refine q_RP_rsT (g2 := (33, [(2, .int x1), (0, .ref 64), (1, .int a1)], [], (q_kM s c n))) rfl rfl (q_d_neF h2) ?_
    refine q_RP_seg (g2 := (35, [(2, .int x1), (0, .ref 64), (1, .int a1)], [.int 1, .int x1], (q_kM s c n))) 2 (fun _ _ => rfl) ?_
    cases h7 : decide (x1 = 1) with
    | true =>
      refine q_RP_cT ?_
      refine q_RP_rsF (g2 := (38, [(2, .int x1), (0, .ref 64), (1, .int a1)], [], (q_kM s c n))) rfl rfl (q_d_neT h7) ?_
      refine q_RP_seg (g2 := (43, [(2, .int x1), (0, .ref 64), (1, .int a1)], [.int a1, .ref 74], (q_kM s c n))) 3 (fun _ _ => rfl) ?_
      refine q_RP_as fun i8 => ?_
      refine q_RP_rsT (g2 := (44, [(2, .int x1), (0, .ref 64), (1, .int a1)], [.int ((s.1 10) (a1.toNatClampNeg))], (q_kM s c n))) rfl rfl i8 ?_
      refine q_RP_seg (g2 := (46, [(2, .int x1), (0, .ref 64), (1, .int a1)], [.int 32768, .int ((s.1 10) (a1.toNatClampNeg))], (q_kM s c n))) 1 (fun _ _ => rfl) ?_
      cases h9 : decide ((s.1 10) (a1.toNatClampNeg) < 32768) with
      | true =>
        refine q_RP_cT ?_
        refine q_RP_rsT (g2 := (54, [(2, .int x1), (0, .ref 64), (1, .int a1)], [], (q_kM s c n))) rfl rfl h9 ?_
        refine q_RP_seg (g2 := (87, [(3, .int 0), (2, .int x1), (0, .ref 64), (1, .int a1)], [.int ((34 : Int32) + (4 * a1)), .ref 68], (q_kM s c n))) 10 (fun _ _ => rfl) ?_
        refine q_RP_rsT (g2 := (88, [(3, .int 0), (2, .int x1), (0, .ref 64), (1, .int a1)], [.int ((s.1 4) (((34 : Int32) + (4 * a1)).toNatClampNeg))], (q_kM s c n))) rfl rfl i1 ?_
        refine q_RP_seg (g2 := (89, [(3, .int 0), (2, .int x1), (0, .ref 64), (1, .int a1)], [.int 3, .int ((s.1 4) (((34 : Int32) + (4 * a1)).toNatClampNeg))], (q_kM s c n))) 1 (fun _ _ => rfl) ?_
        refine q_RP_call (v := (some (.int (q_b (dz_M206 s ((s.1 4) (((34 : Int32) + (4 * a1)).toNatClampNeg)) 3))))) (h2 := (q_kM s c n)) rfl rfl ((dzt_M206 s c n ((s.1 4) (((34 : Int32) + (4 * a1)).toNatClampNeg)) 3).le (Nat.le_of_ble_eq_true rfl)) ?_
        generalize dz_M206 s ((s.1 4) (((34 : Int32) + (4 * a1)).toNatClampNeg)) 3 = r3
        refine q_RP_let ?_
        show q_RP _ _ _ (92, [(3, .int 0), (2, .int x1), (0, .ref 64), (1, .int a1)], [.int (q_b r3)], (q_kM s c n)) _ _
        cases h10 : r3 with
        | true =>
          refine q_RP_cT ?_
          show q_RP _ _ _ (92, [(3, .int 0), (2, .int x1), (0, .ref 64), (1, .int a1)], [.int 1], (q_kM s c n)) _ _
          refine q_RP_seg (g2 := (104, [(3, .int 0), (2, .int x1), (0, .ref 64), (1, .int a1)], [.int ((a1 + 2) - (a1 + 2) / 3 * 3), .ref 74], (q_kM s c n))) 8 (fun _ _ => rfl) ?_
          refine q_RP_as fun i11 => ?_
          refine q_RP_rsT (g2 := (105, [(3, .int 0), (2, .int x1), (0, .ref 64), (1, .int a1)], [.int ((s.1 10) (((a1 + 2) - (a1 + 2) / 3 * 3).toNatClampNeg))], (q_kM s c n))) rfl rfl i11 ?_
          refine q_RP_seg (g2 := (107, [(3, .int 0), (2, .int x1), (0, .ref 64), (1, .int a1)], [.int 32768, .int ((s.1 10) (((a1 + 2) - (a1 + 2) / 3 * 3).toNatClampNeg))], (q_kM s c n))) 1 (fun _ _ => rfl) ?_
          cases h12 : decide ((s.1 10) (((a1 + 2) - (a1 + 2) / 3 * 3).toNatClampNeg) < 32768) with
          | true =>
            refine q_RP_cT ?_
            refine q_RP_rsT (g2 := (117, [(3, .int 0), (2, .int x1), (0, .ref 64), (1, .int a1)], [], (q_kM s c n))) rfl rfl h12 ?_
            refine q_RP_seg (g2 := (118, [(3, .int 0), (2, .int x1), (0, .ref 64), (1, .int a1)], [.int 0], (q_kM s c n))) 1 (fun _ _ => rfl) ?_
            exact q_RP_ret rfl rfl rfl
          | false =>
            refine q_RP_cF ?_
            refine q_RP_rsF (g2 := (110, [(3, .int 0), (2, .int x1), (0, .ref 64), (1, .int a1)], [], (q_kM s c n))) rfl rfl h12 ?_
            refine q_RP_seg (g2 := (118, [(3, .int 0), (2, .int x1), (0, .ref 64), (1, .int a1)], [.int 15], (q_kM s c n))) 4 (fun _ _ => rfl) ?_
            exact q_RP_ret rfl rfl rfl
        | false =>
          refine q_RP_cF ?_
          show q_RP _ _ _ (92, [(3, .int 0), (2, .int x1), (0, .ref 64), (1, .int a1)], [.int 0], (q_kM s c n)) _ _
          refine q_RP_seg (g2 := (118, [(3, .int 0), (2, .int x1), (0, .ref 64), (1, .int a1)], [.int 0], (q_kM s c n))) 2 (fun _ _ => rfl) ?_
          exact q_RP_ret rfl rfl rfl
      | false =>
        refine q_RP_cF ?_
        refine q_RP_rsF (g2 := (49, [(2, .int x1), (0, .ref 64), (1, .int a1)], [], (q_kM s c n))) rfl rfl h9 ?_
        refine q_RP_seg (g2 := (87, [(3, .int 15), (2, .int x1), (0, .ref 64), (1, .int a1)], [.int ((34 : Int32) + (4 * a1)), .ref 68], (q_kM s c n))) 10 (fun _ _ => rfl) ?_
        refine q_RP_rsT (g2 := (88, [(3, .int 15), (2, .int x1), (0, .ref 64), (1, .int a1)], [.int ((s.1 4) (((34 : Int32) + (4 * a1)).toNatClampNeg))], (q_kM s c n))) rfl rfl i1 ?_
        refine q_RP_seg (g2 := (89, [(3, .int 15), (2, .int x1), (0, .ref 64), (1, .int a1)], [.int 3, .int ((s.1 4) (((34 : Int32) + (4 * a1)).toNatClampNeg))], (q_kM s c n))) 1 (fun _ _ => rfl) ?_
        refine q_RP_call (v := (some (.int (q_b (dz_M206 s ((s.1 4) (((34 : Int32) + (4 * a1)).toNatClampNeg)) 3))))) (h2 := (q_kM s c n)) rfl rfl ((dzt_M206 s c n ((s.1 4) (((34 : Int32) + (4 * a1)).toNatClampNeg)) 3).le (Nat.le_of_ble_eq_true rfl)) ?_
        generalize dz_M206 s ((s.1 4) (((34 : Int32) + (4 * a1)).toNatClampNeg)) 3 = r4
        refine q_RP_let ?_
        show q_RP _ _ _ (92, [(3, .int 15), (2, .int x1), (0, .ref 64), (1, .int a1)], [.int (q_b r4)], (q_kM s c n)) _ _
        cases h13 : r4 with
        | true =>
          refine q_RP_cT ?_
          show q_RP _ _ _ (92, [(3, .int 15), (2, .int x1), (0, .ref 64), (1, .int a1)], [.int 1], (q_kM s c n)) _ _
          refine q_RP_seg (g2 := (104, [(3, .int 15), (2, .int x1), (0, .ref 64), (1, .int a1)], [.int ((a1 + 2) - (a1 + 2) / 3 * 3), .ref 74], (q_kM s c n))) 8 (fun _ _ => rfl) ?_
          refine q_RP_as fun i14 => ?_
          refine q_RP_rsT (g2 := (105, [(3, .int 15), (2, .int x1), (0, .ref 64), (1, .int a1)], [.int ((s.1 10) (((a1 + 2) - (a1 + 2) / 3 * 3).toNatClampNeg))], (q_kM s c n))) rfl rfl i14 ?_
          refine q_RP_seg (g2 := (107, [(3, .int 15), (2, .int x1), (0, .ref 64), (1, .int a1)], [.int 32768, .int ((s.1 10) (((a1 + 2) - (a1 + 2) / 3 * 3).toNatClampNeg))], (q_kM s c n))) 1 (fun _ _ => rfl) ?_
          cases h15 : decide ((s.1 10) (((a1 + 2) - (a1 + 2) / 3 * 3).toNatClampNeg) < 32768) with
          | true =>
            refine q_RP_cT ?_
            refine q_RP_rsT (g2 := (117, [(3, .int 15), (2, .int x1), (0, .ref 64), (1, .int a1)], [], (q_kM s c n))) rfl rfl h15 ?_
            refine q_RP_seg (g2 := (118, [(3, .int 15), (2, .int x1), (0, .ref 64), (1, .int a1)], [.int 15], (q_kM s c n))) 1 (fun _ _ => rfl) ?_
            exact q_RP_ret rfl rfl rfl
          | false =>
            refine q_RP_cF ?_
            refine q_RP_rsF (g2 := (110, [(3, .int 15), (2, .int x1), (0, .ref 64), (1, .int a1)], [], (q_kM s c n))) rfl rfl h15 ?_
            refine q_RP_seg (g2 := (118, [(3, .int 15), (2, .int x1), (0, .ref 64), (1, .int a1)], [.int 0], (q_kM s c n))) 4 (fun _ _ => rfl) ?_
            exact q_RP_ret rfl rfl rfl
        | false =>
          refine q_RP_cF ?_
          show q_RP _ _ _ (92, [(3, .int 15), (2, .int x1), (0, .ref 64), (1, .int a1)], [.int 0], (q_kM s c n)) _ _
          refine q_RP_seg (g2 := (118, [(3, .int 15), (2, .int x1), (0, .ref 64), (1, .int a1)], [.int 15], (q_kM s c n))) 2 (fun _ _ => rfl) ?_
          exact q_RP_ret rfl rfl rfl
    | false =>
      refine q_RP_cF ?_
      refine q_RP_rsT (g2 := (58, [(2, .int x1), (0, .ref 64), (1, .int a1)], [], (q_kM s c n))) rfl rfl (q_d_neF h7) ?_
      refine q_RP_seg (g2 := (60, [(2, .int x1), (0, .ref 64), (1, .int a1)], [.int 2, .int x1], (q_kM s c n))) 2 (fun _ _ => rfl) ?_
      cases h16 : decide (x1 = 2) with
      | true =>
        refine q_RP_cT ?_
        refine q_RP_rsF (g2 := (63, [(2, .int x1), (0, .ref 64), (1, .int a1)], [], (q_kM s c n))) rfl rfl (q_d_neT h16) ?_
        refine q_RP_seg (g2 := (68, [(2, .int x1), (0, .ref 64), (1, .int a1)], [.int a1, .ref 77], (q_kM s c n))) 3 (fun _ _ => rfl) ?_
        refine q_RP_as fun i17 => ?_
        refine q_RP_rsT (g2 := (69, [(2, .int x1), (0, .ref 64), (1, .int a1)], [.int ((s.1 13) (a1.toNatClampNeg))], (q_kM s c n))) rfl rfl i17 ?_
        refine q_RP_seg (g2 := (76, [(2, .int x1), (0, .ref 64), (1, .int a1)], [.int (((s.1 13) (a1.toNatClampNeg)) - ((s.1 13) (a1.toNatClampNeg)) / 16 * 16)], (q_kM s c n))) 3 (fun _ _ => rfl) ?_
        generalize (((s.1 13) (a1.toNatClampNeg)) - ((s.1 13) (a1.toNatClampNeg)) / 16 * 16) = x5
        refine q_RP_let ?_
        show q_RP _ _ _ (76, [(2, .int x1), (0, .ref 64), (1, .int a1)], [.int x5], (q_kM s c n)) _ _
        refine q_RP_seg (g2 := (87, [(3, .int x5), (2, .int x1), (0, .ref 64), (1, .int a1)], [.int ((34 : Int32) + (4 * a1)), .ref 68], (q_kM s c n))) 8 (fun _ _ => rfl) ?_
        refine q_RP_rsT (g2 := (88, [(3, .int x5), (2, .int x1), (0, .ref 64), (1, .int a1)], [.int ((s.1 4) (((34 : Int32) + (4 * a1)).toNatClampNeg))], (q_kM s c n))) rfl rfl i1 ?_
        refine q_RP_seg (g2 := (89, [(3, .int x5), (2, .int x1), (0, .ref 64), (1, .int a1)], [.int 3, .int ((s.1 4) (((34 : Int32) + (4 * a1)).toNatClampNeg))], (q_kM s c n))) 1 (fun _ _ => rfl) ?_
        refine q_RP_call (v := (some (.int (q_b (dz_M206 s ((s.1 4) (((34 : Int32) + (4 * a1)).toNatClampNeg)) 3))))) (h2 := (q_kM s c n)) rfl rfl ((dzt_M206 s c n ((s.1 4) (((34 : Int32) + (4 * a1)).toNatClampNeg)) 3).le (Nat.le_of_ble_eq_true rfl)) ?_
        generalize dz_M206 s ((s.1 4) (((34 : Int32) + (4 * a1)).toNatClampNeg)) 3 = r6
        refine q_RP_let ?_
        show q_RP _ _ _ (92, [(3, .int x5), (2, .int x1), (0, .ref 64), (1, .int a1)], [.int (q_b r6)], (q_kM s c n)) _ _
        cases h18 : r6 with
        | true =>
          refine q_RP_cT ?_
          show q_RP _ _ _ (92, [(3, .int x5), (2, .int x1), (0, .ref 64), (1, .int a1)], [.int 1], (q_kM s c n)) _ _
          refine q_RP_seg (g2 := (104, [(3, .int x5), (2, .int x1), (0, .ref 64), (1, .int a1)], [.int ((a1 + 2) - (a1 + 2) / 3 * 3), .ref 74], (q_kM s c n))) 8 (fun _ _ => rfl) ?_
          refine q_RP_as fun i19 => ?_
          refine q_RP_rsT (g2 := (105, [(3, .int x5), (2, .int x1), (0, .ref 64), (1, .int a1)], [.int ((s.1 10) (((a1 + 2) - (a1 + 2) / 3 * 3).toNatClampNeg))], (q_kM s c n))) rfl rfl i19 ?_
          refine q_RP_seg (g2 := (107, [(3, .int x5), (2, .int x1), (0, .ref 64), (1, .int a1)], [.int 32768, .int ((s.1 10) (((a1 + 2) - (a1 + 2) / 3 * 3).toNatClampNeg))], (q_kM s c n))) 1 (fun _ _ => rfl) ?_
          cases h20 : decide ((s.1 10) (((a1 + 2) - (a1 + 2) / 3 * 3).toNatClampNeg) < 32768) with
          | true =>
            refine q_RP_cT ?_
            refine q_RP_rsT (g2 := (117, [(3, .int x5), (2, .int x1), (0, .ref 64), (1, .int a1)], [], (q_kM s c n))) rfl rfl h20 ?_
            refine q_RP_seg (g2 := (118, [(3, .int x5), (2, .int x1), (0, .ref 64), (1, .int a1)], [.int x5], (q_kM s c n))) 1 (fun _ _ => rfl) ?_
            exact q_RP_ret rfl rfl rfl
          | false =>
            refine q_RP_cF ?_
            refine q_RP_rsF (g2 := (110, [(3, .int x5), (2, .int x1), (0, .ref 64), (1, .int a1)], [], (q_kM s c n))) rfl rfl h20 ?_
            refine q_RP_seg (g2 := (118, [(3, .int x5), (2, .int x1), (0, .ref 64), (1, .int a1)], [.int ((15 : Int32) - x5)], (q_kM s c n))) 4 (fun _ _ => rfl) ?_
            exact q_RP_ret rfl rfl rfl
        | false =>
          refine q_RP_cF ?_
          show q_RP _ _ _ (92, [(3, .int x5), (2, .int x1), (0, .ref 64), (1, .int a1)], [.int 0], (q_kM s c n)) _ _
          refine q_RP_seg (g2 := (118, [(3, .int x5), (2, .int x1), (0, .ref 64), (1, .int a1)], [.int x5], (q_kM s c n))) 2 (fun _ _ => rfl) ?_
          exact q_RP_ret rfl rfl rfl
      | false =>
        refine q_RP_cF ?_
        refine q_RP_rsT (g2 := (75, [(2, .int x1), (0, .ref 64), (1, .int a1)], [], (q_kM s c n))) rfl rfl (q_d_neF h16) ?_
        refine q_RP_seg (g2 := (87, [(3, .int 0), (2, .int x1), (0, .ref 64), (1, .int a1)], [.int ((34 : Int32) + (4 * a1)), .ref 68], (q_kM s c n))) 9 (fun _ _ => rfl) ?_
        refine q_RP_rsT (g2 := (88, [(3, .int 0), (2, .int x1), (0, .ref 64), (1, .int a1)], [.int ((s.1 4) (((34 : Int32) + (4 * a1)).toNatClampNeg))], (q_kM s c n))) rfl rfl i1 ?_
        refine q_RP_seg (g2 := (89, [(3, .int 0), (2, .int x1), (0, .ref 64), (1, .int a1)], [.int 3, .int ((s.1 4) (((34 : Int32) + (4 * a1)).toNatClampNeg))], (q_kM s c n))) 1 (fun _ _ => rfl) ?_
        refine q_RP_call (v := (some (.int (q_b (dz_M206 s ((s.1 4) (((34 : Int32) + (4 * a1)).toNatClampNeg)) 3))))) (h2 := (q_kM s c n)) rfl rfl ((dzt_M206 s c n ((s.1 4) (((34 : Int32) + (4 * a1)).toNatClampNeg)) 3).le (Nat.le_of_ble_eq_true rfl)) ?_
        generalize dz_M206 s ((s.1 4) (((34 : Int32) + (4 * a1)).toNatClampNeg)) 3 = r7
        refine q_RP_let ?_
        show q_RP _ _ _ (92, [(3, .int 0), (2, .int x1), (0, .ref 64), (1, .int a1)], [.int (q_b r7)], (q_kM s c n)) _ _
        cases h21 : r7 with
        | true =>
          refine q_RP_cT ?_
          show q_RP _ _ _ (92, [(3, .int 0), (2, .int x1), (0, .ref 64), (1, .int a1)], [.int 1], (q_kM s c n)) _ _
          refine q_RP_seg (g2 := (104, [(3, .int 0), (2, .int x1), (0, .ref 64), (1, .int a1)], [.int ((a1 + 2) - (a1 + 2) / 3 * 3), .ref 74], (q_kM s c n))) 8 (fun _ _ => rfl) ?_
          refine q_RP_as fun i22 => ?_
          refine q_RP_rsT (g2 := (105, [(3, .int 0), (2, .int x1), (0, .ref 64), (1, .int a1)], [.int ((s.1 10) (((a1 + 2) - (a1 + 2) / 3 * 3).toNatClampNeg))], (q_kM s c n))) rfl rfl i22 ?_
          refine q_RP_seg (g2 := (107, [(3, .int 0), (2, .int x1), (0, .ref 64), (1, .int a1)], [.int 32768, .int ((s.1 10) (((a1 + 2) - (a1 + 2) / 3 * 3).toNatClampNeg))], (q_kM s c n))) 1 (fun _ _ => rfl) ?_
          cases h23 : decide ((s.1 10) (((a1 + 2) - (a1 + 2) / 3 * 3).toNatClampNeg) < 32768) with
          | true =>
            refine q_RP_cT ?_
            refine q_RP_rsT (g2 := (117, [(3, .int 0), (2, .int x1), (0, .ref 64), (1, .int a1)], [], (q_kM s c n))) rfl rfl h23 ?_
            refine q_RP_seg (g2 := (118, [(3, .int 0), (2, .int x1), (0, .ref 64), (1, .int a1)], [.int 0], (q_kM s c n))) 1 (fun _ _ => rfl) ?_
            exact q_RP_ret rfl rfl rfl
          | false =>
            refine q_RP_cF ?_
            refine q_RP_rsF (g2 := (110, [(3, .int 0), (2, .int x1), (0, .ref 64), (1, .int a1)], [], (q_kM s c n))) rfl rfl h23 ?_
            refine q_RP_seg (g2 := (118, [(3, .int 0), (2, .int x1), (0, .ref 64), (1, .int a1)], [.int 15], (q_kM s c n))) 4 (fun _ _ => rfl) ?_
            exact q_RP_ret rfl rfl rfl
        | false =>
          refine q_RP_cF ?_
          show q_RP _ _ _ (92, [(3, .int 0), (2, .int x1), (0, .ref 64), (1, .int a1)], [.int 0], (q_kM s c n)) _ _
          refine q_RP_seg (g2 := (118, [(3, .int 0), (2, .int x1), (0, .ref 64), (1, .int a1)], [.int 0], (q_kM s c n))) 2 (fun _ _ => rfl) ?_
          exact q_RP_ret rfl rfl rfl
def dz_M234_64_22 (m : Nat) : q_S → Int32 → Int32 → Option (q_S) := Nat.rec (motive := fun _ => q_S → Int32 → Int32 → Option (q_S)) (fun _ _ _ => none) (fun _ k22 s v1 v2 =>
  cond (decide (v2 < 3)) ((dz_M233_64 s v2).bind fun r2 => cond (q_in v2 3) (k22 s (v1 + (r2 * ((s.1 11) (v2.toNatClampNeg)))) (v2 + 1)) none) (q_let (dz_M207_64 s) fun r3 => cond (q_in r3 40) (some (q_sA s 6 (upd (s.1 6) (r3.toNatClampNeg) (v1 / 15)))) none)) m
theorem dzs_M234_64_22 (m : Nat) (s : q_S) (v1 : Int32) (v2 : Int32) : dz_M234_64_22 (m + 1) s v1 v2 = (fun k22 : q_S → Int32 → Int32 → Option (q_S) =>
  cond (decide (v2 < 3)) ((dz_M233_64 s v2).bind fun r2 => cond (q_in v2 3) (k22 s (v1 + (r2 * ((s.1 11) (v2.toNatClampNeg)))) (v2 + 1)) none) (q_let (dz_M207_64 s) fun r3 => cond (q_in r3 40) (some (q_sA s 6 (upd (s.1 6) (r3.toNatClampNeg) (v1 / 15)))) none)) (dz_M234_64_22 m) := rfl
set_option maxHeartbeats 4000000 in
theorem dzt_M234_64_22 (c n : Nat) : ∀ (m : Nat) (s : q_S) (v1 : Int32) (v2 : Int32), q_RP q_TB0 2 233 (22, [(0, .ref 64), (1, .int v1), (2, .int v2)], [], (q_kM s c n)) (q_oSM c n) (dz_M234_64_22 m s v1 v2) := by
  intro m
  induction m with
  | zero => intro s v1 v2; exact q_RP_no
  | succ m ih =>
    intro s v1 v2
    have hk22 := ih
    clear ih
    rw [dzs_M234_64_22]
    generalize dz_M234_64_22 m = k22 at hk22 ⊢
    dsimp only
    refine q_RP_seg (g2 := (24, [(0, .ref 64), (1, .int v1), (2, .int v2)], [.int 3, .int v2], (q_kM s c n))) 2 (fun _ _ => rfl) ?_
    cases h2 : decide (v2 < 3) with
    | true =>
      refine q_RP_cT ?_
      refine q_RP_rsF (g2 := (27, [(0, .ref 64), (1, .int v1), (2, .int v2)], [], (q_kM s c n))) rfl rfl (q_d_geT h2) ?_
      refine q_RP_seg (g2 := (30, [(0, .ref 64), (1, .int v1), (2, .int v2)], [.int v2, .ref 64, .int v1], (q_kM s c n))) 3 (fun _ _ => rfl) ?_
      refine q_RP_bd fun r2 er2 => ?_
      refine q_RP_call (v := (some (.int r2))) (h2 := (q_kM s c n)) rfl rfl ((dzt_M233_64 s c n v2 r2 er2).le (Nat.le_of_ble_eq_true rfl)) ?_
      show q_RP _ _ _ (33, [(0, .ref 64), (1, .int v1), (2, .int v2)], [.int r2, .int v1], (q_kM s c n)) _ _
      refine q_RP_seg (g2 := (38, [(0, .ref 64), (1, .int v1), (2, .int v2)], [.int v2, .ref 75, .int r2, .int v1], (q_kM s c n))) 3 (fun _ _ => rfl) ?_
      refine q_RP_as fun i3 => ?_
      refine q_RP_rsT (g2 := (39, [(0, .ref 64), (1, .int v1), (2, .int v2)], [.int ((s.1 11) (v2.toNatClampNeg)), .int r2, .int v1], (q_kM s c n))) rfl rfl i3 ?_
      refine q_RP_seg (g2 := (22, [(2, .int (v2 + 1)), (1, .int (v1 + (r2 * ((s.1 11) (v2.toNatClampNeg))))), (0, .ref 64)], [], (q_kM s c n))) 5 (fun _ _ => rfl) ?_
      exact q_RP_xt (q_xt_mk (q_mn1 2 rfl (q_mn1 1 rfl (q_mn1 0 rfl q_mn0))) rfl) (hk22 s (v1 + (r2 * ((s.1 11) (v2.toNatClampNeg)))) (v2 + 1))
    | false =>
      refine q_RP_cF ?_
      refine q_RP_rsT (g2 := (48, [(0, .ref 64), (1, .int v1), (2, .int v2)], [], (q_kM s c n))) rfl rfl (q_d_geF h2) ?_
      refine q_RP_seg (g2 := (53, [(0, .ref 64), (1, .int v1), (2, .int v2)], [.ref 64, .ref 70], (q_kM s c n))) 3 (fun _ _ => rfl) ?_
      refine q_RP_call (v := (some (.int (dz_M207_64 s)))) (h2 := (q_kM s c n)) rfl rfl ((dzt_M207_64 s c n).le (Nat.le_of_ble_eq_true rfl)) ?_
      generalize dz_M207_64 s = r3
      refine q_RP_let ?_
      show q_RP _ _ _ (56, [(0, .ref 64), (1, .int v1), (2, .int v2)], [.int r3, .ref 70], (q_kM s c n)) _ _
      refine q_RP_seg (g2 := (60, [(0, .ref 64), (1, .int v1), (2, .int v2)], [.int (v1 / 15), .int r3, .ref 70], (q_kM s c n))) 3 (fun _ _ => rfl) ?_
      refine q_RP_as fun i4 => ?_
      refine q_RP_rsT (g2 := (61, [(0, .ref 64), (1, .int v1), (2, .int v2)], [], (q_kM (q_sA s 6 (upd (s.1 6) (r3.toNatClampNeg) (v1 / 15))) c n))) rfl q_wM6 i4 ?_
      exact q_RP_ret rfl rfl rfl
def dz_M234_64_2 (m : Nat) : q_S → Int32 → Option (q_S) := Nat.rec (motive := fun _ => q_S → Int32 → Option (q_S)) (fun _ _ => none) (fun _ k2 s v1 =>
  cond (decide (v1 < 3)) ((dz_M232_64 s v1).bind fun r1 => k2 r1 (v1 + 1)) (dz_M234_64_22 5000 s 0 0)) m
theorem dzs_M234_64_2 (m : Nat) (s : q_S) (v1 : Int32) : dz_M234_64_2 (m + 1) s v1 = (fun k2 : q_S → Int32 → Option (q_S) =>
  cond (decide (v1 < 3)) ((dz_M232_64 s v1).bind fun r1 => k2 r1 (v1 + 1)) (dz_M234_64_22 5000 s 0 0)) (dz_M234_64_2 m) := rfl
set_option maxHeartbeats 4000000 in
theorem dzt_M234_64_2 (c n : Nat) : ∀ (m : Nat) (s : q_S) (v1 : Int32), q_RP q_TB0 2 233 (2, [(0, .ref 64), (1, .int v1)], [], (q_kM s c n)) (q_oSM c n) (dz_M234_64_2 m s v1) := by
  intro m
  induction m with
  | zero => intro s v1; exact q_RP_no
  | succ m ih =>
    intro s v1
    have hk2 := ih
    clear ih
    rw [dzs_M234_64_2]
    generalize dz_M234_64_2 m = k2 at hk2 ⊢
    dsimp only
    refine q_RP_seg (g2 := (4, [(0, .ref 64), (1, .int v1)], [.int 3, .int v1], (q_kM s c n))) 2 (fun _ _ => rfl) ?_
    cases h1 : decide (v1 < 3) with
    | true =>
      refine q_RP_cT ?_
      refine q_RP_rsF (g2 := (7, [(0, .ref 64), (1, .int v1)], [], (q_kM s c n))) rfl rfl (q_d_geT h1) ?_
      refine q_RP_seg (g2 := (9, [(0, .ref 64), (1, .int v1)], [.int v1, .ref 64], (q_kM s c n))) 2 (fun _ _ => rfl) ?_
      refine q_RP_bd fun r1 er1 => ?_
      refine q_RP_call (v := none) (h2 := (q_kM r1 c n)) rfl rfl ((dzt_M232_64 s c n v1 r1 er1).le (Nat.le_of_ble_eq_true rfl)) ?_
      show q_RP _ _ _ (12, [(0, .ref 64), (1, .int v1)], [], (q_kM r1 c n)) _ _
      refine q_RP_seg (g2 := (2, [(1, .int (v1 + 1)), (0, .ref 64)], [], (q_kM r1 c n))) 2 (fun _ _ => rfl) ?_
      exact q_RP_xt (q_xt_mk (q_mn1 1 rfl (q_mn1 0 rfl q_mn0)) rfl) (hk2 r1 (v1 + 1))
    | false =>
      refine q_RP_cF ?_
      refine q_RP_rsT (g2 := (18, [(0, .ref 64), (1, .int v1)], [], (q_kM s c n))) rfl rfl (q_d_geF h1) ?_
      refine q_RP_seg (g2 := (22, [(2, .int 0), (1, .int 0), (0, .ref 64)], [], (q_kM s c n))) 4 (fun _ _ => rfl) ?_
      exact q_RP_xt (q_xt_mk (q_mn1 2 rfl (q_mn1 1 rfl (q_mn1 0 rfl q_mn0))) rfl) (dzt_M234_64_22 c n 5000 s 0 0)
def dz_M234_64 (s : q_S) : Option (q_S) :=
  dz_M234_64_2 5000 s 0
set_option maxHeartbeats 4000000 in
theorem dzt_M234_64 (s : q_S) (c n : Nat) (x : q_S) (h : dz_M234_64 s = some x) : q_Ca q_TB0 3 233 [.ref 64] (q_kM s c n) ((q_oSM c n) x) := by
  refine q_CaP_of (φ := (q_oSM c n)) (Nat.le_of_ble_eq_true rfl) ?_ h
  clear h
  unfold dz_M234_64
  refine q_RP_seg (g2 := (2, [(1, .int 0), (0, .ref 64)], [], (q_kM s c n))) 2 (fun _ _ => rfl) ?_
  exact q_RP_xt (q_xt_mk (q_mn1 1 rfl (q_mn1 0 rfl q_mn0)) rfl) (dzt_M234_64_2 c n 5000 s 0)
def dz_M247_64 (s : q_S) (a1 : Int32) : Option (q_S × Int32) :=
  q_let (dz_M213 s a1) fun r3 => (dz_M214_64 s r3).bind fun r4 => some (r4.1, r4.2)
set_option maxHeartbeats 4000000 in
theorem dzt_M247_64 (s : q_S) (c n : Nat) (a1 : Int32) (x : q_S × Int32) (h : dz_M247_64 s a1 = some x) : q_Ca q_TB0 5 246 [.ref 64, .int a1] (q_kM s c n) ((q_oIM c n) x) := by
  refine q_CaP_of (φ := (q_oIM c n)) (Nat.le_of_ble_eq_true rfl) ?_ h
  clear h
  unfold dz_M247_64
  refine q_RP_seg (g2 := (2, [(0, .ref 64), (1, .int a1)], [.int a1, .ref 64], (q_kM s c n))) 2 (fun _ _ => rfl) ?_
  refine q_RP_call (v := (some (.int (dz_M213 s a1)))) (h2 := (q_kM s c n)) rfl rfl ((dzt_M213 s c n a1).le (Nat.le_of_ble_eq_true rfl)) ?_
  generalize dz_M213 s a1 = r3
  refine q_RP_let ?_
  show q_RP _ _ _ (5, [(0, .ref 64), (1, .int a1)], [.int r3, .ref 64], (q_kM s c n)) _ _
  refine q_RP_bd fun r4 er4 => ?_
  refine q_RP_call (v := (some (.int r4.2))) (h2 := (q_kM r4.1 c n)) rfl rfl ((dzt_M214_64 s c n r3 r4 er4).le (Nat.le_of_ble_eq_true rfl)) ?_
  show q_RP _ _ _ (8, [(0, .ref 64), (1, .int a1)], [.int r4.2], (q_kM r4.1 c n)) _ _
  exact q_RP_ret rfl rfl rfl
def dz_M244 (s : q_S) (a0 : Int32) : Int32 :=
  cond (decide (a0 < 128)) ((a0 / 8)) (q_let (dz_M202 s a0 192 231) fun r1 => cond r1 (((16 : Int32) + ((a0 - 192) / 8))) ((-1)))
set_option maxHeartbeats 4000000 in
theorem dzt_M244 (s : q_S) (c n : Nat) (a0 : Int32) : q_Ca q_TB0 2 243 [.int a0] (q_kM s c n) ((q_oP (q_kM s c n)) (dz_M244 s a0)) := by
  refine q_CaT_of (φ := (q_oP (q_kM s c n))) (Nat.le_of_ble_eq_true rfl) ?_
  unfold dz_M244
  refine q_RT_seg (g2 := (4, [(0, .int a0)], [.int 128, .int a0], (q_kM s c n))) 2 (fun _ _ => rfl) ?_
  cases h1 : decide (a0 < 128) with
  | true =>
    refine q_RT_cT ?_
    refine q_RT_rsF (g2 := (7, [(0, .int a0)], [], (q_kM s c n))) rfl rfl (q_d_geT h1) ?_
    refine q_RT_seg (g2 := (42, [(0, .int a0)], [.int (a0 / 8)], (q_kM s c n))) 4 (fun _ _ => rfl) ?_
    exact q_RT_ret rfl rfl rfl
  | false =>
    refine q_RT_cF ?_
    refine q_RT_rsT (g2 := (14, [(0, .int a0)], [], (q_kM s c n))) rfl rfl (q_d_geF h1) ?_
    refine q_RT_seg (g2 := (21, [(0, .int a0)], [.int 231, .int 192, .int a0], (q_kM s c n))) 3 (fun _ _ => rfl) ?_
    refine q_RT_call (v := (some (.int (q_b (dz_M202 s a0 192 231))))) (h2 := (q_kM s c n)) rfl rfl ((dzt_M202 s c n a0 192 231).le (Nat.le_of_ble_eq_true rfl)) ?_
    generalize dz_M202 s a0 192 231 = r1
    refine q_RT_let ?_
    show q_RT _ _ _ (24, [(0, .int a0)], [.int (q_b r1)], (q_kM s c n)) _ _
    cases h2 : r1 with
    | true =>
      refine q_RT_cT ?_
      show q_RT _ _ _ (24, [(0, .int a0)], [.int 1], (q_kM s c n)) _ _
      refine q_RT_seg (g2 := (42, [(0, .int a0)], [.int ((16 : Int32) + ((a0 - 192) / 8))], (q_kM s c n))) 9 (fun _ _ => rfl) ?_
      exact q_RT_ret rfl rfl rfl
    | false =>
      refine q_RT_cF ?_
      show q_RT _ _ _ (24, [(0, .int a0)], [.int 0], (q_kM s c n)) _ _
      refine q_RT_seg (g2 := (42, [(0, .int a0)], [.int (-1)], (q_kM s c n))) 2 (fun _ _ => rfl) ?_
      exact q_RT_ret rfl rfl rfl
def dz_M252_64 (s : q_S) (a1 : Int32) : Bool :=
  cond (decide (a1 < 162)) (cond (decide (a1 = 161)) (cond (decide ((s.1 15) 4 = 1)) (true) (false)) (cond (decide (a1 = 163)) (cond (decide ((s.1 15) 4 = 1)) (true) (false)) (cond (decide (a1 = 165)) (cond (decide ((s.1 15) 4 = 1)) (true) (false)) (cond (decide (a1 = 167)) (cond (decide ((s.1 15) 4 = 1)) (true) (false)) (cond (decide ((s.1 15) 4 = 0)) (true) (false)))))) (cond (decide (a1 < 164)) (cond (decide (a1 = 161)) (cond (decide ((s.1 15) 5 = 1)) (true) (false)) (cond (decide (a1 = 163)) (cond (decide ((s.1 15) 5 = 1)) (true) (false)) (cond (decide (a1 = 165)) (cond (decide ((s.1 15) 5 = 1)) (true) (false)) (cond (decide (a1 = 167)) (cond (decide ((s.1 15) 5 = 1)) (true) (false)) (cond (decide ((s.1 15) 5 = 0)) (true) (false)))))) (cond (decide (a1 < 166)) (cond (decide (a1 = 161)) (cond (decide ((s.1 15) 0 = 1)) (true) (false)) (cond (decide (a1 = 163)) (cond (decide ((s.1 15) 0 = 1)) (true) (false)) (cond (decide (a1 = 165)) (cond (decide ((s.1 15) 0 = 1)) (true) (false)) (cond (decide (a1 = 167)) (cond (decide ((s.1 15) 0 = 1)) (true) (false)) (cond (decide ((s.1 15) 0 = 0)) (true) (false)))))) (cond (decide (a1 = 161)) (cond (decide ((s.1 15) 1 = 1)) (true) (false)) (cond (decide (a1 = 163)) (cond (decide ((s.1 15) 1 = 1)) (true) (false)) (cond (decide (a1 = 165)) (cond (decide ((s.1 15) 1 = 1)) (true) (false)) (cond (decide (a1 = 167)) (cond (decide ((s.1 15) 1 = 1)) (true) (false)) (cond (decide ((s.1 15) 1 = 0)) (true) (false))))))))
set_option maxHeartbeats 4000000 in
theorem dzt_M252_64 (s : q_S) (c n : Nat) (a1 : Int32) : q_Ca q_TB0 1 251 [.ref 64, .int a1] (q_kM s c n) ((q_oB (q_kM s c n)) (dz_M252_64 s a1)) := by
  refine q_CaT_of (φ := (q_oB (q_kM s c n))) (Nat.le_of_ble_eq_true rfl) ?_
  unfold dz_M252_64
  refine q_RT_seg (g2 := (4, [(0, .ref 64), (1, .int a1)], [.int 162, .int a1], (q_kM s c n))) 2 (fun _ _ => rfl) ?_
  cases h1 : decide (a1 < 162) with
  | true =>
    refine q_RT_cT ?_
    refine q_RT_rsF (g2 := (7, [(0, .ref 64), (1, .int a1)], [], (q_kM s c n))) rfl rfl (q_d_geT h1) ?_
    refine q_RT_seg (g2 := (13, [(0, .ref 64), (1, .int a1)], [.int ((s.1 15) 4)], (q_kM s c n))) 4 (fun _ _ => rfl) ?_
    refine q_RT_seg (g2 := (60, [(2, .int ((s.1 15) 4)), (0, .ref 64), (1, .int a1)], [.int 161, .int a1, .int ((s.1 15) 4)], (q_kM s c n))) 5 (fun _ _ => rfl) ?_
    cases h2 : decide (a1 = 161) with
    | true =>
      refine q_RT_cT ?_
      refine q_RT_rsT (g2 := (84, [(2, .int ((s.1 15) 4)), (0, .ref 64), (1, .int a1)], [.int ((s.1 15) 4)], (q_kM s c n))) rfl rfl h2 ?_
      refine q_RT_seg (g2 := (89, [(2, .int ((s.1 15) 4)), (0, .ref 64), (1, .int a1)], [.int 1, .int ((s.1 15) 4)], (q_kM s c n))) 2 (fun _ _ => rfl) ?_
      cases h3 : decide ((s.1 15) 4 = 1) with
      | true =>
        refine q_RT_cT ?_
        refine q_RT_rsF (g2 := (92, [(2, .int ((s.1 15) 4)), (0, .ref 64), (1, .int a1)], [], (q_kM s c n))) rfl rfl (q_d_neT h3) ?_
        refine q_RT_seg (g2 := (97, [(2, .int ((s.1 15) 4)), (0, .ref 64), (1, .int a1)], [.int 1], (q_kM s c n))) 2 (fun _ _ => rfl) ?_
        exact q_RT_ret rfl rfl rfl
      | false =>
        refine q_RT_cF ?_
        refine q_RT_rsT (g2 := (96, [(2, .int ((s.1 15) 4)), (0, .ref 64), (1, .int a1)], [], (q_kM s c n))) rfl rfl (q_d_neF h3) ?_
        refine q_RT_seg (g2 := (97, [(2, .int ((s.1 15) 4)), (0, .ref 64), (1, .int a1)], [.int 0], (q_kM s c n))) 1 (fun _ _ => rfl) ?_
        exact q_RT_ret rfl rfl rfl
    | false =>
      refine q_RT_cF ?_
      refine q_RT_rsF (g2 := (63, [(2, .int ((s.1 15) 4)), (0, .ref 64), (1, .int a1)], [.int ((s.1 15) 4)], (q_kM s c n))) rfl rfl h2 ?_
      refine q_RT_seg (g2 := (67, [(2, .int ((s.1 15) 4)), (0, .ref 64), (1, .int a1)], [.int 163, .int a1, .int ((s.1 15) 4)], (q_kM s c n))) 2 (fun _ _ => rfl) ?_
      cases h4 : decide (a1 = 163) with
      | true =>
        refine q_RT_cT ?_
        refine q_RT_rsT (g2 := (84, [(2, .int ((s.1 15) 4)), (0, .ref 64), (1, .int a1)], [.int ((s.1 15) 4)], (q_kM s c n))) rfl rfl h4 ?_
        refine q_RT_seg (g2 := (89, [(2, .int ((s.1 15) 4)), (0, .ref 64), (1, .int a1)], [.int 1, .int ((s.1 15) 4)], (q_kM s c n))) 2 (fun _ _ => rfl) ?_
        cases h5 : decide ((s.1 15) 4 = 1) with
        | true =>
          refine q_RT_cT ?_
          refine q_RT_rsF (g2 := (92, [(2, .int ((s.1 15) 4)), (0, .ref 64), (1, .int a1)], [], (q_kM s c n))) rfl rfl (q_d_neT h5) ?_
          refine q_RT_seg (g2 := (97, [(2, .int ((s.1 15) 4)), (0, .ref 64), (1, .int a1)], [.int 1], (q_kM s c n))) 2 (fun _ _ => rfl) ?_
          exact q_RT_ret rfl rfl rfl
        | false =>
          refine q_RT_cF ?_
          refine q_RT_rsT (g2 := (96, [(2, .int ((s.1 15) 4)), (0, .ref 64), (1, .int a1)], [], (q_kM s c n))) rfl rfl (q_d_neF h5) ?_
          refine q_RT_seg (g2 := (97, [(2, .int ((s.1 15) 4)), (0, .ref 64), (1, .int a1)], [.int 0], (q_kM s c n))) 1 (fun _ _ => rfl) ?_
          exact q_RT_ret rfl rfl rfl
      | false =>
        refine q_RT_cF ?_
        refine q_RT_rsF (g2 := (70, [(2, .int ((s.1 15) 4)), (0, .ref 64), (1, .int a1)], [.int ((s.1 15) 4)], (q_kM s c n))) rfl rfl h4 ?_
        refine q_RT_seg (g2 := (74, [(2, .int ((s.1 15) 4)), (0, .ref 64), (1, .int a1)], [.int 165, .int a1, .int ((s.1 15) 4)], (q_kM s c n))) 2 (fun _ _ => rfl) ?_
        cases h6 : decide (a1 = 165) with
        | true =>
          refine q_RT_cT ?_
          refine q_RT_rsT (g2 := (84, [(2, .int ((s.1 15) 4)), (0, .ref 64), (1, .int a1)], [.int ((s.1 15) 4)], (q_kM s c n))) rfl rfl h6 ?_
          refine q_RT_seg (g2 := (89, [(2, .int ((s.1 15) 4)), (0, .ref 64), (1, .int a1)], [.int 1, .int ((s.1 15) 4)], (q_kM s c n))) 2 (fun _ _ => rfl) ?_
          cases h7 : decide ((s.1 15) 4 = 1) with
          | true =>
            refine q_RT_cT ?_
            refine q_RT_rsF (g2 := (92, [(2, .int ((s.1 15) 4)), (0, .ref 64), (1, .int a1)], [], (q_kM s c n))) rfl rfl (q_d_neT h7) ?_
            refine q_RT_seg (g2 := (97, [(2, .int ((s.1 15) 4)), (0, .ref 64), (1, .int a1)], [.int 1], (q_kM s c n))) 2 (fun _ _ => rfl) ?_
            exact q_RT_ret rfl rfl rfl
          | false =>
            refine q_RT_cF ?_
            refine q_RT_rsT (g2 := (96, [(2, .int ((s.1 15) 4)), (0, .ref 64), (1, .int a1)], [], (q_kM s c n))) rfl rfl (q_d_neF h7) ?_
            refine q_RT_seg (g2 := (97, [(2, .int ((s.1 15) 4)), (0, .ref 64), (1, .int a1)], [.int 0], (q_kM s c n))) 1 (fun _ _ => rfl) ?_
            exact q_RT_ret rfl rfl rfl
        | false =>
          refine q_RT_cF ?_
          refine q_RT_rsF (g2 := (77, [(2, .int ((s.1 15) 4)), (0, .ref 64), (1, .int a1)], [.int ((s.1 15) 4)], (q_kM s c n))) rfl rfl h6 ?_
          refine q_RT_seg (g2 := (81, [(2, .int ((s.1 15) 4)), (0, .ref 64), (1, .int a1)], [.int 167, .int a1, .int ((s.1 15) 4)], (q_kM s c n))) 2 (fun _ _ => rfl) ?_
          cases h8 : decide (a1 = 167) with
          | true =>
            refine q_RT_cT ?_
            refine q_RT_rsF (g2 := (84, [(2, .int ((s.1 15) 4)), (0, .ref 64), (1, .int a1)], [.int ((s.1 15) 4)], (q_kM s c n))) rfl rfl (q_d_neT h8) ?_
            refine q_RT_seg (g2 := (89, [(2, .int ((s.1 15) 4)), (0, .ref 64), (1, .int a1)], [.int 1, .int ((s.1 15) 4)], (q_kM s c n))) 2 (fun _ _ => rfl) ?_
            cases h9 : decide ((s.1 15) 4 = 1) with
            | true =>
              refine q_RT_cT ?_
              refine q_RT_rsF (g2 := (92, [(2, .int ((s.1 15) 4)), (0, .ref 64), (1, .int a1)], [], (q_kM s c n))) rfl rfl (q_d_neT h9) ?_
              refine q_RT_seg (g2 := (97, [(2, .int ((s.1 15) 4)), (0, .ref 64), (1, .int a1)], [.int 1], (q_kM s c n))) 2 (fun _ _ => rfl) ?_
              exact q_RT_ret rfl rfl rfl
            | false =>
              refine q_RT_cF ?_
              refine q_RT_rsT (g2 := (96, [(2, .int ((s.1 15) 4)), (0, .ref 64), (1, .int a1)], [], (q_kM s c n))) rfl rfl (q_d_neF h9) ?_
              refine q_RT_seg (g2 := (97, [(2, .int ((s.1 15) 4)), (0, .ref 64), (1, .int a1)], [.int 0], (q_kM s c n))) 1 (fun _ _ => rfl) ?_
              exact q_RT_ret rfl rfl rfl
          | false =>
            refine q_RT_cF ?_
            refine q_RT_rsT (g2 := (88, [(2, .int ((s.1 15) 4)), (0, .ref 64), (1, .int a1)], [.int ((s.1 15) 4)], (q_kM s c n))) rfl rfl (q_d_neF h8) ?_
            refine q_RT_seg (g2 := (89, [(2, .int ((s.1 15) 4)), (0, .ref 64), (1, .int a1)], [.int 0, .int ((s.1 15) 4)], (q_kM s c n))) 1 (fun _ _ => rfl) ?_
            cases h10 : decide ((s.1 15) 4 = 0) with
            | true =>
              refine q_RT_cT ?_
              refine q_RT_rsF (g2 := (92, [(2, .int ((s.1 15) 4)), (0, .ref 64), (1, .int a1)], [], (q_kM s c n))) rfl rfl (q_d_neT h10) ?_
              refine q_RT_seg (g2 := (97, [(2, .int ((s.1 15) 4)), (0, .ref 64), (1, .int a1)], [.int 1], (q_kM s c n))) 2 (fun _ _ => rfl) ?_
              exact q_RT_ret rfl rfl rfl
            | false =>
              refine q_RT_cF ?_
              refine q_RT_rsT (g2 := (96, [(2, .int ((s.1 15) 4)), (0, .ref 64), (1, .int a1)], [], (q_kM s c n))) rfl rfl (q_d_neF h10) ?_
              refine q_RT_seg (g2 := (97, [(2, .int ((s.1 15) 4)), (0, .ref 64), (1, .int a1)], [.int 0], (q_kM s c n))) 1 (fun _ _ => rfl) ?_
              exact q_RT_ret rfl rfl rfl
  | false =>
    refine q_RT_cF ?_
    refine q_RT_rsT (g2 := (16, [(0, .ref 64), (1, .int a1)], [], (q_kM s c n))) rfl rfl (q_d_geF h1) ?_
    refine q_RT_seg (g2 := (20, [(0, .ref 64), (1, .int a1)], [.int 164, .int a1], (q_kM s c n))) 2 (fun _ _ => rfl) ?_
    cases h11 : decide (a1 < 164) with
    | true =>
      refine q_RT_cT ?_
      refine q_RT_rsF (g2 := (23, [(0, .ref 64), (1, .int a1)], [], (q_kM s c n))) rfl rfl (q_d_geT h11) ?_
      refine q_RT_seg (g2 := (29, [(0, .ref 64), (1, .int a1)], [.int ((s.1 15) 5)], (q_kM s c n))) 4 (fun _ _ => rfl) ?_
      refine q_RT_seg (g2 := (60, [(2, .int ((s.1 15) 5)), (0, .ref 64), (1, .int a1)], [.int 161, .int a1, .int ((s.1 15) 5)], (q_kM s c n))) 5 (fun _ _ => rfl) ?_
      cases h12 : decide (a1 = 161) with
      | true =>
        refine q_RT_cT ?_
        refine q_RT_rsT (g2 := (84, [(2, .int ((s.1 15) 5)), (0, .ref 64), (1, .int a1)], [.int ((s.1 15) 5)], (q_kM s c n))) rfl rfl h12 ?_
        refine q_RT_seg (g2 := (89, [(2, .int ((s.1 15) 5)), (0, .ref 64), (1, .int a1)], [.int 1, .int ((s.1 15) 5)], (q_kM s c n))) 2 (fun _ _ => rfl) ?_
        cases h13 : decide ((s.1 15) 5 = 1) with
        | true =>
          refine q_RT_cT ?_
          refine q_RT_rsF (g2 := (92, [(2, .int ((s.1 15) 5)), (0, .ref 64), (1, .int a1)], [], (q_kM s c n))) rfl rfl (q_d_neT h13) ?_
          refine q_RT_seg (g2 := (97, [(2, .int ((s.1 15) 5)), (0, .ref 64), (1, .int a1)], [.int 1], (q_kM s c n))) 2 (fun _ _ => rfl) ?_
          exact q_RT_ret rfl rfl rfl
        | false =>
          refine q_RT_cF ?_
          refine q_RT_rsT (g2 := (96, [(2, .int ((s.1 15) 5)), (0, .ref 64), (1, .int a1)], [], (q_kM s c n))) rfl rfl (q_d_neF h13) ?_
          refine q_RT_seg (g2 := (97, [(2, .int ((s.1 15) 5)), (0, .ref 64), (1, .int a1)], [.int 0], (q_kM s c n))) 1 (fun _ _ => rfl) ?_
          exact q_RT_ret rfl rfl rfl
      | false =>
        refine q_RT_cF ?_
        refine q_RT_rsF (g2 := (63, [(2, .int ((s.1 15) 5)), (0, .ref 64), (1, .int a1)], [.int ((s.1 15) 5)], (q_kM s c n))) rfl rfl h12 ?_
        refine q_RT_seg (g2 := (67, [(2, .int ((s.1 15) 5)), (0, .ref 64), (1, .int a1)], [.int 163, .int a1, .int ((s.1 15) 5)], (q_kM s c n))) 2 (fun _ _ => rfl) ?_
        cases h14 : decide (a1 = 163) with
        | true =>
          refine q_RT_cT ?_
          refine q_RT_rsT (g2 := (84, [(2, .int ((s.1 15) 5)), (0, .ref 64), (1, .int a1)], [.int ((s.1 15) 5)], (q_kM s c n))) rfl rfl h14 ?_
          refine q_RT_seg (g2 := (89, [(2, .int ((s.1 15) 5)), (0, .ref 64), (1, .int a1)], [.int 1, .int ((s.1 15) 5)], (q_kM s c n))) 2 (fun _ _ => rfl) ?_
          cases h15 : decide ((s.1 15) 5 = 1) with
          | true =>
            refine q_RT_cT ?_
            refine q_RT_rsF (g2 := (92, [(2, .int ((s.1 15) 5)), (0, .ref 64), (1, .int a1)], [], (q_kM s c n))) rfl rfl (q_d_neT h15) ?_
            refine q_RT_seg (g2 := (97, [(2, .int ((s.1 15) 5)), (0, .ref 64), (1, .int a1)], [.int 1], (q_kM s c n))) 2 (fun _ _ => rfl) ?_
            exact q_RT_ret rfl rfl rfl
          | false =>
            refine q_RT_cF ?_
            refine q_RT_rsT (g2 := (96, [(2, .int ((s.1 15) 5)), (0, .ref 64), (1, .int a1)], [], (q_kM s c n))) rfl rfl (q_d_neF h15) ?_
            refine q_RT_seg (g2 := (97, [(2, .int ((s.1 15) 5)), (0, .ref 64), (1, .int a1)], [.int 0], (q_kM s c n))) 1 (fun _ _ => rfl) ?_
            exact q_RT_ret rfl rfl rfl
        | false =>
          refine q_RT_cF ?_
          refine q_RT_rsF (g2 := (70, [(2, .int ((s.1 15) 5)), (0, .ref 64), (1, .int a1)], [.int ((s.1 15) 5)], (q_kM s c n))) rfl rfl h14 ?_
          refine q_RT_seg (g2 := (74, [(2, .int ((s.1 15) 5)), (0, .ref 64), (1, .int a1)], [.int 165, .int a1, .int ((s.1 15) 5)], (q_kM s c n))) 2 (fun _ _ => rfl) ?_
          cases h16 : decide (a1 = 165) with
          | true =>
            refine q_RT_cT ?_
            refine q_RT_rsT (g2 := (84, [(2, .int ((s.1 15) 5)), (0, .ref 64), (1, .int a1)], [.int ((s.1 15) 5)], (q_kM s c n))) rfl rfl h16 ?_
            refine q_RT_seg (g2 := (89, [(2, .int ((s.1 15) 5)), (0, .ref 64), (1, .int a1)], [.int 1, .int ((s.1 15) 5)], (q_kM s c n))) 2 (fun _ _ => rfl) ?_
            cases h17 : decide ((s.1 15) 5 = 1) with
            | true =>
              refine q_RT_cT ?_
              refine q_RT_rsF (g2 := (92, [(2, .int ((s.1 15) 5)), (0, .ref 64), (1, .int a1)], [], (q_kM s c n))) rfl rfl (q_d_neT h17) ?_
              refine q_RT_seg (g2 := (97, [(2, .int ((s.1 15) 5)), (0, .ref 64), (1, .int a1)], [.int 1], (q_kM s c n))) 2 (fun _ _ => rfl) ?_
              exact q_RT_ret rfl rfl rfl
            | false =>
              refine q_RT_cF ?_
              refine q_RT_rsT (g2 := (96, [(2, .int ((s.1 15) 5)), (0, .ref 64), (1, .int a1)], [], (q_kM s c n))) rfl rfl (q_d_neF h17) ?_
              refine q_RT_seg (g2 := (97, [(2, .int ((s.1 15) 5)), (0, .ref 64), (1, .int a1)], [.int 0], (q_kM s c n))) 1 (fun _ _ => rfl) ?_
              exact q_RT_ret rfl rfl rfl
          | false =>
            refine q_RT_cF ?_
            refine q_RT_rsF (g2 := (77, [(2, .int ((s.1 15) 5)), (0, .ref 64), (1, .int a1)], [.int ((s.1 15) 5)], (q_kM s c n))) rfl rfl h16 ?_
            refine q_RT_seg (g2 := (81, [(2, .int ((s.1 15) 5)), (0, .ref 64), (1, .int a1)], [.int 167, .int a1, .int ((s.1 15) 5)], (q_kM s c n))) 2 (fun _ _ => rfl) ?_
            cases h18 : decide (a1 = 167) with
            | true =>
              refine q_RT_cT ?_
              refine q_RT_rsF (g2 := (84, [(2, .int ((s.1 15) 5)), (0, .ref 64), (1, .int a1)], [.int ((s.1 15) 5)], (q_kM s c n))) rfl rfl (q_d_neT h18) ?_
              refine q_RT_seg (g2 := (89, [(2, .int ((s.1 15) 5)), (0, .ref 64), (1, .int a1)], [.int 1, .int ((s.1 15) 5)], (q_kM s c n))) 2 (fun _ _ => rfl) ?_
              cases h19 : decide ((s.1 15) 5 = 1) with
              | true =>
                refine q_RT_cT ?_
                refine q_RT_rsF (g2 := (92, [(2, .int ((s.1 15) 5)), (0, .ref 64), (1, .int a1)], [], (q_kM s c n))) rfl rfl (q_d_neT h19) ?_
                refine q_RT_seg (g2 := (97, [(2, .int ((s.1 15) 5)), (0, .ref 64), (1, .int a1)], [.int 1], (q_kM s c n))) 2 (fun _ _ => rfl) ?_
                exact q_RT_ret rfl rfl rfl
              | false =>
                refine q_RT_cF ?_
                refine q_RT_rsT (g2 := (96, [(2, .int ((s.1 15) 5)), (0, .ref 64), (1, .int a1)], [], (q_kM s c n))) rfl rfl (q_d_neF h19) ?_
                refine q_RT_seg (g2 := (97, [(2, .int ((s.1 15) 5)), (0, .ref 64), (1, .int a1)], [.int 0], (q_kM s c n))) 1 (fun _ _ => rfl) ?_
                exact q_RT_ret rfl rfl rfl
            | false =>
              refine q_RT_cF ?_
              refine q_RT_rsT (g2 := (88, [(2, .int ((s.1 15) 5)), (0, .ref 64), (1, .int a1)], [.int ((s.1 15) 5)], (q_kM s c n))) rfl rfl (q_d_neF h18) ?_
              refine q_RT_seg (g2 := (89, [(2, .int ((s.1 15) 5)), (0, .ref 64), (1, .int a1)], [.int 0, .int ((s.1 15) 5)], (q_kM s c n))) 1 (fun _ _ => rfl) ?_
              cases h20 : decide ((s.1 15) 5 = 0) with
              | true =>
                refine q_RT_cT ?_
                refine q_RT_rsF (g2 := (92, [(2, .int ((s.1 15) 5)), (0, .ref 64), (1, .int a1)], [], (q_kM s c n))) rfl rfl (q_d_neT h20) ?_
                refine q_RT_seg (g2 := (97, [(2, .int ((s.1 15) 5)), (0, .ref 64), (1, .int a1)], [.int 1], (q_kM s c n))) 2 (fun _ _ => rfl) ?_
                exact q_RT_ret rfl rfl rfl
              | false =>
                refine q_RT_cF ?_
                refine q_RT_rsT (g2 := (96, [(2, .int ((s.1 15) 5)), (0, .ref 64), (1, .int a1)], [], (q_kM s c n))) rfl rfl (q_d_neF h20) ?_
                refine q_RT_seg (g2 := (97, [(2, .int ((s.1 15) 5)), (0, .ref 64), (1, .int a1)], [.int 0], (q_kM s c n))) 1 (fun _ _ => rfl) ?_
                exact q_RT_ret rfl rfl rfl
    | false =>
      refine q_RT_cF ?_
      refine q_RT_rsT (g2 := (32, [(0, .ref 64), (1, .int a1)], [], (q_kM s c n))) rfl rfl (q_d_geF h11) ?_
      refine q_RT_seg (g2 := (36, [(0, .ref 64), (1, .int a1)], [.int 166, .int a1], (q_kM s c n))) 2 (fun _ _ => rfl) ?_
      cases h21 : decide (a1 < 166) with
      | true =>
        refine q_RT_cT ?_
        refine q_RT_rsF (g2 := (39, [(0, .ref 64), (1, .int a1)], [], (q_kM s c n))) rfl rfl (q_d_geT h21) ?_
        refine q_RT_seg (g2 := (45, [(0, .ref 64), (1, .int a1)], [.int ((s.1 15) 0)], (q_kM s c n))) 4 (fun _ _ => rfl) ?_
        refine q_RT_seg (g2 := (60, [(2, .int ((s.1 15) 0)), (0, .ref 64), (1, .int a1)], [.int 161, .int a1, .int ((s.1 15) 0)], (q_kM s c n))) 5 (fun _ _ => rfl) ?_
        cases h22 : decide (a1 = 161) with
        | true =>
          refine q_RT_cT ?_
          refine q_RT_rsT (g2 := (84, [(2, .int ((s.1 15) 0)), (0, .ref 64), (1, .int a1)], [.int ((s.1 15) 0)], (q_kM s c n))) rfl rfl h22 ?_
          refine q_RT_seg (g2 := (89, [(2, .int ((s.1 15) 0)), (0, .ref 64), (1, .int a1)], [.int 1, .int ((s.1 15) 0)], (q_kM s c n))) 2 (fun _ _ => rfl) ?_
          cases h23 : decide ((s.1 15) 0 = 1) with
          | true =>
            refine q_RT_cT ?_
            refine q_RT_rsF (g2 := (92, [(2, .int ((s.1 15) 0)), (0, .ref 64), (1, .int a1)], [], (q_kM s c n))) rfl rfl (q_d_neT h23) ?_
            refine q_RT_seg (g2 := (97, [(2, .int ((s.1 15) 0)), (0, .ref 64), (1, .int a1)], [.int 1], (q_kM s c n))) 2 (fun _ _ => rfl) ?_
            exact q_RT_ret rfl rfl rfl
          | false =>
            refine q_RT_cF ?_
            refine q_RT_rsT (g2 := (96, [(2, .int ((s.1 15) 0)), (0, .ref 64), (1, .int a1)], [], (q_kM s c n))) rfl rfl (q_d_neF h23) ?_
            refine q_RT_seg (g2 := (97, [(2, .int ((s.1 15) 0)), (0, .ref 64), (1, .int a1)], [.int 0], (q_kM s c n))) 1 (fun _ _ => rfl) ?_
            exact q_RT_ret rfl rfl rfl
        | false =>
          refine q_RT_cF ?_
          refine q_RT_rsF (g2 := (63, [(2, .int ((s.1 15) 0)), (0, .ref 64), (1, .int a1)], [.int ((s.1 15) 0)], (q_kM s c n))) rfl rfl h22 ?_
          refine q_RT_seg (g2 := (67, [(2, .int ((s.1 15) 0)), (0, .ref 64), (1, .int a1)], [.int 163, .int a1, .int ((s.1 15) 0)], (q_kM s c n))) 2 (fun _ _ => rfl) ?_
          cases h24 : decide (a1 = 163) with
          | true =>
            refine q_RT_cT ?_
            refine q_RT_rsT (g2 := (84, [(2, .int ((s.1 15) 0)), (0, .ref 64), (1, .int a1)], [.int ((s.1 15) 0)], (q_kM s c n))) rfl rfl h24 ?_
            refine q_RT_seg (g2 := (89, [(2, .int ((s.1 15) 0)), (0, .ref 64), (1, .int a1)], [.int 1, .int ((s.1 15) 0)], (q_kM s c n))) 2 (fun _ _ => rfl) ?_
            cases h25 : decide ((s.1 15) 0 = 1) with
            | true =>
              refine q_RT_cT ?_
              refine q_RT_rsF (g2 := (92, [(2, .int ((s.1 15) 0)), (0, .ref 64), (1, .int a1)], [], (q_kM s c n))) rfl rfl (q_d_neT h25) ?_
              refine q_RT_seg (g2 := (97, [(2, .int ((s.1 15) 0)), (0, .ref 64), (1, .int a1)], [.int 1], (q_kM s c n))) 2 (fun _ _ => rfl) ?_
              exact q_RT_ret rfl rfl rfl
            | false =>
              refine q_RT_cF ?_
              refine q_RT_rsT (g2 := (96, [(2, .int ((s.1 15) 0)), (0, .ref 64), (1, .int a1)], [], (q_kM s c n))) rfl rfl (q_d_neF h25) ?_
              refine q_RT_seg (g2 := (97, [(2, .int ((s.1 15) 0)), (0, .ref 64), (1, .int a1)], [.int 0], (q_kM s c n))) 1 (fun _ _ => rfl) ?_
              exact q_RT_ret rfl rfl rfl
          | false =>
            refine q_RT_cF ?_
            refine q_RT_rsF (g2 := (70, [(2, .int ((s.1 15) 0)), (0, .ref 64), (1, .int a1)], [.int ((s.1 15) 0)], (q_kM s c n))) rfl rfl h24 ?_
            refine q_RT_seg (g2 := (74, [(2, .int ((s.1 15) 0)), (0, .ref 64), (1, .int a1)], [.int 165, .int a1, .int ((s.1 15) 0)], (q_kM s c n))) 2 (fun _ _ => rfl) ?_
            cases h26 : decide (a1 = 165) with
            | true =>
              refine q_RT_cT ?_
              refine q_RT_rsT (g2 := (84, [(2, .int ((s.1 15) 0)), (0, .ref 64), (1, .int a1)], [.int ((s.1 15) 0)], (q_kM s c n))) rfl rfl h26 ?_
              refine q_RT_seg (g2 := (89, [(2, .int ((s.1 15) 0)), (0, .ref 64), (1, .int a1)], [.int 1, .int ((s.1 15) 0)], (q_kM s c n))) 2 (fun _ _ => rfl) ?_
              cases h27 : decide ((s.1 15) 0 = 1) with
              | true =>
                refine q_RT_cT ?_
                refine q_RT_rsF (g2 := (92, [(2, .int ((s.1 15) 0)), (0, .ref 64), (1, .int a1)], [], (q_kM s c n))) rfl rfl (q_d_neT h27) ?_
                refine q_RT_seg (g2 := (97, [(2, .int ((s.1 15) 0)), (0, .ref 64), (1, .int a1)], [.int 1], (q_kM s c n))) 2 (fun _ _ => rfl) ?_
                exact q_RT_ret rfl rfl rfl
              | false =>
                refine q_RT_cF ?_
                refine q_RT_rsT (g2 := (96, [(2, .int ((s.1 15) 0)), (0, .ref 64), (1, .int a1)], [], (q_kM s c n))) rfl rfl (q_d_neF h27) ?_
                refine q_RT_seg (g2 := (97, [(2, .int ((s.1 15) 0)), (0, .ref 64), (1, .int a1)], [.int 0], (q_kM s c n))) 1 (fun _ _ => rfl) ?_
                exact q_RT_ret rfl rfl rfl
            | false =>
              refine q_RT_cF ?_
              refine q_RT_rsF (g2 := (77, [(2, .int ((s.1 15) 0)), (0, .ref 64), (1, .int a1)], [.int ((s.1 15) 0)], (q_kM s c n))) rfl rfl h26 ?_
              refine q_RT_seg (g2 := (81, [(2, .int ((s.1 15) 0)), (0, .ref 64), (1, .int a1)], [.int 167, .int a1, .int ((s.1 15) 0)], (q_kM s c n))) 2 (fun _ _ => rfl) ?_
              cases h28 : decide (a1 = 167) with
              | true =>
                refine q_RT_cT ?_
                refine q_RT_rsF (g2 := (84, [(2, .int ((s.1 15) 0)), (0, .ref 64), (1, .int a1)], [.int ((s.1 15) 0)], (q_kM s c n))) rfl rfl (q_d_neT h28) ?_
                refine q_RT_seg (g2 := (89, [(2, .int ((s.1 15) 0)), (0, .ref 64), (1, .int a1)], [.int 1, .int ((s.1 15) 0)], (q_kM s c n))) 2 (fun _ _ => rfl) ?_
                cases h29 : decide ((s.1 15) 0 = 1) with
                | true =>
                  refine q_RT_cT ?_
                  refine q_RT_rsF (g2 := (92, [(2, .int ((s.1 15) 0)), (0, .ref 64), (1, .int a1)], [], (q_kM s c n))) rfl rfl (q_d_neT h29) ?_
                  refine q_RT_seg (g2 := (97, [(2, .int ((s.1 15) 0)), (0, .ref 64), (1, .int a1)], [.int 1], (q_kM s c n))) 2 (fun _ _ => rfl) ?_
                  exact q_RT_ret rfl rfl rfl
                | false =>
                  refine q_RT_cF ?_
                  refine q_RT_rsT (g2 := (96, [(2, .int ((s.1 15) 0)), (0, .ref 64), (1, .int a1)], [], (q_kM s c n))) rfl rfl (q_d_neF h29) ?_
                  refine q_RT_seg (g2 := (97, [(2, .int ((s.1 15) 0)), (0, .ref 64), (1, .int a1)], [.int 0], (q_kM s c n))) 1 (fun _ _ => rfl) ?_
                  exact q_RT_ret rfl rfl rfl
              | false =>
                refine q_RT_cF ?_
                refine q_RT_rsT (g2 := (88, [(2, .int ((s.1 15) 0)), (0, .ref 64), (1, .int a1)], [.int ((s.1 15) 0)], (q_kM s c n))) rfl rfl (q_d_neF h28) ?_
                refine q_RT_seg (g2 := (89, [(2, .int ((s.1 15) 0)), (0, .ref 64), (1, .int a1)], [.int 0, .int ((s.1 15) 0)], (q_kM s c n))) 1 (fun _ _ => rfl) ?_
                cases h30 : decide ((s.1 15) 0 = 0) with
                | true =>
                  refine q_RT_cT ?_
                  refine q_RT_rsF (g2 := (92, [(2, .int ((s.1 15) 0)), (0, .ref 64), (1, .int a1)], [], (q_kM s c n))) rfl rfl (q_d_neT h30) ?_
                  refine q_RT_seg (g2 := (97, [(2, .int ((s.1 15) 0)), (0, .ref 64), (1, .int a1)], [.int 1], (q_kM s c n))) 2 (fun _ _ => rfl) ?_
                  exact q_RT_ret rfl rfl rfl
                | false =>
                  refine q_RT_cF ?_
                  refine q_RT_rsT (g2 := (96, [(2, .int ((s.1 15) 0)), (0, .ref 64), (1, .int a1)], [], (q_kM s c n))) rfl rfl (q_d_neF h30) ?_
                  refine q_RT_seg (g2 := (97, [(2, .int ((s.1 15) 0)), (0, .ref 64), (1, .int a1)], [.int 0], (q_kM s c n))) 1 (fun _ _ => rfl) ?_
                  exact q_RT_ret rfl rfl rfl
      | false =>
        refine q_RT_cF ?_
        refine q_RT_rsT (g2 := (48, [(0, .ref 64), (1, .int a1)], [], (q_kM s c n))) rfl rfl (q_d_geF h21) ?_
        refine q_RT_seg (g2 := (54, [(0, .ref 64), (1, .int a1)], [.int ((s.1 15) 1)], (q_kM s c n))) 4 (fun _ _ => rfl) ?_
        refine q_RT_seg (g2 := (60, [(2, .int ((s.1 15) 1)), (0, .ref 64), (1, .int a1)], [.int 161, .int a1, .int ((s.1 15) 1)], (q_kM s c n))) 4 (fun _ _ => rfl) ?_
        cases h31 : decide (a1 = 161) with
        | true =>
          refine q_RT_cT ?_
          refine q_RT_rsT (g2 := (84, [(2, .int ((s.1 15) 1)), (0, .ref 64), (1, .int a1)], [.int ((s.1 15) 1)], (q_kM s c n))) rfl rfl h31 ?_
          refine q_RT_seg (g2 := (89, [(2, .int ((s.1 15) 1)), (0, .ref 64), (1, .int a1)], [.int 1, .int ((s.1 15) 1)], (q_kM s c n))) 2 (fun _ _ => rfl) ?_
          cases h32 : decide ((s.1 15) 1 = 1) with
          | true =>
            refine q_RT_cT ?_
            refine q_RT_rsF (g2 := (92, [(2, .int ((s.1 15) 1)), (0, .ref 64), (1, .int a1)], [], (q_kM s c n))) rfl rfl (q_d_neT h32) ?_
            refine q_RT_seg (g2 := (97, [(2, .int ((s.1 15) 1)), (0, .ref 64), (1, .int a1)], [.int 1], (q_kM s c n))) 2 (fun _ _ => rfl) ?_
            exact q_RT_ret rfl rfl rfl
          | false =>
            refine q_RT_cF ?_
            refine q_RT_rsT (g2 := (96, [(2, .int ((s.1 15) 1)), (0, .ref 64), (1, .int a1)], [], (q_kM s c n))) rfl rfl (q_d_neF h32) ?_
            refine q_RT_seg (g2 := (97, [(2, .int ((s.1 15) 1)), (0, .ref 64), (1, .int a1)], [.int 0], (q_kM s c n))) 1 (fun _ _ => rfl) ?_
            exact q_RT_ret rfl rfl rfl
        | false =>
          refine q_RT_cF ?_
          refine q_RT_rsF (g2 := (63, [(2, .int ((s.1 15) 1)), (0, .ref 64), (1, .int a1)], [.int ((s.1 15) 1)], (q_kM s c n))) rfl rfl h31 ?_
          refine q_RT_seg (g2 := (67, [(2, .int ((s.1 15) 1)), (0, .ref 64), (1, .int a1)], [.int 163, .int a1, .int ((s.1 15) 1)], (q_kM s c n))) 2 (fun _ _ => rfl) ?_
          cases h33 : decide (a1 = 163) with
          | true =>
            refine q_RT_cT ?_
            refine q_RT_rsT (g2 := (84, [(2, .int ((s.1 15) 1)), (0, .ref 64), (1, .int a1)], [.int ((s.1 15) 1)], (q_kM s c n))) rfl rfl h33 ?_
            refine q_RT_seg (g2 := (89, [(2, .int ((s.1 15) 1)), (0, .ref 64), (1, .int a1)], [.int 1, .int ((s.1 15) 1)], (q_kM s c n))) 2 (fun _ _ => rfl) ?_
            cases h34 : decide ((s.1 15) 1 = 1) with
            | true =>
              refine q_RT_cT ?_
              refine q_RT_rsF (g2 := (92, [(2, .int ((s.1 15) 1)), (0, .ref 64), (1, .int a1)], [], (q_kM s c n))) rfl rfl (q_d_neT h34) ?_
              refine q_RT_seg (g2 := (97, [(2, .int ((s.1 15) 1)), (0, .ref 64), (1, .int a1)], [.int 1], (q_kM s c n))) 2 (fun _ _ => rfl) ?_
              exact q_RT_ret rfl rfl rfl
            | false =>
              refine q_RT_cF ?_
              refine q_RT_rsT (g2 := (96, [(2, .int ((s.1 15) 1)), (0, .ref 64), (1, .int a1)], [], (q_kM s c n))) rfl rfl (q_d_neF h34) ?_
              refine q_RT_seg (g2 := (97, [(2, .int ((s.1 15) 1)), (0, .ref 64), (1, .int a1)], [.int 0], (q_kM s c n))) 1 (fun _ _ => rfl) ?_
              exact q_RT_ret rfl rfl rfl
          | false =>
            refine q_RT_cF ?_
            refine q_RT_rsF (g2 := (70, [(2, .int ((s.1 15) 1)), (0, .ref 64), (1, .int a1)], [.int ((s.1 15) 1)], (q_kM s c n))) rfl rfl h33 ?_
            refine q_RT_seg (g2 := (74, [(2, .int ((s.1 15) 1)), (0, .ref 64), (1, .int a1)], [.int 165, .int a1, .int ((s.1 15) 1)], (q_kM s c n))) 2 (fun _ _ => rfl) ?_
            cases h35 : decide (a1 = 165) with
            | true =>
              refine q_RT_cT ?_
              refine q_RT_rsT (g2 := (84, [(2, .int ((s.1 15) 1)), (0, .ref 64), (1, .int a1)], [.int ((s.1 15) 1)], (q_kM s c n))) rfl rfl h35 ?_
              refine q_RT_seg (g2 := (89, [(2, .int ((s.1 15) 1)), (0, .ref 64), (1, .int a1)], [.int 1, .int ((s.1 15) 1)], (q_kM s c n))) 2 (fun _ _ => rfl) ?_
              cases h36 : decide ((s.1 15) 1 = 1) with
              | true =>
                refine q_RT_cT ?_
                refine q_RT_rsF (g2 := (92, [(2, .int ((s.1 15) 1)), (0, .ref 64), (1, .int a1)], [], (q_kM s c n))) rfl rfl (q_d_neT h36) ?_
                refine q_RT_seg (g2 := (97, [(2, .int ((s.1 15) 1)), (0, .ref 64), (1, .int a1)], [.int 1], (q_kM s c n))) 2 (fun _ _ => rfl) ?_
                exact q_RT_ret rfl rfl rfl
              | false =>
                refine q_RT_cF ?_
                refine q_RT_rsT (g2 := (96, [(2, .int ((s.1 15) 1)), (0, .ref 64), (1, .int a1)], [], (q_kM s c n))) rfl rfl (q_d_neF h36) ?_
                refine q_RT_seg (g2 := (97, [(2, .int ((s.1 15) 1)), (0, .ref 64), (1, .int a1)], [.int 0], (q_kM s c n))) 1 (fun _ _ => rfl) ?_
                exact q_RT_ret rfl rfl rfl
            | false =>
              refine q_RT_cF ?_
              refine q_RT_rsF (g2 := (77, [(2, .int ((s.1 15) 1)), (0, .ref 64), (1, .int a1)], [.int ((s.1 15) 1)], (q_kM s c n))) rfl rfl h35 ?_
              refine q_RT_seg (g2 := (81, [(2, .int ((s.1 15) 1)), (0, .ref 64), (1, .int a1)], [.int 167, .int a1, .int ((s.1 15) 1)], (q_kM s c n))) 2 (fun _ _ => rfl) ?_
              cases h37 : decide (a1 = 167) with
              | true =>
                refine q_RT_cT ?_
                refine q_RT_rsF (g2 := (84, [(2, .int ((s.1 15) 1)), (0, .ref 64), (1, .int a1)], [.int ((s.1 15) 1)], (q_kM s c n))) rfl rfl (q_d_neT h37) ?_
                refine q_RT_seg (g2 := (89, [(2, .int ((s.1 15) 1)), (0, .ref 64), (1, .int a1)], [.int 1, .int ((s.1 15) 1)], (q_kM s c n))) 2 (fun _ _ => rfl) ?_
                cases h38 : decide ((s.1 15) 1 = 1) with
                | true =>
                  refine q_RT_cT ?_
                  refine q_RT_rsF (g2 := (92, [(2, .int ((s.1 15) 1)), (0, .ref 64), (1, .int a1)], [], (q_kM s c n))) rfl rfl (q_d_neT h38) ?_
                  refine q_RT_seg (g2 := (97, [(2, .int ((s.1 15) 1)), (0, .ref 64), (1, .int a1)], [.int 1], (q_kM s c n))) 2 (fun _ _ => rfl) ?_
                  exact q_RT_ret rfl rfl rfl
                | false =>
                  refine q_RT_cF ?_
                  refine q_RT_rsT (g2 := (96, [(2, .int ((s.1 15) 1)), (0, .ref 64), (1, .int a1)], [], (q_kM s c n))) rfl rfl (q_d_neF h38) ?_
                  refine q_RT_seg (g2 := (97, [(2, .int ((s.1 15) 1)), (0, .ref 64), (1, .int a1)], [.int 0], (q_kM s c n))) 1 (fun _ _ => rfl) ?_
                  exact q_RT_ret rfl rfl rfl
              | false =>
                refine q_RT_cF ?_
                refine q_RT_rsT (g2 := (88, [(2, .int ((s.1 15) 1)), (0, .ref 64), (1, .int a1)], [.int ((s.1 15) 1)], (q_kM s c n))) rfl rfl (q_d_neF h37) ?_
                refine q_RT_seg (g2 := (89, [(2, .int ((s.1 15) 1)), (0, .ref 64), (1, .int a1)], [.int 0, .int ((s.1 15) 1)], (q_kM s c n))) 1 (fun _ _ => rfl) ?_
                cases h39 : decide ((s.1 15) 1 = 0) with
                | true =>
                  refine q_RT_cT ?_
                  refine q_RT_rsF (g2 := (92, [(2, .int ((s.1 15) 1)), (0, .ref 64), (1, .int a1)], [], (q_kM s c n))) rfl rfl (q_d_neT h39) ?_
                  refine q_RT_seg (g2 := (97, [(2, .int ((s.1 15) 1)), (0, .ref 64), (1, .int a1)], [.int 1], (q_kM s c n))) 2 (fun _ _ => rfl) ?_
                  exact q_RT_ret rfl rfl rfl
                | false =>
                  refine q_RT_cF ?_
                  refine q_RT_rsT (g2 := (96, [(2, .int ((s.1 15) 1)), (0, .ref 64), (1, .int a1)], [], (q_kM s c n))) rfl rfl (q_d_neF h39) ?_
                  refine q_RT_seg (g2 := (97, [(2, .int ((s.1 15) 1)), (0, .ref 64), (1, .int a1)], [.int 0], (q_kM s c n))) 1 (fun _ _ => rfl) ?_
                  exact q_RT_ret rfl rfl rfl
def dz_M253_64 (s : q_S) (a1 : Int32) : Option (q_S × Int32) :=
  (dz_M247_64 s (a1 + 1)).bind fun r2 => cond (decide (127 < r2.2)) (q_let (dz_M213 r2.1 ((a1 + 2) + (r2.2 - 256))) fun r3 => some (r2.1, r3)) (q_let (dz_M213 r2.1 ((a1 + 2) + r2.2)) fun r4 => some (r2.1, r4))
set_option maxHeartbeats 4000000 in
theorem dzt_M253_64 (s : q_S) (c n : Nat) (a1 : Int32) (x : q_S × Int32) (h : dz_M253_64 s a1 = some x) : q_Ca q_TB0 6 252 [.ref 64, .int a1] (q_kM s c n) ((q_oIM c n) x) := by
  refine q_CaP_of (φ := (q_oIM c n)) (Nat.le_of_ble_eq_true rfl) ?_ h
  clear h
  unfold dz_M253_64
  refine q_RP_seg (g2 := (4, [(0, .ref 64), (1, .int a1)], [.int (a1 + 1), .ref 64], (q_kM s c n))) 4 (fun _ _ => rfl) ?_
  refine q_RP_bd fun r2 er2 => ?_
  refine q_RP_call (v := (some (.int r2.2))) (h2 := (q_kM r2.1 c n)) rfl rfl ((dzt_M247_64 s c n (a1 + 1) r2 er2).le (Nat.le_of_ble_eq_true rfl)) ?_
  show q_RP _ _ _ (7, [(0, .ref 64), (1, .int a1)], [.int r2.2], (q_kM r2.1 c n)) _ _
  refine q_RP_seg (g2 := (14, [(2, .int r2.2), (0, .ref 64), (1, .int a1)], [.int 127, .int r2.2, .int (a1 + 2)], (q_kM r2.1 c n))) 6 (fun _ _ => rfl) ?_
  cases h1 : decide (127 < r2.2) with
  | true =>
    refine q_RP_cT ?_
    refine q_RP_rsF (g2 := (17, [(2, .int r2.2), (0, .ref 64), (1, .int a1)], [.int (a1 + 2)], (q_kM r2.1 c n))) rfl rfl (q_d_geT h1) ?_
    refine q_RP_seg (g2 := (27, [(2, .int r2.2), (0, .ref 64), (1, .int a1)], [.int ((a1 + 2) + (r2.2 - 256))], (q_kM r2.1 c n))) 5 (fun _ _ => rfl) ?_
    refine q_RP_call (v := (some (.int (dz_M213 r2.1 ((a1 + 2) + (r2.2 - 256)))))) (h2 := (q_kM r2.1 c n)) rfl rfl ((dzt_M213 r2.1 c n ((a1 + 2) + (r2.2 - 256))).le (Nat.le_of_ble_eq_true rfl)) ?_
    generalize dz_M213 r2.1 ((a1 + 2) + (r2.2 - 256)) = r3
    refine q_RP_let ?_
    show q_RP _ _ _ (30, [(2, .int r2.2), (0, .ref 64), (1, .int a1)], [.int r3], (q_kM r2.1 c n)) _ _
    exact q_RP_ret rfl rfl rfl
  | false =>
    refine q_RP_cF ?_
    refine q_RP_rsT (g2 := (25, [(2, .int r2.2), (0, .ref 64), (1, .int a1)], [.int (a1 + 2)], (q_kM r2.1 c n))) rfl rfl (q_d_geF h1) ?_
    refine q_RP_seg (g2 := (27, [(2, .int r2.2), (0, .ref 64), (1, .int a1)], [.int ((a1 + 2) + r2.2)], (q_kM r2.1 c n))) 2 (fun _ _ => rfl) ?_
    refine q_RP_call (v := (some (.int (dz_M213 r2.1 ((a1 + 2) + r2.2))))) (h2 := (q_kM r2.1 c n)) rfl rfl ((dzt_M213 r2.1 c n ((a1 + 2) + r2.2)).le (Nat.le_of_ble_eq_true rfl)) ?_
    generalize dz_M213 r2.1 ((a1 + 2) + r2.2) = r4
    refine q_RP_let ?_
    show q_RP _ _ _ (30, [(2, .int r2.2), (0, .ref 64), (1, .int a1)], [.int r4], (q_kM r2.1 c n)) _ _
    exact q_RP_ret rfl rfl rfl
def dz_M248_64 (s : q_S) (a1 : Int32) : Option (q_S × Int32) :=
  (dz_M247_64 s a1).bind fun r2 => (dz_M247_64 r2.1 (a1 + 1)).bind fun r3 => q_let (dz_M213 r3.1 (r2.2 + (256 * r3.2))) fun r4 => some (r3.1, r4)
set_option maxHeartbeats 4000000 in
theorem dzt_M248_64 (s : q_S) (c n : Nat) (a1 : Int32) (x : q_S × Int32) (h : dz_M248_64 s a1 = some x) : q_Ca q_TB0 6 247 [.ref 64, .int a1] (q_kM s c n) ((q_oIM c n) x) := by
  refine q_CaP_of (φ := (q_oIM c n)) (Nat.le_of_ble_eq_true rfl) ?_ h
  clear h
  unfold dz_M248_64
  refine q_RP_seg (g2 := (2, [(0, .ref 64), (1, .int a1)], [.int a1, .ref 64], (q_kM s c n))) 2 (fun _ _ => rfl) ?_
  refine q_RP_bd fun r2 er2 => ?_
  refine q_RP_call (v := (some (.int r2.2))) (h2 := (q_kM r2.1 c n)) rfl rfl ((dzt_M247_64 s c n a1 r2 er2).le (Nat.le_of_ble_eq_true rfl)) ?_
  show q_RP _ _ _ (5, [(0, .ref 64), (1, .int a1)], [.int r2.2], (q_kM r2.1 c n)) _ _
  refine q_RP_seg (g2 := (12, [(0, .ref 64), (1, .int a1)], [.int (a1 + 1), .ref 64, .int 256, .int r2.2], (q_kM r2.1 c n))) 5 (fun _ _ => rfl) ?_
  refine q_RP_bd fun r3 er3 => ?_
  refine q_RP_call (v := (some (.int r3.2))) (h2 := (q_kM r3.1 c n)) rfl rfl ((dzt_M247_64 r2.1 c n (a1 + 1) r3 er3).le (Nat.le_of_ble_eq_true rfl)) ?_
  show q_RP _ _ _ (15, [(0, .ref 64), (1, .int a1)], [.int r3.2, .int 256, .int r2.2], (q_kM r3.1 c n)) _ _
  refine q_RP_seg (g2 := (17, [(0, .ref 64), (1, .int a1)], [.int (r2.2 + (256 * r3.2))], (q_kM r3.1 c n))) 2 (fun _ _ => rfl) ?_
  refine q_RP_call (v := (some (.int (dz_M213 r3.1 (r2.2 + (256 * r3.2)))))) (h2 := (q_kM r3.1 c n)) rfl rfl ((dzt_M213 r3.1 c n (r2.2 + (256 * r3.2))).le (Nat.le_of_ble_eq_true rfl)) ?_
  generalize dz_M213 r3.1 (r2.2 + (256 * r3.2)) = r4
  refine q_RP_let ?_
  show q_RP _ _ _ (20, [(0, .ref 64), (1, .int a1)], [.int r4], (q_kM r3.1 c n)) _ _
  exact q_RP_ret rfl rfl rfl
def dz_M249_64 (s : q_S) (a1 : Int32) (a2 : Int32) : Option (q_S × Int32) :=
  cond (decide (a1 < 6)) ((dz_M248_64 s (a2 + 1)).bind fun r2 => some (r2.1, r2.2)) ((dz_M247_64 s (a2 + 1)).bind fun r3 => (dz_M247_64 r3.1 r3.2).bind fun r4 => (dz_M247_64 r4.1 ((r3.2 + 1) - (r3.2 + 1) / 256 * 256)).bind fun r5 => q_let (dz_M213 r5.1 (r4.2 + (256 * r5.2))) fun r6 => some (r5.1, r6))
set_option maxHeartbeats 4000000 in
theorem dzt_M249_64 (s : q_S) (c n : Nat) (a1 : Int32) (a2 : Int32) (x : q_S × Int32) (h : dz_M249_64 s a1 a2 = some x) : q_Ca q_TB0 7 248 [.ref 64, .int a1, .int a2] (q_kM s c n) ((q_oIM c n) x) := by
  refine q_CaP_of (φ := (q_oIM c n)) (Nat.le_of_ble_eq_true rfl) ?_ h
  clear h
  unfold dz_M249_64
  refine q_RP_seg (g2 := (3, [(0, .ref 64), (1, .int a1), (2, .int a2)], [.int 6, .int a1], (q_kM s c n))) 2 (fun _ _ => rfl) ?_
  cases h2 : decide (a1 < 6) with
  | true =>
    refine q_RP_cT ?_
    refine q_RP_rsF (g2 := (6, [(0, .ref 64), (1, .int a1), (2, .int a2)], [], (q_kM s c n))) rfl rfl (q_d_geT h2) ?_
    refine q_RP_seg (g2 := (10, [(0, .ref 64), (1, .int a1), (2, .int a2)], [.int (a2 + 1), .ref 64], (q_kM s c n))) 4 (fun _ _ => rfl) ?_
    refine q_RP_bd fun r2 er2 => ?_
    refine q_RP_call (v := (some (.int r2.2))) (h2 := (q_kM r2.1 c n)) rfl rfl ((dzt_M248_64 s c n (a2 + 1) r2 er2).le (Nat.le_of_ble_eq_true rfl)) ?_
    show q_RP _ _ _ (13, [(0, .ref 64), (1, .int a1), (2, .int a2)], [.int r2.2], (q_kM r2.1 c n)) _ _
    exact q_RP_ret rfl rfl rfl
  | false =>
    refine q_RP_cF ?_
    refine q_RP_rsT (g2 := (14, [(0, .ref 64), (1, .int a1), (2, .int a2)], [], (q_kM s c n))) rfl rfl (q_d_geF h2) ?_
    refine q_RP_seg (g2 := (18, [(0, .ref 64), (1, .int a1), (2, .int a2)], [.int (a2 + 1), .ref 64], (q_kM s c n))) 4 (fun _ _ => rfl) ?_
    refine q_RP_bd fun r3 er3 => ?_
    refine q_RP_call (v := (some (.int r3.2))) (h2 := (q_kM r3.1 c n)) rfl rfl ((dzt_M247_64 s c n (a2 + 1) r3 er3).le (Nat.le_of_ble_eq_true rfl)) ?_
    show q_RP _ _ _ (21, [(0, .ref 64), (1, .int a1), (2, .int a2)], [.int r3.2], (q_kM r3.1 c n)) _ _
    refine q_RP_seg (g2 := (24, [(3, .int r3.2), (0, .ref 64), (1, .int a1), (2, .int a2)], [.int r3.2, .ref 64], (q_kM r3.1 c n))) 3 (fun _ _ => rfl) ?_
    refine q_RP_bd fun r4 er4 => ?_
    refine q_RP_call (v := (some (.int r4.2))) (h2 := (q_kM r4.1 c n)) rfl rfl ((dzt_M247_64 r3.1 c n r3.2 r4 er4).le (Nat.le_of_ble_eq_true rfl)) ?_
    show q_RP _ _ _ (27, [(3, .int r3.2), (0, .ref 64), (1, .int a1), (2, .int a2)], [.int r4.2], (q_kM r4.1 c n)) _ _
    refine q_RP_seg (g2 := (38, [(3, .int r3.2), (0, .ref 64), (1, .int a1), (2, .int a2)], [.int ((r3.2 + 1) - (r3.2 + 1) / 256 * 256), .ref 64, .int 256, .int r4.2], (q_kM r4.1 c n))) 7 (fun _ _ => rfl) ?_
    refine q_RP_bd fun r5 er5 => ?_
    refine q_RP_call (v := (some (.int r5.2))) (h2 := (q_kM r5.1 c n)) rfl rfl ((dzt_M247_64 r4.1 c n ((r3.2 + 1) - (r3.2 + 1) / 256 * 256) r5 er5).le (Nat.le_of_ble_eq_true rfl)) ?_
    show q_RP _ _ _ (41, [(3, .int r3.2), (0, .ref 64), (1, .int a1), (2, .int a2)], [.int r5.2, .int 256, .int r4.2], (q_kM r5.1 c n)) _ _
    refine q_RP_seg (g2 := (43, [(3, .int r3.2), (0, .ref 64), (1, .int a1), (2, .int a2)], [.int (r4.2 + (256 * r5.2))], (q_kM r5.1 c n))) 2 (fun _ _ => rfl) ?_
    refine q_RP_call (v := (some (.int (dz_M213 r5.1 (r4.2 + (256 * r5.2)))))) (h2 := (q_kM r5.1 c n)) rfl rfl ((dzt_M213 r5.1 c n (r4.2 + (256 * r5.2))).le (Nat.le_of_ble_eq_true rfl)) ?_
    generalize dz_M213 r5.1 (r4.2 + (256 * r5.2)) = r6
    refine q_RP_let ?_
    show q_RP _ _ _ (46, [(3, .int r3.2), (0, .ref 64), (1, .int a1), (2, .int a2)], [.int r6], (q_kM r5.1 c n)) _ _
    exact q_RP_ret rfl rfl rfl
def dz_M250_64 (s : q_S) (a1 : Int32) (a2 : Int32) : Option (q_S × Int32) :=
  cond (decide (a1 = 1)) ((dz_M247_64 s (a2 + 1)).bind fun r2 => some (r2.1, r2.2)) (cond (decide (a1 = 2)) ((dz_M247_64 s (a2 + 1)).bind fun r3 => some (r3.1, ((r3.2 + ((r3.1.1 14) 1)) - (r3.2 + ((r3.1.1 14) 1)) / 256 * 256))) (cond (decide (a1 = 3)) ((dz_M248_64 s (a2 + 1)).bind fun r4 => some (r4.1, r4.2)) (cond (decide (a1 = 4)) ((dz_M249_64 s a1 a2).bind fun r5 => q_let (dz_M213 r5.1 (r5.2 + ((r5.1.1 14) 1))) fun r6 => some (r5.1, r6)) (cond (decide (a1 < 7)) ((dz_M249_64 s a1 a2).bind fun r7 => q_let (dz_M213 r7.1 (r7.2 + ((r7.1.1 14) 2))) fun r8 => some (r7.1, r8)) ((dz_M247_64 s (a2 + 1)).bind fun r9 => q_let ((r9.2 + ((r9.1.1 14) 1)) - (r9.2 + ((r9.1.1 14) 1)) / 256 * 256) fun x10 => (dz_M247_64 r9.1 x10).bind fun r11 => (dz_M247_64 r11.1 ((x10 + 1) - (x10 + 1) / 256 * 256)).bind fun r12 => q_let (dz_M213 r12.1 (r11.2 + (256 * r12.2))) fun r13 => some (r12.1, r13))))))
set_option maxHeartbeats 4000000 in
theorem dzt_M250_64 (s : q_S) (c n : Nat) (a1 : Int32) (a2 : Int32) (x : q_S × Int32) (h : dz_M250_64 s a1 a2 = some x) : q_Ca q_TB0 8 249 [.ref 64, .int a1, .int a2] (q_kM s c n) ((q_oIM c n) x) := by
  refine q_CaP_of (φ := (q_oIM c n)) (Nat.le_of_ble_eq_true rfl) ?_ h
  clear h
  unfold dz_M250_64
  refine q_RP_seg (g2 := (2, [(0, .ref 64), (1, .int a1), (2, .int a2)], [.int 1, .int a1], (q_kM s c n))) 2 (fun _ _ => rfl) ?_
  cases h2 : decide (a1 = 1) with
  | true =>
    refine q_RP_cT ?_
    refine q_RP_rsF (g2 := (5, [(0, .ref 64), (1, .int a1), (2, .int a2)], [], (q_kM s c n))) rfl rfl (q_d_neT h2) ?_
    refine q_RP_seg (g2 := (9, [(0, .ref 64), (1, .int a1), (2, .int a2)], [.int (a2 + 1), .ref 64], (q_kM s c n))) 4 (fun _ _ => rfl) ?_
    refine q_RP_bd fun r2 er2 => ?_
    refine q_RP_call (v := (some (.int r2.2))) (h2 := (q_kM r2.1 c n)) rfl rfl ((dzt_M247_64 s c n (a2 + 1) r2 er2).le (Nat.le_of_ble_eq_true rfl)) ?_
    show q_RP _ _ _ (12, [(0, .ref 64), (1, .int a1), (2, .int a2)], [.int r2.2], (q_kM r2.1 c n)) _ _
    exact q_RP_ret rfl rfl rfl
  | false =>
    refine q_RP_cF ?_
    refine q_RP_rsT (g2 := (13, [(0, .ref 64), (1, .int a1), (2, .int a2)], [], (q_kM s c n))) rfl rfl (q_d_neF h2) ?_
    refine q_RP_seg (g2 := (15, [(0, .ref 64), (1, .int a1), (2, .int a2)], [.int 2, .int a1], (q_kM s c n))) 2 (fun _ _ => rfl) ?_
    cases h3 : decide (a1 = 2) with
    | true =>
      refine q_RP_cT ?_
      refine q_RP_rsF (g2 := (18, [(0, .ref 64), (1, .int a1), (2, .int a2)], [], (q_kM s c n))) rfl rfl (q_d_neT h3) ?_
      refine q_RP_seg (g2 := (22, [(0, .ref 64), (1, .int a1), (2, .int a2)], [.int (a2 + 1), .ref 64], (q_kM s c n))) 4 (fun _ _ => rfl) ?_
      refine q_RP_bd fun r3 er3 => ?_
      refine q_RP_call (v := (some (.int r3.2))) (h2 := (q_kM r3.1 c n)) rfl rfl ((dzt_M247_64 s c n (a2 + 1) r3 er3).le (Nat.le_of_ble_eq_true rfl)) ?_
      show q_RP _ _ _ (25, [(0, .ref 64), (1, .int a1), (2, .int a2)], [.int r3.2], (q_kM r3.1 c n)) _ _
      refine q_RP_seg (g2 := (31, [(0, .ref 64), (1, .int a1), (2, .int a2)], [.int ((r3.1.1 14) 1), .int r3.2], (q_kM r3.1 c n))) 4 (fun _ _ => rfl) ?_
      refine q_RP_seg (g2 := (36, [(0, .ref 64), (1, .int a1), (2, .int a2)], [.int ((r3.2 + ((r3.1.1 14) 1)) - (r3.2 + ((r3.1.1 14) 1)) / 256 * 256)], (q_kM r3.1 c n))) 3 (fun _ _ => rfl) ?_
      exact q_RP_ret rfl rfl rfl
    | false =>
      refine q_RP_cF ?_
      refine q_RP_rsT (g2 := (37, [(0, .ref 64), (1, .int a1), (2, .int a2)], [], (q_kM s c n))) rfl rfl (q_d_neF h3) ?_
      refine q_RP_seg (g2 := (39, [(0, .ref 64), (1, .int a1), (2, .int a2)], [.int 3, .int a1], (q_kM s c n))) 2 (fun _ _ => rfl) ?_
      cases h4 : decide (a1 = 3) with
      | true =>
        refine q_RP_cT ?_
        refine q_RP_rsF (g2 := (42, [(0, .ref 64), (1, .int a1), (2, .int a2)], [], (q_kM s c n))) rfl rfl (q_d_neT h4) ?_
        refine q_RP_seg (g2 := (46, [(0, .ref 64), (1, .int a1), (2, .int a2)], [.int (a2 + 1), .ref 64], (q_kM s c n))) 4 (fun _ _ => rfl) ?_
        refine q_RP_bd fun r4 er4 => ?_
        refine q_RP_call (v := (some (.int r4.2))) (h2 := (q_kM r4.1 c n)) rfl rfl ((dzt_M248_64 s c n (a2 + 1) r4 er4).le (Nat.le_of_ble_eq_true rfl)) ?_
        show q_RP _ _ _ (49, [(0, .ref 64), (1, .int a1), (2, .int a2)], [.int r4.2], (q_kM r4.1 c n)) _ _
        exact q_RP_ret rfl rfl rfl
      | false =>
        refine q_RP_cF ?_
        refine q_RP_rsT (g2 := (50, [(0, .ref 64), (1, .int a1), (2, .int a2)], [], (q_kM s c n))) rfl rfl (q_d_neF h4) ?_
        refine q_RP_seg (g2 := (52, [(0, .ref 64), (1, .int a1), (2, .int a2)], [.int 4, .int a1], (q_kM s c n))) 2 (fun _ _ => rfl) ?_
        cases h5 : decide (a1 = 4) with
        | true =>
          refine q_RP_cT ?_
          refine q_RP_rsF (g2 := (55, [(0, .ref 64), (1, .int a1), (2, .int a2)], [], (q_kM s c n))) rfl rfl (q_d_neT h5) ?_
          refine q_RP_seg (g2 := (58, [(0, .ref 64), (1, .int a1), (2, .int a2)], [.int a2, .int a1, .ref 64], (q_kM s c n))) 3 (fun _ _ => rfl) ?_
          refine q_RP_bd fun r5 er5 => ?_
          refine q_RP_call (v := (some (.int r5.2))) (h2 := (q_kM r5.1 c n)) rfl rfl ((dzt_M249_64 s c n a1 a2 r5 er5).le (Nat.le_of_ble_eq_true rfl)) ?_
          show q_RP _ _ _ (61, [(0, .ref 64), (1, .int a1), (2, .int a2)], [.int r5.2], (q_kM r5.1 c n)) _ _
          refine q_RP_seg (g2 := (67, [(0, .ref 64), (1, .int a1), (2, .int a2)], [.int ((r5.1.1 14) 1), .int r5.2], (q_kM r5.1 c n))) 4 (fun _ _ => rfl) ?_
          refine q_RP_seg (g2 := (68, [(0, .ref 64), (1, .int a1), (2, .int a2)], [.int (r5.2 + ((r5.1.1 14) 1))], (q_kM r5.1 c n))) 1 (fun _ _ => rfl) ?_
          refine q_RP_call (v := (some (.int (dz_M213 r5.1 (r5.2 + ((r5.1.1 14) 1)))))) (h2 := (q_kM r5.1 c n)) rfl rfl ((dzt_M213 r5.1 c n (r5.2 + ((r5.1.1 14) 1))).le (Nat.le_of_ble_eq_true rfl)) ?_
          generalize dz_M213 r5.1 (r5.2 + ((r5.1.1 14) 1)) = r6
          refine q_RP_let ?_
          show q_RP _ _ _ (71, [(0, .ref 64), (1, .int a1), (2, .int a2)], [.int r6], (q_kM r5.1 c n)) _ _
          exact q_RP_ret rfl rfl rfl
        | false =>
          refine q_RP_cF ?_
          refine q_RP_rsT (g2 := (72, [(0, .ref 64), (1, .int a1), (2, .int a2)], [], (q_kM s c n))) rfl rfl (q_d_neF h5) ?_
          refine q_RP_seg (g2 := (75, [(0, .ref 64), (1, .int a1), (2, .int a2)], [.int 7, .int a1], (q_kM s c n))) 2 (fun _ _ => rfl) ?_
          cases h6 : decide (a1 < 7) with
          | true =>
            refine q_RP_cT ?_
            refine q_RP_rsF (g2 := (78, [(0, .ref 64), (1, .int a1), (2, .int a2)], [], (q_kM s c n))) rfl rfl (q_d_geT h6) ?_
            refine q_RP_seg (g2 := (81, [(0, .ref 64), (1, .int a1), (2, .int a2)], [.int a2, .int a1, .ref 64], (q_kM s c n))) 3 (fun _ _ => rfl) ?_
            refine q_RP_bd fun r7 er7 => ?_
            refine q_RP_call (v := (some (.int r7.2))) (h2 := (q_kM r7.1 c n)) rfl rfl ((dzt_M249_64 s c n a1 a2 r7 er7).le (Nat.le_of_ble_eq_true rfl)) ?_
            show q_RP _ _ _ (84, [(0, .ref 64), (1, .int a1), (2, .int a2)], [.int r7.2], (q_kM r7.1 c n)) _ _
            refine q_RP_seg (g2 := (90, [(0, .ref 64), (1, .int a1), (2, .int a2)], [.int ((r7.1.1 14) 2), .int r7.2], (q_kM r7.1 c n))) 4 (fun _ _ => rfl) ?_
            refine q_RP_seg (g2 := (91, [(0, .ref 64), (1, .int a1), (2, .int a2)], [.int (r7.2 + ((r7.1.1 14) 2))], (q_kM r7.1 c n))) 1 (fun _ _ => rfl) ?_
            refine q_RP_call (v := (some (.int (dz_M213 r7.1 (r7.2 + ((r7.1.1 14) 2)))))) (h2 := (q_kM r7.1 c n)) rfl rfl ((dzt_M213 r7.1 c n (r7.2 + ((r7.1.1 14) 2))).le (Nat.le_of_ble_eq_true rfl)) ?_
            generalize dz_M213 r7.1 (r7.2 + ((r7.1.1 14) 2)) = r8
            refine q_RP_let ?_
            show q_RP _ _ _ (94, [(0, .ref 64), (1, .int a1), (2, .int a2)], [.int r8], (q_kM r7.1 c n)) _ _
            exact q_RP_ret rfl rfl rfl
          | false =>
            refine q_RP_cF ?_
            refine q_RP_rsT (g2 := (95, [(0, .ref 64), (1, .int a1), (2, .int a2)], [], (q_kM s c n))) rfl rfl (q_d_geF h6) ?_
            refine q_RP_seg (g2 := (99, [(0, .ref 64), (1, .int a1), (2, .int a2)], [.int (a2 + 1), .ref 64], (q_kM s c n))) 4 (fun _ _ => rfl) ?_
            refine q_RP_bd fun r9 er9 => ?_
            refine q_RP_call (v := (some (.int r9.2))) (h2 := (q_kM r9.1 c n)) rfl rfl ((dzt_M247_64 s c n (a2 + 1) r9 er9).le (Nat.le_of_ble_eq_true rfl)) ?_
            show q_RP _ _ _ (102, [(0, .ref 64), (1, .int a1), (2, .int a2)], [.int r9.2], (q_kM r9.1 c n)) _ _
            refine q_RP_seg (g2 := (108, [(0, .ref 64), (1, .int a1), (2, .int a2)], [.int ((r9.1.1 14) 1), .int r9.2], (q_kM r9.1 c n))) 4 (fun _ _ => rfl) ?_
            refine q_RP_seg (g2 := (113, [(0, .ref 64), (1, .int a1), (2, .int a2)], [.int ((r9.2 + ((r9.1.1 14) 1)) - (r9.2 + ((r9.1.1 14) 1)) / 256 * 256)], (q_kM r9.1 c n))) 3 (fun _ _ => rfl) ?_
            generalize ((r9.2 + ((r9.1.1 14) 1)) - (r9.2 + ((r9.1.1 14) 1)) / 256 * 256) = x10
            refine q_RP_let ?_
            show q_RP _ _ _ (113, [(0, .ref 64), (1, .int a1), (2, .int a2)], [.int x10], (q_kM r9.1 c n)) _ _
            refine q_RP_seg (g2 := (116, [(3, .int x10), (0, .ref 64), (1, .int a1), (2, .int a2)], [.int x10, .ref 64], (q_kM r9.1 c n))) 3 (fun _ _ => rfl) ?_
            refine q_RP_bd fun r11 er11 => ?_
            refine q_RP_call (v := (some (.int r11.2))) (h2 := (q_kM r11.1 c n)) rfl rfl ((dzt_M247_64 r9.1 c n x10 r11 er11).le (Nat.le_of_ble_eq_true rfl)) ?_
            show q_RP _ _ _ (119, [(3, .int x10), (0, .ref 64), (1, .int a1), (2, .int a2)], [.int r11.2], (q_kM r11.1 c n)) _ _
            refine q_RP_seg (g2 := (130, [(3, .int x10), (0, .ref 64), (1, .int a1), (2, .int a2)], [.int ((x10 + 1) - (x10 + 1) / 256 * 256), .ref 64, .int 256, .int r11.2], (q_kM r11.1 c n))) 7 (fun _ _ => rfl) ?_
            refine q_RP_bd fun r12 er12 => ?_
            refine q_RP_call (v := (some (.int r12.2))) (h2 := (q_kM r12.1 c n)) rfl rfl ((dzt_M247_64 r11.1 c n ((x10 + 1) - (x10 + 1) / 256 * 256) r12 er12).le (Nat.le_of_ble_eq_true rfl)) ?_
            show q_RP _ _ _ (133, [(3, .int x10), (0, .ref 64), (1, .int a1), (2, .int a2)], [.int r12.2, .int 256, .int r11.2], (q_kM r12.1 c n)) _ _
            refine q_RP_seg (g2 := (135, [(3, .int x10), (0, .ref 64), (1, .int a1), (2, .int a2)], [.int (r11.2 + (256 * r12.2))], (q_kM r12.1 c n))) 2 (fun _ _ => rfl) ?_
            refine q_RP_call (v := (some (.int (dz_M213 r12.1 (r11.2 + (256 * r12.2)))))) (h2 := (q_kM r12.1 c n)) rfl rfl ((dzt_M213 r12.1 c n (r11.2 + (256 * r12.2))).le (Nat.le_of_ble_eq_true rfl)) ?_
            generalize dz_M213 r12.1 (r11.2 + (256 * r12.2)) = r13
            refine q_RP_let ?_
            show q_RP _ _ _ (138, [(3, .int x10), (0, .ref 64), (1, .int a1), (2, .int a2)], [.int r13], (q_kM r12.1 c n)) _ _
            exact q_RP_ret rfl rfl rfl
def dz_M245 (s : q_S) (a0 : Int32) : Bool :=
  q_let (dz_M202 s a0 3 5) fun r1 => cond r1 (true) (q_let (dz_M202 s a0 14 15) fun r2 => cond r2 (true) (q_let (dz_M202 s a0 17 19) fun r3 => cond r3 (true) (false)))
set_option maxHeartbeats 4000000 in
theorem dzt_M245 (s : q_S) (c n : Nat) (a0 : Int32) : q_Ca q_TB0 2 244 [.int a0] (q_kM s c n) ((q_oB (q_kM s c n)) (dz_M245 s a0)) := by
  refine q_CaT_of (φ := (q_oB (q_kM s c n))) (Nat.le_of_ble_eq_true rfl) ?_
  unfold dz_M245
  refine q_RT_seg (g2 := (3, [(0, .int a0)], [.int 5, .int 3, .int a0], (q_kM s c n))) 3 (fun _ _ => rfl) ?_
  refine q_RT_call (v := (some (.int (q_b (dz_M202 s a0 3 5))))) (h2 := (q_kM s c n)) rfl rfl ((dzt_M202 s c n a0 3 5).le (Nat.le_of_ble_eq_true rfl)) ?_
  generalize dz_M202 s a0 3 5 = r1
  refine q_RT_let ?_
  show q_RT _ _ _ (6, [(0, .int a0)], [.int (q_b r1)], (q_kM s c n)) _ _
  cases h1 : r1 with
  | true =>
    refine q_RT_cT ?_
    show q_RT _ _ _ (6, [(0, .int a0)], [.int 1], (q_kM s c n)) _ _
    refine q_RT_seg (g2 := (36, [(0, .int a0)], [.int 1], (q_kM s c n))) 3 (fun _ _ => rfl) ?_
    exact q_RT_ret rfl rfl rfl
  | false =>
    refine q_RT_cF ?_
    show q_RT _ _ _ (6, [(0, .int a0)], [.int 0], (q_kM s c n)) _ _
    refine q_RT_seg (g2 := (14, [(0, .int a0)], [.int 15, .int 14, .int a0], (q_kM s c n))) 4 (fun _ _ => rfl) ?_
    refine q_RT_call (v := (some (.int (q_b (dz_M202 s a0 14 15))))) (h2 := (q_kM s c n)) rfl rfl ((dzt_M202 s c n a0 14 15).le (Nat.le_of_ble_eq_true rfl)) ?_
    generalize dz_M202 s a0 14 15 = r2
    refine q_RT_let ?_
    show q_RT _ _ _ (17, [(0, .int a0)], [.int (q_b r2)], (q_kM s c n)) _ _
    cases h2 : r2 with
    | true =>
      refine q_RT_cT ?_
      show q_RT _ _ _ (17, [(0, .int a0)], [.int 1], (q_kM s c n)) _ _
      refine q_RT_seg (g2 := (36, [(0, .int a0)], [.int 1], (q_kM s c n))) 3 (fun _ _ => rfl) ?_
      exact q_RT_ret rfl rfl rfl
    | false =>
      refine q_RT_cF ?_
      show q_RT _ _ _ (17, [(0, .int a0)], [.int 0], (q_kM s c n)) _ _
      refine q_RT_seg (g2 := (25, [(0, .int a0)], [.int 19, .int 17, .int a0], (q_kM s c n))) 4 (fun _ _ => rfl) ?_
      refine q_RT_call (v := (some (.int (q_b (dz_M202 s a0 17 19))))) (h2 := (q_kM s c n)) rfl rfl ((dzt_M202 s c n a0 17 19).le (Nat.le_of_ble_eq_true rfl)) ?_
      generalize dz_M202 s a0 17 19 = r3
      refine q_RT_let ?_
      show q_RT _ _ _ (28, [(0, .int a0)], [.int (q_b r3)], (q_kM s c n)) _ _
      cases h3 : r3 with
      | true =>
        refine q_RT_cT ?_
        show q_RT _ _ _ (28, [(0, .int a0)], [.int 1], (q_kM s c n)) _ _
        refine q_RT_seg (g2 := (36, [(0, .int a0)], [.int 1], (q_kM s c n))) 3 (fun _ _ => rfl) ?_
        exact q_RT_ret rfl rfl rfl
      | false =>
        refine q_RT_cF ?_
        show q_RT _ _ _ (28, [(0, .int a0)], [.int 0], (q_kM s c n)) _ _
        refine q_RT_seg (g2 := (36, [(0, .int a0)], [.int 0], (q_kM s c n))) 2 (fun _ _ => rfl) ?_
        exact q_RT_ret rfl rfl rfl
def dz_M251_64_28 (s : q_S) (v1 : Int32) (v2 : Int32) (v3 : Int32) : Option (q_S × Int32) :=
  cond (decide (v2 = 1)) (q_let (dz_M202 s v2 4 6) fun r5 => cond r5 ((dz_M249_64 s v2 v3).bind fun r6 => (dz_M250_64 r6.1 v2 v3).bind fun r7 => cond (decide (r6.2 / 256 = r7.2 / 256)) (q_let (dz_M245 r7.1 v1) fun r8 => cond r8 (some (r7.1, 6)) (some (r7.1, 5))) (some (r7.1, 6))) (some (s, 5))) (cond (decide (v2 < 6)) (q_let (dz_M202 s v2 4 6) fun r9 => cond r9 ((dz_M249_64 s v2 v3).bind fun r10 => (dz_M250_64 r10.1 v2 v3).bind fun r11 => cond (decide (r10.2 / 256 = r11.2 / 256)) (q_let (dz_M245 r11.1 v1) fun r12 => cond r12 (some (r11.1, 7)) (some (r11.1, 6))) (some (r11.1, 7))) (some (s, 6))) (q_let (dz_M202 s v2 4 6) fun r13 => cond r13 ((dz_M249_64 s v2 v3).bind fun r14 => (dz_M250_64 r14.1 v2 v3).bind fun r15 => cond (decide (r14.2 / 256 = r15.2 / 256)) (q_let (dz_M245 r15.1 v1) fun r16 => cond r16 (some (r15.1, (((v2 - 1) + 2) + 1))) (some (r15.1, (((v2 - 1) + 2) + 0)))) (some (r15.1, (((v2 - 1) + 2) + 1)))) (some (s, ((v2 - 1) + 2)))))
set_option maxHeartbeats 4000000 in
theorem dzt_M251_64_28 (c n : Nat) (s : q_S) (v1 : Int32) (v2 : Int32) (v3 : Int32) : q_RP q_TB0 8 250 (28, [(0, .ref 64), (1, .int v1), (2, .int v2), (3, .int v3)], [], (q_kM s c n)) (q_oIM c n) (dz_M251_64_28 s v1 v2 v3) := by
  unfold dz_M251_64_28
  refine q_RP_seg (g2 := (37, [(4, .int 2), (0, .ref 64), (1, .int v1), (2, .int v2), (3, .int v3)], [.int 1, .int v2], (q_kM s c n))) 5 (fun _ _ => rfl) ?_
  cases h7 : decide (v2 = 1) with
  | true =>
    refine q_RP_cT ?_
    refine q_RP_rsF (g2 := (40, [(4, .int 2), (0, .ref 64), (1, .int v1), (2, .int v2), (3, .int v3)], [], (q_kM s c n))) rfl rfl (q_d_neT h7) ?_
    refine q_RP_seg (g2 := (63, [(5, .int 3), (4, .int 2), (0, .ref 64), (1, .int v1), (2, .int v2), (3, .int v3)], [.int 6, .int 4, .int v2], (q_kM s c n))) 6 (fun _ _ => rfl) ?_
    refine q_RP_call (v := (some (.int (q_b (dz_M202 s v2 4 6))))) (h2 := (q_kM s c n)) rfl rfl ((dzt_M202 s c n v2 4 6).le (Nat.le_of_ble_eq_true rfl)) ?_
    generalize dz_M202 s v2 4 6 = r5
    refine q_RP_let ?_
    show q_RP _ _ _ (66, [(5, .int 3), (4, .int 2), (0, .ref 64), (1, .int v1), (2, .int v2), (3, .int v3)], [.int (q_b r5)], (q_kM s c n)) _ _
    cases h8 : r5 with
    | true =>
      refine q_RP_cT ?_
      show q_RP _ _ _ (66, [(5, .int 3), (4, .int 2), (0, .ref 64), (1, .int v1), (2, .int v2), (3, .int v3)], [.int 1], (q_kM s c n)) _ _
      refine q_RP_seg (g2 := (78, [(5, .int 3), (4, .int 2), (0, .ref 64), (1, .int v1), (2, .int v2), (3, .int v3)], [.int v3, .int v2, .ref 64], (q_kM s c n))) 4 (fun _ _ => rfl) ?_
      refine q_RP_bd fun r6 er6 => ?_
      refine q_RP_call (v := (some (.int r6.2))) (h2 := (q_kM r6.1 c n)) rfl rfl ((dzt_M249_64 s c n v2 v3 r6 er6).le (Nat.le_of_ble_eq_true rfl)) ?_
      show q_RP _ _ _ (81, [(5, .int 3), (4, .int 2), (0, .ref 64), (1, .int v1), (2, .int v2), (3, .int v3)], [.int r6.2], (q_kM r6.1 c n)) _ _
      refine q_RP_seg (g2 := (88, [(5, .int 3), (4, .int 2), (0, .ref 64), (1, .int v1), (2, .int v2), (3, .int v3)], [.int v3, .int v2, .ref 64, .int (r6.2 / 256)], (q_kM r6.1 c n))) 5 (fun _ _ => rfl) ?_
      refine q_RP_bd fun r7 er7 => ?_
      refine q_RP_call (v := (some (.int r7.2))) (h2 := (q_kM r7.1 c n)) rfl rfl ((dzt_M250_64 r6.1 c n v2 v3 r7 er7).le (Nat.le_of_ble_eq_true rfl)) ?_
      show q_RP _ _ _ (91, [(5, .int 3), (4, .int 2), (0, .ref 64), (1, .int v1), (2, .int v2), (3, .int v3)], [.int r7.2, .int (r6.2 / 256)], (q_kM r7.1 c n)) _ _
      refine q_RP_seg (g2 := (95, [(5, .int 3), (4, .int 2), (0, .ref 64), (1, .int v1), (2, .int v2), (3, .int v3)], [.int (r7.2 / 256), .int (r6.2 / 256)], (q_kM r7.1 c n))) 2 (fun _ _ => rfl) ?_
      cases h9 : decide (r6.2 / 256 = r7.2 / 256) with
      | true =>
        refine q_RP_cT ?_
        refine q_RP_rsT (g2 := (102, [(5, .int 3), (4, .int 2), (0, .ref 64), (1, .int v1), (2, .int v2), (3, .int v3)], [], (q_kM r7.1 c n))) rfl rfl h9 ?_
        refine q_RP_seg (g2 := (116, [(6, .int 0), (5, .int 3), (4, .int 2), (0, .ref 64), (1, .int v1), (2, .int v2), (3, .int v3)], [.int v1, .int 5], (q_kM r7.1 c n))) 8 (fun _ _ => rfl) ?_
        refine q_RP_call (v := (some (.int (q_b (dz_M245 r7.1 v1))))) (h2 := (q_kM r7.1 c n)) rfl rfl ((dzt_M245 r7.1 c n v1).le (Nat.le_of_ble_eq_true rfl)) ?_
        generalize dz_M245 r7.1 v1 = r8
        refine q_RP_let ?_
        show q_RP _ _ _ (119, [(6, .int 0), (5, .int 3), (4, .int 2), (0, .ref 64), (1, .int v1), (2, .int v2), (3, .int v3)], [.int (q_b r8), .int 5], (q_kM r7.1 c n)) _ _
        cases h10 : r8 with
        | true =>
          refine q_RP_cT ?_
          show q_RP _ _ _ (119, [(6, .int 0), (5, .int 3), (4, .int 2), (0, .ref 64), (1, .int v1), (2, .int v2), (3, .int v3)], [.int 1, .int 5], (q_kM r7.1 c n)) _ _
          refine q_RP_seg (g2 := (128, [(6, .int 0), (5, .int 3), (4, .int 2), (0, .ref 64), (1, .int v1), (2, .int v2), (3, .int v3)], [.int 6], (q_kM r7.1 c n))) 4 (fun _ _ => rfl) ?_
          exact q_RP_ret rfl rfl rfl
        | false =>
          refine q_RP_cF ?_
          show q_RP _ _ _ (119, [(6, .int 0), (5, .int 3), (4, .int 2), (0, .ref 64), (1, .int v1), (2, .int v2), (3, .int v3)], [.int 0, .int 5], (q_kM r7.1 c n)) _ _
          refine q_RP_seg (g2 := (128, [(6, .int 0), (5, .int 3), (4, .int 2), (0, .ref 64), (1, .int v1), (2, .int v2), (3, .int v3)], [.int 5], (q_kM r7.1 c n))) 3 (fun _ _ => rfl) ?_
          exact q_RP_ret rfl rfl rfl
      | false =>
        refine q_RP_cF ?_
        refine q_RP_rsF (g2 := (98, [(5, .int 3), (4, .int 2), (0, .ref 64), (1, .int v1), (2, .int v2), (3, .int v3)], [], (q_kM r7.1 c n))) rfl rfl h9 ?_
        refine q_RP_seg (g2 := (128, [(6, .int 1), (5, .int 3), (4, .int 2), (0, .ref 64), (1, .int v1), (2, .int v2), (3, .int v3)], [.int 6], (q_kM r7.1 c n))) 11 (fun _ _ => rfl) ?_
        exact q_RP_ret rfl rfl rfl
    | false =>
      refine q_RP_cF ?_
      show q_RP _ _ _ (66, [(5, .int 3), (4, .int 2), (0, .ref 64), (1, .int v1), (2, .int v2), (3, .int v3)], [.int 0], (q_kM s c n)) _ _
      refine q_RP_seg (g2 := (74, [(5, .int 3), (4, .int 2), (0, .ref 64), (1, .int v1), (2, .int v2), (3, .int v3)], [.int 5], (q_kM s c n))) 4 (fun _ _ => rfl) ?_
      exact q_RP_ret rfl rfl rfl
  | false =>
    refine q_RP_cF ?_
    refine q_RP_rsT (g2 := (44, [(4, .int 2), (0, .ref 64), (1, .int v1), (2, .int v2), (3, .int v3)], [], (q_kM s c n))) rfl rfl (q_d_neF h7) ?_
    refine q_RP_seg (g2 := (47, [(4, .int 2), (0, .ref 64), (1, .int v1), (2, .int v2), (3, .int v3)], [.int 6, .int v2], (q_kM s c n))) 2 (fun _ _ => rfl) ?_
    cases h11 : decide (v2 < 6) with
    | true =>
      refine q_RP_cT ?_
      refine q_RP_rsF (g2 := (50, [(4, .int 2), (0, .ref 64), (1, .int v1), (2, .int v2), (3, .int v3)], [], (q_kM s c n))) rfl rfl (q_d_geT h11) ?_
      refine q_RP_seg (g2 := (63, [(5, .int 4), (4, .int 2), (0, .ref 64), (1, .int v1), (2, .int v2), (3, .int v3)], [.int 6, .int 4, .int v2], (q_kM s c n))) 6 (fun _ _ => rfl) ?_
      refine q_RP_call (v := (some (.int (q_b (dz_M202 s v2 4 6))))) (h2 := (q_kM s c n)) rfl rfl ((dzt_M202 s c n v2 4 6).le (Nat.le_of_ble_eq_true rfl)) ?_
      generalize dz_M202 s v2 4 6 = r9
      refine q_RP_let ?_
      show q_RP _ _ _ (66, [(5, .int 4), (4, .int 2), (0, .ref 64), (1, .int v1), (2, .int v2), (3, .int v3)], [.int (q_b r9)], (q_kM s c n)) _ _
      cases h12 : r9 with
      | true =>
        refine q_RP_cT ?_
        show q_RP _ _ _ (66, [(5, .int 4), (4, .int 2), (0, .ref 64), (1, .int v1), (2, .int v2), (3, .int v3)], [.int 1], (q_kM s c n)) _ _
        refine q_RP_seg (g2 := (78, [(5, .int 4), (4, .int 2), (0, .ref 64), (1, .int v1), (2, .int v2), (3, .int v3)], [.int v3, .int v2, .ref 64], (q_kM s c n))) 4 (fun _ _ => rfl) ?_
        refine q_RP_bd fun r10 er10 => ?_
        refine q_RP_call (v := (some (.int r10.2))) (h2 := (q_kM r10.1 c n)) rfl rfl ((dzt_M249_64 s c n v2 v3 r10 er10).le (Nat.le_of_ble_eq_true rfl)) ?_
        show q_RP _ _ _ (81, [(5, .int 4), (4, .int 2), (0, .ref 64), (1, .int v1), (2, .int v2), (3, .int v3)], [.int r10.2], (q_kM r10.1 c n)) _ _
        refine q_RP_seg (g2 := (88, [(5, .int 4), (4, .int 2), (0, .ref 64), (1, .int v1), (2, .int v2), (3, .int v3)], [.int v3, .int v2, .ref 64, .int (r10.2 / 256)], (q_kM r10.1 c n))) 5 (fun _ _ => rfl) ?_
        refine q_RP_bd fun r11 er11 => ?_
        refine q_RP_call (v := (some (.int r11.2))) (h2 := (q_kM r11.1 c n)) rfl rfl ((dzt_M250_64 r10.1 c n v2 v3 r11 er11).le (Nat.le_of_ble_eq_true rfl)) ?_
        show q_RP _ _ _ (91, [(5, .int 4), (4, .int 2), (0, .ref 64), (1, .int v1), (2, .int v2), (3, .int v3)], [.int r11.2, .int (r10.2 / 256)], (q_kM r11.1 c n)) _ _
        refine q_RP_seg (g2 := (95, [(5, .int 4), (4, .int 2), (0, .ref 64), (1, .int v1), (2, .int v2), (3, .int v3)], [.int (r11.2 / 256), .int (r10.2 / 256)], (q_kM r11.1 c n))) 2 (fun _ _ => rfl) ?_
        cases h13 : decide (r10.2 / 256 = r11.2 / 256) with
        | true =>
          refine q_RP_cT ?_
          refine q_RP_rsT (g2 := (102, [(5, .int 4), (4, .int 2), (0, .ref 64), (1, .int v1), (2, .int v2), (3, .int v3)], [], (q_kM r11.1 c n))) rfl rfl h13 ?_
          refine q_RP_seg (g2 := (116, [(6, .int 0), (5, .int 4), (4, .int 2), (0, .ref 64), (1, .int v1), (2, .int v2), (3, .int v3)], [.int v1, .int 6], (q_kM r11.1 c n))) 8 (fun _ _ => rfl) ?_
          refine q_RP_call (v := (some (.int (q_b (dz_M245 r11.1 v1))))) (h2 := (q_kM r11.1 c n)) rfl rfl ((dzt_M245 r11.1 c n v1).le (Nat.le_of_ble_eq_true rfl)) ?_
          generalize dz_M245 r11.1 v1 = r12
          refine q_RP_let ?_
          show q_RP _ _ _ (119, [(6, .int 0), (5, .int 4), (4, .int 2), (0, .ref 64), (1, .int v1), (2, .int v2), (3, .int v3)], [.int (q_b r12), .int 6], (q_kM r11.1 c n)) _ _
          cases h14 : r12 with
          | true =>
            refine q_RP_cT ?_
            show q_RP _ _ _ (119, [(6, .int 0), (5, .int 4), (4, .int 2), (0, .ref 64), (1, .int v1), (2, .int v2), (3, .int v3)], [.int 1, .int 6], (q_kM r11.1 c n)) _ _
            refine q_RP_seg (g2 := (128, [(6, .int 0), (5, .int 4), (4, .int 2), (0, .ref 64), (1, .int v1), (2, .int v2), (3, .int v3)], [.int 7], (q_kM r11.1 c n))) 4 (fun _ _ => rfl) ?_
            exact q_RP_ret rfl rfl rfl
          | false =>
            refine q_RP_cF ?_
            show q_RP _ _ _ (119, [(6, .int 0), (5, .int 4), (4, .int 2), (0, .ref 64), (1, .int v1), (2, .int v2), (3, .int v3)], [.int 0, .int 6], (q_kM r11.1 c n)) _ _
            refine q_RP_seg (g2 := (128, [(6, .int 0), (5, .int 4), (4, .int 2), (0, .ref 64), (1, .int v1), (2, .int v2), (3, .int v3)], [.int 6], (q_kM r11.1 c n))) 3 (fun _ _ => rfl) ?_
            exact q_RP_ret rfl rfl rfl
        | false =>
          refine q_RP_cF ?_
          refine q_RP_rsF (g2 := (98, [(5, .int 4), (4, .int 2), (0, .ref 64), (1, .int v1), (2, .int v2), (3, .int v3)], [], (q_kM r11.1 c n))) rfl rfl h13 ?_
          refine q_RP_seg (g2 := (128, [(6, .int 1), (5, .int 4), (4, .int 2), (0, .ref 64), (1, .int v1), (2, .int v2), (3, .int v3)], [.int 7], (q_kM r11.1 c n))) 11 (fun _ _ => rfl) ?_
          exact q_RP_ret rfl rfl rfl
      | false =>
        refine q_RP_cF ?_
        show q_RP _ _ _ (66, [(5, .int 4), (4, .int 2), (0, .ref 64), (1, .int v1), (2, .int v2), (3, .int v3)], [.int 0], (q_kM s c n)) _ _
        refine q_RP_seg (g2 := (74, [(5, .int 4), (4, .int 2), (0, .ref 64), (1, .int v1), (2, .int v2), (3, .int v3)], [.int 6], (q_kM s c n))) 4 (fun _ _ => rfl) ?_
        exact q_RP_ret rfl rfl rfl
    | false =>
      refine q_RP_cF ?_
      refine q_RP_rsT (g2 := (54, [(4, .int 2), (0, .ref 64), (1, .int v1), (2, .int v2), (3, .int v3)], [], (q_kM s c n))) rfl rfl (q_d_geF h11) ?_
      refine q_RP_seg (g2 := (63, [(5, .int (v2 - 1)), (4, .int 2), (0, .ref 64), (1, .int v1), (2, .int v2), (3, .int v3)], [.int 6, .int 4, .int v2], (q_kM s c n))) 7 (fun _ _ => rfl) ?_
      refine q_RP_call (v := (some (.int (q_b (dz_M202 s v2 4 6))))) (h2 := (q_kM s c n)) rfl rfl ((dzt_M202 s c n v2 4 6).le (Nat.le_of_ble_eq_true rfl)) ?_
      generalize dz_M202 s v2 4 6 = r13
      refine q_RP_let ?_
      show q_RP _ _ _ (66, [(5, .int (v2 - 1)), (4, .int 2), (0, .ref 64), (1, .int v1), (2, .int v2), (3, .int v3)], [.int (q_b r13)], (q_kM s c n)) _ _
      cases h15 : r13 with
      | true =>
        refine q_RP_cT ?_
        show q_RP _ _ _ (66, [(5, .int (v2 - 1)), (4, .int 2), (0, .ref 64), (1, .int v1), (2, .int v2), (3, .int v3)], [.int 1], (q_kM s c n)) _ _
        refine q_RP_seg (g2 := (78, [(5, .int (v2 - 1)), (4, .int 2), (0, .ref 64), (1, .int v1), (2, .int v2), (3, .int v3)], [.int v3, .int v2, .ref 64], (q_kM s c n))) 4 (fun _ _ => rfl) ?_
        refine q_RP_bd fun r14 er14 => ?_
        refine q_RP_call (v := (some (.int r14.2))) (h2 := (q_kM r14.1 c n)) rfl rfl ((dzt_M249_64 s c n v2 v3 r14 er14).le (Nat.le_of_ble_eq_true rfl)) ?_
        show q_RP _ _ _ (81, [(5, .int (v2 - 1)), (4, .int 2), (0, .ref 64), (1, .int v1), (2, .int v2), (3, .int v3)], [.int r14.2], (q_kM r14.1 c n)) _ _
        refine q_RP_seg (g2 := (88, [(5, .int (v2 - 1)), (4, .int 2), (0, .ref 64), (1, .int v1), (2, .int v2), (3, .int v3)], [.int v3, .int v2, .ref 64, .int (r14.2 / 256)], (q_kM r14.1 c n))) 5 (fun _ _ => rfl) ?_
        refine q_RP_bd fun r15 er15 => ?_
        refine q_RP_call (v := (some (.int r15.2))) (h2 := (q_kM r15.1 c n)) rfl rfl ((dzt_M250_64 r14.1 c n v2 v3 r15 er15).le (Nat.le_of_ble_eq_true rfl)) ?_
        show q_RP _ _ _ (91, [(5, .int (v2 - 1)), (4, .int 2), (0, .ref 64), (1, .int v1), (2, .int v2), (3, .int v3)], [.int r15.2, .int (r14.2 / 256)], (q_kM r15.1 c n)) _ _
        refine q_RP_seg (g2 := (95, [(5, .int (v2 - 1)), (4, .int 2), (0, .ref 64), (1, .int v1), (2, .int v2), (3, .int v3)], [.int (r15.2 / 256), .int (r14.2 / 256)], (q_kM r15.1 c n))) 2 (fun _ _ => rfl) ?_
        cases h16 : decide (r14.2 / 256 = r15.2 / 256) with
        | true =>
          refine q_RP_cT ?_
          refine q_RP_rsT (g2 := (102, [(5, .int (v2 - 1)), (4, .int 2), (0, .ref 64), (1, .int v1), (2, .int v2), (3, .int v3)], [], (q_kM r15.1 c n))) rfl rfl h16 ?_
          refine q_RP_seg (g2 := (116, [(6, .int 0), (5, .int (v2 - 1)), (4, .int 2), (0, .ref 64), (1, .int v1), (2, .int v2), (3, .int v3)], [.int v1, .int ((v2 - 1) + 2)], (q_kM r15.1 c n))) 8 (fun _ _ => rfl) ?_
          refine q_RP_call (v := (some (.int (q_b (dz_M245 r15.1 v1))))) (h2 := (q_kM r15.1 c n)) rfl rfl ((dzt_M245 r15.1 c n v1).le (Nat.le_of_ble_eq_true rfl)) ?_
          generalize dz_M245 r15.1 v1 = r16
          refine q_RP_let ?_
          show q_RP _ _ _ (119, [(6, .int 0), (5, .int (v2 - 1)), (4, .int 2), (0, .ref 64), (1, .int v1), (2, .int v2), (3, .int v3)], [.int (q_b r16), .int ((v2 - 1) + 2)], (q_kM r15.1 c n)) _ _
          cases h17 : r16 with
          | true =>
            refine q_RP_cT ?_
            show q_RP _ _ _ (119, [(6, .int 0), (5, .int (v2 - 1)), (4, .int 2), (0, .ref 64), (1, .int v1), (2, .int v2), (3, .int v3)], [.int 1, .int ((v2 - 1) + 2)], (q_kM r15.1 c n)) _ _
            refine q_RP_seg (g2 := (128, [(6, .int 0), (5, .int (v2 - 1)), (4, .int 2), (0, .ref 64), (1, .int v1), (2, .int v2), (3, .int v3)], [.int (((v2 - 1) + 2) + 1)], (q_kM r15.1 c n))) 4 (fun _ _ => rfl) ?_
            exact q_RP_ret rfl rfl rfl
          | false =>
            refine q_RP_cF ?_
            show q_RP _ _ _ (119, [(6, .int 0), (5, .int (v2 - 1)), (4, .int 2), (0, .ref 64), (1, .int v1), (2, .int v2), (3, .int v3)], [.int 0, .int ((v2 - 1) + 2)], (q_kM r15.1 c n)) _ _
            refine q_RP_seg (g2 := (128, [(6, .int 0), (5, .int (v2 - 1)), (4, .int 2), (0, .ref 64), (1, .int v1), (2, .int v2), (3, .int v3)], [.int (((v2 - 1) + 2) + 0)], (q_kM r15.1 c n))) 3 (fun _ _ => rfl) ?_
            exact q_RP_ret rfl rfl rfl
        | false =>
          refine q_RP_cF ?_
          refine q_RP_rsF (g2 := (98, [(5, .int (v2 - 1)), (4, .int 2), (0, .ref 64), (1, .int v1), (2, .int v2), (3, .int v3)], [], (q_kM r15.1 c n))) rfl rfl h16 ?_
          refine q_RP_seg (g2 := (128, [(6, .int 1), (5, .int (v2 - 1)), (4, .int 2), (0, .ref 64), (1, .int v1), (2, .int v2), (3, .int v3)], [.int (((v2 - 1) + 2) + 1)], (q_kM r15.1 c n))) 11 (fun _ _ => rfl) ?_
          exact q_RP_ret rfl rfl rfl
      | false =>
        refine q_RP_cF ?_
        show q_RP _ _ _ (66, [(5, .int (v2 - 1)), (4, .int 2), (0, .ref 64), (1, .int v1), (2, .int v2), (3, .int v3)], [.int 0], (q_kM s c n)) _ _
        refine q_RP_seg (g2 := (74, [(5, .int (v2 - 1)), (4, .int 2), (0, .ref 64), (1, .int v1), (2, .int v2), (3, .int v3)], [.int ((v2 - 1) + 2)], (q_kM s c n))) 4 (fun _ _ => rfl) ?_
        exact q_RP_ret rfl rfl rfl
def dz_M251_64 (s : q_S) (a1 : Int32) (a2 : Int32) (a3 : Int32) : Option (q_S × Int32) :=
  cond (decide (a2 = 0)) (some (s, 2)) (q_let (dz_M202 s a1 14 15) fun r4 => cond r4 (dz_M251_64_28 s a1 a2 a3) (q_let (dz_M202 s a1 18 19) fun r17 => cond r17 (dz_M251_64_28 s a1 a2 a3) (cond (decide (a2 = 1)) (q_let (dz_M202 s a2 4 6) fun r18 => cond r18 ((dz_M249_64 s a2 a3).bind fun r19 => (dz_M250_64 r19.1 a2 a3).bind fun r20 => cond (decide (r19.2 / 256 = r20.2 / 256)) (q_let (dz_M245 r20.1 a1) fun r21 => cond r21 (some (r20.1, 4)) (some (r20.1, 3))) (some (r20.1, 4))) (some (s, 3))) (cond (decide (a2 < 6)) (q_let (dz_M202 s a2 4 6) fun r22 => cond r22 ((dz_M249_64 s a2 a3).bind fun r23 => (dz_M250_64 r23.1 a2 a3).bind fun r24 => cond (decide (r23.2 / 256 = r24.2 / 256)) (q_let (dz_M245 r24.1 a1) fun r25 => cond r25 (some (r24.1, 5)) (some (r24.1, 4))) (some (r24.1, 5))) (some (s, 4))) (q_let (dz_M202 s a2 4 6) fun r26 => cond r26 ((dz_M249_64 s a2 a3).bind fun r27 => (dz_M250_64 r27.1 a2 a3).bind fun r28 => cond (decide (r27.2 / 256 = r28.2 / 256)) (q_let (dz_M245 r28.1 a1) fun r29 => cond r29 (some (r28.1, (((a2 - 1) + 0) + 1))) (some (r28.1, (((a2 - 1) + 0) + 0)))) (some (r28.1, (((a2 - 1) + 0) + 1)))) (some (s, ((a2 - 1) + 0))))))))
set_option maxHeartbeats 4000000 in
theorem dzt_M251_64 (s : q_S) (c n : Nat) (a1 : Int32) (a2 : Int32) (a3 : Int32) (x : q_S × Int32) (h : dz_M251_64 s a1 a2 a3 = some x) : q_Ca q_TB0 9 250 [.ref 64, .int a1, .int a2, .int a3] (q_kM s c n) ((q_oIM c n) x) := by
  refine q_CaP_of (φ := (q_oIM c n)) (Nat.le_of_ble_eq_true rfl) ?_ h
  clear h
  unfold dz_M251_64
  refine q_RP_seg (g2 := (1, [(0, .ref 64), (1, .int a1), (2, .int a2), (3, .int a3)], [.int a2], (q_kM s c n))) 1 (fun _ _ => rfl) ?_
  cases h5 : decide (a2 = 0) with
  | true =>
    refine q_RP_cT ?_
    refine q_RP_rsF (g2 := (4, [(0, .ref 64), (1, .int a1), (2, .int a2), (3, .int a3)], [], (q_kM s c n))) rfl rfl (q_d_neT h5) ?_
    refine q_RP_seg (g2 := (5, [(0, .ref 64), (1, .int a1), (2, .int a2), (3, .int a3)], [.int 2], (q_kM s c n))) 1 (fun _ _ => rfl) ?_
    exact q_RP_ret rfl rfl rfl
  | false =>
    refine q_RP_cF ?_
    refine q_RP_rsT (g2 := (6, [(0, .ref 64), (1, .int a1), (2, .int a2), (3, .int a3)], [], (q_kM s c n))) rfl rfl (q_d_neF h5) ?_
    refine q_RP_seg (g2 := (11, [(0, .ref 64), (1, .int a1), (2, .int a2), (3, .int a3)], [.int 15, .int 14, .int a1], (q_kM s c n))) 3 (fun _ _ => rfl) ?_
    refine q_RP_call (v := (some (.int (q_b (dz_M202 s a1 14 15))))) (h2 := (q_kM s c n)) rfl rfl ((dzt_M202 s c n a1 14 15).le (Nat.le_of_ble_eq_true rfl)) ?_
    generalize dz_M202 s a1 14 15 = r4
    refine q_RP_let ?_
    show q_RP _ _ _ (14, [(0, .ref 64), (1, .int a1), (2, .int a2), (3, .int a3)], [.int (q_b r4)], (q_kM s c n)) _ _
    cases h6 : r4 with
    | true =>
      refine q_RP_cT ?_
      show q_RP _ _ _ (14, [(0, .ref 64), (1, .int a1), (2, .int a2), (3, .int a3)], [.int 1], (q_kM s c n)) _ _
      refine q_RP_seg (g2 := (28, [(0, .ref 64), (1, .int a1), (2, .int a2), (3, .int a3)], [], (q_kM s c n))) 1 (fun _ _ => rfl) ?_
      exact (dzt_M251_64_28 c n s a1 a2 a3)
    | false =>
      refine q_RP_cF ?_
      show q_RP _ _ _ (14, [(0, .ref 64), (1, .int a1), (2, .int a2), (3, .int a3)], [.int 0], (q_kM s c n)) _ _
      refine q_RP_seg (g2 := (22, [(0, .ref 64), (1, .int a1), (2, .int a2), (3, .int a3)], [.int 19, .int 18, .int a1], (q_kM s c n))) 4 (fun _ _ => rfl) ?_
      refine q_RP_call (v := (some (.int (q_b (dz_M202 s a1 18 19))))) (h2 := (q_kM s c n)) rfl rfl ((dzt_M202 s c n a1 18 19).le (Nat.le_of_ble_eq_true rfl)) ?_
      generalize dz_M202 s a1 18 19 = r17
      refine q_RP_let ?_
      show q_RP _ _ _ (25, [(0, .ref 64), (1, .int a1), (2, .int a2), (3, .int a3)], [.int (q_b r17)], (q_kM s c n)) _ _
      cases h18 : r17 with
      | true =>
        refine q_RP_cT ?_
        show q_RP _ _ _ (25, [(0, .ref 64), (1, .int a1), (2, .int a2), (3, .int a3)], [.int 1], (q_kM s c n)) _ _
        refine q_RP_seg (g2 := (28, [(0, .ref 64), (1, .int a1), (2, .int a2), (3, .int a3)], [], (q_kM s c n))) 1 (fun _ _ => rfl) ?_
        exact (dzt_M251_64_28 c n s a1 a2 a3)
      | false =>
        refine q_RP_cF ?_
        show q_RP _ _ _ (25, [(0, .ref 64), (1, .int a1), (2, .int a2), (3, .int a3)], [.int 0], (q_kM s c n)) _ _
        refine q_RP_seg (g2 := (37, [(4, .int 0), (0, .ref 64), (1, .int a1), (2, .int a2), (3, .int a3)], [.int 1, .int a2], (q_kM s c n))) 5 (fun _ _ => rfl) ?_
        cases h19 : decide (a2 = 1) with
        | true =>
          refine q_RP_cT ?_
          refine q_RP_rsF (g2 := (40, [(4, .int 0), (0, .ref 64), (1, .int a1), (2, .int a2), (3, .int a3)], [], (q_kM s c n))) rfl rfl (q_d_neT h19) ?_
          refine q_RP_seg (g2 := (63, [(5, .int 3), (4, .int 0), (0, .ref 64), (1, .int a1), (2, .int a2), (3, .int a3)], [.int 6, .int 4, .int a2], (q_kM s c n))) 6 (fun _ _ => rfl) ?_
          refine q_RP_call (v := (some (.int (q_b (dz_M202 s a2 4 6))))) (h2 := (q_kM s c n)) rfl rfl ((dzt_M202 s c n a2 4 6).le (Nat.le_of_ble_eq_true rfl)) ?_
          generalize dz_M202 s a2 4 6 = r18
          refine q_RP_let ?_
          show q_RP _ _ _ (66, [(5, .int 3), (4, .int 0), (0, .ref 64), (1, .int a1), (2, .int a2), (3, .int a3)], [.int (q_b r18)], (q_kM s c n)) _ _
          cases h20 : r18 with
          | true =>
            refine q_RP_cT ?_
            show q_RP _ _ _ (66, [(5, .int 3), (4, .int 0), (0, .ref 64), (1, .int a1), (2, .int a2), (3, .int a3)], [.int 1], (q_kM s c n)) _ _
            refine q_RP_seg (g2 := (78, [(5, .int 3), (4, .int 0), (0, .ref 64), (1, .int a1), (2, .int a2), (3, .int a3)], [.int a3, .int a2, .ref 64], (q_kM s c n))) 4 (fun _ _ => rfl) ?_
            refine q_RP_bd fun r19 er19 => ?_
            refine q_RP_call (v := (some (.int r19.2))) (h2 := (q_kM r19.1 c n)) rfl rfl ((dzt_M249_64 s c n a2 a3 r19 er19).le (Nat.le_of_ble_eq_true rfl)) ?_
            show q_RP _ _ _ (81, [(5, .int 3), (4, .int 0), (0, .ref 64), (1, .int a1), (2, .int a2), (3, .int a3)], [.int r19.2], (q_kM r19.1 c n)) _ _
            refine q_RP_seg (g2 := (88, [(5, .int 3), (4, .int 0), (0, .ref 64), (1, .int a1), (2, .int a2), (3, .int a3)], [.int a3, .int a2, .ref 64, .int (r19.2 / 256)], (q_kM r19.1 c n))) 5 (fun _ _ => rfl) ?_
            refine q_RP_bd fun r20 er20 => ?_
            refine q_RP_call (v := (some (.int r20.2))) (h2 := (q_kM r20.1 c n)) rfl rfl ((dzt_M250_64 r19.1 c n a2 a3 r20 er20).le (Nat.le_of_ble_eq_true rfl)) ?_
            show q_RP _ _ _ (91, [(5, .int 3), (4, .int 0), (0, .ref 64), (1, .int a1), (2, .int a2), (3, .int a3)], [.int r20.2, .int (r19.2 / 256)], (q_kM r20.1 c n)) _ _
            refine q_RP_seg (g2 := (95, [(5, .int 3), (4, .int 0), (0, .ref 64), (1, .int a1), (2, .int a2), (3, .int a3)], [.int (r20.2 / 256), .int (r19.2 / 256)], (q_kM r20.1 c n))) 2 (fun _ _ => rfl) ?_
            cases h21 : decide (r19.2 / 256 = r20.2 / 256) with
            | true =>
              refine q_RP_cT ?_
              refine q_RP_rsT (g2 := (102, [(5, .int 3), (4, .int 0), (0, .ref 64), (1, .int a1), (2, .int a2), (3, .int a3)], [], (q_kM r20.1 c n))) rfl rfl h21 ?_
              refine q_RP_seg (g2 := (116, [(6, .int 0), (5, .int 3), (4, .int 0), (0, .ref 64), (1, .int a1), (2, .int a2), (3, .int a3)], [.int a1, .int 3], (q_kM r20.1 c n))) 8 (fun _ _ => rfl) ?_
              refine q_RP_call (v := (some (.int (q_b (dz_M245 r20.1 a1))))) (h2 := (q_kM r20.1 c n)) rfl rfl ((dzt_M245 r20.1 c n a1).le (Nat.le_of_ble_eq_true rfl)) ?_
              generalize dz_M245 r20.1 a1 = r21
              refine q_RP_let ?_
              show q_RP _ _ _ (119, [(6, .int 0), (5, .int 3), (4, .int 0), (0, .ref 64), (1, .int a1), (2, .int a2), (3, .int a3)], [.int (q_b r21), .int 3], (q_kM r20.1 c n)) _ _
              cases h22 : r21 with
              | true =>
                refine q_RP_cT ?_
                show q_RP _ _ _ (119, [(6, .int 0), (5, .int 3), (4, .int 0), (0, .ref 64), (1, .int a1), (2, .int a2), (3, .int a3)], [.int 1, .int 3], (q_kM r20.1 c n)) _ _
                refine q_RP_seg (g2 := (128, [(6, .int 0), (5, .int 3), (4, .int 0), (0, .ref 64), (1, .int a1), (2, .int a2), (3, .int a3)], [.int 4], (q_kM r20.1 c n))) 4 (fun _ _ => rfl) ?_
                exact q_RP_ret rfl rfl rfl
              | false =>
                refine q_RP_cF ?_
                show q_RP _ _ _ (119, [(6, .int 0), (5, .int 3), (4, .int 0), (0, .ref 64), (1, .int a1), (2, .int a2), (3, .int a3)], [.int 0, .int 3], (q_kM r20.1 c n)) _ _
                refine q_RP_seg (g2 := (128, [(6, .int 0), (5, .int 3), (4, .int 0), (0, .ref 64), (1, .int a1), (2, .int a2), (3, .int a3)], [.int 3], (q_kM r20.1 c n))) 3 (fun _ _ => rfl) ?_
                exact q_RP_ret rfl rfl rfl
            | false =>
              refine q_RP_cF ?_
              refine q_RP_rsF (g2 := (98, [(5, .int 3), (4, .int 0), (0, .ref 64), (1, .int a1), (2, .int a2), (3, .int a3)], [], (q_kM r20.1 c n))) rfl rfl h21 ?_
              refine q_RP_seg (g2 := (128, [(6, .int 1), (5, .int 3), (4, .int 0), (0, .ref 64), (1, .int a1), (2, .int a2), (3, .int a3)], [.int 4], (q_kM r20.1 c n))) 11 (fun _ _ => rfl) ?_
              exact q_RP_ret rfl rfl rfl
          | false =>
            refine q_RP_cF ?_
            show q_RP _ _ _ (66, [(5, .int 3), (4, .int 0), (0, .ref 64), (1, .int a1), (2, .int a2), (3, .int a3)], [.int 0], (q_kM s c n)) _ _
            refine q_RP_seg (g2 := (74, [(5, .int 3), (4, .int 0), (0, .ref 64), (1, .int a1), (2, .int a2), (3, .int a3)], [.int 3], (q_kM s c n))) 4 (fun _ _ => rfl) ?_
            exact q_RP_ret rfl rfl rfl
        | false =>
          refine q_RP_cF ?_
          refine q_RP_rsT (g2 := (44, [(4, .int 0), (0, .ref 64), (1, .int a1), (2, .int a2), (3, .int a3)], [], (q_kM s c n))) rfl rfl (q_d_neF h19) ?_
          refine q_RP_seg (g2 := (47, [(4, .int 0), (0, .ref 64), (1, .int a1), (2, .int a2), (3, .int a3)], [.int 6, .int a2], (q_kM s c n))) 2 (fun _ _ => rfl) ?_
          cases h23 : decide (a2 < 6) with
          | true =>
            refine q_RP_cT ?_
            refine q_RP_rsF (g2 := (50, [(4, .int 0), (0, .ref 64), (1, .int a1), (2, .int a2), (3, .int a3)], [], (q_kM s c n))) rfl rfl (q_d_geT h23) ?_
            refine q_RP_seg (g2 := (63, [(5, .int 4), (4, .int 0), (0, .ref 64), (1, .int a1), (2, .int a2), (3, .int a3)], [.int 6, .int 4, .int a2], (q_kM s c n))) 6 (fun _ _ => rfl) ?_
            refine q_RP_call (v := (some (.int (q_b (dz_M202 s a2 4 6))))) (h2 := (q_kM s c n)) rfl rfl ((dzt_M202 s c n a2 4 6).le (Nat.le_of_ble_eq_true rfl)) ?_
            generalize dz_M202 s a2 4 6 = r22
            refine q_RP_let ?_
            show q_RP _ _ _ (66, [(5, .int 4), (4, .int 0), (0, .ref 64), (1, .int a1), (2, .int a2), (3, .int a3)], [.int (q_b r22)], (q_kM s c n)) _ _
            cases h24 : r22 with
            | true =>
              refine q_RP_cT ?_
              show q_RP _ _ _ (66, [(5, .int 4), (4, .int 0), (0, .ref 64), (1, .int a1), (2, .int a2), (3, .int a3)], [.int 1], (q_kM s c n)) _ _
              refine q_RP_seg (g2 := (78, [(5, .int 4), (4, .int 0), (0, .ref 64), (1, .int a1), (2, .int a2), (3, .int a3)], [.int a3, .int a2, .ref 64], (q_kM s c n))) 4 (fun _ _ => rfl) ?_
              refine q_RP_bd fun r23 er23 => ?_
              refine q_RP_call (v := (some (.int r23.2))) (h2 := (q_kM r23.1 c n)) rfl rfl ((dzt_M249_64 s c n a2 a3 r23 er23).le (Nat.le_of_ble_eq_true rfl)) ?_
              show q_RP _ _ _ (81, [(5, .int 4), (4, .int 0), (0, .ref 64), (1, .int a1), (2, .int a2), (3, .int a3)], [.int r23.2], (q_kM r23.1 c n)) _ _
              refine q_RP_seg (g2 := (88, [(5, .int 4), (4, .int 0), (0, .ref 64), (1, .int a1), (2, .int a2), (3, .int a3)], [.int a3, .int a2, .ref 64, .int (r23.2 / 256)], (q_kM r23.1 c n))) 5 (fun _ _ => rfl) ?_
              refine q_RP_bd fun r24 er24 => ?_
              refine q_RP_call (v := (some (.int r24.2))) (h2 := (q_kM r24.1 c n)) rfl rfl ((dzt_M250_64 r23.1 c n a2 a3 r24 er24).le (Nat.le_of_ble_eq_true rfl)) ?_
              show q_RP _ _ _ (91, [(5, .int 4), (4, .int 0), (0, .ref 64), (1, .int a1), (2, .int a2), (3, .int a3)], [.int r24.2, .int (r23.2 / 256)], (q_kM r24.1 c n)) _ _
              refine q_RP_seg (g2 := (95, [(5, .int 4), (4, .int 0), (0, .ref 64), (1, .int a1), (2, .int a2), (3, .int a3)], [.int (r24.2 / 256), .int (r23.2 / 256)], (q_kM r24.1 c n))) 2 (fun _ _ => rfl) ?_
              cases h25 : decide (r23.2 / 256 = r24.2 / 256) with
              | true =>
                refine q_RP_cT ?_
                refine q_RP_rsT (g2 := (102, [(5, .int 4), (4, .int 0), (0, .ref 64), (1, .int a1), (2, .int a2), (3, .int a3)], [], (q_kM r24.1 c n))) rfl rfl h25 ?_
                refine q_RP_seg (g2 := (116, [(6, .int 0), (5, .int 4), (4, .int 0), (0, .ref 64), (1, .int a1), (2, .int a2), (3, .int a3)], [.int a1, .int 4], (q_kM r24.1 c n))) 8 (fun _ _ => rfl) ?_
                refine q_RP_call (v := (some (.int (q_b (dz_M245 r24.1 a1))))) (h2 := (q_kM r24.1 c n)) rfl rfl ((dzt_M245 r24.1 c n a1).le (Nat.le_of_ble_eq_true rfl)) ?_
                generalize dz_M245 r24.1 a1 = r25
                refine q_RP_let ?_
                show q_RP _ _ _ (119, [(6, .int 0), (5, .int 4), (4, .int 0), (0, .ref 64), (1, .int a1), (2, .int a2), (3, .int a3)], [.int (q_b r25), .int 4], (q_kM r24.1 c n)) _ _
                cases h26 : r25 with
                | true =>
                  refine q_RP_cT ?_
                  show q_RP _ _ _ (119, [(6, .int 0), (5, .int 4), (4, .int 0), (0, .ref 64), (1, .int a1), (2, .int a2), (3, .int a3)], [.int 1, .int 4], (q_kM r24.1 c n)) _ _
                  refine q_RP_seg (g2 := (128, [(6, .int 0), (5, .int 4), (4, .int 0), (0, .ref 64), (1, .int a1), (2, .int a2), (3, .int a3)], [.int 5], (q_kM r24.1 c n))) 4 (fun _ _ => rfl) ?_
                  exact q_RP_ret rfl rfl rfl
                | false =>
                  refine q_RP_cF ?_
                  show q_RP _ _ _ (119, [(6, .int 0), (5, .int 4), (4, .int 0), (0, .ref 64), (1, .int a1), (2, .int a2), (3, .int a3)], [.int 0, .int 4], (q_kM r24.1 c n)) _ _
                  refine q_RP_seg (g2 := (128, [(6, .int 0), (5, .int 4), (4, .int 0), (0, .ref 64), (1, .int a1), (2, .int a2), (3, .int a3)], [.int 4], (q_kM r24.1 c n))) 3 (fun _ _ => rfl) ?_
                  exact q_RP_ret rfl rfl rfl
              | false =>
                refine q_RP_cF ?_
                refine q_RP_rsF (g2 := (98, [(5, .int 4), (4, .int 0), (0, .ref 64), (1, .int a1), (2, .int a2), (3, .int a3)], [], (q_kM r24.1 c n))) rfl rfl h25 ?_
                refine q_RP_seg (g2 := (128, [(6, .int 1), (5, .int 4), (4, .int 0), (0, .ref 64), (1, .int a1), (2, .int a2), (3, .int a3)], [.int 5], (q_kM r24.1 c n))) 11 (fun _ _ => rfl) ?_
                exact q_RP_ret rfl rfl rfl
            | false =>
              refine q_RP_cF ?_
              show q_RP _ _ _ (66, [(5, .int 4), (4, .int 0), (0, .ref 64), (1, .int a1), (2, .int a2), (3, .int a3)], [.int 0], (q_kM s c n)) _ _
              refine q_RP_seg (g2 := (74, [(5, .int 4), (4, .int 0), (0, .ref 64), (1, .int a1), (2, .int a2), (3, .int a3)], [.int 4], (q_kM s c n))) 4 (fun _ _ => rfl) ?_
              exact q_RP_ret rfl rfl rfl
          | false =>
            refine q_RP_cF ?_
            refine q_RP_rsT (g2 := (54, [(4, .int 0), (0, .ref 64), (1, .int a1), (2, .int a2), (3, .int a3)], [], (q_kM s c n))) rfl rfl (q_d_geF h23) ?_
            refine q_RP_seg (g2 := (63, [(5, .int (a2 - 1)), (4, .int 0), (0, .ref 64), (1, .int a1), (2, .int a2), (3, .int a3)], [.int 6, .int 4, .int a2], (q_kM s c n))) 7 (fun _ _ => rfl) ?_
            refine q_RP_call (v := (some (.int (q_b (dz_M202 s a2 4 6))))) (h2 := (q_kM s c n)) rfl rfl ((dzt_M202 s c n a2 4 6).le (Nat.le_of_ble_eq_true rfl)) ?_
            generalize dz_M202 s a2 4 6 = r26
            refine q_RP_let ?_
            show q_RP _ _ _ (66, [(5, .int (a2 - 1)), (4, .int 0), (0, .ref 64), (1, .int a1), (2, .int a2), (3, .int a3)], [.int (q_b r26)], (q_kM s c n)) _ _
            cases h27 : r26 with
            | true =>
              refine q_RP_cT ?_
              show q_RP _ _ _ (66, [(5, .int (a2 - 1)), (4, .int 0), (0, .ref 64), (1, .int a1), (2, .int a2), (3, .int a3)], [.int 1], (q_kM s c n)) _ _
              refine q_RP_seg (g2 := (78, [(5, .int (a2 - 1)), (4, .int 0), (0, .ref 64), (1, .int a1), (2, .int a2), (3, .int a3)], [.int a3, .int a2, .ref 64], (q_kM s c n))) 4 (fun _ _ => rfl) ?_
              refine q_RP_bd fun r27 er27 => ?_
              refine q_RP_call (v := (some (.int r27.2))) (h2 := (q_kM r27.1 c n)) rfl rfl ((dzt_M249_64 s c n a2 a3 r27 er27).le (Nat.le_of_ble_eq_true rfl)) ?_
              show q_RP _ _ _ (81, [(5, .int (a2 - 1)), (4, .int 0), (0, .ref 64), (1, .int a1), (2, .int a2), (3, .int a3)], [.int r27.2], (q_kM r27.1 c n)) _ _
              refine q_RP_seg (g2 := (88, [(5, .int (a2 - 1)), (4, .int 0), (0, .ref 64), (1, .int a1), (2, .int a2), (3, .int a3)], [.int a3, .int a2, .ref 64, .int (r27.2 / 256)], (q_kM r27.1 c n))) 5 (fun _ _ => rfl) ?_
              refine q_RP_bd fun r28 er28 => ?_
              refine q_RP_call (v := (some (.int r28.2))) (h2 := (q_kM r28.1 c n)) rfl rfl ((dzt_M250_64 r27.1 c n a2 a3 r28 er28).le (Nat.le_of_ble_eq_true rfl)) ?_
              show q_RP _ _ _ (91, [(5, .int (a2 - 1)), (4, .int 0), (0, .ref 64), (1, .int a1), (2, .int a2), (3, .int a3)], [.int r28.2, .int (r27.2 / 256)], (q_kM r28.1 c n)) _ _
              refine q_RP_seg (g2 := (95, [(5, .int (a2 - 1)), (4, .int 0), (0, .ref 64), (1, .int a1), (2, .int a2), (3, .int a3)], [.int (r28.2 / 256), .int (r27.2 / 256)], (q_kM r28.1 c n))) 2 (fun _ _ => rfl) ?_
              cases h28 : decide (r27.2 / 256 = r28.2 / 256) with
              | true =>
                refine q_RP_cT ?_
                refine q_RP_rsT (g2 := (102, [(5, .int (a2 - 1)), (4, .int 0), (0, .ref 64), (1, .int a1), (2, .int a2), (3, .int a3)], [], (q_kM r28.1 c n))) rfl rfl h28 ?_
                refine q_RP_seg (g2 := (116, [(6, .int 0), (5, .int (a2 - 1)), (4, .int 0), (0, .ref 64), (1, .int a1), (2, .int a2), (3, .int a3)], [.int a1, .int ((a2 - 1) + 0)], (q_kM r28.1 c n))) 8 (fun _ _ => rfl) ?_
                refine q_RP_call (v := (some (.int (q_b (dz_M245 r28.1 a1))))) (h2 := (q_kM r28.1 c n)) rfl rfl ((dzt_M245 r28.1 c n a1).le (Nat.le_of_ble_eq_true rfl)) ?_
                generalize dz_M245 r28.1 a1 = r29
                refine q_RP_let ?_
                show q_RP _ _ _ (119, [(6, .int 0), (5, .int (a2 - 1)), (4, .int 0), (0, .ref 64), (1, .int a1), (2, .int a2), (3, .int a3)], [.int (q_b r29), .int ((a2 - 1) + 0)], (q_kM r28.1 c n)) _ _
                cases h29 : r29 with
                | true =>
                  refine q_RP_cT ?_
                  show q_RP _ _ _ (119, [(6, .int 0), (5, .int (a2 - 1)), (4, .int 0), (0, .ref 64), (1, .int a1), (2, .int a2), (3, .int a3)], [.int 1, .int ((a2 - 1) + 0)], (q_kM r28.1 c n)) _ _
                  refine q_RP_seg (g2 := (128, [(6, .int 0), (5, .int (a2 - 1)), (4, .int 0), (0, .ref 64), (1, .int a1), (2, .int a2), (3, .int a3)], [.int (((a2 - 1) + 0) + 1)], (q_kM r28.1 c n))) 4 (fun _ _ => rfl) ?_
                  exact q_RP_ret rfl rfl rfl
                | false =>
                  refine q_RP_cF ?_
                  show q_RP _ _ _ (119, [(6, .int 0), (5, .int (a2 - 1)), (4, .int 0), (0, .ref 64), (1, .int a1), (2, .int a2), (3, .int a3)], [.int 0, .int ((a2 - 1) + 0)], (q_kM r28.1 c n)) _ _
                  refine q_RP_seg (g2 := (128, [(6, .int 0), (5, .int (a2 - 1)), (4, .int 0), (0, .ref 64), (1, .int a1), (2, .int a2), (3, .int a3)], [.int (((a2 - 1) + 0) + 0)], (q_kM r28.1 c n))) 3 (fun _ _ => rfl) ?_
                  exact q_RP_ret rfl rfl rfl
              | false =>
                refine q_RP_cF ?_
                refine q_RP_rsF (g2 := (98, [(5, .int (a2 - 1)), (4, .int 0), (0, .ref 64), (1, .int a1), (2, .int a2), (3, .int a3)], [], (q_kM r28.1 c n))) rfl rfl h28 ?_
                refine q_RP_seg (g2 := (128, [(6, .int 1), (5, .int (a2 - 1)), (4, .int 0), (0, .ref 64), (1, .int a1), (2, .int a2), (3, .int a3)], [.int (((a2 - 1) + 0) + 1)], (q_kM r28.1 c n))) 11 (fun _ _ => rfl) ?_
                exact q_RP_ret rfl rfl rfl
            | false =>
              refine q_RP_cF ?_
              show q_RP _ _ _ (66, [(5, .int (a2 - 1)), (4, .int 0), (0, .ref 64), (1, .int a1), (2, .int a2), (3, .int a3)], [.int 0], (q_kM s c n)) _ _
              refine q_RP_seg (g2 := (74, [(5, .int (a2 - 1)), (4, .int 0), (0, .ref 64), (1, .int a1), (2, .int a2), (3, .int a3)], [.int ((a2 - 1) + 0)], (q_kM s c n))) 4 (fun _ _ => rfl) ?_
              exact q_RP_ret rfl rfl rfl
def dz_M254_64 (s : q_S) (a1 : Int32) : Option (q_S × Int32) :=
  (dz_M247_64 s a1).bind fun r2 => q_let (dz_M244 r2.1 r2.2) fun r3 => cond (decide (r3 < 0)) (q_let (dz_M202 r2.1 r2.2 160 167) fun r4 => cond r4 (q_let (dz_M252_64 r2.1 r2.2) fun r5 => cond r5 (q_let (dz_M213 r2.1 (a1 + 2)) fun r6 => (dz_M253_64 r2.1 a1).bind fun r7 => cond (decide (r6 / 256 = r7.2 / 256)) (some (r7.1, 3)) (some (r7.1, 4))) (some (r2.1, 2))) (cond (decide (r2.2 = 138)) (some (r2.1, 3)) (cond (decide (r2.2 = 140)) (some (r2.1, 3)) (cond (decide (r2.2 = 157)) (some (r2.1, 3)) (cond (decide (r2.2 = 139)) (some (r2.1, 4)) (cond (decide (r2.2 = 141)) (some (r2.1, 4)) (cond (decide (r2.2 = 159)) (some (r2.1, 5)) (cond (decide (r2.2 = 155)) (some (r2.1, 6)) (cond (decide (r2.2 = 156)) (some (r2.1, 6)) (cond (decide (r2.2 = 158)) (some (r2.1, 6)) (cond (decide (r2.2 = 154)) (some (r2.1, 7)) (some (r2.1, 2))))))))))))) ((dz_M251_64 r2.1 r3 (r2.2 - r2.2 / 8 * 8) a1).bind fun r8 => some (r8.1, r8.2))
set_option maxHeartbeats 4000000 in
theorem dzt_M254_64 (s : q_S) (c n : Nat) (a1 : Int32) (x : q_S × Int32) (h : dz_M254_64 s a1 = some x) : q_Ca q_TB0 10 253 [.ref 64, .int a1] (q_kM s c n) ((q_oIM c n) x) := by
  refine q_CaP_of (φ := (q_oIM c n)) (Nat.le_of_ble_eq_true rfl) ?_ h
  clear h
  unfold dz_M254_64
  refine q_RP_seg (g2 := (2, [(0, .ref 64), (1, .int a1)], [.int a1, .ref 64], (q_kM s c n))) 2 (fun _ _ => rfl) ?_
  refine q_RP_bd fun r2 er2 => ?_
  refine q_RP_call (v := (some (.int r2.2))) (h2 := (q_kM r2.1 c n)) rfl rfl ((dzt_M247_64 s c n a1 r2 er2).le (Nat.le_of_ble_eq_true rfl)) ?_
  show q_RP _ _ _ (5, [(0, .ref 64), (1, .int a1)], [.int r2.2], (q_kM r2.1 c n)) _ _
  refine q_RP_seg (g2 := (7, [(2, .int r2.2), (0, .ref 64), (1, .int a1)], [.int r2.2], (q_kM r2.1 c n))) 2 (fun _ _ => rfl) ?_
  refine q_RP_call (v := (some (.int (dz_M244 r2.1 r2.2)))) (h2 := (q_kM r2.1 c n)) rfl rfl ((dzt_M244 r2.1 c n r2.2).le (Nat.le_of_ble_eq_true rfl)) ?_
  generalize dz_M244 r2.1 r2.2 = r3
  refine q_RP_let ?_
  show q_RP _ _ _ (10, [(2, .int r2.2), (0, .ref 64), (1, .int a1)], [.int r3], (q_kM r2.1 c n)) _ _
  refine q_RP_seg (g2 := (12, [(3, .int r3), (2, .int r2.2), (0, .ref 64), (1, .int a1)], [.int r3], (q_kM r2.1 c n))) 2 (fun _ _ => rfl) ?_
  cases h1 : decide (r3 < 0) with
  | true =>
    refine q_RP_cT ?_
    refine q_RP_rsT (g2 := (26, [(3, .int r3), (2, .int r2.2), (0, .ref 64), (1, .int a1)], [], (q_kM r2.1 c n))) rfl rfl h1 ?_
    refine q_RP_seg (g2 := (33, [(3, .int r3), (2, .int r2.2), (0, .ref 64), (1, .int a1)], [.int 167, .int 160, .int r2.2], (q_kM r2.1 c n))) 3 (fun _ _ => rfl) ?_
    refine q_RP_call (v := (some (.int (q_b (dz_M202 r2.1 r2.2 160 167))))) (h2 := (q_kM r2.1 c n)) rfl rfl ((dzt_M202 r2.1 c n r2.2 160 167).le (Nat.le_of_ble_eq_true rfl)) ?_
    generalize dz_M202 r2.1 r2.2 160 167 = r4
    refine q_RP_let ?_
    show q_RP _ _ _ (36, [(3, .int r3), (2, .int r2.2), (0, .ref 64), (1, .int a1)], [.int (q_b r4)], (q_kM r2.1 c n)) _ _
    cases h2 : r4 with
    | true =>
      refine q_RP_cT ?_
      show q_RP _ _ _ (36, [(3, .int r3), (2, .int r2.2), (0, .ref 64), (1, .int a1)], [.int 1], (q_kM r2.1 c n)) _ _
      refine q_RP_seg (g2 := (41, [(3, .int r3), (2, .int r2.2), (0, .ref 64), (1, .int a1)], [.int r2.2, .ref 64], (q_kM r2.1 c n))) 3 (fun _ _ => rfl) ?_
      refine q_RP_call (v := (some (.int (q_b (dz_M252_64 r2.1 r2.2))))) (h2 := (q_kM r2.1 c n)) rfl rfl ((dzt_M252_64 r2.1 c n r2.2).le (Nat.le_of_ble_eq_true rfl)) ?_
      generalize dz_M252_64 r2.1 r2.2 = r5
      refine q_RP_let ?_
      show q_RP _ _ _ (44, [(3, .int r3), (2, .int r2.2), (0, .ref 64), (1, .int a1)], [.int (q_b r5)], (q_kM r2.1 c n)) _ _
      cases h3 : r5 with
      | true =>
        refine q_RP_cT ?_
        show q_RP _ _ _ (44, [(3, .int r3), (2, .int r2.2), (0, .ref 64), (1, .int a1)], [.int 1], (q_kM r2.1 c n)) _ _
        refine q_RP_seg (g2 := (54, [(3, .int r3), (2, .int r2.2), (0, .ref 64), (1, .int a1)], [.int (a1 + 2)], (q_kM r2.1 c n))) 4 (fun _ _ => rfl) ?_
        refine q_RP_call (v := (some (.int (dz_M213 r2.1 (a1 + 2))))) (h2 := (q_kM r2.1 c n)) rfl rfl ((dzt_M213 r2.1 c n (a1 + 2)).le (Nat.le_of_ble_eq_true rfl)) ?_
        generalize dz_M213 r2.1 (a1 + 2) = r6
        refine q_RP_let ?_
        show q_RP _ _ _ (57, [(3, .int r3), (2, .int r2.2), (0, .ref 64), (1, .int a1)], [.int r6], (q_kM r2.1 c n)) _ _
        refine q_RP_seg (g2 := (63, [(3, .int r3), (2, .int r2.2), (0, .ref 64), (1, .int a1)], [.int a1, .ref 64, .int (r6 / 256)], (q_kM r2.1 c n))) 4 (fun _ _ => rfl) ?_
        refine q_RP_bd fun r7 er7 => ?_
        refine q_RP_call (v := (some (.int r7.2))) (h2 := (q_kM r7.1 c n)) rfl rfl ((dzt_M253_64 r2.1 c n a1 r7 er7).le (Nat.le_of_ble_eq_true rfl)) ?_
        show q_RP _ _ _ (66, [(3, .int r3), (2, .int r2.2), (0, .ref 64), (1, .int a1)], [.int r7.2, .int (r6 / 256)], (q_kM r7.1 c n)) _ _
        refine q_RP_seg (g2 := (70, [(3, .int r3), (2, .int r2.2), (0, .ref 64), (1, .int a1)], [.int (r7.2 / 256), .int (r6 / 256)], (q_kM r7.1 c n))) 2 (fun _ _ => rfl) ?_
        cases h4 : decide (r6 / 256 = r7.2 / 256) with
        | true =>
          refine q_RP_cT ?_
          refine q_RP_rsF (g2 := (73, [(3, .int r3), (2, .int r2.2), (0, .ref 64), (1, .int a1)], [], (q_kM r7.1 c n))) rfl rfl (q_d_neT h4) ?_
          refine q_RP_seg (g2 := (78, [(3, .int r3), (2, .int r2.2), (0, .ref 64), (1, .int a1)], [.int 3], (q_kM r7.1 c n))) 2 (fun _ _ => rfl) ?_
          exact q_RP_ret rfl rfl rfl
        | false =>
          refine q_RP_cF ?_
          refine q_RP_rsT (g2 := (77, [(3, .int r3), (2, .int r2.2), (0, .ref 64), (1, .int a1)], [], (q_kM r7.1 c n))) rfl rfl (q_d_neF h4) ?_
          refine q_RP_seg (g2 := (78, [(3, .int r3), (2, .int r2.2), (0, .ref 64), (1, .int a1)], [.int 4], (q_kM r7.1 c n))) 1 (fun _ _ => rfl) ?_
          exact q_RP_ret rfl rfl rfl
      | false =>
        refine q_RP_cF ?_
        show q_RP _ _ _ (44, [(3, .int r3), (2, .int r2.2), (0, .ref 64), (1, .int a1)], [.int 0], (q_kM r2.1 c n)) _ _
        refine q_RP_seg (g2 := (78, [(3, .int r3), (2, .int r2.2), (0, .ref 64), (1, .int a1)], [.int 2], (q_kM r2.1 c n))) 3 (fun _ _ => rfl) ?_
        exact q_RP_ret rfl rfl rfl
    | false =>
      refine q_RP_cF ?_
      show q_RP _ _ _ (36, [(3, .int r3), (2, .int r2.2), (0, .ref 64), (1, .int a1)], [.int 0], (q_kM r2.1 c n)) _ _
      refine q_RP_seg (g2 := (83, [(3, .int r3), (2, .int r2.2), (0, .ref 64), (1, .int a1)], [.int 138, .int r2.2], (q_kM r2.1 c n))) 3 (fun _ _ => rfl) ?_
      cases h5 : decide (r2.2 = 138) with
      | true =>
        refine q_RP_cT ?_
        refine q_RP_rsT (g2 := (100, [(3, .int r3), (2, .int r2.2), (0, .ref 64), (1, .int a1)], [], (q_kM r2.1 c n))) rfl rfl h5 ?_
        refine q_RP_seg (g2 := (101, [(3, .int r3), (2, .int r2.2), (0, .ref 64), (1, .int a1)], [.int 3], (q_kM r2.1 c n))) 1 (fun _ _ => rfl) ?_
        exact q_RP_ret rfl rfl rfl
      | false =>
        refine q_RP_cF ?_
        refine q_RP_rsF (g2 := (86, [(3, .int r3), (2, .int r2.2), (0, .ref 64), (1, .int a1)], [], (q_kM r2.1 c n))) rfl rfl h5 ?_
        refine q_RP_seg (g2 := (90, [(3, .int r3), (2, .int r2.2), (0, .ref 64), (1, .int a1)], [.int 140, .int r2.2], (q_kM r2.1 c n))) 2 (fun _ _ => rfl) ?_
        cases h6 : decide (r2.2 = 140) with
        | true =>
          refine q_RP_cT ?_
          refine q_RP_rsT (g2 := (100, [(3, .int r3), (2, .int r2.2), (0, .ref 64), (1, .int a1)], [], (q_kM r2.1 c n))) rfl rfl h6 ?_
          refine q_RP_seg (g2 := (101, [(3, .int r3), (2, .int r2.2), (0, .ref 64), (1, .int a1)], [.int 3], (q_kM r2.1 c n))) 1 (fun _ _ => rfl) ?_
          exact q_RP_ret rfl rfl rfl
        | false =>
          refine q_RP_cF ?_
          refine q_RP_rsF (g2 := (93, [(3, .int r3), (2, .int r2.2), (0, .ref 64), (1, .int a1)], [], (q_kM r2.1 c n))) rfl rfl h6 ?_
          refine q_RP_seg (g2 := (97, [(3, .int r3), (2, .int r2.2), (0, .ref 64), (1, .int a1)], [.int 157, .int r2.2], (q_kM r2.1 c n))) 2 (fun _ _ => rfl) ?_
          cases h7 : decide (r2.2 = 157) with
          | true =>
            refine q_RP_cT ?_
            refine q_RP_rsF (g2 := (100, [(3, .int r3), (2, .int r2.2), (0, .ref 64), (1, .int a1)], [], (q_kM r2.1 c n))) rfl rfl (q_d_neT h7) ?_
            refine q_RP_seg (g2 := (101, [(3, .int r3), (2, .int r2.2), (0, .ref 64), (1, .int a1)], [.int 3], (q_kM r2.1 c n))) 1 (fun _ _ => rfl) ?_
            exact q_RP_ret rfl rfl rfl
          | false =>
            refine q_RP_cF ?_
            refine q_RP_rsT (g2 := (102, [(3, .int r3), (2, .int r2.2), (0, .ref 64), (1, .int a1)], [], (q_kM r2.1 c n))) rfl rfl (q_d_neF h7) ?_
            refine q_RP_seg (g2 := (106, [(3, .int r3), (2, .int r2.2), (0, .ref 64), (1, .int a1)], [.int 139, .int r2.2], (q_kM r2.1 c n))) 2 (fun _ _ => rfl) ?_
            cases h8 : decide (r2.2 = 139) with
            | true =>
              refine q_RP_cT ?_
              refine q_RP_rsT (g2 := (116, [(3, .int r3), (2, .int r2.2), (0, .ref 64), (1, .int a1)], [], (q_kM r2.1 c n))) rfl rfl h8 ?_
              refine q_RP_seg (g2 := (117, [(3, .int r3), (2, .int r2.2), (0, .ref 64), (1, .int a1)], [.int 4], (q_kM r2.1 c n))) 1 (fun _ _ => rfl) ?_
              exact q_RP_ret rfl rfl rfl
            | false =>
              refine q_RP_cF ?_
              refine q_RP_rsF (g2 := (109, [(3, .int r3), (2, .int r2.2), (0, .ref 64), (1, .int a1)], [], (q_kM r2.1 c n))) rfl rfl h8 ?_
              refine q_RP_seg (g2 := (113, [(3, .int r3), (2, .int r2.2), (0, .ref 64), (1, .int a1)], [.int 141, .int r2.2], (q_kM r2.1 c n))) 2 (fun _ _ => rfl) ?_
              cases h9 : decide (r2.2 = 141) with
              | true =>
                refine q_RP_cT ?_
                refine q_RP_rsF (g2 := (116, [(3, .int r3), (2, .int r2.2), (0, .ref 64), (1, .int a1)], [], (q_kM r2.1 c n))) rfl rfl (q_d_neT h9) ?_
                refine q_RP_seg (g2 := (117, [(3, .int r3), (2, .int r2.2), (0, .ref 64), (1, .int a1)], [.int 4], (q_kM r2.1 c n))) 1 (fun _ _ => rfl) ?_
                exact q_RP_ret rfl rfl rfl
              | false =>
                refine q_RP_cF ?_
                refine q_RP_rsT (g2 := (118, [(3, .int r3), (2, .int r2.2), (0, .ref 64), (1, .int a1)], [], (q_kM r2.1 c n))) rfl rfl (q_d_neF h9) ?_
                refine q_RP_seg (g2 := (122, [(3, .int r3), (2, .int r2.2), (0, .ref 64), (1, .int a1)], [.int 159, .int r2.2], (q_kM r2.1 c n))) 2 (fun _ _ => rfl) ?_
                cases h10 : decide (r2.2 = 159) with
                | true =>
                  refine q_RP_cT ?_
                  refine q_RP_rsF (g2 := (125, [(3, .int r3), (2, .int r2.2), (0, .ref 64), (1, .int a1)], [], (q_kM r2.1 c n))) rfl rfl (q_d_neT h10) ?_
                  refine q_RP_seg (g2 := (126, [(3, .int r3), (2, .int r2.2), (0, .ref 64), (1, .int a1)], [.int 5], (q_kM r2.1 c n))) 1 (fun _ _ => rfl) ?_
                  exact q_RP_ret rfl rfl rfl
                | false =>
                  refine q_RP_cF ?_
                  refine q_RP_rsT (g2 := (127, [(3, .int r3), (2, .int r2.2), (0, .ref 64), (1, .int a1)], [], (q_kM r2.1 c n))) rfl rfl (q_d_neF h10) ?_
                  refine q_RP_seg (g2 := (131, [(3, .int r3), (2, .int r2.2), (0, .ref 64), (1, .int a1)], [.int 155, .int r2.2], (q_kM r2.1 c n))) 2 (fun _ _ => rfl) ?_
                  cases h11 : decide (r2.2 = 155) with
                  | true =>
                    refine q_RP_cT ?_
                    refine q_RP_rsT (g2 := (148, [(3, .int r3), (2, .int r2.2), (0, .ref 64), (1, .int a1)], [], (q_kM r2.1 c n))) rfl rfl h11 ?_
                    refine q_RP_seg (g2 := (150, [(3, .int r3), (2, .int r2.2), (0, .ref 64), (1, .int a1)], [.int 6], (q_kM r2.1 c n))) 1 (fun _ _ => rfl) ?_
                    exact q_RP_ret rfl rfl rfl
                  | false =>
                    refine q_RP_cF ?_
                    refine q_RP_rsF (g2 := (134, [(3, .int r3), (2, .int r2.2), (0, .ref 64), (1, .int a1)], [], (q_kM r2.1 c n))) rfl rfl h11 ?_
                    refine q_RP_seg (g2 := (138, [(3, .int r3), (2, .int r2.2), (0, .ref 64), (1, .int a1)], [.int 156, .int r2.2], (q_kM r2.1 c n))) 2 (fun _ _ => rfl) ?_
                    cases h12 : decide (r2.2 = 156) with
                    | true =>
                      refine q_RP_cT ?_
                      refine q_RP_rsT (g2 := (148, [(3, .int r3), (2, .int r2.2), (0, .ref 64), (1, .int a1)], [], (q_kM r2.1 c n))) rfl rfl h12 ?_
                      refine q_RP_seg (g2 := (150, [(3, .int r3), (2, .int r2.2), (0, .ref 64), (1, .int a1)], [.int 6], (q_kM r2.1 c n))) 1 (fun _ _ => rfl) ?_
                      exact q_RP_ret rfl rfl rfl
                    | false =>
                      refine q_RP_cF ?_
                      refine q_RP_rsF (g2 := (141, [(3, .int r3), (2, .int r2.2), (0, .ref 64), (1, .int a1)], [], (q_kM r2.1 c n))) rfl rfl h12 ?_
                      refine q_RP_seg (g2 := (145, [(3, .int r3), (2, .int r2.2), (0, .ref 64), (1, .int a1)], [.int 158, .int r2.2], (q_kM r2.1 c n))) 2 (fun _ _ => rfl) ?_
                      cases h13 : decide (r2.2 = 158) with
                      | true =>
                        refine q_RP_cT ?_
                        refine q_RP_rsF (g2 := (148, [(3, .int r3), (2, .int r2.2), (0, .ref 64), (1, .int a1)], [], (q_kM r2.1 c n))) rfl rfl (q_d_neT h13) ?_
                        refine q_RP_seg (g2 := (150, [(3, .int r3), (2, .int r2.2), (0, .ref 64), (1, .int a1)], [.int 6], (q_kM r2.1 c n))) 1 (fun _ _ => rfl) ?_
                        exact q_RP_ret rfl rfl rfl
                      | false =>
                        refine q_RP_cF ?_
                        refine q_RP_rsT (g2 := (151, [(3, .int r3), (2, .int r2.2), (0, .ref 64), (1, .int a1)], [], (q_kM r2.1 c n))) rfl rfl (q_d_neF h13) ?_
                        refine q_RP_seg (g2 := (155, [(3, .int r3), (2, .int r2.2), (0, .ref 64), (1, .int a1)], [.int 154, .int r2.2], (q_kM r2.1 c n))) 2 (fun _ _ => rfl) ?_
                        cases h14 : decide (r2.2 = 154) with
                        | true =>
                          refine q_RP_cT ?_
                          refine q_RP_rsF (g2 := (158, [(3, .int r3), (2, .int r2.2), (0, .ref 64), (1, .int a1)], [], (q_kM r2.1 c n))) rfl rfl (q_d_neT h14) ?_
                          refine q_RP_seg (g2 := (164, [(3, .int r3), (2, .int r2.2), (0, .ref 64), (1, .int a1)], [.int 7], (q_kM r2.1 c n))) 2 (fun _ _ => rfl) ?_
                          exact q_RP_ret rfl rfl rfl
                        | false =>
                          refine q_RP_cF ?_
                          refine q_RP_rsT (g2 := (163, [(3, .int r3), (2, .int r2.2), (0, .ref 64), (1, .int a1)], [], (q_kM r2.1 c n))) rfl rfl (q_d_neF h14) ?_
                          refine q_RP_seg (g2 := (164, [(3, .int r3), (2, .int r2.2), (0, .ref 64), (1, .int a1)], [.int 2], (q_kM r2.1 c n))) 1 (fun _ _ => rfl) ?_
                          exact q_RP_ret rfl rfl rfl
  | false =>
    refine q_RP_cF ?_
    refine q_RP_rsF (g2 := (15, [(3, .int r3), (2, .int r2.2), (0, .ref 64), (1, .int a1)], [], (q_kM r2.1 c n))) rfl rfl h1 ?_
    refine q_RP_seg (g2 := (22, [(3, .int r3), (2, .int r2.2), (0, .ref 64), (1, .int a1)], [.int a1, .int (r2.2 - r2.2 / 8 * 8), .int r3, .ref 64], (q_kM r2.1 c n))) 6 (fun _ _ => rfl) ?_
    refine q_RP_bd fun r8 er8 => ?_
    refine q_RP_call (v := (some (.int r8.2))) (h2 := (q_kM r8.1 c n)) rfl rfl ((dzt_M251_64 r2.1 c n r3 (r2.2 - r2.2 / 8 * 8) a1 r8 er8).le (Nat.le_of_ble_eq_true rfl)) ?_
    show q_RP _ _ _ (25, [(3, .int r3), (2, .int r2.2), (0, .ref 64), (1, .int a1)], [.int r8.2], (q_kM r8.1 c n)) _ _
    exact q_RP_ret rfl rfl rfl
def dz_M277_64_75 (s : q_S) : Option (q_S) :=
  cond (decide (0 < (s.1 14) 18)) (some (q_sA s 14 (upd (s.1 14) 17 7))) ((dz_M254_64 s ((s.1 14) 4)).bind fun r2 => some (q_sA r2.1 14 (upd (r2.1.1 14) 17 r2.2)))
set_option maxHeartbeats 4000000 in
theorem dzt_M277_64_75 (c n : Nat) (s : q_S) : q_RP q_TB0 10 276 (75, [(0, .ref 64)], [], (q_kM s c n)) (q_oSM c n) (dz_M277_64_75 s) := by
  unfold dz_M277_64_75
  refine q_RP_seg (g2 := (88, [(0, .ref 64)], [.int ((s.1 14) 18), .int 17, .ref 78], (q_kM s c n))) 7 (fun _ _ => rfl) ?_
  cases h6 : decide (0 < (s.1 14) 18) with
  | true =>
    refine q_RP_cT ?_
    refine q_RP_rsF (g2 := (91, [(0, .ref 64)], [.int 17, .ref 78], (q_kM s c n))) rfl rfl (q_d_geT h6) ?_
    refine q_RP_seg (g2 := (107, [(0, .ref 64)], [], (q_kM (q_sA s 14 (upd (s.1 14) 17 7)) c n))) 3 (fun _ _ => rfl) ?_
    exact q_RP_ret rfl rfl rfl
  | false =>
    refine q_RP_cF ?_
    refine q_RP_rsT (g2 := (96, [(0, .ref 64)], [.int 17, .ref 78], (q_kM s c n))) rfl rfl (q_d_geF h6) ?_
    refine q_RP_seg (g2 := (103, [(0, .ref 64)], [.int ((s.1 14) 4), .ref 64, .int 17, .ref 78], (q_kM s c n))) 5 (fun _ _ => rfl) ?_
    refine q_RP_bd fun r2 er2 => ?_
    refine q_RP_call (v := (some (.int r2.2))) (h2 := (q_kM r2.1 c n)) rfl rfl ((dzt_M254_64 s c n ((s.1 14) 4) r2 er2).le (Nat.le_of_ble_eq_true rfl)) ?_
    show q_RP _ _ _ (106, [(0, .ref 64)], [.int r2.2, .int 17, .ref 78], (q_kM r2.1 c n)) _ _
    refine q_RP_seg (g2 := (107, [(0, .ref 64)], [], (q_kM (q_sA r2.1 14 (upd (r2.1.1 14) 17 r2.2)) c n))) 1 (fun _ _ => rfl) ?_
    exact q_RP_ret rfl rfl rfl
def dz_M277_64 (s : q_S) : Option (q_S) :=
  cond (decide ((s.1 15) 6 = 0)) (cond (decide (((s.1 14) 9) &&& ((s.1 4) 11) = 0)) (dz_M277_64_75 (q_sA s 14 (upd (s.1 14) 18 0))) (cond (decide ((s.1 15) 3 = 0)) (dz_M277_64_75 (q_sA s 14 (upd (s.1 14) 18 3838))) (dz_M277_64_75 (q_sA s 14 (upd (s.1 14) 18 0))))) (dz_M277_64_75 (q_sA (q_sA s 14 (upd (s.1 14) 18 3834)) 15 (upd (s.1 15) 6 (vp_nar .boolean 0))))
set_option maxHeartbeats 4000000 in
theorem dzt_M277_64 (s : q_S) (c n : Nat) (x : q_S) (h : dz_M277_64 s = some x) : q_Ca q_TB0 11 276 [.ref 64] (q_kM s c n) ((q_oSM c n) x) := by
  refine q_CaP_of (φ := (q_oSM c n)) (Nat.le_of_ble_eq_true rfl) ?_ h
  clear h
  unfold dz_M277_64
  refine q_RP_seg (g2 := (13, [(0, .ref 64)], [.int ((s.1 15) 6), .int 18, .ref 78], (q_kM s c n))) 7 (fun _ _ => rfl) ?_
  cases h4 : decide ((s.1 15) 6 = 0) with
  | true =>
    refine q_RP_cT ?_
    refine q_RP_rsT (g2 := (22, [(0, .ref 64)], [.int 18, .ref 78], (q_kM s c n))) rfl rfl h4 ?_
    refine q_RP_seg (g2 := (29, [(0, .ref 64)], [.int ((s.1 14) 9), .int 18, .ref 78], (q_kM s c n))) 4 (fun _ _ => rfl) ?_
    refine q_RP_seg (g2 := (36, [(0, .ref 64)], [.int ((s.1 4) 11), .int ((s.1 14) 9), .int 18, .ref 78], (q_kM s c n))) 4 (fun _ _ => rfl) ?_
    refine q_RP_seg (g2 := (37, [(0, .ref 64)], [.int (((s.1 14) 9) &&& ((s.1 4) 11)), .int 18, .ref 78], (q_kM s c n))) 1 (fun _ _ => rfl) ?_
    cases h5 : decide (((s.1 14) 9) &&& ((s.1 4) 11) = 0) with
    | true =>
      refine q_RP_cT ?_
      refine q_RP_rsT (g2 := (55, [(0, .ref 64)], [.int 18, .ref 78], (q_kM s c n))) rfl rfl h5 ?_
      refine q_RP_seg (g2 := (64, [(0, .ref 64)], [.int ((s.1 15) 6)], (q_kM (q_sA s 14 (upd (s.1 14) 18 0)) c n))) 6 (fun _ _ => rfl) ?_
      refine q_RP_rsT (g2 := (75, [(0, .ref 64)], [], (q_kM (q_sA s 14 (upd (s.1 14) 18 0)) c n))) rfl rfl h4 ?_
      exact (dzt_M277_64_75 c n (q_sA s 14 (upd (s.1 14) 18 0)))
    | false =>
      refine q_RP_cF ?_
      refine q_RP_rsF (g2 := (40, [(0, .ref 64)], [.int 18, .ref 78], (q_kM s c n))) rfl rfl h5 ?_
      refine q_RP_seg (g2 := (46, [(0, .ref 64)], [.int ((s.1 15) 3), .int 18, .ref 78], (q_kM s c n))) 4 (fun _ _ => rfl) ?_
      cases h7 : decide ((s.1 15) 3 = 0) with
      | true =>
        refine q_RP_cT ?_
        refine q_RP_rsF (g2 := (49, [(0, .ref 64)], [.int 18, .ref 78], (q_kM s c n))) rfl rfl (q_d_neT h7) ?_
        refine q_RP_seg (g2 := (64, [(0, .ref 64)], [.int ((s.1 15) 6)], (q_kM (q_sA s 14 (upd (s.1 14) 18 3838)) c n))) 7 (fun _ _ => rfl) ?_
        refine q_RP_rsT (g2 := (75, [(0, .ref 64)], [], (q_kM (q_sA s 14 (upd (s.1 14) 18 3838)) c n))) rfl rfl h4 ?_
        exact (dzt_M277_64_75 c n (q_sA s 14 (upd (s.1 14) 18 3838)))
      | false =>
        refine q_RP_cF ?_
        refine q_RP_rsT (g2 := (55, [(0, .ref 64)], [.int 18, .ref 78], (q_kM s c n))) rfl rfl (q_d_neF h7) ?_
        refine q_RP_seg (g2 := (64, [(0, .ref 64)], [.int ((s.1 15) 6)], (q_kM (q_sA s 14 (upd (s.1 14) 18 0)) c n))) 6 (fun _ _ => rfl) ?_
        refine q_RP_rsT (g2 := (75, [(0, .ref 64)], [], (q_kM (q_sA s 14 (upd (s.1 14) 18 0)) c n))) rfl rfl h4 ?_
        exact (dzt_M277_64_75 c n (q_sA s 14 (upd (s.1 14) 18 0)))
  | false =>
    refine q_RP_cF ?_
    refine q_RP_rsF (g2 := (16, [(0, .ref 64)], [.int 18, .ref 78], (q_kM s c n))) rfl rfl h4 ?_
    refine q_RP_seg (g2 := (64, [(0, .ref 64)], [.int ((s.1 15) 6)], (q_kM (q_sA s 14 (upd (s.1 14) 18 3834)) c n))) 7 (fun _ _ => rfl) ?_
    refine q_RP_rsF (g2 := (67, [(0, .ref 64)], [], (q_kM (q_sA s 14 (upd (s.1 14) 18 3834)) c n))) rfl rfl h4 ?_
    refine q_RP_seg (g2 := (75, [(0, .ref 64)], [], (q_kM (q_sA (q_sA s 14 (upd (s.1 14) 18 3834)) 15 (upd (s.1 15) 6 (vp_nar .boolean 0))) c n))) 5 (fun _ _ => rfl) ?_
    exact (dzt_M277_64_75 c n (q_sA (q_sA s 14 (upd (s.1 14) 18 3834)) 15 (upd (s.1 15) 6 (vp_nar .boolean 0))))
def dz_M255_64 (s : q_S) (a1 : Int32) : Option (q_S) :=
  cond (q_in ((256 : Int32) + ((s.1 14) 3)) 4096) (some (q_sA (q_sA s 1 (upd (s.1 1) (((256 : Int32) + ((s.1 14) 3)).toNatClampNeg) a1)) 14 (upd (s.1 14) 3 ((((s.1 14) 3) + 255) - (((s.1 14) 3) + 255) / 256 * 256)))) none
set_option maxHeartbeats 4000000 in
theorem dzt_M255_64 (s : q_S) (c n : Nat) (a1 : Int32) (x : q_S) (h : dz_M255_64 s a1 = some x) : q_Ca q_TB0 1 254 [.ref 64, .int a1] (q_kM s c n) ((q_oSM c n) x) := by
  refine q_CaP_of (φ := (q_oSM c n)) (Nat.le_of_ble_eq_true rfl) ?_ h
  clear h
  unfold dz_M255_64
  refine q_RP_seg (g2 := (13, [(0, .ref 64), (1, .int a1)], [.int ((s.1 14) 3), .int 256, .ref 65], (q_kM s c n))) 7 (fun _ _ => rfl) ?_
  refine q_RP_seg (g2 := (15, [(0, .ref 64), (1, .int a1)], [.int a1, .int ((256 : Int32) + ((s.1 14) 3)), .ref 65], (q_kM s c n))) 2 (fun _ _ => rfl) ?_
  refine q_RP_as fun i1 => ?_
  refine q_RP_rsT (g2 := (16, [(0, .ref 64), (1, .int a1)], [], (q_kM (q_sA s 1 (upd (s.1 1) (((256 : Int32) + ((s.1 14) 3)).toNatClampNeg) a1)) c n))) rfl q_wM1 i1 ?_
  refine q_RP_seg (g2 := (27, [(0, .ref 64), (1, .int a1)], [.int ((s.1 14) 3), .int 3, .ref 78], (q_kM (q_sA s 1 (upd (s.1 1) (((256 : Int32) + ((s.1 14) 3)).toNatClampNeg) a1)) c n))) 7 (fun _ _ => rfl) ?_
  refine q_RP_seg (g2 := (36, [(0, .ref 64), (1, .int a1)], [], (q_kM (q_sA (q_sA s 1 (upd (s.1 1) (((256 : Int32) + ((s.1 14) 3)).toNatClampNeg) a1)) 14 (upd (s.1 14) 3 ((((s.1 14) 3) + 255) - (((s.1 14) 3) + 255) / 256 * 256))) c n))) 5 (fun _ _ => rfl) ?_
  exact q_RP_ret rfl rfl rfl
def dz_M257_64 (s : q_S) (a1 : Int32) (a2 : Int32) : Option (Int32) :=
  cond (q_in a1 8) (cond (decide ((s.1 15) (a1.toNatClampNeg) = 0)) (some 0) (some a2)) none
set_option maxHeartbeats 4000000 in
theorem dzt_M257_64 (s : q_S) (c n : Nat) (a1 : Int32) (a2 : Int32) (x : Int32) (h : dz_M257_64 s a1 a2 = some x) : q_Ca q_TB0 1 256 [.ref 64, .int a1, .int a2] (q_kM s c n) ((q_oP (q_kM s c n)) x) := by
  refine q_CaP_of (φ := (q_oP (q_kM s c n))) (Nat.le_of_ble_eq_true rfl) ?_ h
  clear h
  unfold dz_M257_64
  refine q_RP_seg (g2 := (5, [(0, .ref 64), (1, .int a1), (2, .int a2)], [.int a1, .ref 79], (q_kM s c n))) 3 (fun _ _ => rfl) ?_
  refine q_RP_as fun i1 => ?_
  refine q_RP_rsT (g2 := (6, [(0, .ref 64), (1, .int a1), (2, .int a2)], [.int ((s.1 15) (a1.toNatClampNeg))], (q_kM s c n))) rfl rfl i1 ?_
  cases h2 : decide ((s.1 15) (a1.toNatClampNeg) = 0) with
  | true =>
    refine q_RP_cT ?_
    refine q_RP_rsT (g2 := (13, [(0, .ref 64), (1, .int a1), (2, .int a2)], [], (q_kM s c n))) rfl rfl h2 ?_
    refine q_RP_seg (g2 := (14, [(0, .ref 64), (1, .int a1), (2, .int a2)], [.int 0], (q_kM s c n))) 1 (fun _ _ => rfl) ?_
    exact q_RP_ret rfl rfl rfl
  | false =>
    refine q_RP_cF ?_
    refine q_RP_rsF (g2 := (9, [(0, .ref 64), (1, .int a1), (2, .int a2)], [], (q_kM s c n))) rfl rfl h2 ?_
    refine q_RP_seg (g2 := (14, [(0, .ref 64), (1, .int a1), (2, .int a2)], [.int a2], (q_kM s c n))) 2 (fun _ _ => rfl) ?_
    exact q_RP_ret rfl rfl rfl
def dz_M258_64 (s : q_S) (a1 : Int32) : Option (Int32) :=
  (dz_M257_64 s 5 1).bind fun r2 => (dz_M257_64 s 4 2).bind fun r3 => (dz_M257_64 s 3 4).bind fun r4 => (dz_M257_64 s 2 8).bind fun r5 => (dz_M257_64 s 1 64).bind fun r6 => (dz_M257_64 s 0 128).bind fun r7 => some (((((((r2 + r3) + r4) + r5) + a1) + 32) + r6) + r7)
set_option maxHeartbeats 4000000 in
theorem dzt_M258_64 (s : q_S) (c n : Nat) (a1 : Int32) (x : Int32) (h : dz_M258_64 s a1 = some x) : q_Ca q_TB0 2 257 [.ref 64, .int a1] (q_kM s c n) ((q_oP (q_kM s c n)) x) := by
  refine q_CaP_of (φ := (q_oP (q_kM s c n))) (Nat.le_of_ble_eq_true rfl) ?_ h
  clear h
  unfold dz_M258_64
  refine q_RP_seg (g2 := (3, [(0, .ref 64), (1, .int a1)], [.int 1, .int 5, .ref 64], (q_kM s c n))) 3 (fun _ _ => rfl) ?_
  refine q_RP_bd fun r2 er2 => ?_
  refine q_RP_call (v := (some (.int r2))) (h2 := (q_kM s c n)) rfl rfl ((dzt_M257_64 s c n 5 1 r2 er2).le (Nat.le_of_ble_eq_true rfl)) ?_
  show q_RP _ _ _ (6, [(0, .ref 64), (1, .int a1)], [.int r2], (q_kM s c n)) _ _
  refine q_RP_seg (g2 := (9, [(0, .ref 64), (1, .int a1)], [.int 2, .int 4, .ref 64, .int r2], (q_kM s c n))) 3 (fun _ _ => rfl) ?_
  refine q_RP_bd fun r3 er3 => ?_
  refine q_RP_call (v := (some (.int r3))) (h2 := (q_kM s c n)) rfl rfl ((dzt_M257_64 s c n 4 2 r3 er3).le (Nat.le_of_ble_eq_true rfl)) ?_
  show q_RP _ _ _ (12, [(0, .ref 64), (1, .int a1)], [.int r3, .int r2], (q_kM s c n)) _ _
  refine q_RP_seg (g2 := (16, [(0, .ref 64), (1, .int a1)], [.int 4, .int 3, .ref 64, .int (r2 + r3)], (q_kM s c n))) 4 (fun _ _ => rfl) ?_
  refine q_RP_bd fun r4 er4 => ?_
  refine q_RP_call (v := (some (.int r4))) (h2 := (q_kM s c n)) rfl rfl ((dzt_M257_64 s c n 3 4 r4 er4).le (Nat.le_of_ble_eq_true rfl)) ?_
  show q_RP _ _ _ (19, [(0, .ref 64), (1, .int a1)], [.int r4, .int (r2 + r3)], (q_kM s c n)) _ _
  refine q_RP_seg (g2 := (24, [(0, .ref 64), (1, .int a1)], [.int 8, .int 2, .ref 64, .int ((r2 + r3) + r4)], (q_kM s c n))) 4 (fun _ _ => rfl) ?_
  refine q_RP_bd fun r5 er5 => ?_
  refine q_RP_call (v := (some (.int r5))) (h2 := (q_kM s c n)) rfl rfl ((dzt_M257_64 s c n 2 8 r5 er5).le (Nat.le_of_ble_eq_true rfl)) ?_
  show q_RP _ _ _ (27, [(0, .ref 64), (1, .int a1)], [.int r5, .int ((r2 + r3) + r4)], (q_kM s c n)) _ _
  refine q_RP_seg (g2 := (37, [(0, .ref 64), (1, .int a1)], [.int 64, .int 1, .ref 64, .int (((((r2 + r3) + r4) + r5) + a1) + 32)], (q_kM s c n))) 8 (fun _ _ => rfl) ?_
  refine q_RP_bd fun r6 er6 => ?_
  refine q_RP_call (v := (some (.int r6))) (h2 := (q_kM s c n)) rfl rfl ((dzt_M257_64 s c n 1 64 r6 er6).le (Nat.le_of_ble_eq_true rfl)) ?_
  show q_RP _ _ _ (40, [(0, .ref 64), (1, .int a1)], [.int r6, .int (((((r2 + r3) + r4) + r5) + a1) + 32)], (q_kM s c n)) _ _
  refine q_RP_seg (g2 := (46, [(0, .ref 64), (1, .int a1)], [.int 128, .int 0, .ref 64, .int ((((((r2 + r3) + r4) + r5) + a1) + 32) + r6)], (q_kM s c n))) 4 (fun _ _ => rfl) ?_
  refine q_RP_bd fun r7 er7 => ?_
  refine q_RP_call (v := (some (.int r7))) (h2 := (q_kM s c n)) rfl rfl ((dzt_M257_64 s c n 0 128 r7 er7).le (Nat.le_of_ble_eq_true rfl)) ?_
  show q_RP _ _ _ (49, [(0, .ref 64), (1, .int a1)], [.int r7, .int ((((((r2 + r3) + r4) + r5) + a1) + 32) + r6)], (q_kM s c n)) _ _
  refine q_RP_seg (g2 := (50, [(0, .ref 64), (1, .int a1)], [.int (((((((r2 + r3) + r4) + r5) + a1) + 32) + r6) + r7)], (q_kM s c n))) 1 (fun _ _ => rfl) ?_
  exact q_RP_ret rfl rfl rfl
def dz_M260_64 (s : q_S) (a1 : Int32) (a2 : Int32) (a3 : Int32) : Option (q_S) :=
  (dz_M255_64 s (a2 / 256)).bind fun r2 => (dz_M255_64 r2 (a2 - a2 / 256 * 256)).bind fun r3 => (dz_M258_64 r3 a3).bind fun r4 => (dz_M255_64 r3 r4).bind fun r5 => (dz_M248_64 (q_sA r5 15 (upd (r5.1 15) 3 (vp_nar .boolean 1))) a1).bind fun r6 => some (q_sA r6.1 14 (upd (r6.1.1 14) 4 r6.2))
set_option maxHeartbeats 4000000 in
theorem dzt_M260_64 (s : q_S) (c n : Nat) (a1 : Int32) (a2 : Int32) (a3 : Int32) (x : q_S) (h : dz_M260_64 s a1 a2 a3 = some x) : q_Ca q_TB0 7 259 [.ref 64, .int a1, .int a2, .int a3] (q_kM s c n) ((q_oSM c n) x) := by
  refine q_CaP_of (φ := (q_oSM c n)) (Nat.le_of_ble_eq_true rfl) ?_ h
  clear h
  unfold dz_M260_64
  refine q_RP_seg (g2 := (6, [(0, .ref 64), (1, .int a1), (2, .int a2), (3, .int a3)], [.int (a2 / 256), .ref 64], (q_kM s c n))) 4 (fun _ _ => rfl) ?_
  refine q_RP_bd fun r2 er2 => ?_
  refine q_RP_call (v := none) (h2 := (q_kM r2 c n)) rfl rfl ((dzt_M255_64 s c n (a2 / 256) r2 er2).le (Nat.le_of_ble_eq_true rfl)) ?_
  show q_RP _ _ _ (9, [(0, .ref 64), (1, .int a1), (2, .int a2), (3, .int a3)], [], (q_kM r2 c n)) _ _
  refine q_RP_seg (g2 := (15, [(0, .ref 64), (1, .int a1), (2, .int a2), (3, .int a3)], [.int (a2 - a2 / 256 * 256), .ref 64], (q_kM r2 c n))) 4 (fun _ _ => rfl) ?_
  refine q_RP_bd fun r3 er3 => ?_
  refine q_RP_call (v := none) (h2 := (q_kM r3 c n)) rfl rfl ((dzt_M255_64 r2 c n (a2 - a2 / 256 * 256) r3 er3).le (Nat.le_of_ble_eq_true rfl)) ?_
  show q_RP _ _ _ (18, [(0, .ref 64), (1, .int a1), (2, .int a2), (3, .int a3)], [], (q_kM r3 c n)) _ _
  refine q_RP_seg (g2 := (21, [(0, .ref 64), (1, .int a1), (2, .int a2), (3, .int a3)], [.int a3, .ref 64, .ref 64], (q_kM r3 c n))) 3 (fun _ _ => rfl) ?_
  refine q_RP_bd fun r4 er4 => ?_
  refine q_RP_call (v := (some (.int r4))) (h2 := (q_kM r3 c n)) rfl rfl ((dzt_M258_64 r3 c n a3 r4 er4).le (Nat.le_of_ble_eq_true rfl)) ?_
  show q_RP _ _ _ (24, [(0, .ref 64), (1, .int a1), (2, .int a2), (3, .int a3)], [.int r4, .ref 64], (q_kM r3 c n)) _ _
  refine q_RP_bd fun r5 er5 => ?_
  refine q_RP_call (v := none) (h2 := (q_kM r5 c n)) rfl rfl ((dzt_M255_64 r3 c n r4 r5 er5).le (Nat.le_of_ble_eq_true rfl)) ?_
  show q_RP _ _ _ (27, [(0, .ref 64), (1, .int a1), (2, .int a2), (3, .int a3)], [], (q_kM r5 c n)) _ _
  refine q_RP_seg (g2 := (41, [(0, .ref 64), (1, .int a1), (2, .int a2), (3, .int a3)], [.int a1, .ref 64, .int 4, .ref 78], (q_kM (q_sA r5 15 (upd (r5.1 15) 3 (vp_nar .boolean 1))) c n))) 10 (fun _ _ => rfl) ?_
  refine q_RP_bd fun r6 er6 => ?_
  refine q_RP_call (v := (some (.int r6.2))) (h2 := (q_kM r6.1 c n)) rfl rfl ((dzt_M248_64 (q_sA r5 15 (upd (r5.1 15) 3 (vp_nar .boolean 1))) c n a1 r6 er6).le (Nat.le_of_ble_eq_true rfl)) ?_
  show q_RP _ _ _ (44, [(0, .ref 64), (1, .int a1), (2, .int a2), (3, .int a3)], [.int r6.2, .int 4, .ref 78], (q_kM r6.1 c n)) _ _
  refine q_RP_seg (g2 := (45, [(0, .ref 64), (1, .int a1), (2, .int a2), (3, .int a3)], [], (q_kM (q_sA r6.1 14 (upd (r6.1.1 14) 4 r6.2)) c n))) 1 (fun _ _ => rfl) ?_
  exact q_RP_ret rfl rfl rfl
def dz_M256_64 (s : q_S) : Option (q_S × Int32) :=
  cond (q_in ((256 : Int32) + ((upd (s.1 14) 3 ((((s.1 14) 3) + 1) - (((s.1 14) 3) + 1) / 256 * 256)) 3)) 4096) (some ((q_sA s 14 (upd (s.1 14) 3 ((((s.1 14) 3) + 1) - (((s.1 14) 3) + 1) / 256 * 256))), ((s.1 1) (((256 : Int32) + ((upd (s.1 14) 3 ((((s.1 14) 3) + 1) - (((s.1 14) 3) + 1) / 256 * 256)) 3)).toNatClampNeg)))) none
set_option maxHeartbeats 4000000 in
theorem dzt_M256_64 (s : q_S) (c n : Nat) (x : q_S × Int32) (h : dz_M256_64 s = some x) : q_Ca q_TB0 1 255 [.ref 64] (q_kM s c n) ((q_oIM c n) x) := by
  refine q_CaP_of (φ := (q_oIM c n)) (Nat.le_of_ble_eq_true rfl) ?_ h
  clear h
  unfold dz_M256_64
  refine q_RP_seg (g2 := (11, [(0, .ref 64)], [.int ((s.1 14) 3), .int 3, .ref 78], (q_kM s c n))) 7 (fun _ _ => rfl) ?_
  refine q_RP_seg (g2 := (31, [(0, .ref 64)], [.int ((upd (s.1 14) 3 ((((s.1 14) 3) + 1) - (((s.1 14) 3) + 1) / 256 * 256)) 3), .int 256, .ref 65], (q_kM (q_sA s 14 (upd (s.1 14) 3 ((((s.1 14) 3) + 1) - (((s.1 14) 3) + 1) / 256 * 256))) c n))) 12 (fun _ _ => rfl) ?_
  refine q_RP_seg (g2 := (32, [(0, .ref 64)], [.int ((256 : Int32) + ((upd (s.1 14) 3 ((((s.1 14) 3) + 1) - (((s.1 14) 3) + 1) / 256 * 256)) 3)), .ref 65], (q_kM (q_sA s 14 (upd (s.1 14) 3 ((((s.1 14) 3) + 1) - (((s.1 14) 3) + 1) / 256 * 256))) c n))) 1 (fun _ _ => rfl) ?_
  refine q_RP_as fun i1 => ?_
  refine q_RP_rsT (g2 := (33, [(0, .ref 64)], [.int ((s.1 1) (((256 : Int32) + ((upd (s.1 14) 3 ((((s.1 14) 3) + 1) - (((s.1 14) 3) + 1) / 256 * 256)) 3)).toNatClampNeg))], (q_kM (q_sA s 14 (upd (s.1 14) 3 ((((s.1 14) 3) + 1) - (((s.1 14) 3) + 1) / 256 * 256))) c n))) rfl rfl i1 ?_
  exact q_RP_ret rfl rfl rfl
