section
-- 47.mb
def dz_M232_64_93 (s : q_S) (v1 : Int32) (v2 : Int32) : Option (q_S) :=
  cond (q_in (v2 + 2) 48) (q_let (dz_M206 s ((s.1 4) ((v2 + 2).toNatClampNeg)) 0) fun r2 => cond r2 (cond (q_in v1 3) (cond (q_in (v2 + 3) 48) (cond (decide (((s.1 4) ((v2 + 3).toNatClampNeg)) - ((s.1 4) ((v2 + 3).toNatClampNeg)) / 16 * 16 < (upd (s.1 12) (v1.toNatClampNeg) (((s.1 12) (v1.toNatClampNeg)) + 1)) (v1.toNatClampNeg))) (q_let ((q_sA s 12 (upd (s.1 12) (v1.toNatClampNeg) (((s.1 12) (v1.toNatClampNeg)) + 1)))) fun r3 => some (q_sA (q_sA r3 12 (upd (r3.1 12) (v1.toNatClampNeg) 0)) 11 (upd (r3.1 11) (v1.toNatClampNeg) (if (((r3.1 11) (v1.toNatClampNeg)) + 1) < (15 : Int32) then (((r3.1 11) (v1.toNatClampNeg)) + 1) else (15 : Int32))))) (some (q_sA s 12 (upd (s.1 12) (v1.toNatClampNeg) (((s.1 12) (v1.toNatClampNeg)) + 1))))) none) none) (cond (q_in v1 3) (cond (q_in (v2 + 3) 48) (cond (decide (((s.1 4) ((v2 + 3).toNatClampNeg)) / 16 < (upd (s.1 12) (v1.toNatClampNeg) (((s.1 12) (v1.toNatClampNeg)) + 1)) (v1.toNatClampNeg))) (q_let ((q_sA s 12 (upd (s.1 12) (v1.toNatClampNeg) (((s.1 12) (v1.toNatClampNeg)) + 1)))) fun r4 => some (q_sA (q_sA r4 12 (upd (r4.1 12) (v1.toNatClampNeg) 0)) 11 (upd (r4.1 11) (v1.toNatClampNeg) (if (0 : Int32) < (((r4.1 11) (v1.toNatClampNeg)) - 1) then (((r4.1 11) (v1.toNatClampNeg)) - 1) else (0 : Int32))))) (some (q_sA s 12 (upd (s.1 12) (v1.toNatClampNeg) (((s.1 12) (v1.toNatClampNeg)) + 1))))) none) none)) none
set_option maxHeartbeats 4000000 in
theorem dzt_M232_64_93 (c n : Nat) (s : q_S) (v1 : Int32) (v2 : Int32) : q_RP q_TB0 1 231 (93, [(0, .ref 64), (1, .int v1), (2, .int v2)], [], (q_kM s c n)) (q_oSM c n) (dz_M232_64_93 s v1 v2) := by
  unfold dz_M232_64_93
  refine q_RP_seg (g2 := (100, [(0, .ref 64), (1, .int v1), (2, .int v2)], [.int (v2 + 2), .ref 68], (q_kM s c n))) 5 (fun _ _ => rfl) ?_
  refine q_RP_as fun i6 => ?_
  refine q_RP_rsT (g2 := (101, [(0, .ref 64), (1, .int v1), (2, .int v2)], [.int ((s.1 4) ((v2 + 2).toNatClampNeg))], (q_kM s c n))) rfl rfl i6 ?_
  refine q_RP_seg (g2 := (102, [(0, .ref 64), (1, .int v1), (2, .int v2)], [.int 0, .int ((s.1 4) ((v2 + 2).toNatClampNeg))], (q_kM s c n))) 1 (fun _ _ => rfl) ?_
  refine q_RP_call (v := (some (.int (q_b (dz_M206 s ((s.1 4) ((v2 + 2).toNatClampNeg)) 0))))) (h2 := (q_kM s c n)) rfl rfl ((dzt_M206 s c n ((s.1 4) ((v2 + 2).toNatClampNeg)) 0).le (Nat.le_of_ble_eq_true rfl)) ?_
  generalize dz_M206 s ((s.1 4) ((v2 + 2).toNatClampNeg)) 0 = r2
  refine q_RP_let ?_
  show q_RP _ _ _ (105, [(0, .ref 64), (1, .int v1), (2, .int v2)], [.int (q_b r2)], (q_kM s c n)) _ _
  cases h7 : r2 with
  | true =>
    refine q_RP_cT ?_
    show q_RP _ _ _ (105, [(0, .ref 64), (1, .int v1), (2, .int v2)], [.int 1], (q_kM s c n)) _ _
    refine q_RP_seg (g2 := (113, [(4, .int 1), (0, .ref 64), (1, .int v1), (2, .int v2)], [.int v1, .ref 76, .int v1, .ref 76], (q_kM s c n))) 5 (fun _ _ => rfl) ?_
    refine q_RP_as fun i8 => ?_
    refine q_RP_rsT (g2 := (114, [(4, .int 1), (0, .ref 64), (1, .int v1), (2, .int v2)], [.int ((s.1 12) (v1.toNatClampNeg)), .int v1, .ref 76], (q_kM s c n))) rfl rfl i8 ?_
    refine q_RP_seg (g2 := (116, [(4, .int 1), (0, .ref 64), (1, .int v1), (2, .int v2)], [.int (((s.1 12) (v1.toNatClampNeg)) + 1), .int v1, .ref 76], (q_kM s c n))) 2 (fun _ _ => rfl) ?_
    refine q_RP_rsT (g2 := (117, [(4, .int 1), (0, .ref 64), (1, .int v1), (2, .int v2)], [], (q_kM (q_sA s 12 (upd (s.1 12) (v1.toNatClampNeg) (((s.1 12) (v1.toNatClampNeg)) + 1))) c n))) rfl q_wM12 i8 ?_
    refine q_RP_seg (g2 := (122, [(4, .int 1), (0, .ref 64), (1, .int v1), (2, .int v2)], [.int v1, .ref 76], (q_kM (q_sA s 12 (upd (s.1 12) (v1.toNatClampNeg) (((s.1 12) (v1.toNatClampNeg)) + 1))) c n))) 3 (fun _ _ => rfl) ?_
    refine q_RP_rsT (g2 := (123, [(4, .int 1), (0, .ref 64), (1, .int v1), (2, .int v2)], [.int ((upd (s.1 12) (v1.toNatClampNeg) (((s.1 12) (v1.toNatClampNeg)) + 1)) (v1.toNatClampNeg))], (q_kM (q_sA s 12 (upd (s.1 12) (v1.toNatClampNeg) (((s.1 12) (v1.toNatClampNeg)) + 1))) c n))) rfl rfl i8 ?_
    refine q_RP_seg (g2 := (135, [(4, .int 1), (0, .ref 64), (1, .int v1), (2, .int v2)], [.int (v2 + 3), .ref 68, .int ((upd (s.1 12) (v1.toNatClampNeg) (((s.1 12) (v1.toNatClampNeg)) + 1)) (v1.toNatClampNeg))], (q_kM (q_sA s 12 (upd (s.1 12) (v1.toNatClampNeg) (((s.1 12) (v1.toNatClampNeg)) + 1))) c n))) 7 (fun _ _ => rfl) ?_
    refine q_RP_as fun i9 => ?_
    refine q_RP_rsT (g2 := (136, [(4, .int 1), (0, .ref 64), (1, .int v1), (2, .int v2)], [.int ((s.1 4) ((v2 + 3).toNatClampNeg)), .int ((upd (s.1 12) (v1.toNatClampNeg) (((s.1 12) (v1.toNatClampNeg)) + 1)) (v1.toNatClampNeg))], (q_kM (q_sA s 12 (upd (s.1 12) (v1.toNatClampNeg) (((s.1 12) (v1.toNatClampNeg)) + 1))) c n))) rfl rfl i9 ?_
    refine q_RP_seg (g2 := (153, [(4, .int 1), (0, .ref 64), (1, .int v1), (2, .int v2)], [.int (((s.1 4) ((v2 + 3).toNatClampNeg)) - ((s.1 4) ((v2 + 3).toNatClampNeg)) / 16 * 16), .int ((upd (s.1 12) (v1.toNatClampNeg) (((s.1 12) (v1.toNatClampNeg)) + 1)) (v1.toNatClampNeg))], (q_kM (q_sA s 12 (upd (s.1 12) (v1.toNatClampNeg) (((s.1 12) (v1.toNatClampNeg)) + 1))) c n))) 3 (fun _ _ => rfl) ?_
    cases h10 : decide (((s.1 4) ((v2 + 3).toNatClampNeg)) - ((s.1 4) ((v2 + 3).toNatClampNeg)) / 16 * 16 < (upd (s.1 12) (v1.toNatClampNeg) (((s.1 12) (v1.toNatClampNeg)) + 1)) (v1.toNatClampNeg)) with
    | true =>
      refine q_RP_cT ?_
      refine q_RP_rsT (g2 := (157, [(4, .int 1), (0, .ref 64), (1, .int v1), (2, .int v2)], [], (q_kM (q_sA s 12 (upd (s.1 12) (v1.toNatClampNeg) (((s.1 12) (v1.toNatClampNeg)) + 1))) c n))) rfl rfl h10 ?_
      refine q_RP_seg (g2 := (163, [(4, .int 1), (0, .ref 64), (1, .int v1), (2, .int v2)], [.int 0, .int v1, .ref 76], (q_kM (q_sA s 12 (upd (s.1 12) (v1.toNatClampNeg) (((s.1 12) (v1.toNatClampNeg)) + 1))) c n))) 4 (fun _ _ => rfl) ?_
      generalize (q_sA s 12 (upd (s.1 12) (v1.toNatClampNeg) (((s.1 12) (v1.toNatClampNeg)) + 1))) = r3
      refine q_RP_let ?_
      show q_RP _ _ _ (163, [(4, .int 1), (0, .ref 64), (1, .int v1), (2, .int v2)], [.int 0, .int v1, .ref 76], (q_kM r3 c n)) _ _
      refine q_RP_rsT (g2 := (164, [(4, .int 1), (0, .ref 64), (1, .int v1), (2, .int v2)], [], (q_kM (q_sA r3 12 (upd (r3.1 12) (v1.toNatClampNeg) 0)) c n))) rfl q_wM12 i8 ?_
      refine q_RP_seg (g2 := (181, [(4, .int 1), (0, .ref 64), (1, .int v1), (2, .int v2)], [.int v1, .ref 75, .int 15, .int v1, .ref 75], (q_kM (q_sA r3 12 (upd (r3.1 12) (v1.toNatClampNeg) 0)) c n))) 9 (fun _ _ => rfl) ?_
      refine q_RP_rsT (g2 := (182, [(4, .int 1), (0, .ref 64), (1, .int v1), (2, .int v2)], [.int ((r3.1 11) (v1.toNatClampNeg)), .int 15, .int v1, .ref 75], (q_kM (q_sA r3 12 (upd (r3.1 12) (v1.toNatClampNeg) 0)) c n))) rfl rfl i8 ?_
      refine q_RP_seg (g2 := (202, [(4, .int 1), (0, .ref 64), (1, .int v1), (2, .int v2)], [.int (if (((r3.1 11) (v1.toNatClampNeg)) + 1) < (15 : Int32) then (((r3.1 11) (v1.toNatClampNeg)) + 1) else (15 : Int32)), .int v1, .ref 75], (q_kM (q_sA r3 12 (upd (r3.1 12) (v1.toNatClampNeg) 0)) c n))) 4 (fun _ _ => rfl) ?_
      refine q_RP_rsT (g2 := (203, [(4, .int 1), (0, .ref 64), (1, .int v1), (2, .int v2)], [], (q_kM (q_sA (q_sA r3 12 (upd (r3.1 12) (v1.toNatClampNeg) 0)) 11 (upd (r3.1 11) (v1.toNatClampNeg) (if (((r3.1 11) (v1.toNatClampNeg)) + 1) < (15 : Int32) then (((r3.1 11) (v1.toNatClampNeg)) + 1) else (15 : Int32)))) c n))) rfl q_wM11 i8 ?_
      exact q_RP_ret rfl rfl rfl
    | false =>
      refine q_RP_cF ?_
      refine q_RP_rsF (g2 := (156, [(4, .int 1), (0, .ref 64), (1, .int v1), (2, .int v2)], [], (q_kM (q_sA s 12 (upd (s.1 12) (v1.toNatClampNeg) (((s.1 12) (v1.toNatClampNeg)) + 1))) c n))) rfl rfl h10 ?_
      exact q_RP_ret rfl rfl rfl
  | false =>
    refine q_RP_cF ?_
    show q_RP _ _ _ (105, [(0, .ref 64), (1, .int v1), (2, .int v2)], [.int 0], (q_kM s c n)) _ _
    refine q_RP_seg (g2 := (113, [(4, .int 0), (0, .ref 64), (1, .int v1), (2, .int v2)], [.int v1, .ref 76, .int v1, .ref 76], (q_kM s c n))) 5 (fun _ _ => rfl) ?_
    refine q_RP_as fun i11 => ?_
    refine q_RP_rsT (g2 := (114, [(4, .int 0), (0, .ref 64), (1, .int v1), (2, .int v2)], [.int ((s.1 12) (v1.toNatClampNeg)), .int v1, .ref 76], (q_kM s c n))) rfl rfl i11 ?_
    refine q_RP_seg (g2 := (116, [(4, .int 0), (0, .ref 64), (1, .int v1), (2, .int v2)], [.int (((s.1 12) (v1.toNatClampNeg)) + 1), .int v1, .ref 76], (q_kM s c n))) 2 (fun _ _ => rfl) ?_
    refine q_RP_rsT (g2 := (117, [(4, .int 0), (0, .ref 64), (1, .int v1), (2, .int v2)], [], (q_kM (q_sA s 12 (upd (s.1 12) (v1.toNatClampNeg) (((s.1 12) (v1.toNatClampNeg)) + 1))) c n))) rfl q_wM12 i11 ?_
    refine q_RP_seg (g2 := (122, [(4, .int 0), (0, .ref 64), (1, .int v1), (2, .int v2)], [.int v1, .ref 76], (q_kM (q_sA s 12 (upd (s.1 12) (v1.toNatClampNeg) (((s.1 12) (v1.toNatClampNeg)) + 1))) c n))) 3 (fun _ _ => rfl) ?_
    refine q_RP_rsT (g2 := (123, [(4, .int 0), (0, .ref 64), (1, .int v1), (2, .int v2)], [.int ((upd (s.1 12) (v1.toNatClampNeg) (((s.1 12) (v1.toNatClampNeg)) + 1)) (v1.toNatClampNeg))], (q_kM (q_sA s 12 (upd (s.1 12) (v1.toNatClampNeg) (((s.1 12) (v1.toNatClampNeg)) + 1))) c n))) rfl rfl i11 ?_
    refine q_RP_seg (g2 := (149, [(4, .int 0), (0, .ref 64), (1, .int v1), (2, .int v2)], [.int (v2 + 3), .ref 68, .int ((upd (s.1 12) (v1.toNatClampNeg) (((s.1 12) (v1.toNatClampNeg)) + 1)) (v1.toNatClampNeg))], (q_kM (q_sA s 12 (upd (s.1 12) (v1.toNatClampNeg) (((s.1 12) (v1.toNatClampNeg)) + 1))) c n))) 7 (fun _ _ => rfl) ?_
    refine q_RP_as fun i12 => ?_
    refine q_RP_rsT (g2 := (150, [(4, .int 0), (0, .ref 64), (1, .int v1), (2, .int v2)], [.int ((s.1 4) ((v2 + 3).toNatClampNeg)), .int ((upd (s.1 12) (v1.toNatClampNeg) (((s.1 12) (v1.toNatClampNeg)) + 1)) (v1.toNatClampNeg))], (q_kM (q_sA s 12 (upd (s.1 12) (v1.toNatClampNeg) (((s.1 12) (v1.toNatClampNeg)) + 1))) c n))) rfl rfl i12 ?_
    refine q_RP_seg (g2 := (153, [(4, .int 0), (0, .ref 64), (1, .int v1), (2, .int v2)], [.int (((s.1 4) ((v2 + 3).toNatClampNeg)) / 16), .int ((upd (s.1 12) (v1.toNatClampNeg) (((s.1 12) (v1.toNatClampNeg)) + 1)) (v1.toNatClampNeg))], (q_kM (q_sA s 12 (upd (s.1 12) (v1.toNatClampNeg) (((s.1 12) (v1.toNatClampNeg)) + 1))) c n))) 2 (fun _ _ => rfl) ?_
    cases h13 : decide (((s.1 4) ((v2 + 3).toNatClampNeg)) / 16 < (upd (s.1 12) (v1.toNatClampNeg) (((s.1 12) (v1.toNatClampNeg)) + 1)) (v1.toNatClampNeg)) with
    | true =>
      refine q_RP_cT ?_
      refine q_RP_rsT (g2 := (157, [(4, .int 0), (0, .ref 64), (1, .int v1), (2, .int v2)], [], (q_kM (q_sA s 12 (upd (s.1 12) (v1.toNatClampNeg) (((s.1 12) (v1.toNatClampNeg)) + 1))) c n))) rfl rfl h13 ?_
      refine q_RP_seg (g2 := (163, [(4, .int 0), (0, .ref 64), (1, .int v1), (2, .int v2)], [.int 0, .int v1, .ref 76], (q_kM (q_sA s 12 (upd (s.1 12) (v1.toNatClampNeg) (((s.1 12) (v1.toNatClampNeg)) + 1))) c n))) 4 (fun _ _ => rfl) ?_
      generalize (q_sA s 12 (upd (s.1 12) (v1.toNatClampNeg) (((s.1 12) (v1.toNatClampNeg)) + 1))) = r4
      refine q_RP_let ?_
      show q_RP _ _ _ (163, [(4, .int 0), (0, .ref 64), (1, .int v1), (2, .int v2)], [.int 0, .int v1, .ref 76], (q_kM r4 c n)) _ _
      refine q_RP_rsT (g2 := (164, [(4, .int 0), (0, .ref 64), (1, .int v1), (2, .int v2)], [], (q_kM (q_sA r4 12 (upd (r4.1 12) (v1.toNatClampNeg) 0)) c n))) rfl q_wM12 i11 ?_
      refine q_RP_seg (g2 := (196, [(4, .int 0), (0, .ref 64), (1, .int v1), (2, .int v2)], [.int v1, .ref 75, .int 0, .int v1, .ref 75], (q_kM (q_sA r4 12 (upd (r4.1 12) (v1.toNatClampNeg) 0)) c n))) 9 (fun _ _ => rfl) ?_
      refine q_RP_rsT (g2 := (197, [(4, .int 0), (0, .ref 64), (1, .int v1), (2, .int v2)], [.int ((r4.1 11) (v1.toNatClampNeg)), .int 0, .int v1, .ref 75], (q_kM (q_sA r4 12 (upd (r4.1 12) (v1.toNatClampNeg) 0)) c n))) rfl rfl i11 ?_
      refine q_RP_seg (g2 := (202, [(4, .int 0), (0, .ref 64), (1, .int v1), (2, .int v2)], [.int (if (0 : Int32) < (((r4.1 11) (v1.toNatClampNeg)) - 1) then (((r4.1 11) (v1.toNatClampNeg)) - 1) else (0 : Int32)), .int v1, .ref 75], (q_kM (q_sA r4 12 (upd (r4.1 12) (v1.toNatClampNeg) 0)) c n))) 3 (fun _ _ => rfl) ?_
      refine q_RP_rsT (g2 := (203, [(4, .int 0), (0, .ref 64), (1, .int v1), (2, .int v2)], [], (q_kM (q_sA (q_sA r4 12 (upd (r4.1 12) (v1.toNatClampNeg) 0)) 11 (upd (r4.1 11) (v1.toNatClampNeg) (if (0 : Int32) < (((r4.1 11) (v1.toNatClampNeg)) - 1) then (((r4.1 11) (v1.toNatClampNeg)) - 1) else (0 : Int32)))) c n))) rfl q_wM11 i11 ?_
      exact q_RP_ret rfl rfl rfl
    | false =>
      refine q_RP_cF ?_
      refine q_RP_rsF (g2 := (156, [(4, .int 0), (0, .ref 64), (1, .int v1), (2, .int v2)], [], (q_kM (q_sA s 12 (upd (s.1 12) (v1.toNatClampNeg) (((s.1 12) (v1.toNatClampNeg)) + 1))) c n))) rfl rfl h13 ?_
      exact q_RP_ret rfl rfl rfl
def dz_M232_64 (s : q_S) (a1 : Int32) : Option (q_S) :=
  cond (q_in a1 3) (cond (q_in ((32 : Int32) + (4 * a1)) 48) (cond (q_in (((32 : Int32) + (4 * a1)) + 1) 48) (q_let ((((s.1 10) (a1.toNatClampNeg)) + ((s.1 4) (((32 : Int32) + (4 * a1)).toNatClampNeg))) + (256 * ((s.1 4) ((((32 : Int32) + (4 * a1)) + 1).toNatClampNeg)))) fun x1 => cond (decide (65535 < x1)) (cond (decide (((s.1 13) (a1.toNatClampNeg)) - ((s.1 13) (a1.toNatClampNeg)) / 2 * 2 = (((s.1 13) (a1.toNatClampNeg)) / 2) - (((s.1 13) (a1.toNatClampNeg)) / 2) / 2 * 2)) (dz_M232_64_93 (q_sA (q_sA s 10 (upd (s.1 10) (a1.toNatClampNeg) (x1 - x1 / 65536 * 65536))) 13 (upd (s.1 13) (a1.toNatClampNeg) ((((s.1 13) (a1.toNatClampNeg)) / 2) + 0))) a1 ((32 : Int32) + (4 * a1))) (dz_M232_64_93 (q_sA (q_sA s 10 (upd (s.1 10) (a1.toNatClampNeg) (x1 - x1 / 65536 * 65536))) 13 (upd (s.1 13) (a1.toNatClampNeg) ((((s.1 13) (a1.toNatClampNeg)) / 2) + 16384))) a1 ((32 : Int32) + (4 * a1)))) (dz_M232_64_93 (q_sA s 10 (upd (s.1 10) (a1.toNatClampNeg) (x1 - x1 / 65536 * 65536))) a1 ((32 : Int32) + (4 * a1)))) none) none) none
set_option maxHeartbeats 4000000 in
theorem dzt_M232_64 (s : q_S) (c n : Nat) (a1 : Int32) (x : q_S) (h : dz_M232_64 s a1 = some x) : q_Ca q_TB0 2 231 [.ref 64, .int a1] (q_kM s c n) ((q_oSM c n) x) := by
  refine q_CaP_of (φ := (q_oSM c n)) (Nat.le_of_ble_eq_true rfl) ?_ h
  clear h
  unfold dz_M232_64
  refine q_RP_seg (g2 := (12, [(2, .int ((32 : Int32) + (4 * a1))), (0, .ref 64), (1, .int a1)], [.int a1, .ref 74], (q_kM s c n))) 9 (fun _ _ => rfl) ?_
  refine q_RP_as fun i1 => ?_
  refine q_RP_rsT (g2 := (13, [(2, .int ((32 : Int32) + (4 * a1))), (0, .ref 64), (1, .int a1)], [.int ((s.1 10) (a1.toNatClampNeg))], (q_kM s c n))) rfl rfl i1 ?_
  refine q_RP_seg (g2 := (18, [(2, .int ((32 : Int32) + (4 * a1))), (0, .ref 64), (1, .int a1)], [.int ((32 : Int32) + (4 * a1)), .ref 68, .int ((s.1 10) (a1.toNatClampNeg))], (q_kM s c n))) 3 (fun _ _ => rfl) ?_
  refine q_RP_as fun i2 => ?_
  refine q_RP_rsT (g2 := (19, [(2, .int ((32 : Int32) + (4 * a1))), (0, .ref 64), (1, .int a1)], [.int ((s.1 4) (((32 : Int32) + (4 * a1)).toNatClampNeg)), .int ((s.1 10) (a1.toNatClampNeg))], (q_kM s c n))) rfl rfl i2 ?_
  refine q_RP_seg (g2 := (30, [(2, .int ((32 : Int32) + (4 * a1))), (0, .ref 64), (1, .int a1)], [.int (((32 : Int32) + (4 * a1)) + 1), .ref 68, .int 256, .int (((s.1 10) (a1.toNatClampNeg)) + ((s.1 4) (((32 : Int32) + (4 * a1)).toNatClampNeg)))], (q_kM s c n))) 7 (fun _ _ => rfl) ?_
  refine q_RP_as fun i3 => ?_
  refine q_RP_rsT (g2 := (31, [(2, .int ((32 : Int32) + (4 * a1))), (0, .ref 64), (1, .int a1)], [.int ((s.1 4) ((((32 : Int32) + (4 * a1)) + 1).toNatClampNeg)), .int 256, .int (((s.1 10) (a1.toNatClampNeg)) + ((s.1 4) (((32 : Int32) + (4 * a1)).toNatClampNeg)))], (q_kM s c n))) rfl rfl i3 ?_
  refine q_RP_seg (g2 := (33, [(2, .int ((32 : Int32) + (4 * a1))), (0, .ref 64), (1, .int a1)], [.int ((((s.1 10) (a1.toNatClampNeg)) + ((s.1 4) (((32 : Int32) + (4 * a1)).toNatClampNeg))) + (256 * ((s.1 4) ((((32 : Int32) + (4 * a1)) + 1).toNatClampNeg))))], (q_kM s c n))) 2 (fun _ _ => rfl) ?_
  generalize ((((s.1 10) (a1.toNatClampNeg)) + ((s.1 4) (((32 : Int32) + (4 * a1)).toNatClampNeg))) + (256 * ((s.1 4) ((((32 : Int32) + (4 * a1)) + 1).toNatClampNeg)))) = x1
  refine q_RP_let ?_
  show q_RP _ _ _ (33, [(2, .int ((32 : Int32) + (4 * a1))), (0, .ref 64), (1, .int a1)], [.int x1], (q_kM s c n)) _ _
  refine q_RP_seg (g2 := (43, [(3, .int x1), (2, .int ((32 : Int32) + (4 * a1))), (0, .ref 64), (1, .int a1)], [.int (x1 - x1 / 65536 * 65536), .int a1, .ref 74], (q_kM s c n))) 7 (fun _ _ => rfl) ?_
  refine q_RP_rsT (g2 := (44, [(3, .int x1), (2, .int ((32 : Int32) + (4 * a1))), (0, .ref 64), (1, .int a1)], [], (q_kM (q_sA s 10 (upd (s.1 10) (a1.toNatClampNeg) (x1 - x1 / 65536 * 65536))) c n))) rfl q_wM10 i1 ?_
  refine q_RP_seg (g2 := (47, [(3, .int x1), (2, .int ((32 : Int32) + (4 * a1))), (0, .ref 64), (1, .int a1)], [.int 65535, .int x1], (q_kM (q_sA s 10 (upd (s.1 10) (a1.toNatClampNeg) (x1 - x1 / 65536 * 65536))) c n))) 2 (fun _ _ => rfl) ?_
  cases h4 : decide (65535 < x1) with
  | true =>
    refine q_RP_cT ?_
    refine q_RP_rsF (g2 := (50, [(3, .int x1), (2, .int ((32 : Int32) + (4 * a1))), (0, .ref 64), (1, .int a1)], [], (q_kM (q_sA s 10 (upd (s.1 10) (a1.toNatClampNeg) (x1 - x1 / 65536 * 65536))) c n))) rfl rfl (q_d_geT h4) ?_
    refine q_RP_seg (g2 := (60, [(3, .int x1), (2, .int ((32 : Int32) + (4 * a1))), (0, .ref 64), (1, .int a1)], [.int a1, .ref 77, .int a1, .ref 77], (q_kM (q_sA s 10 (upd (s.1 10) (a1.toNatClampNeg) (x1 - x1 / 65536 * 65536))) c n))) 6 (fun _ _ => rfl) ?_
    refine q_RP_rsT (g2 := (61, [(3, .int x1), (2, .int ((32 : Int32) + (4 * a1))), (0, .ref 64), (1, .int a1)], [.int ((s.1 13) (a1.toNatClampNeg)), .int a1, .ref 77], (q_kM (q_sA s 10 (upd (s.1 10) (a1.toNatClampNeg) (x1 - x1 / 65536 * 65536))) c n))) rfl rfl i1 ?_
    refine q_RP_seg (g2 := (68, [(3, .int x1), (2, .int ((32 : Int32) + (4 * a1))), (0, .ref 64), (1, .int a1)], [.int a1, .ref 77, .int (((s.1 13) (a1.toNatClampNeg)) / 2), .int a1, .ref 77], (q_kM (q_sA s 10 (upd (s.1 10) (a1.toNatClampNeg) (x1 - x1 / 65536 * 65536))) c n))) 5 (fun _ _ => rfl) ?_
    refine q_RP_rsT (g2 := (69, [(3, .int x1), (2, .int ((32 : Int32) + (4 * a1))), (0, .ref 64), (1, .int a1)], [.int ((s.1 13) (a1.toNatClampNeg)), .int (((s.1 13) (a1.toNatClampNeg)) / 2), .int a1, .ref 77], (q_kM (q_sA s 10 (upd (s.1 10) (a1.toNatClampNeg) (x1 - x1 / 65536 * 65536))) c n))) rfl rfl i1 ?_
    refine q_RP_seg (g2 := (76, [(3, .int x1), (2, .int ((32 : Int32) + (4 * a1))), (0, .ref 64), (1, .int a1)], [.int a1, .ref 77, .int (((s.1 13) (a1.toNatClampNeg)) - ((s.1 13) (a1.toNatClampNeg)) / 2 * 2), .int (((s.1 13) (a1.toNatClampNeg)) / 2), .int a1, .ref 77], (q_kM (q_sA s 10 (upd (s.1 10) (a1.toNatClampNeg) (x1 - x1 / 65536 * 65536))) c n))) 5 (fun _ _ => rfl) ?_
    refine q_RP_rsT (g2 := (77, [(3, .int x1), (2, .int ((32 : Int32) + (4 * a1))), (0, .ref 64), (1, .int a1)], [.int ((s.1 13) (a1.toNatClampNeg)), .int (((s.1 13) (a1.toNatClampNeg)) - ((s.1 13) (a1.toNatClampNeg)) / 2 * 2), .int (((s.1 13) (a1.toNatClampNeg)) / 2), .int a1, .ref 77], (q_kM (q_sA s 10 (upd (s.1 10) (a1.toNatClampNeg) (x1 - x1 / 65536 * 65536))) c n))) rfl rfl i1 ?_
    refine q_RP_seg (g2 := (81, [(3, .int x1), (2, .int ((32 : Int32) + (4 * a1))), (0, .ref 64), (1, .int a1)], [.int ((((s.1 13) (a1.toNatClampNeg)) / 2) - (((s.1 13) (a1.toNatClampNeg)) / 2) / 2 * 2), .int (((s.1 13) (a1.toNatClampNeg)) - ((s.1 13) (a1.toNatClampNeg)) / 2 * 2), .int (((s.1 13) (a1.toNatClampNeg)) / 2), .int a1, .ref 77], (q_kM (q_sA s 10 (upd (s.1 10) (a1.toNatClampNeg) (x1 - x1 / 65536 * 65536))) c n))) 4 (fun _ _ => rfl) ?_
    cases h5 : decide (((s.1 13) (a1.toNatClampNeg)) - ((s.1 13) (a1.toNatClampNeg)) / 2 * 2 = (((s.1 13) (a1.toNatClampNeg)) / 2) - (((s.1 13) (a1.toNatClampNeg)) / 2) / 2 * 2) with
    | true =>
      refine q_RP_cT ?_
      refine q_RP_rsF (g2 := (84, [(3, .int x1), (2, .int ((32 : Int32) + (4 * a1))), (0, .ref 64), (1, .int a1)], [.int (((s.1 13) (a1.toNatClampNeg)) / 2), .int a1, .ref 77], (q_kM (q_sA s 10 (upd (s.1 10) (a1.toNatClampNeg) (x1 - x1 / 65536 * 65536))) c n))) rfl rfl (q_d_neT h5) ?_
      refine q_RP_seg (g2 := (92, [(3, .int x1), (2, .int ((32 : Int32) + (4 * a1))), (0, .ref 64), (1, .int a1)], [.int ((((s.1 13) (a1.toNatClampNeg)) / 2) + 0), .int a1, .ref 77], (q_kM (q_sA s 10 (upd (s.1 10) (a1.toNatClampNeg) (x1 - x1 / 65536 * 65536))) c n))) 3 (fun _ _ => rfl) ?_
      refine q_RP_rsT (g2 := (93, [(3, .int x1), (2, .int ((32 : Int32) + (4 * a1))), (0, .ref 64), (1, .int a1)], [], (q_kM (q_sA (q_sA s 10 (upd (s.1 10) (a1.toNatClampNeg) (x1 - x1 / 65536 * 65536))) 13 (upd (s.1 13) (a1.toNatClampNeg) ((((s.1 13) (a1.toNatClampNeg)) / 2) + 0))) c n))) rfl q_wM13 i1 ?_
      exact q_RP_xt (q_xt_mk (q_mn1 2 rfl (q_mn1 3 rfl (q_mn1 1 rfl q_mn0))) rfl) (dzt_M232_64_93 c n (q_sA (q_sA s 10 (upd (s.1 10) (a1.toNatClampNeg) (x1 - x1 / 65536 * 65536))) 13 (upd (s.1 13) (a1.toNatClampNeg) ((((s.1 13) (a1.toNatClampNeg)) / 2) + 0))) a1 ((32 : Int32) + (4 * a1)))
    | false =>
      refine q_RP_cF ?_
      refine q_RP_rsT (g2 := (88, [(3, .int x1), (2, .int ((32 : Int32) + (4 * a1))), (0, .ref 64), (1, .int a1)], [.int (((s.1 13) (a1.toNatClampNeg)) / 2), .int a1, .ref 77], (q_kM (q_sA s 10 (upd (s.1 10) (a1.toNatClampNeg) (x1 - x1 / 65536 * 65536))) c n))) rfl rfl (q_d_neF h5) ?_
      refine q_RP_seg (g2 := (92, [(3, .int x1), (2, .int ((32 : Int32) + (4 * a1))), (0, .ref 64), (1, .int a1)], [.int ((((s.1 13) (a1.toNatClampNeg)) / 2) + 16384), .int a1, .ref 77], (q_kM (q_sA s 10 (upd (s.1 10) (a1.toNatClampNeg) (x1 - x1 / 65536 * 65536))) c n))) 2 (fun _ _ => rfl) ?_
      refine q_RP_rsT (g2 := (93, [(3, .int x1), (2, .int ((32 : Int32) + (4 * a1))), (0, .ref 64), (1, .int a1)], [], (q_kM (q_sA (q_sA s 10 (upd (s.1 10) (a1.toNatClampNeg) (x1 - x1 / 65536 * 65536))) 13 (upd (s.1 13) (a1.toNatClampNeg) ((((s.1 13) (a1.toNatClampNeg)) / 2) + 16384))) c n))) rfl q_wM13 i1 ?_
      exact q_RP_xt (q_xt_mk (q_mn1 2 rfl (q_mn1 3 rfl (q_mn1 1 rfl q_mn0))) rfl) (dzt_M232_64_93 c n (q_sA (q_sA s 10 (upd (s.1 10) (a1.toNatClampNeg) (x1 - x1 / 65536 * 65536))) 13 (upd (s.1 13) (a1.toNatClampNeg) ((((s.1 13) (a1.toNatClampNeg)) / 2) + 16384))) a1 ((32 : Int32) + (4 * a1)))
  | false =>
    refine q_RP_cF ?_
    refine q_RP_rsT (g2 := (93, [(3, .int x1), (2, .int ((32 : Int32) + (4 * a1))), (0, .ref 64), (1, .int a1)], [], (q_kM (q_sA s 10 (upd (s.1 10) (a1.toNatClampNeg) (x1 - x1 / 65536 * 65536))) c n))) rfl rfl (q_d_geF h4) ?_
    exact q_RP_xt (q_xt_mk (q_mn1 2 rfl (q_mn1 3 rfl (q_mn1 1 rfl q_mn0))) rfl) (dzt_M232_64_93 c n (q_sA s 10 (upd (s.1 10) (a1.toNatClampNeg) (x1 - x1 / 65536 * 65536))) a1 ((32 : Int32) + (4 * a1)))
def dz_M233_64 (s : q_S) (a1 : Int32) : Option (Int32) :=
  cond (q_in ((34 : Int32) + (4 * a1)) 48) (q_let ((((s.1 4) (((34 : Int32) + (4 * a1)).toNatClampNeg)) / 2) - (((s.1 4) (((34 : Int32) + (4 * a1)).toNatClampNeg)) / 2) / 4 * 4) fun x1 => cond (decide (x1 = 0)) (cond (q_in a1 3) (q_let (dz_M206 s ((s.1 4) (((34 : Int32) + (4 * a1)).toNatClampNeg)) 3) fun r2 => cond r2 (cond (q_in ((a1 + 2) - (a1 + 2) / 3 * 3) 3) (cond (decide ((s.1 10) (((a1 + 2) - (a1 + 2) / 3 * 3).toNatClampNeg) < 32768)) (some (((s.1 10) (a1.toNatClampNeg)) / 4096)) (some ((15 : Int32) - (((s.1 10) (a1.toNatClampNeg)) / 4096)))) none) (some (((s.1 10) (a1.toNatClampNeg)) / 4096))) none) (cond (decide (x1 = 1)) (cond (q_in a1 3) (cond (decide ((s.1 10) (a1.toNatClampNeg) < 32768)) (q_let (dz_M206 s ((s.1 4) (((34 : Int32) + (4 * a1)).toNatClampNeg)) 3) fun r3 => cond r3 (cond (q_in ((a1 + 2) - (a1 + 2) / 3 * 3) 3) (cond (decide ((s.1 10) (((a1 + 2) - (a1 + 2) / 3 * 3).toNatClampNeg) < 32768)) (some 0) (some 15)) none) (some 0)) (q_let (dz_M206 s ((s.1 4) (((34 : Int32) + (4 * a1)).toNatClampNeg)) 3) fun r4 => cond r4 (cond (q_in ((a1 + 2) - (a1 + 2) / 3 * 3) 3) (cond (decide ((s.1 10) (((a1 + 2) - (a1 + 2) / 3 * 3).toNatClampNeg) < 32768)) (some 15) (some 0)) none) (some 15))) none) (cond (decide (x1 = 2)) (cond (q_in a1 3) (q_let (((s.1 13) (a1.toNatClampNeg)) - ((s.1 13) (a1.toNatClampNeg)) / 16 * 16) fun x5 => q_let (dz_M206 s ((s.1 4) (((34 : Int32) + (4 * a1)).toNatClampNeg)) 3) fun r6 => cond r6 (cond (q_in ((a1 + 2) - (a1 + 2) / 3 * 3) 3) (cond (decide ((s.1 10) (((a1 + 2) - (a1 + 2) / 3 * 3).toNatClampNeg) < 32768)) (some x5) (some ((15 : Int32) - x5))) none) (some x5)) none) (q_let (dz_M206 s ((s.1 4) (((34 : Int32) + (4 * a1)).toNatClampNeg)) 3) fun r7 => cond r7 (cond (q_in ((a1 + 2) - (a1 + 2) / 3 * 3) 3) (cond (decide ((s.1 10) (((a1 + 2) - (a1 + 2) / 3 * 3).toNatClampNeg) < 32768)) (some 0) (some 15)) none) (some 0))))) none
set_option maxHeartbeats 4000000 in
theorem dzt_M233_64 (s : q_S) (c n : Nat) (a1 : Int32) (x : Int32) (h : dz_M233_64 s a1 = some x) : q_Ca q_TB0 2 232 [.ref 64, .int a1] (q_kM s c n) ((q_oP (q_kM s c n)) x) := by
  refine q_CaP_of (φ := (q_oP (q_kM s c n))) (Nat.le_of_ble_eq_true rfl) ?_ h
  clear h
  unfold dz_M233_64
  refine q_RP_seg (g2 := (10, [(0, .ref 64), (1, .int a1)], [.int ((34 : Int32) + (4 * a1)), .ref 68], (q_kM s c n))) 7 (fun _ _ => rfl) ?_
  refine q_RP_as fun i1 => ?_
  refine q_RP_rsT (g2 := (11, [(0, .ref 64), (1, .int a1)], [.int ((s.1 4) (((34 : Int32) + (4 * a1)).toNatClampNeg))], (q_kM s c n))) rfl rfl i1 ?_
  refine q_RP_seg (g2 := (15, [(0, .ref 64), (1, .int a1)], [.int ((((s.1 4) (((34 : Int32) + (4 * a1)).toNatClampNeg)) / 2) - (((s.1 4) (((34 : Int32) + (4 * a1)).toNatClampNeg)) / 2) / 4 * 4)], (q_kM s c n))) 4 (fun _ _ => rfl) ?_
  generalize ((((s.1 4) (((34 : Int32) + (4 * a1)).toNatClampNeg)) / 2) - (((s.1 4) (((34 : Int32) + (4 * a1)).toNatClampNeg)) / 2) / 4 * 4) = x1
  refine q_RP_let ?_
  show q_RP _ _ _ (15, [(0, .ref 64), (1, .int a1)], [.int x1], (q_kM s c n)) _ _
  refine q_RP_seg (g2 := (17, [(2, .int x1), (0, .ref 64), (1, .int a1)], [.int x1], (q_kM s c n))) 2 (fun _ _ => rfl) ?_
  cases h2 : decide (x1 = 0) with
  | true =>
    refine q_RP_cT ?_
    refine q_RP_rsF (g2 := (20, [(2, .int x1), (0, .ref 64), (1, .int a1)], [], (q_kM s c n))) rfl rfl (q_d_neT h2) ?_
    refine q_RP_seg (g2 := (25, [(2, .int x1), (0, .ref 64), (1, .int a1)], [.int a1, .ref 74], (q_kM s c n))) 3 (fun _ _ => rfl) ?_
    refine q_RP_as fun i3 => ?_
    refine q_RP_rsT (g2 := (26, [(2, .int x1), (0, .ref 64), (1, .int a1)], [.int ((s.1 10) (a1.toNatClampNeg))], (q_kM s c n))) rfl rfl i3 ?_
    refine q_RP_seg (g2 := (87, [(3, .int (((s.1 10) (a1.toNatClampNeg)) / 4096)), (2, .int x1), (0, .ref 64), (1, .int a1)], [.int ((34 : Int32) + (4 * a1)), .ref 68], (q_kM s c n))) 11 (fun _ _ => rfl) ?_
    refine q_RP_rsT (g2 := (88, [(3, .int (((s.1 10) (a1.toNatClampNeg)) / 4096)), (2, .int x1), (0, .ref 64), (1, .int a1)], [.int ((s.1 4) (((34 : Int32) + (4 * a1)).toNatClampNeg))], (q_kM s c n))) rfl rfl i1 ?_
    refine q_RP_seg (g2 := (89, [(3, .int (((s.1 10) (a1.toNatClampNeg)) / 4096)), (2, .int x1), (0, .ref 64), (1, .int a1)], [.int 3, .int ((s.1 4) (((34 : Int32) + (4 * a1)).toNatClampNeg))], (q_kM s c n))) 1 (fun _ _ => rfl) ?_
    refine q_RP_call (v := (some (.int (q_b (dz_M206 s ((s.1 4) (((34 : Int32) + (4 * a1)).toNatClampNeg)) 3))))) (h2 := (q_kM s c n)) rfl rfl ((dzt_M206 s c n ((s.1 4) (((34 : Int32) + (4 * a1)).toNatClampNeg)) 3).le (Nat.le_of_ble_eq_true rfl)) ?_
    generalize dz_M206 s ((s.1 4) (((34 : Int32) + (4 * a1)).toNatClampNeg)) 3 = r2
    refine q_RP_let ?_
    show q_RP _ _ _ (92, [(3, .int (((s.1 10) (a1.toNatClampNeg)) / 4096)), (2, .int x1), (0, .ref 64), (1, .int a1)], [.int (q_b r2)], (q_kM s c n)) _ _
    cases h4 : r2 with
    | true =>
      refine q_RP_cT ?_
      show q_RP _ _ _ (92, [(3, .int (((s.1 10) (a1.toNatClampNeg)) / 4096)), (2, .int x1), (0, .ref 64), (1, .int a1)], [.int 1], (q_kM s c n)) _ _
      refine q_RP_seg (g2 := (104, [(3, .int (((s.1 10) (a1.toNatClampNeg)) / 4096)), (2, .int x1), (0, .ref 64), (1, .int a1)], [.int ((a1 + 2) - (a1 + 2) / 3 * 3), .ref 74], (q_kM s c n))) 8 (fun _ _ => rfl) ?_
      refine q_RP_as fun i5 => ?_
      refine q_RP_rsT (g2 := (105, [(3, .int (((s.1 10) (a1.toNatClampNeg)) / 4096)), (2, .int x1), (0, .ref 64), (1, .int a1)], [.int ((s.1 10) (((a1 + 2) - (a1 + 2) / 3 * 3).toNatClampNeg))], (q_kM s c n))) rfl rfl i5 ?_
      refine q_RP_seg (g2 := (107, [(3, .int (((s.1 10) (a1.toNatClampNeg)) / 4096)), (2, .int x1), (0, .ref 64), (1, .int a1)], [.int 32768, .int ((s.1 10) (((a1 + 2) - (a1 + 2) / 3 * 3).toNatClampNeg))], (q_kM s c n))) 1 (fun _ _ => rfl) ?_
      cases h6 : decide ((s.1 10) (((a1 + 2) - (a1 + 2) / 3 * 3).toNatClampNeg) < 32768) with
      | true =>
        refine q_RP_cT ?_
        refine q_RP_rsT (g2 := (117, [(3, .int (((s.1 10) (a1.toNatClampNeg)) / 4096)), (2, .int x1), (0, .ref 64), (1, .int a1)], [], (q_kM s c n))) rfl rfl h6 ?_
        refine q_RP_seg (g2 := (118, [(3, .int (((s.1 10) (a1.toNatClampNeg)) / 4096)), (2, .int x1), (0, .ref 64), (1, .int a1)], [.int (((s.1 10) (a1.toNatClampNeg)) / 4096)], (q_kM s c n))) 1 (fun _ _ => rfl) ?_
        exact q_RP_ret rfl rfl rfl
      | false =>
        refine q_RP_cF ?_
        refine q_RP_rsF (g2 := (110, [(3, .int (((s.1 10) (a1.toNatClampNeg)) / 4096)), (2, .int x1), (0, .ref 64), (1, .int a1)], [], (q_kM s c n))) rfl rfl h6 ?_
        refine q_RP_seg (g2 := (118, [(3, .int (((s.1 10) (a1.toNatClampNeg)) / 4096)), (2, .int x1), (0, .ref 64), (1, .int a1)], [.int ((15 : Int32) - (((s.1 10) (a1.toNatClampNeg)) / 4096))], (q_kM s c n))) 4 (fun _ _ => rfl) ?_
        exact q_RP_ret rfl rfl rfl
    | false =>
      refine q_RP_cF ?_
      show q_RP _ _ _ (92, [(3, .int (((s.1 10) (a1.toNatClampNeg)) / 4096)), (2, .int x1), (0, .ref 64), (1, .int a1)], [.int 0], (q_kM s c n)) _ _
      refine q_RP_seg (g2 := (118, [(3, .int (((s.1 10) (a1.toNatClampNeg)) / 4096)), (2, .int x1), (0, .ref 64), (1, .int a1)], [.int (((s.1 10) (a1.toNatClampNeg)) / 4096)], (q_kM s c n))) 2 (fun _ _ => rfl) ?_
      exact q_RP_ret rfl rfl rfl
  | false =>
    refine q_RP_cF ?_
    refine q_RP_rsT (g2 := (33, [(2, .int x1), (0, .ref 64), (1, .int a1)], [], (q_kM s c n))) rfl rfl (q_d_neF h2) ?_
    refine q_RP_seg (g2 := (35, [(2, .int x1), (0, .ref 64), (1, .int a1)], [.int 1, .int x1], (q_kM s c n))) 2 (fun _ _ => rfl) ?_
    cases h7 : decide (x1 = 1) with
    | true =>
      refine q_RP_cT ?_
      refine q_RP_rsF (g2 := (38, [(2, .int x1), (0, .ref 64), (1, .int a1)], [], (q_kM s c n))) rfl rfl (q_d_neT h7) ?_
      refine q_RP_seg (g2 := (43, [(2, .int x1), (0, .ref 64), (1, .int a1)], [.int a1, .ref 74], (q_kM s c n))) 3 (fun _ _ => rfl) ?_
      refine q_RP_as fun i8 => ?_
      refine q_RP_rsT (g2 := (44, [(2, .int x1), (0, .ref 64), (1, .int a1)], [.int ((s.1 10) (a1.toNatClampNeg))], (q_kM s c n))) rfl rfl i8 ?_
      refine q_RP_seg (g2 := (46, [(2, .int x1), (0, .ref 64), (1, .int a1)], [.int 32768, .int ((s.1 10) (a1.toNatClampNeg))], (q_kM s c n))) 1 (fun _ _ => rfl) ?_
      cases h9 : decide ((s.1 10) (a1.toNatClampNeg) < 32768) with
      | true =>
        refine q_RP_cT ?_
        refine q_RP_rsT (g2 := (54, [(2, .int x1), (0, .ref 64), (1, .int a1)], [], (q_kM s c n))) rfl rfl h9 ?_
        refine q_RP_seg (g2 := (87, [(3, .int 0), (2, .int x1), (0, .ref 64), (1, .int a1)], [.int ((34 : Int32) + (4 * a1)), .ref 68], (q_kM s c n))) 10 (fun _ _ => rfl) ?_
        refine q_RP_rsT (g2 := (88, [(3, .int 0), (2, .int x1), (0, .ref 64), (1, .int a1)], [.int ((s.1 4) (((34 : Int32) + (4 * a1)).toNatClampNeg))], (q_kM s c n))) rfl rfl i1 ?_
        refine q_RP_seg (g2 := (89, [(3, .int 0), (2, .int x1), (0, .ref 64), (1, .int a1)], [.int 3, .int ((s.1 4) (((34 : Int32) + (4 * a1)).toNatClampNeg))], (q_kM s c n))) 1 (fun _ _ => rfl) ?_
        refine q_RP_call (v := (some (.int (q_b (dz_M206 s ((s.1 4) (((34 : Int32) + (4 * a1)).toNatClampNeg)) 3))))) (h2 := (q_kM s c n)) rfl rfl ((dzt_M206 s c n ((s.1 4) (((34 : Int32) + (4 * a1)).toNatClampNeg)) 3).le (Nat.le_of_ble_eq_true rfl)) ?_
        generalize dz_M206 s ((s.1 4) (((34 : Int32) + (4 * a1)).toNatClampNeg)) 3 = r3
        refine q_RP_let ?_
        show q_RP _ _ _ (92, [(3, .int 0), (2, .int x1), (0, .ref 64), (1, .int a1)], [.int (q_b r3)], (q_kM s c n)) _ _
        cases h10 : r3 with
        | true =>
          refine q_RP_cT ?_
          show q_RP _ _ _ (92, [(3, .int 0), (2, .int x1), (0, .ref 64), (1, .int a1)], [.int 1], (q_kM s c n)) _ _
          refine q_RP_seg (g2 := (104, [(3, .int 0), (2, .int x1), (0, .ref 64), (1, .int a1)], [.int ((a1 + 2) - (a1 + 2) / 3 * 3), .ref 74], (q_kM s c n))) 8 (fun _ _ => rfl) ?_
          refine q_RP_as fun i11 => ?_
          refine q_RP_rsT (g2 := (105, [(3, .int 0), (2, .int x1), (0, .ref 64), (1, .int a1)], [.int ((s.1 10) (((a1 + 2) - (a1 + 2) / 3 * 3).toNatClampNeg))], (q_kM s c n))) rfl rfl i11 ?_
          refine q_RP_seg (g2 := (107, [(3, .int 0), (2, .int x1), (0, .ref 64), (1, .int a1)], [.int 32768, .int ((s.1 10) (((a1 + 2) - (a1 + 2) / 3 * 3).toNatClampNeg))], (q_kM s c n))) 1 (fun _ _ => rfl) ?_
          cases h12 : decide ((s.1 10) (((a1 + 2) - (a1 + 2) / 3 * 3).toNatClampNeg) < 32768) with
          | true =>
            refine q_RP_cT ?_
            refine q_RP_rsT (g2 := (117, [(3, .int 0), (2, .int x1), (0, .ref 64), (1, .int a1)], [], (q_kM s c n))) rfl rfl h12 ?_
            refine q_RP_seg (g2 := (118, [(3, .int 0), (2, .int x1), (0, .ref 64), (1, .int a1)], [.int 0], (q_kM s c n))) 1 (fun _ _ => rfl) ?_
            exact q_RP_ret rfl rfl rfl
          | false =>
            refine q_RP_cF ?_
            refine q_RP_rsF (g2 := (110, [(3, .int 0), (2, .int x1), (0, .ref 64), (1, .int a1)], [], (q_kM s c n))) rfl rfl h12 ?_
            refine q_RP_seg (g2 := (118, [(3, .int 0), (2, .int x1), (0, .ref 64), (1, .int a1)], [.int 15], (q_kM s c n))) 4 (fun _ _ => rfl) ?_
            exact q_RP_ret rfl rfl rfl
        | false =>
          refine q_RP_cF ?_
          show q_RP _ _ _ (92, [(3, .int 0), (2, .int x1), (0, .ref 64), (1, .int a1)], [.int 0], (q_kM s c n)) _ _
          refine q_RP_seg (g2 := (118, [(3, .int 0), (2, .int x1), (0, .ref 64), (1, .int a1)], [.int 0], (q_kM s c n))) 2 (fun _ _ => rfl) ?_
          exact q_RP_ret rfl rfl rfl
      | false =>
        refine q_RP_cF ?_
        refine q_RP_rsF (g2 := (49, [(2, .int x1), (0, .ref 64), (1, .int a1)], [], (q_kM s c n))) rfl rfl h9 ?_
        refine q_RP_seg (g2 := (87, [(3, .int 15), (2, .int x1), (0, .ref 64), (1, .int a1)], [.int ((34 : Int32) + (4 * a1)), .ref 68], (q_kM s c n))) 10 (fun _ _ => rfl) ?_
        refine q_RP_rsT (g2 := (88, [(3, .int 15), (2, .int x1), (0, .ref 64), (1, .int a1)], [.int ((s.1 4) (((34 : Int32) + (4 * a1)).toNatClampNeg))], (q_kM s c n))) rfl rfl i1 ?_
        refine q_RP_seg (g2 := (89, [(3, .int 15), (2, .int x1), (0, .ref 64), (1, .int a1)], [.int 3, .int ((s.1 4) (((34 : Int32) + (4 * a1)).toNatClampNeg))], (q_kM s c n))) 1 (fun _ _ => rfl) ?_
        refine q_RP_call (v := (some (.int (q_b (dz_M206 s ((s.1 4) (((34 : Int32) + (4 * a1)).toNatClampNeg)) 3))))) (h2 := (q_kM s c n)) rfl rfl ((dzt_M206 s c n ((s.1 4) (((34 : Int32) + (4 * a1)).toNatClampNeg)) 3).le (Nat.le_of_ble_eq_true rfl)) ?_
        generalize dz_M206 s ((s.1 4) (((34 : Int32) + (4 * a1)).toNatClampNeg)) 3 = r4
        refine q_RP_let ?_
        show q_RP _ _ _ (92, [(3, .int 15), (2, .int x1), (0, .ref 64), (1, .int a1)], [.int (q_b r4)], (q_kM s c n)) _ _
        cases h13 : r4 with
        | true =>
          refine q_RP_cT ?_
          show q_RP _ _ _ (92, [(3, .int 15), (2, .int x1), (0, .ref 64), (1, .int a1)], [.int 1], (q_kM s c n)) _ _
          refine q_RP_seg (g2 := (104, [(3, .int 15), (2, .int x1), (0, .ref 64), (1, .int a1)], [.int ((a1 + 2) - (a1 + 2) / 3 * 3), .ref 74], (q_kM s c n))) 8 (fun _ _ => rfl) ?_
          refine q_RP_as fun i14 => ?_
          refine q_RP_rsT (g2 := (105, [(3, .int 15), (2, .int x1), (0, .ref 64), (1, .int a1)], [.int ((s.1 10) (((a1 + 2) - (a1 + 2) / 3 * 3).toNatClampNeg))], (q_kM s c n))) rfl rfl i14 ?_
          refine q_RP_seg (g2 := (107, [(3, .int 15), (2, .int x1), (0, .ref 64), (1, .int a1)], [.int 32768, .int ((s.1 10) (((a1 + 2) - (a1 + 2) / 3 * 3).toNatClampNeg))], (q_kM s c n))) 1 (fun _ _ => rfl) ?_
          cases h15 : decide ((s.1 10) (((a1 + 2) - (a1 + 2) / 3 * 3).toNatClampNeg) < 32768) with
          | true =>
            refine q_RP_cT ?_
            refine q_RP_rsT (g2 := (117, [(3, .int 15), (2, .int x1), (0, .ref 64), (1, .int a1)], [], (q_kM s c n))) rfl rfl h15 ?_
            refine q_RP_seg (g2 := (118, [(3, .int 15), (2, .int x1), (0, .ref 64), (1, .int a1)], [.int 15], (q_kM s c n))) 1 (fun _ _ => rfl) ?_
            exact q_RP_ret rfl rfl rfl
          | false =>
            refine q_RP_cF ?_
            refine q_RP_rsF (g2 := (110, [(3, .int 15), (2, .int x1), (0, .ref 64), (1, .int a1)], [], (q_kM s c n))) rfl rfl h15 ?_
            refine q_RP_seg (g2 := (118, [(3, .int 15), (2, .int x1), (0, .ref 64), (1, .int a1)], [.int 0], (q_kM s c n))) 4 (fun _ _ => rfl) ?_
            exact q_RP_ret rfl rfl rfl
        | false =>
          refine q_RP_cF ?_
          show q_RP _ _ _ (92, [(3, .int 15), (2, .int x1), (0, .ref 64), (1, .int a1)], [.int 0], (q_kM s c n)) _ _
          refine q_RP_seg (g2 := (118, [(3, .int 15), (2, .int x1), (0, .ref 64), (1, .int a1)], [.int 15], (q_kM s c n))) 2 (fun _ _ => rfl) ?_
          exact q_RP_ret rfl rfl rfl
    | false =>
      refine q_RP_cF ?_
      refine q_RP_rsT (g2 := (58, [(2, .int x1), (0, .ref 64), (1, .int a1)], [], (q_kM s c n))) rfl rfl (q_d_neF h7) ?_
      refine q_RP_seg (g2 := (60, [(2, .int x1), (0, .ref 64), (1, .int a1)], [.int 2, .int x1], (q_kM s c n))) 2 (fun _ _ => rfl) ?_
      cases h16 : decide (x1 = 2) with
      | true =>
        refine q_RP_cT ?_
        refine q_RP_rsF (g2 := (63, [(2, .int x1), (0, .ref 64), (1, .int a1)], [], (q_kM s c n))) rfl rfl (q_d_neT h16) ?_
        refine q_RP_seg (g2 := (68, [(2, .int x1), (0, .ref 64), (1, .int a1)], [.int a1, .ref 77], (q_kM s c n))) 3 (fun _ _ => rfl) ?_
        refine q_RP_as fun i17 => ?_
        refine q_RP_rsT (g2 := (69, [(2, .int x1), (0, .ref 64), (1, .int a1)], [.int ((s.1 13) (a1.toNatClampNeg))], (q_kM s c n))) rfl rfl i17 ?_
        refine q_RP_seg (g2 := (76, [(2, .int x1), (0, .ref 64), (1, .int a1)], [.int (((s.1 13) (a1.toNatClampNeg)) - ((s.1 13) (a1.toNatClampNeg)) / 16 * 16)], (q_kM s c n))) 3 (fun _ _ => rfl) ?_
        generalize (((s.1 13) (a1.toNatClampNeg)) - ((s.1 13) (a1.toNatClampNeg)) / 16 * 16) = x5
        refine q_RP_let ?_
        show q_RP _ _ _ (76, [(2, .int x1), (0, .ref 64), (1, .int a1)], [.int x5], (q_kM s c n)) _ _
        refine q_RP_seg (g2 := (87, [(3, .int x5), (2, .int x1), (0, .ref 64), (1, .int a1)], [.int ((34 : Int32) + (4 * a1)), .ref 68], (q_kM s c n))) 8 (fun _ _ => rfl) ?_
        refine q_RP_rsT (g2 := (88, [(3, .int x5), (2, .int x1), (0, .ref 64), (1, .int a1)], [.int ((s.1 4) (((34 : Int32) + (4 * a1)).toNatClampNeg))], (q_kM s c n))) rfl rfl i1 ?_
        refine q_RP_seg (g2 := (89, [(3, .int x5), (2, .int x1), (0, .ref 64), (1, .int a1)], [.int 3, .int ((s.1 4) (((34 : Int32) + (4 * a1)).toNatClampNeg))], (q_kM s c n))) 1 (fun _ _ => rfl) ?_
        refine q_RP_call (v := (some (.int (q_b (dz_M206 s ((s.1 4) (((34 : Int32) + (4 * a1)).toNatClampNeg)) 3))))) (h2 := (q_kM s c n)) rfl rfl ((dzt_M206 s c n ((s.1 4) (((34 : Int32) + (4 * a1)).toNatClampNeg)) 3).le (Nat.le_of_ble_eq_true rfl)) ?_
        generalize dz_M206 s ((s.1 4) (((34 : Int32) + (4 * a1)).toNatClampNeg)) 3 = r6
        refine q_RP_let ?_
        show q_RP _ _ _ (92, [(3, .int x5), (2, .int x1), (0, .ref 64), (1, .int a1)], [.int (q_b r6)], (q_kM s c n)) _ _
        cases h18 : r6 with
        | true =>
          refine q_RP_cT ?_
          show q_RP _ _ _ (92, [(3, .int x5), (2, .int x1), (0, .ref 64), (1, .int a1)], [.int 1], (q_kM s c n)) _ _
          refine q_RP_seg (g2 := (104, [(3, .int x5), (2, .int x1), (0, .ref 64), (1, .int a1)], [.int ((a1 + 2) - (a1 + 2) / 3 * 3), .ref 74], (q_kM s c n))) 8 (fun _ _ => rfl) ?_
          refine q_RP_as fun i19 => ?_
          refine q_RP_rsT (g2 := (105, [(3, .int x5), (2, .int x1), (0, .ref 64), (1, .int a1)], [.int ((s.1 10) (((a1 + 2) - (a1 + 2) / 3 * 3).toNatClampNeg))], (q_kM s c n))) rfl rfl i19 ?_
          refine q_RP_seg (g2 := (107, [(3, .int x5), (2, .int x1), (0, .ref 64), (1, .int a1)], [.int 32768, .int ((s.1 10) (((a1 + 2) - (a1 + 2) / 3 * 3).toNatClampNeg))], (q_kM s c n))) 1 (fun _ _ => rfl) ?_
          cases h20 : decide ((s.1 10) (((a1 + 2) - (a1 + 2) / 3 * 3).toNatClampNeg) < 32768) with
          | true =>
            refine q_RP_cT ?_
            refine q_RP_rsT (g2 := (117, [(3, .int x5), (2, .int x1), (0, .ref 64), (1, .int a1)], [], (q_kM s c n))) rfl rfl h20 ?_
            refine q_RP_seg (g2 := (118, [(3, .int x5), (2, .int x1), (0, .ref 64), (1, .int a1)], [.int x5], (q_kM s c n))) 1 (fun _ _ => rfl) ?_
            exact q_RP_ret rfl rfl rfl
          | false =>
            refine q_RP_cF ?_
            refine q_RP_rsF (g2 := (110, [(3, .int x5), (2, .int x1), (0, .ref 64), (1, .int a1)], [], (q_kM s c n))) rfl rfl h20 ?_
            refine q_RP_seg (g2 := (118, [(3, .int x5), (2, .int x1), (0, .ref 64), (1, .int a1)], [.int ((15 : Int32) - x5)], (q_kM s c n))) 4 (fun _ _ => rfl) ?_
            exact q_RP_ret rfl rfl rfl
        | false =>
          refine q_RP_cF ?_
          show q_RP _ _ _ (92, [(3, .int x5), (2, .int x1), (0, .ref 64), (1, .int a1)], [.int 0], (q_kM s c n)) _ _
          refine q_RP_seg (g2 := (118, [(3, .int x5), (2, .int x1), (0, .ref 64), (1, .int a1)], [.int x5], (q_kM s c n))) 2 (fun _ _ => rfl) ?_
          exact q_RP_ret rfl rfl rfl
      | false =>
        refine q_RP_cF ?_
        refine q_RP_rsT (g2 := (75, [(2, .int x1), (0, .ref 64), (1, .int a1)], [], (q_kM s c n))) rfl rfl (q_d_neF h16) ?_
        refine q_RP_seg (g2 := (87, [(3, .int 0), (2, .int x1), (0, .ref 64), (1, .int a1)], [.int ((34 : Int32) + (4 * a1)), .ref 68], (q_kM s c n))) 9 (fun _ _ => rfl) ?_
        refine q_RP_rsT (g2 := (88, [(3, .int 0), (2, .int x1), (0, .ref 64), (1, .int a1)], [.int ((s.1 4) (((34 : Int32) + (4 * a1)).toNatClampNeg))], (q_kM s c n))) rfl rfl i1 ?_
        refine q_RP_seg (g2 := (89, [(3, .int 0), (2, .int x1), (0, .ref 64), (1, .int a1)], [.int 3, .int ((s.1 4) (((34 : Int32) + (4 * a1)).toNatClampNeg))], (q_kM s c n))) 1 (fun _ _ => rfl) ?_
        refine q_RP_call (v := (some (.int (q_b (dz_M206 s ((s.1 4) (((34 : Int32) + (4 * a1)).toNatClampNeg)) 3))))) (h2 := (q_kM s c n)) rfl rfl ((dzt_M206 s c n ((s.1 4) (((34 : Int32) + (4 * a1)).toNatClampNeg)) 3).le (Nat.le_of_ble_eq_true rfl)) ?_
        generalize dz_M206 s ((s.1 4) (((34 : Int32) + (4 * a1)).toNatClampNeg)) 3 = r7
        refine q_RP_let ?_
        show q_RP _ _ _ (92, [(3, .int 0), (2, .int x1), (0, .ref 64), (1, .int a1)], [.int (q_b r7)], (q_kM s c n)) _ _
        cases h21 : r7 with
        | true =>
          refine q_RP_cT ?_
          show q_RP _ _ _ (92, [(3, .int 0), (2, .int x1), (0, .ref 64), (1, .int a1)], [.int 1], (q_kM s c n)) _ _
          refine q_RP_seg (g2 := (104, [(3, .int 0), (2, .int x1), (0, .ref 64), (1, .int a1)], [.int ((a1 + 2) - (a1 + 2) / 3 * 3), .ref 74], (q_kM s c n))) 8 (fun _ _ => rfl) ?_
          refine q_RP_as fun i22 => ?_
          refine q_RP_rsT (g2 := (105, [(3, .int 0), (2, .int x1), (0, .ref 64), (1, .int a1)], [.int ((s.1 10) (((a1 + 2) - (a1 + 2) / 3 * 3).toNatClampNeg))], (q_kM s c n))) rfl rfl i22 ?_
          refine q_RP_seg (g2 := (107, [(3, .int 0), (2, .int x1), (0, .ref 64), (1, .int a1)], [.int 32768, .int ((s.1 10) (((a1 + 2) - (a1 + 2) / 3 * 3).toNatClampNeg))], (q_kM s c n))) 1 (fun _ _ => rfl) ?_
          cases h23 : decide ((s.1 10) (((a1 + 2) - (a1 + 2) / 3 * 3).toNatClampNeg) < 32768) with
          | true =>
            refine q_RP_cT ?_
            refine q_RP_rsT (g2 := (117, [(3, .int 0), (2, .int x1), (0, .ref 64), (1, .int a1)], [], (q_kM s c n))) rfl rfl h23 ?_
            refine q_RP_seg (g2 := (118, [(3, .int 0), (2, .int x1), (0, .ref 64), (1, .int a1)], [.int 0], (q_kM s c n))) 1 (fun _ _ => rfl) ?_
            exact q_RP_ret rfl rfl rfl
          | false =>
            refine q_RP_cF ?_
            refine q_RP_rsF (g2 := (110, [(3, .int 0), (2, .int x1), (0, .ref 64), (1, .int a1)], [], (q_kM s c n))) rfl rfl h23 ?_
            refine q_RP_seg (g2 := (118, [(3, .int 0), (2, .int x1), (0, .ref 64), (1, .int a1)], [.int 15], (q_kM s c n))) 4 (fun _ _ => rfl) ?_
            exact q_RP_ret rfl rfl rfl
        | false =>
          refine q_RP_cF ?_
          show q_RP _ _ _ (92, [(3, .int 0), (2, .int x1), (0, .ref 64), (1, .int a1)], [.int 0], (q_kM s c n)) _ _
          refine q_RP_seg (g2 := (118, [(3, .int 0), (2, .int x1), (0, .ref 64), (1, .int a1)], [.int 0], (q_kM s c n))) 2 (fun _ _ => rfl) ?_
          exact q_RP_ret rfl rfl rfl
def dz_M234_64_22 (m : Nat) : q_S → Int32 → Int32 → Option (q_S) := Nat.rec (motive := fun _ => q_S → Int32 → Int32 → Option (q_S)) (fun _ _ _ => none) (fun _ k22 s v1 v2 =>
  cond (decide (v2 < 3)) ((dz_M233_64 s v2).bind fun r2 => cond (q_in v2 3) (k22 s (v1 + (r2 * ((s.1 11) (v2.toNatClampNeg)))) (v2 + 1)) none) (q_let (dz_M207_64 s) fun r3 => cond (q_in r3 40) (some (q_sA s 6 (upd (s.1 6) (r3.toNatClampNeg) (v1 / 15)))) none)) m
theorem dzs_M234_64_22 (m : Nat) (s : q_S) (v1 : Int32) (v2 : Int32) : dz_M234_64_22 (m + 1) s v1 v2 = (fun k22 : q_S → Int32 → Int32 → Option (q_S) =>
  cond (decide (v2 < 3)) ((dz_M233_64 s v2).bind fun r2 => cond (q_in v2 3) (k22 s (v1 + (r2 * ((s.1 11) (v2.toNatClampNeg)))) (v2 + 1)) none) (q_let (dz_M207_64 s) fun r3 => cond (q_in r3 40) (some (q_sA s 6 (upd (s.1 6) (r3.toNatClampNeg) (v1 / 15)))) none)) (dz_M234_64_22 m) := rfl
set_option maxHeartbeats 4000000 in
theorem dzt_M234_64_22 (c n : Nat) : ∀ (m : Nat) (s : q_S) (v1 : Int32) (v2 : Int32), q_RP q_TB0 2 233 (22, [(0, .ref 64), (1, .int v1), (2, .int v2)], [], (q_kM s c n)) (q_oSM c n) (dz_M234_64_22 m s v1 v2) := by
  intro m
  induction m with
  | zero => intro s v1 v2; exact q_RP_no
  | succ m ih =>
    intro s v1 v2
    have hk22 := ih
    clear ih
    rw [dzs_M234_64_22]
    generalize dz_M234_64_22 m = k22 at hk22 ⊢
    dsimp only
    refine q_RP_seg (g2 := (24, [(0, .ref 64), (1, .int v1), (2, .int v2)], [.int 3, .int v2], (q_kM s c n))) 2 (fun _ _ => rfl) ?_
    cases h2 : decide (v2 < 3) with
    | true =>
      refine q_RP_cT ?_
      refine q_RP_rsF (g2 := (27, [(0, .ref 64), (1, .int v1), (2, .int v2)], [], (q_kM s c n))) rfl rfl (q_d_geT h2) ?_
      refine q_RP_seg (g2 := (30, [(0, .ref 64), (1, .int v1), (2, .int v2)], [.int v2, .ref 64, .int v1], (q_kM s c n))) 3 (fun _ _ => rfl) ?_
      refine q_RP_bd fun r2 er2 => ?_
      refine q_RP_call (v := (some (.int r2))) (h2 := (q_kM s c n)) rfl rfl ((dzt_M233_64 s c n v2 r2 er2).le (Nat.le_of_ble_eq_true rfl)) ?_
      show q_RP _ _ _ (33, [(0, .ref 64), (1, .int v1), (2, .int v2)], [.int r2, .int v1], (q_kM s c n)) _ _
      refine q_RP_seg (g2 := (38, [(0, .ref 64), (1, .int v1), (2, .int v2)], [.int v2, .ref 75, .int r2, .int v1], (q_kM s c n))) 3 (fun _ _ => rfl) ?_
      refine q_RP_as fun i3 => ?_
      refine q_RP_rsT (g2 := (39, [(0, .ref 64), (1, .int v1), (2, .int v2)], [.int ((s.1 11) (v2.toNatClampNeg)), .int r2, .int v1], (q_kM s c n))) rfl rfl i3 ?_
      refine q_RP_seg (g2 := (22, [(2, .int (v2 + 1)), (1, .int (v1 + (r2 * ((s.1 11) (v2.toNatClampNeg))))), (0, .ref 64)], [], (q_kM s c n))) 5 (fun _ _ => rfl) ?_
      exact q_RP_xt (q_xt_mk (q_mn1 2 rfl (q_mn1 1 rfl (q_mn1 0 rfl q_mn0))) rfl) (hk22 s (v1 + (r2 * ((s.1 11) (v2.toNatClampNeg)))) (v2 + 1))
    | false =>
      refine q_RP_cF ?_
      refine q_RP_rsT (g2 := (48, [(0, .ref 64), (1, .int v1), (2, .int v2)], [], (q_kM s c n))) rfl rfl (q_d_geF h2) ?_
      refine q_RP_seg (g2 := (53, [(0, .ref 64), (1, .int v1), (2, .int v2)], [.ref 64, .ref 70], (q_kM s c n))) 3 (fun _ _ => rfl) ?_
      refine q_RP_call (v := (some (.int (dz_M207_64 s)))) (h2 := (q_kM s c n)) rfl rfl ((dzt_M207_64 s c n).le (Nat.le_of_ble_eq_true rfl)) ?_
      generalize dz_M207_64 s = r3
      refine q_RP_let ?_
      show q_RP _ _ _ (56, [(0, .ref 64), (1, .int v1), (2, .int v2)], [.int r3, .ref 70], (q_kM s c n)) _ _
      refine q_RP_seg (g2 := (60, [(0, .ref 64), (1, .int v1), (2, .int v2)], [.int (v1 / 15), .int r3, .ref 70], (q_kM s c n))) 3 (fun _ _ => rfl) ?_
      refine q_RP_as fun i4 => ?_
      refine q_RP_rsT (g2 := (61, [(0, .ref 64), (1, .int v1), (2, .int v2)], [], (q_kM (q_sA s 6 (upd (s.1 6) (r3.toNatClampNeg) (v1 / 15))) c n))) rfl q_wM6 i4 ?_
      exact q_RP_ret rfl rfl rfl
def dz_M234_64_2 (m : Nat) : q_S → Int32 → Option (q_S) := Nat.rec (motive := fun _ => q_S → Int32 → Option (q_S)) (fun _ _ => none) (fun _ k2 s v1 =>
  cond (decide (v1 < 3)) ((dz_M232_64 s v1).bind fun r1 => k2 r1 (v1 + 1)) (dz_M234_64_22 5000 s 0 0)) m
theorem dzs_M234_64_2 (m : Nat) (s : q_S) (v1 : Int32) : dz_M234_64_2 (m + 1) s v1 = (fun k2 : q_S → Int32 → Option (q_S) =>
  cond (decide (v1 < 3)) ((dz_M232_64 s v1).bind fun r1 => k2 r1 (v1 + 1)) (dz_M234_64_22 5000 s 0 0)) (dz_M234_64_2 m) := rfl
set_option maxHeartbeats 4000000 in
theorem dzt_M234_64_2 (c n : Nat) : ∀ (m : Nat) (s : q_S) (v1 : Int32), q_RP q_TB0 2 233 (2, [(0, .ref 64), (1, .int v1)], [], (q_kM s c n)) (q_oSM c n) (dz_M234_64_2 m s v1) := by
  intro m
  induction m with
  | zero => intro s v1; exact q_RP_no
  | succ m ih =>
    intro s v1
    have hk2 := ih
    clear ih
    rw [dzs_M234_64_2]
    generalize dz_M234_64_2 m = k2 at hk2 ⊢
    dsimp only
    refine q_RP_seg (g2 := (4, [(0, .ref 64), (1, .int v1)], [.int 3, .int v1], (q_kM s c n))) 2 (fun _ _ => rfl) ?_
    cases h1 : decide (v1 < 3) with
    | true =>
      refine q_RP_cT ?_
      refine q_RP_rsF (g2 := (7, [(0, .ref 64), (1, .int v1)], [], (q_kM s c n))) rfl rfl (q_d_geT h1) ?_
      refine q_RP_seg (g2 := (9, [(0, .ref 64), (1, .int v1)], [.int v1, .ref 64], (q_kM s c n))) 2 (fun _ _ => rfl) ?_
      refine q_RP_bd fun r1 er1 => ?_
      refine q_RP_call (v := none) (h2 := (q_kM r1 c n)) rfl rfl ((dzt_M232_64 s c n v1 r1 er1).le (Nat.le_of_ble_eq_true rfl)) ?_
      show q_RP _ _ _ (12, [(0, .ref 64), (1, .int v1)], [], (q_kM r1 c n)) _ _
      refine q_RP_seg (g2 := (2, [(1, .int (v1 + 1)), (0, .ref 64)], [], (q_kM r1 c n))) 2 (fun _ _ => rfl) ?_
      exact q_RP_xt (q_xt_mk (q_mn1 1 rfl (q_mn1 0 rfl q_mn0)) rfl) (hk2 r1 (v1 + 1))
    | false =>
      refine q_RP_cF ?_
      refine q_RP_rsT (g2 := (18, [(0, .ref 64), (1, .int v1)], [], (q_kM s c n))) rfl rfl (q_d_geF h1) ?_
      refine q_RP_seg (g2 := (22, [(2, .int 0), (1, .int 0), (0, .ref 64)], [], (q_kM s c n))) 4 (fun _ _ => rfl) ?_
      exact q_RP_xt (q_xt_mk (q_mn1 2 rfl (q_mn1 1 rfl (q_mn1 0 rfl q_mn0))) rfl) (dzt_M234_64_22 c n 5000 s 0 0)
def dz_M234_64 (s : q_S) : Option (q_S) :=
  dz_M234_64_2 5000 s 0
set_option maxHeartbeats 4000000 in
theorem dzt_M234_64 (s : q_S) (c n : Nat) (x : q_S) (h : dz_M234_64 s = some x) : q_Ca q_TB0 3 233 [.ref 64] (q_kM s c n) ((q_oSM c n) x) := by
  refine q_CaP_of (φ := (q_oSM c n)) (Nat.le_of_ble_eq_true rfl) ?_ h
  clear h
  unfold dz_M234_64
  refine q_RP_seg (g2 := (2, [(1, .int 0), (0, .ref 64)], [], (q_kM s c n))) 2 (fun _ _ => rfl) ?_
  exact q_RP_xt (q_xt_mk (q_mn1 1 rfl (q_mn1 0 rfl q_mn0)) rfl) (dzt_M234_64_2 c n 5000 s 0)
def dz_M247_64 (s : q_S) (a1 : Int32) : Option (q_S × Int32) :=
  q_let (dz_M213 s a1) fun r3 => (dz_M214_64 s r3).bind fun r4 => some (r4.1, r4.2)
set_option maxHeartbeats 4000000 in
theorem dzt_M247_64 (s : q_S) (c n : Nat) (a1 : Int32) (x : q_S × Int32) (h : dz_M247_64 s a1 = some x) : q_Ca q_TB0 5 246 [.ref 64, .int a1] (q_kM s c n) ((q_oIM c n) x) := by
  refine q_CaP_of (φ := (q_oIM c n)) (Nat.le_of_ble_eq_true rfl) ?_ h
  clear h
  unfold dz_M247_64
  refine q_RP_seg (g2 := (2, [(0, .ref 64), (1, .int a1)], [.int a1, .ref 64], (q_kM s c n))) 2 (fun _ _ => rfl) ?_
  refine q_RP_call (v := (some (.int (dz_M213 s a1)))) (h2 := (q_kM s c n)) rfl rfl ((dzt_M213 s c n a1).le (Nat.le_of_ble_eq_true rfl)) ?_
  generalize dz_M213 s a1 = r3
  refine q_RP_let ?_
  show q_RP _ _ _ (5, [(0, .ref 64), (1, .int a1)], [.int r3, .ref 64], (q_kM s c n)) _ _
  refine q_RP_bd fun r4 er4 => ?_
  refine q_RP_call (v := (some (.int r4.2))) (h2 := (q_kM r4.1 c n)) rfl rfl ((dzt_M214_64 s c n r3 r4 er4).le (Nat.le_of_ble_eq_true rfl)) ?_
  show q_RP _ _ _ (8, [(0, .ref 64), (1, .int a1)], [.int r4.2], (q_kM r4.1 c n)) _ _
  exact q_RP_ret rfl rfl rfl
def dz_M244 (s : q_S) (a0 : Int32) : Int32 :=
  cond (decide (a0 < 128)) ((a0 / 8)) (q_let (dz_M202 s a0 192 231) fun r1 => cond r1 (((16 : Int32) + ((a0 - 192) / 8))) ((-1)))
set_option maxHeartbeats 4000000 in
theorem dzt_M244 (s : q_S) (c n : Nat) (a0 : Int32) : q_Ca q_TB0 2 243 [.int a0] (q_kM s c n) ((q_oP (q_kM s c n)) (dz_M244 s a0)) := by
  refine q_CaT_of (φ := (q_oP (q_kM s c n))) (Nat.le_of_ble_eq_true rfl) ?_
  unfold dz_M244
  refine q_RT_seg (g2 := (4, [(0, .int a0)], [.int 128, .int a0], (q_kM s c n))) 2 (fun _ _ => rfl) ?_
  cases h1 : decide (a0 < 128) with
  | true =>
    refine q_RT_cT ?_
    refine q_RT_rsF (g2 := (7, [(0, .int a0)], [], (q_kM s c n))) rfl rfl (q_d_geT h1) ?_
    refine q_RT_seg (g2 := (42, [(0, .int a0)], [.int (a0 / 8)], (q_kM s c n))) 4 (fun _ _ => rfl) ?_
    exact q_RT_ret rfl rfl rfl
  | false =>
    refine q_RT_cF ?_
    refine q_RT_rsT (g2 := (14, [(0, .int a0)], [], (q_kM s c n))) rfl rfl (q_d_geF h1) ?_
    refine q_RT_seg (g2 := (21, [(0, .int a0)], [.int 231, .int 192, .int a0], (q_kM s c n))) 3 (fun _ _ => rfl) ?_
    refine q_RT_call (v := (some (.int (q_b (dz_M202 s a0 192 231))))) (h2 := (q_kM s c n)) rfl rfl ((dzt_M202 s c n a0 192 231).le (Nat.le_of_ble_eq_true rfl)) ?_
    generalize dz_M202 s a0 192 231 = r1
    refine q_RT_let ?_
    show q_RT _ _ _ (24, [(0, .int a0)], [.int (q_b r1)], (q_kM s c n)) _ _
    cases h2 : r1 with
    | true =>
      refine q_RT_cT ?_
      show q_RT _ _ _ (24, [(0, .int a0)], [.int 1], (q_kM s c n)) _ _
      refine q_RT_seg (g2 := (42, [(0, .int a0)], [.int ((16 : Int32) + ((a0 - 192) / 8))], (q_kM s c n))) 9 (fun _ _ => rfl) ?_
      exact q_RT_ret rfl rfl rfl
    | false =>
      refine q_RT_cF ?_
      show q_RT _ _ _ (24, [(0, .int a0)], [.int 0], (q_kM s c n)) _ _
      refine q_RT_seg (g2 := (42, [(0, .int a0)], [.int (-1)], (q_kM s c n))) 2 (fun _ _ => rfl) ?_
      exact q_RT_ret rfl rfl rfl
def dz_M252_64 (s : q_S) (a1 : Int32) : Bool :=
  cond (decide (a1 < 162)) (cond (decide (a1 = 161)) (cond (decide ((s.1 15) 4 = 1)) (true) (false)) (cond (decide (a1 = 163)) (cond (decide ((s.1 15) 4 = 1)) (true) (false)) (cond (decide (a1 = 165)) (cond (decide ((s.1 15) 4 = 1)) (true) (false)) (cond (decide (a1 = 167)) (cond (decide ((s.1 15) 4 = 1)) (true) (false)) (cond (decide ((s.1 15) 4 = 0)) (true) (false)))))) (cond (decide (a1 < 164)) (cond (decide (a1 = 161)) (cond (decide ((s.1 15) 5 = 1)) (true) (false)) (cond (decide (a1 = 163)) (cond (decide ((s.1 15) 5 = 1)) (true) (false)) (cond (decide (a1 = 165)) (cond (decide ((s.1 15) 5 = 1)) (true) (false)) (cond (decide (a1 = 167)) (cond (decide ((s.1 15) 5 = 1)) (true) (false)) (cond (decide ((s.1 15) 5 = 0)) (true) (false)))))) (cond (decide (a1 < 166)) (cond (decide (a1 = 161)) (cond (decide ((s.1 15) 0 = 1)) (true) (false)) (cond (decide (a1 = 163)) (cond (decide ((s.1 15) 0 = 1)) (true) (false)) (cond (decide (a1 = 165)) (cond (decide ((s.1 15) 0 = 1)) (true) (false)) (cond (decide (a1 = 167)) (cond (decide ((s.1 15) 0 = 1)) (true) (false)) (cond (decide ((s.1 15) 0 = 0)) (true) (false)))))) (cond (decide (a1 = 161)) (cond (decide ((s.1 15) 1 = 1)) (true) (false)) (cond (decide (a1 = 163)) (cond (decide ((s.1 15) 1 = 1)) (true) (false)) (cond (decide (a1 = 165)) (cond (decide ((s.1 15) 1 = 1)) (true) (false)) (cond (decide (a1 = 167)) (cond (decide ((s.1 15) 1 = 1)) (true) (false)) (cond (decide ((s.1 15) 1 = 0)) (true) (false))))))))
set_option maxHeartbeats 4000000 in
theorem dzt_M252_64 (s : q_S) (c n : Nat) (a1 : Int32) : q_Ca q_TB0 1 251 [.ref 64, .int a1] (q_kM s c n) ((q_oB (q_kM s c n)) (dz_M252_64 s a1)) := by
  refine q_CaT_of (φ := (q_oB (q_kM s c n))) (Nat.le_of_ble_eq_true rfl) ?_
  unfold dz_M252_64
  refine q_RT_seg (g2 := (4, [(0, .ref 64), (1, .int a1)], [.int 162, .int a1], (q_kM s c n))) 2 (fun _ _ => rfl) ?_
  cases h1 : decide (a1 < 162) with
  | true =>
    refine q_RT_cT ?_
    refine q_RT_rsF (g2 := (7, [(0, .ref 64), (1, .int a1)], [], (q_kM s c n))) rfl rfl (q_d_geT h1) ?_
    refine q_RT_seg (g2 := (13, [(0, .ref 64), (1, .int a1)], [.int ((s.1 15) 4)], (q_kM s c n))) 4 (fun _ _ => rfl) ?_
    refine q_RT_seg (g2 := (60, [(2, .int ((s.1 15) 4)), (0, .ref 64), (1, .int a1)], [.int 161, .int a1, .int ((s.1 15) 4)], (q_kM s c n))) 5 (fun _ _ => rfl) ?_
    cases h2 : decide (a1 = 161) with
    | true =>
      refine q_RT_cT ?_
      refine q_RT_rsT (g2 := (84, [(2, .int ((s.1 15) 4)), (0, .ref 64), (1, .int a1)], [.int ((s.1 15) 4)], (q_kM s c n))) rfl rfl h2 ?_
      refine q_RT_seg (g2 := (89, [(2, .int ((s.1 15) 4)), (0, .ref 64), (1, .int a1)], [.int 1, .int ((s.1 15) 4)], (q_kM s c n))) 2 (fun _ _ => rfl) ?_
      cases h3 : decide ((s.1 15) 4 = 1) with
      | true =>
        refine q_RT_cT ?_
        refine q_RT_rsF (g2 := (92, [(2, .int ((s.1 15) 4)), (0, .ref 64), (1, .int a1)], [], (q_kM s c n))) rfl rfl (q_d_neT h3) ?_
        refine q_RT_seg (g2 := (97, [(2, .int ((s.1 15) 4)), (0, .ref 64), (1, .int a1)], [.int 1], (q_kM s c n))) 2 (fun _ _ => rfl) ?_
        exact q_RT_ret rfl rfl rfl
      | false =>
        refine q_RT_cF ?_
        refine q_RT_rsT (g2 := (96, [(2, .int ((s.1 15) 4)), (0, .ref 64), (1, .int a1)], [], (q_kM s c n))) rfl rfl (q_d_neF h3) ?_
        refine q_RT_seg (g2 := (97, [(2, .int ((s.1 15) 4)), (0, .ref 64), (1, .int a1)], [.int 0], (q_kM s c n))) 1 (fun _ _ => rfl) ?_
        exact q_RT_ret rfl rfl rfl
    | false =>
      refine q_RT_cF ?_
      refine q_RT_rsF (g2 := (63, [(2, .int ((s.1 15) 4)), (0, .ref 64), (1, .int a1)], [.int ((s.1 15) 4)], (q_kM s c n))) rfl rfl h2 ?_
      refine q_RT_seg (g2 := (67, [(2, .int ((s.1 15) 4)), (0, .ref 64), (1, .int a1)], [.int 163, .int a1, .int ((s.1 15) 4)], (q_kM s c n))) 2 (fun _ _ => rfl) ?_
      cases h4 : decide (a1 = 163) with
      | true =>
        refine q_RT_cT ?_
        refine q_RT_rsT (g2 := (84, [(2, .int ((s.1 15) 4)), (0, .ref 64), (1, .int a1)], [.int ((s.1 15) 4)], (q_kM s c n))) rfl rfl h4 ?_
        refine q_RT_seg (g2 := (89, [(2, .int ((s.1 15) 4)), (0, .ref 64), (1, .int a1)], [.int 1, .int ((s.1 15) 4)], (q_kM s c n))) 2 (fun _ _ => rfl) ?_
        cases h5 : decide ((s.1 15) 4 = 1) with
        | true =>
          refine q_RT_cT ?_
          refine q_RT_rsF (g2 := (92, [(2, .int ((s.1 15) 4)), (0, .ref 64), (1, .int a1)], [], (q_kM s c n))) rfl rfl (q_d_neT h5) ?_
          refine q_RT_seg (g2 := (97, [(2, .int ((s.1 15) 4)), (0, .ref 64), (1, .int a1)], [.int 1], (q_kM s c n))) 2 (fun _ _ => rfl) ?_
          exact q_RT_ret rfl rfl rfl
        | false =>
          refine q_RT_cF ?_
          refine q_RT_rsT (g2 := (96, [(2, .int ((s.1 15) 4)), (0, .ref 64), (1, .int a1)], [], (q_kM s c n))) rfl rfl (q_d_neF h5) ?_
          refine q_RT_seg (g2 := (97, [(2, .int ((s.1 15) 4)), (0, .ref 64), (1, .int a1)], [.int 0], (q_kM s c n))) 1 (fun _ _ => rfl) ?_
          exact q_RT_ret rfl rfl rfl
      | false =>
        refine q_RT_cF ?_
        refine q_RT_rsF (g2 := (70, [(2, .int ((s.1 15) 4)), (0, .ref 64), (1, .int a1)], [.int ((s.1 15) 4)], (q_kM s c n))) rfl rfl h4 ?_
        refine q_RT_seg (g2 := (74, [(2, .int ((s.1 15) 4)), (0, .ref 64), (1, .int a1)], [.int 165, .int a1, .int ((s.1 15) 4)], (q_kM s c n))) 2 (fun _ _ => rfl) ?_
        cases h6 : decide (a1 = 165) with
        | true =>
          refine q_RT_cT ?_
          refine q_RT_rsT (g2 := (84, [(2, .int ((s.1 15) 4)), (0, .ref 64), (1, .int a1)], [.int ((s.1 15) 4)], (q_kM s c n))) rfl rfl h6 ?_
          refine q_RT_seg (g2 := (89, [(2, .int ((s.1 15) 4)), (0, .ref 64), (1, .int a1)], [.int 1, .int ((s.1 15) 4)], (q_kM s c n))) 2 (fun _ _ => rfl) ?_
          cases h7 : decide ((s.1 15) 4 = 1) with
          | true =>
            refine q_RT_cT ?_
            refine q_RT_rsF (g2 := (92, [(2, .int ((s.1 15) 4)), (0, .ref 64), (1, .int a1)], [], (q_kM s c n))) rfl rfl (q_d_neT h7) ?_
            refine q_RT_seg (g2 := (97, [(2, .int ((s.1 15) 4)), (0, .ref 64), (1, .int a1)], [.int 1], (q_kM s c n))) 2 (fun _ _ => rfl) ?_
            exact q_RT_ret rfl rfl rfl
          | false =>
            refine q_RT_cF ?_
            refine q_RT_rsT (g2 := (96, [(2, .int ((s.1 15) 4)), (0, .ref 64), (1, .int a1)], [], (q_kM s c n))) rfl rfl (q_d_neF h7) ?_
            refine q_RT_seg (g2 := (97, [(2, .int ((s.1 15) 4)), (0, .ref 64), (1, .int a1)], [.int 0], (q_kM s c n))) 1 (fun _ _ => rfl) ?_
            exact q_RT_ret rfl rfl rfl
        | false =>
          refine q_RT_cF ?_
          refine q_RT_rsF (g2 := (77, [(2, .int ((s.1 15) 4)), (0, .ref 64), (1, .int a1)], [.int ((s.1 15) 4)], (q_kM s c n))) rfl rfl h6 ?_
          refine q_RT_seg (g2 := (81, [(2, .int ((s.1 15) 4)), (0, .ref 64), (1, .int a1)], [.int 167, .int a1, .int ((s.1 15) 4)], (q_kM s c n))) 2 (fun _ _ => rfl) ?_
          cases h8 : decide (a1 = 167) with
          | true =>
            refine q_RT_cT ?_
            refine q_RT_rsF (g2 := (84, [(2, .int ((s.1 15) 4)), (0, .ref 64), (1, .int a1)], [.int ((s.1 15) 4)], (q_kM s c n))) rfl rfl (q_d_neT h8) ?_
            refine q_RT_seg (g2 := (89, [(2, .int ((s.1 15) 4)), (0, .ref 64), (1, .int a1)], [.int 1, .int ((s.1 15) 4)], (q_kM s c n))) 2 (fun _ _ => rfl) ?_
            cases h9 : decide ((s.1 15) 4 = 1) with
            | true =>
              refine q_RT_cT ?_
              refine q_RT_rsF (g2 := (92, [(2, .int ((s.1 15) 4)), (0, .ref 64), (1, .int a1)], [], (q_kM s c n))) rfl rfl (q_d_neT h9) ?_
              refine q_RT_seg (g2 := (97, [(2, .int ((s.1 15) 4)), (0, .ref 64), (1, .int a1)], [.int 1], (q_kM s c n))) 2 (fun _ _ => rfl) ?_
              exact q_RT_ret rfl rfl rfl
            | false =>
              refine q_RT_cF ?_
              refine q_RT_rsT (g2 := (96, [(2, .int ((s.1 15) 4)), (0, .ref 64), (1, .int a1)], [], (q_kM s c n))) rfl rfl (q_d_neF h9) ?_
              refine q_RT_seg (g2 := (97, [(2, .int ((s.1 15) 4)), (0, .ref 64), (1, .int a1)], [.int 0], (q_kM s c n))) 1 (fun _ _ => rfl) ?_
              exact q_RT_ret rfl rfl rfl
          | false =>
            refine q_RT_cF ?_
            refine q_RT_rsT (g2 := (88, [(2, .int ((s.1 15) 4)), (0, .ref 64), (1, .int a1)], [.int ((s.1 15) 4)], (q_kM s c n))) rfl rfl (q_d_neF h8) ?_
            refine q_RT_seg (g2 := (89, [(2, .int ((s.1 15) 4)), (0, .ref 64), (1, .int a1)], [.int 0, .int ((s.1 15) 4)], (q_kM s c n))) 1 (fun _ _ => rfl) ?_
            cases h10 : decide ((s.1 15) 4 = 0) with
            | true =>
              refine q_RT_cT ?_
              refine q_RT_rsF (g2 := (92, [(2, .int ((s.1 15) 4)), (0, .ref 64), (1, .int a1)], [], (q_kM s c n))) rfl rfl (q_d_neT h10) ?_
              refine q_RT_seg (g2 := (97, [(2, .int ((s.1 15) 4)), (0, .ref 64), (1, .int a1)], [.int 1], (q_kM s c n))) 2 (fun _ _ => rfl) ?_
              exact q_RT_ret rfl rfl rfl
            | false =>
              refine q_RT_cF ?_
              refine q_RT_rsT (g2 := (96, [(2, .int ((s.1 15) 4)), (0, .ref 64), (1, .int a1)], [], (q_kM s c n))) rfl rfl (q_d_neF h10) ?_
              refine q_RT_seg (g2 := (97, [(2, .int ((s.1 15) 4)), (0, .ref 64), (1, .int a1)], [.int 0], (q_kM s c n))) 1 (fun _ _ => rfl) ?_
              exact q_RT_ret rfl rfl rfl
  | false =>
    refine q_RT_cF ?_
    refine q_RT_rsT (g2 := (16, [(0, .ref 64), (1, .int a1)], [], (q_kM s c n))) rfl rfl (q_d_geF h1) ?_
    refine q_RT_seg (g2 := (20, [(0, .ref 64), (1, .int a1)], [.int 164, .int a1], (q_kM s c n))) 2 (fun _ _ => rfl) ?_
    cases h11 : decide (a1 < 164) with
    | true =>
      refine q_RT_cT ?_
      refine q_RT_rsF (g2 := (23, [(0, .ref 64), (1, .int a1)], [], (q_kM s c n))) rfl rfl (q_d_geT h11) ?_
      refine q_RT_seg (g2 := (29, [(0, .ref 64), (1, .int a1)], [.int ((s.1 15) 5)], (q_kM s c n))) 4 (fun _ _ => rfl) ?_
      refine q_RT_seg (g2 := (60, [(2, .int ((s.1 15) 5)), (0, .ref 64), (1, .int a1)], [.int 161, .int a1, .int ((s.1 15) 5)], (q_kM s c n))) 5 (fun _ _ => rfl) ?_
      cases h12 : decide (a1 = 161) with
      | true =>
        refine q_RT_cT ?_
        refine q_RT_rsT (g2 := (84, [(2, .int ((s.1 15) 5)), (0, .ref 64), (1, .int a1)], [.int ((s.1 15) 5)], (q_kM s c n))) rfl rfl h12 ?_
        refine q_RT_seg (g2 := (89, [(2, .int ((s.1 15) 5)), (0, .ref 64), (1, .int a1)], [.int 1, .int ((s.1 15) 5)], (q_kM s c n))) 2 (fun _ _ => rfl) ?_
        cases h13 : decide ((s.1 15) 5 = 1) with
        | true =>
          refine q_RT_cT ?_
          refine q_RT_rsF (g2 := (92, [(2, .int ((s.1 15) 5)), (0, .ref 64), (1, .int a1)], [], (q_kM s c n))) rfl rfl (q_d_neT h13) ?_
          refine q_RT_seg (g2 := (97, [(2, .int ((s.1 15) 5)), (0, .ref 64), (1, .int a1)], [.int 1], (q_kM s c n))) 2 (fun _ _ => rfl) ?_
          exact q_RT_ret rfl rfl rfl
        | false =>
          refine q_RT_cF ?_
          refine q_RT_rsT (g2 := (96, [(2, .int ((s.1 15) 5)), (0, .ref 64), (1, .int a1)], [], (q_kM s c n))) rfl rfl (q_d_neF h13) ?_
          refine q_RT_seg (g2 := (97, [(2, .int ((s.1 15) 5)), (0, .ref 64), (1, .int a1)], [.int 0], (q_kM s c n))) 1 (fun _ _ => rfl) ?_
          exact q_RT_ret rfl rfl rfl
      | false =>
        refine q_RT_cF ?_
        refine q_RT_rsF (g2 := (63, [(2, .int ((s.1 15) 5)), (0, .ref 64), (1, .int a1)], [.int ((s.1 15) 5)], (q_kM s c n))) rfl rfl h12 ?_
        refine q_RT_seg (g2 := (67, [(2, .int ((s.1 15) 5)), (0, .ref 64), (1, .int a1)], [.int 163, .int a1, .int ((s.1 15) 5)], (q_kM s c n))) 2 (fun _ _ => rfl) ?_
        cases h14 : decide (a1 = 163) with
        | true =>
          refine q_RT_cT ?_
          refine q_RT_rsT (g2 := (84, [(2, .int ((s.1 15) 5)), (0, .ref 64), (1, .int a1)], [.int ((s.1 15) 5)], (q_kM s c n))) rfl rfl h14 ?_
          refine q_RT_seg (g2 := (89, [(2, .int ((s.1 15) 5)), (0, .ref 64), (1, .int a1)], [.int 1, .int ((s.1 15) 5)], (q_kM s c n))) 2 (fun _ _ => rfl) ?_
          cases h15 : decide ((s.1 15) 5 = 1) with
          | true =>
            refine q_RT_cT ?_
            refine q_RT_rsF (g2 := (92, [(2, .int ((s.1 15) 5)), (0, .ref 64), (1, .int a1)], [], (q_kM s c n))) rfl rfl (q_d_neT h15) ?_
            refine q_RT_seg (g2 := (97, [(2, .int ((s.1 15) 5)), (0, .ref 64), (1, .int a1)], [.int 1], (q_kM s c n))) 2 (fun _ _ => rfl) ?_
            exact q_RT_ret rfl rfl rfl
          | false =>
            refine q_RT_cF ?_
            refine q_RT_rsT (g2 := (96, [(2, .int ((s.1 15) 5)), (0, .ref 64), (1, .int a1)], [], (q_kM s c n))) rfl rfl (q_d_neF h15) ?_
            refine q_RT_seg (g2 := (97, [(2, .int ((s.1 15) 5)), (0, .ref 64), (1, .int a1)], [.int 0], (q_kM s c n))) 1 (fun _ _ => rfl) ?_
            exact q_RT_ret rfl rfl rfl
        | false =>
          refine q_RT_cF ?_
          refine q_RT_rsF (g2 := (70, [(2, .int ((s.1 15) 5)), (0, .ref 64), (1, .int a1)], [.int ((s.1 15) 5)], (q_kM s c n))) rfl rfl h14 ?_
          refine q_RT_seg (g2 := (74, [(2, .int ((s.1 15) 5)), (0, .ref 64), (1, .int a1)], [.int 165, .int a1, .int ((s.1 15) 5)], (q_kM s c n))) 2 (fun _ _ => rfl) ?_
          cases h16 : decide (a1 = 165) with
          | true =>
            refine q_RT_cT ?_
            refine q_RT_rsT (g2 := (84, [(2, .int ((s.1 15) 5)), (0, .ref 64), (1, .int a1)], [.int ((s.1 15) 5)], (q_kM s c n))) rfl rfl h16 ?_
            refine q_RT_seg (g2 := (89, [(2, .int ((s.1 15) 5)), (0, .ref 64), (1, .int a1)], [.int 1, .int ((s.1 15) 5)], (q_kM s c n))) 2 (fun _ _ => rfl) ?_
            cases h17 : decide ((s.1 15) 5 = 1) with
            | true =>
              refine q_RT_cT ?_
              refine q_RT_rsF (g2 := (92, [(2, .int ((s.1 15) 5)), (0, .ref 64), (1, .int a1)], [], (q_kM s c n))) rfl rfl (q_d_neT h17) ?_
              refine q_RT_seg (g2 := (97, [(2, .int ((s.1 15) 5)), (0, .ref 64), (1, .int a1)], [.int 1], (q_kM s c n))) 2 (fun _ _ => rfl) ?_
              exact q_RT_ret rfl rfl rfl
            | false =>
              refine q_RT_cF ?_
              refine q_RT_rsT (g2 := (96, [(2, .int ((s.1 15) 5)), (0, .ref 64), (1, .int a1)], [], (q_kM s c n))) rfl rfl (q_d_neF h17) ?_
              refine q_RT_seg (g2 := (97, [(2, .int ((s.1 15) 5)), (0, .ref 64), (1, .int a1)], [.int 0], (q_kM s c n))) 1 (fun _ _ => rfl) ?_
              exact q_RT_ret rfl rfl rfl
          | false =>
            refine q_RT_cF ?_
            refine q_RT_rsF (g2 := (77, [(2, .int ((s.1 15) 5)), (0, .ref 64), (1, .int a1)], [.int ((s.1 15) 5)], (q_kM s c n))) rfl rfl h16 ?_
            refine q_RT_seg (g2 := (81, [(2, .int ((s.1 15) 5)), (0, .ref 64), (1, .int a1)], [.int 167, .int a1, .int ((s.1 15) 5)], (q_kM s c n))) 2 (fun _ _ => rfl) ?_
            cases h18 : decide (a1 = 167) with
            | true =>
              refine q_RT_cT ?_
              refine q_RT_rsF (g2 := (84, [(2, .int ((s.1 15) 5)), (0, .ref 64), (1, .int a1)], [.int ((s.1 15) 5)], (q_kM s c n))) rfl rfl (q_d_neT h18) ?_
              refine q_RT_seg (g2 := (89, [(2, .int ((s.1 15) 5)), (0, .ref 64), (1, .int a1)], [.int 1, .int ((s.1 15) 5)], (q_kM s c n))) 2 (fun _ _ => rfl) ?_
              cases h19 : decide ((s.1 15) 5 = 1) with
              | true =>
                refine q_RT_cT ?_
                refine q_RT_rsF (g2 := (92, [(2, .int ((s.1 15) 5)), (0, .ref 64), (1, .int a1)], [], (q_kM s c n))) rfl rfl (q_d_neT h19) ?_
                refine q_RT_seg (g2 := (97, [(2, .int ((s.1 15) 5)), (0, .ref 64), (1, .int a1)], [.int 1], (q_kM s c n))) 2 (fun _ _ => rfl) ?_
                exact q_RT_ret rfl rfl rfl
              | false =>
                refine q_RT_cF ?_
                refine q_RT_rsT (g2 := (96, [(2, .int ((s.1 15) 5)), (0, .ref 64), (1, .int a1)], [], (q_kM s c n))) rfl rfl (q_d_neF h19) ?_
                refine q_RT_seg (g2 := (97, [(2, .int ((s.1 15) 5)), (0, .ref 64), (1, .int a1)], [.int 0], (q_kM s c n))) 1 (fun _ _ => rfl) ?_
                exact q_RT_ret rfl rfl rfl
            | false =>
              refine q_RT_cF ?_
              refine q_RT_rsT (g2 := (88, [(2, .int ((s.1 15) 5)), (0, .ref 64), (1, .int a1)], [.int ((s.1 15) 5)], (q_kM s c n))) rfl rfl (q_d_neF h18) ?_
              refine q_RT_seg (g2 := (89, [(2, .int ((s.1 15) 5)), (0, .ref 64), (1, .int a1)], [.int 0, .int ((s.1 15) 5)], (q_kM s c n))) 1 (fun _ _ => rfl) ?_
              cases h20 : decide ((s.1 15) 5 = 0) with
              | true =>
                refine q_RT_cT ?_
                refine q_RT_rsF (g2 := (92, [(2, .int ((s.1 15) 5)), (0, .ref 64), (1, .int a1)], [], (q_kM s c n))) rfl rfl (q_d_neT h20) ?_
                refine q_RT_seg (g2 := (97, [(2, .int ((s.1 15) 5)), (0, .ref 64), (1, .int a1)], [.int 1], (q_kM s c n))) 2 (fun _ _ => rfl) ?_
                exact q_RT_ret rfl rfl rfl
              | false =>
                refine q_RT_cF ?_
                refine q_RT_rsT (g2 := (96, [(2, .int ((s.1 15) 5)), (0, .ref 64), (1, .int a1)], [], (q_kM s c n))) rfl rfl (q_d_neF h20) ?_
                refine q_RT_seg (g2 := (97, [(2, .int ((s.1 15) 5)), (0, .ref 64), (1, .int a1)], [.int 0], (q_kM s c n))) 1 (fun _ _ => rfl) ?_
                exact q_RT_ret rfl rfl rfl
    | false =>
      refine q_RT_cF ?_
      refine q_RT_rsT (g2 := (32, [(0, .ref 64), (1, .int a1)], [], (q_kM s c n))) rfl rfl (q_d_geF h11) ?_
      refine q_RT_seg (g2 := (36, [(0, .ref 64), (1, .int a1)], [.int 166, .int a1], (q_kM s c n))) 2 (fun _ _ => rfl) ?_
      cases h21 : decide (a1 < 166) with
      | true =>
        refine q_RT_cT ?_
        refine q_RT_rsF (g2 := (39, [(0, .ref 64), (1, .int a1)], [], (q_kM s c n))) rfl rfl (q_d_geT h21) ?_
        refine q_RT_seg (g2 := (45, [(0, .ref 64), (1, .int a1)], [.int ((s.1 15) 0)], (q_kM s c n))) 4 (fun _ _ => rfl) ?_
        refine q_RT_seg (g2 := (60, [(2, .int ((s.1 15) 0)), (0, .ref 64), (1, .int a1)], [.int 161, .int a1, .int ((s.1 15) 0)], (q_kM s c n))) 5 (fun _ _ => rfl) ?_
        cases h22 : decide (a1 = 161) with
        | true =>
          refine q_RT_cT ?_
          refine q_RT_rsT (g2 := (84, [(2, .int ((s.1 15) 0)), (0, .ref 64), (1, .int a1)], [.int ((s.1 15) 0)], (q_kM s c n))) rfl rfl h22 ?_
          refine q_RT_seg (g2 := (89, [(2, .int ((s.1 15) 0)), (0, .ref 64), (1, .int a1)], [.int 1, .int ((s.1 15) 0)], (q_kM s c n))) 2 (fun _ _ => rfl) ?_
          cases h23 : decide ((s.1 15) 0 = 1) with
          | true =>
            refine q_RT_cT ?_
            refine q_RT_rsF (g2 := (92, [(2, .int ((s.1 15) 0)), (0, .ref 64), (1, .int a1)], [], (q_kM s c n))) rfl rfl (q_d_neT h23) ?_
            refine q_RT_seg (g2 := (97, [(2, .int ((s.1 15) 0)), (0, .ref 64), (1, .int a1)], [.int 1], (q_kM s c n))) 2 (fun _ _ => rfl) ?_
            exact q_RT_ret rfl rfl rfl
          | false =>
            refine q_RT_cF ?_
            refine q_RT_rsT (g2 := (96, [(2, .int ((s.1 15) 0)), (0, .ref 64), (1, .int a1)], [], (q_kM s c n))) rfl rfl (q_d_neF h23) ?_
            refine q_RT_seg (g2 := (97, [(2, .int ((s.1 15) 0)), (0, .ref 64), (1, .int a1)], [.int 0], (q_kM s c n))) 1 (fun _ _ => rfl) ?_
            exact q_RT_ret rfl rfl rfl
        | false =>
          refine q_RT_cF ?_
          refine q_RT_rsF (g2 := (63, [(2, .int ((s.1 15) 0)), (0, .ref 64), (1, .int a1)], [.int ((s.1 15) 0)], (q_kM s c n))) rfl rfl h22 ?_
          refine q_RT_seg (g2 := (67, [(2, .int ((s.1 15) 0)), (0, .ref 64), (1, .int a1)], [.int 163, .int a1, .int ((s.1 15) 0)], (q_kM s c n))) 2 (fun _ _ => rfl) ?_
          cases h24 : decide (a1 = 163) with
          | true =>
            refine q_RT_cT ?_
            refine q_RT_rsT (g2 := (84, [(2, .int ((s.1 15) 0)), (0, .ref 64), (1, .int a1)], [.int ((s.1 15) 0)], (q_kM s c n))) rfl rfl h24 ?_
            refine q_RT_seg (g2 := (89, [(2, .int ((s.1 15) 0)), (0, .ref 64), (1, .int a1)], [.int 1, .int ((s.1 15) 0)], (q_kM s c n))) 2 (fun _ _ => rfl) ?_
            cases h25 : decide ((s.1 15) 0 = 1) with
            | true =>
              refine q_RT_cT ?_
              refine q_RT_rsF (g2 := (92, [(2, .int ((s.1 15) 0)), (0, .ref 64), (1, .int a1)], [], (q_kM s c n))) rfl rfl (q_d_neT h25) ?_
              refine q_RT_seg (g2 := (97, [(2, .int ((s.1 15) 0)), (0, .ref 64), (1, .int a1)], [.int 1], (q_kM s c n))) 2 (fun _ _ => rfl) ?_
              exact q_RT_ret rfl rfl rfl
            | false =>
              refine q_RT_cF ?_
              refine q_RT_rsT (g2 := (96, [(2, .int ((s.1 15) 0)), (0, .ref 64), (1, .int a1)], [], (q_kM s c n))) rfl rfl (q_d_neF h25) ?_
              refine q_RT_seg (g2 := (97, [(2, .int ((s.1 15) 0)), (0, .ref 64), (1, .int a1)], [.int 0], (q_kM s c n))) 1 (fun _ _ => rfl) ?_
              exact q_RT_ret rfl rfl rfl
          | false =>
            refine q_RT_cF ?_
            refine q_RT_rsF (g2 := (70, [(2, .int ((s.1 15) 0)), (0, .ref 64), (1, .int a1)], [.int ((s.1 15) 0)], (q_kM s c n))) rfl rfl h24 ?_
            refine q_RT_seg (g2 := (74, [(2, .int ((s.1 15) 0)), (0, .ref 64), (1, .int a1)], [.int 165, .int a1, .int ((s.1 15) 0)], (q_kM s c n))) 2 (fun _ _ => rfl) ?_
            cases h26 : decide (a1 = 165) with
            | true =>
              refine q_RT_cT ?_
              refine q_RT_rsT (g2 := (84, [(2, .int ((s.1 15) 0)), (0, .ref 64), (1, .int a1)], [.int ((s.1 15) 0)], (q_kM s c n))) rfl rfl h26 ?_
              refine q_RT_seg (g2 := (89, [(2, .int ((s.1 15) 0)), (0, .ref 64), (1, .int a1)], [.int 1, .int ((s.1 15) 0)], (q_kM s c n))) 2 (fun _ _ => rfl) ?_
              cases h27 : decide ((s.1 15) 0 = 1) with
              | true =>
                refine q_RT_cT ?_
                refine q_RT_rsF (g2 := (92, [(2, .int ((s.1 15) 0)), (0, .ref 64), (1, .int a1)], [], (q_kM s c n))) rfl rfl (q_d_neT h27) ?_
                refine q_RT_seg (g2 := (97, [(2, .int ((s.1 15) 0)), (0, .ref 64), (1, .int a1)], [.int 1], (q_kM s c n))) 2 (fun _ _ => rfl) ?_
                exact q_RT_ret rfl rfl rfl
              | false =>
                refine q_RT_cF ?_
                refine q_RT_rsT (g2 := (96, [(2, .int ((s.1 15) 0)), (0, .ref 64), (1, .int a1)], [], (q_kM s c n))) rfl rfl (q_d_neF h27) ?_
                refine q_RT_seg (g2 := (97, [(2, .int ((s.1 15) 0)), (0, .ref 64), (1, .int a1)], [.int 0], (q_kM s c n))) 1 (fun _ _ => rfl) ?_
                exact q_RT_ret rfl rfl rfl
            | false =>
              refine q_RT_cF ?_
              refine q_RT_rsF (g2 := (77, [(2, .int ((s.1 15) 0)), (0, .ref 64), (1, .int a1)], [.int ((s.1 15) 0)], (q_kM s c n))) rfl rfl h26 ?_
              refine q_RT_seg (g2 := (81, [(2, .int ((s.1 15) 0)), (0, .ref 64), (1, .int a1)], [.int 167, .int a1, .int ((s.1 15) 0)], (q_kM s c n))) 2 (fun _ _ => rfl) ?_
              cases h28 : decide (a1 = 167) with
              | true =>
                refine q_RT_cT ?_
                refine q_RT_rsF (g2 := (84, [(2, .int ((s.1 15) 0)), (0, .ref 64), (1, .int a1)], [.int ((s.1 15) 0)], (q_kM s c n))) rfl rfl (q_d_neT h28) ?_
                refine q_RT_seg (g2 := (89, [(2, .int ((s.1 15) 0)), (0, .ref 64), (1, .int a1)], [.int 1, .int ((s.1 15) 0)], (q_kM s c n))) 2 (fun _ _ => rfl) ?_
                cases h29 : decide ((s.1 15) 0 = 1) with
                | true =>
                  refine q_RT_cT ?_
                  refine q_RT_rsF (g2 := (92, [(2, .int ((s.1 15) 0)), (0, .ref 64), (1, .int a1)], [], (q_kM s c n))) rfl rfl (q_d_neT h29) ?_
                  refine q_RT_seg (g2 := (97, [(2, .int ((s.1 15) 0)), (0, .ref 64), (1, .int a1)], [.int 1], (q_kM s c n))) 2 (fun _ _ => rfl) ?_
                  exact q_RT_ret rfl rfl rfl
                | false =>
                  refine q_RT_cF ?_
                  refine q_RT_rsT (g2 := (96, [(2, .int ((s.1 15) 0)), (0, .ref 64), (1, .int a1)], [], (q_kM s c n))) rfl rfl (q_d_neF h29) ?_
                  refine q_RT_seg (g2 := (97, [(2, .int ((s.1 15) 0)), (0, .ref 64), (1, .int a1)], [.int 0], (q_kM s c n))) 1 (fun _ _ => rfl) ?_
                  exact q_RT_ret rfl rfl rfl
              | false =>
                refine q_RT_cF ?_
                refine q_RT_rsT (g2 := (88, [(2, .int ((s.1 15) 0)), (0, .ref 64), (1, .int a1)], [.int ((s.1 15) 0)], (q_kM s c n))) rfl rfl (q_d_neF h28) ?_
                refine q_RT_seg (g2 := (89, [(2, .int ((s.1 15) 0)), (0, .ref 64), (1, .int a1)], [.int 0, .int ((s.1 15) 0)], (q_kM s c n))) 1 (fun _ _ => rfl) ?_
                cases h30 : decide ((s.1 15) 0 = 0) with
                | true =>
                  refine q_RT_cT ?_
                  refine q_RT_rsF (g2 := (92, [(2, .int ((s.1 15) 0)), (0, .ref 64), (1, .int a1)], [], (q_kM s c n))) rfl rfl (q_d_neT h30) ?_
                  refine q_RT_seg (g2 := (97, [(2, .int ((s.1 15) 0)), (0, .ref 64), (1, .int a1)], [.int 1], (q_kM s c n))) 2 (fun _ _ => rfl) ?_
                  exact q_RT_ret rfl rfl rfl
                | false =>
                  refine q_RT_cF ?_
                  refine q_RT_rsT (g2 := (96, [(2, .int ((s.1 15) 0)), (0, .ref 64), (1, .int a1)], [], (q_kM s c n))) rfl rfl (q_d_neF h30) ?_
                  refine q_RT_seg (g2 := (97, [(2, .int ((s.1 15) 0)), (0, .ref 64), (1, .int a1)], [.int 0], (q_kM s c n))) 1 (fun _ _ => rfl) ?_
                  exact q_RT_ret rfl rfl rfl
      | false =>
        refine q_RT_cF ?_
        refine q_RT_rsT (g2 := (48, [(0, .ref 64), (1, .int a1)], [], (q_kM s c n))) rfl rfl (q_d_geF h21) ?_
        refine q_RT_seg (g2 := (54, [(0, .ref 64), (1, .int a1)], [.int ((s.1 15) 1)], (q_kM s c n))) 4 (fun _ _ => rfl) ?_
        refine q_RT_seg (g2 := (60, [(2, .int ((s.1 15) 1)), (0, .ref 64), (1, .int a1)], [.int 161, .int a1, .int ((s.1 15) 1)], (q_kM s c n))) 4 (fun _ _ => rfl) ?_
        cases h31 : decide (a1 = 161) with
        | true =>
          refine q_RT_cT ?_
          refine q_RT_rsT (g2 := (84, [(2, .int ((s.1 15) 1)), (0, .ref 64), (1, .int a1)], [.int ((s.1 15) 1)], (q_kM s c n))) rfl rfl h31 ?_
          refine q_RT_seg (g2 := (89, [(2, .int ((s.1 15) 1)), (0, .ref 64), (1, .int a1)], [.int 1, .int ((s.1 15) 1)], (q_kM s c n))) 2 (fun _ _ => rfl) ?_
          cases h32 : decide ((s.1 15) 1 = 1) with
          | true =>
            refine q_RT_cT ?_
            refine q_RT_rsF (g2 := (92, [(2, .int ((s.1 15) 1)), (0, .ref 64), (1, .int a1)], [], (q_kM s c n))) rfl rfl (q_d_neT h32) ?_
            refine q_RT_seg (g2 := (97, [(2, .int ((s.1 15) 1)), (0, .ref 64), (1, .int a1)], [.int 1], (q_kM s c n))) 2 (fun _ _ => rfl) ?_
            exact q_RT_ret rfl rfl rfl
          | false =>
            refine q_RT_cF ?_
            refine q_RT_rsT (g2 := (96, [(2, .int ((s.1 15) 1)), (0, .ref 64), (1, .int a1)], [], (q_kM s c n))) rfl rfl (q_d_neF h32) ?_
            refine q_RT_seg (g2 := (97, [(2, .int ((s.1 15) 1)), (0, .ref 64), (1, .int a1)], [.int 0], (q_kM s c n))) 1 (fun _ _ => rfl) ?_
            exact q_RT_ret rfl rfl rfl
        | false =>
          refine q_RT_cF ?_
          refine q_RT_rsF (g2 := (63, [(2, .int ((s.1 15) 1)), (0, .ref 64), (1, .int a1)], [.int ((s.1 15) 1)], (q_kM s c n))) rfl rfl h31 ?_
          refine q_RT_seg (g2 := (67, [(2, .int ((s.1 15) 1)), (0, .ref 64), (1, .int a1)], [.int 163, .int a1, .int ((s.1 15) 1)], (q_kM s c n))) 2 (fun _ _ => rfl) ?_
          cases h33 : decide (a1 = 163) with
          | true =>
            refine q_RT_cT ?_
            refine q_RT_rsT (g2 := (84, [(2, .int ((s.1 15) 1)), (0, .ref 64), (1, .int a1)], [.int ((s.1 15) 1)], (q_kM s c n))) rfl rfl h33 ?_
            refine q_RT_seg (g2 := (89, [(2, .int ((s.1 15) 1)), (0, .ref 64), (1, .int a1)], [.int 1, .int ((s.1 15) 1)], (q_kM s c n))) 2 (fun _ _ => rfl) ?_
            cases h34 : decide ((s.1 15) 1 = 1) with
            | true =>
              refine q_RT_cT ?_
              refine q_RT_rsF (g2 := (92, [(2, .int ((s.1 15) 1)), (0, .ref 64), (1, .int a1)], [], (q_kM s c n))) rfl rfl (q_d_neT h34) ?_
              refine q_RT_seg (g2 := (97, [(2, .int ((s.1 15) 1)), (0, .ref 64), (1, .int a1)], [.int 1], (q_kM s c n))) 2 (fun _ _ => rfl) ?_
              exact q_RT_ret rfl rfl rfl
            | false =>
              refine q_RT_cF ?_
              refine q_RT_rsT (g2 := (96, [(2, .int ((s.1 15) 1)), (0, .ref 64), (1, .int a1)], [], (q_kM s c n))) rfl rfl (q_d_neF h34) ?_
              refine q_RT_seg (g2 := (97, [(2, .int ((s.1 15) 1)), (0, .ref 64), (1, .int a1)], [.int 0], (q_kM s c n))) 1 (fun _ _ => rfl) ?_
              exact q_RT_ret rfl rfl rfl
          | false =>
            refine q_RT_cF ?_
            refine q_RT_rsF (g2 := (70, [(2, .int ((s.1 15) 1)), (0, .ref 64), (1, .int a1)], [.int ((s.1 15) 1)], (q_kM s c n))) rfl rfl h33 ?_
            refine q_RT_seg (g2 := (74, [(2, .int ((s.1 15) 1)), (0, .ref 64), (1, .int a1)], [.int 165, .int a1, .int ((s.1 15) 1)], (q_kM s c n))) 2 (fun _ _ => rfl) ?_
            cases h35 : decide (a1 = 165) with
            | true =>
              refine q_RT_cT ?_
              refine q_RT_rsT (g2 := (84, [(2, .int ((s.1 15) 1)), (0, .ref 64), (1, .int a1)], [.int ((s.1 15) 1)], (q_kM s c n))) rfl rfl h35 ?_
              refine q_RT_seg (g2 := (89, [(2, .int ((s.1 15) 1)), (0, .ref 64), (1, .int a1)], [.int 1, .int ((s.1 15) 1)], (q_kM s c n))) 2 (fun _ _ => rfl) ?_
              cases h36 : decide ((s.1 15) 1 = 1) with
              | true =>
                refine q_RT_cT ?_
                refine q_RT_rsF (g2 := (92, [(2, .int ((s.1 15) 1)), (0, .ref 64), (1, .int a1)], [], (q_kM s c n))) rfl rfl (q_d_neT h36) ?_
                refine q_RT_seg (g2 := (97, [(2, .int ((s.1 15) 1)), (0, .ref 64), (1, .int a1)], [.int 1], (q_kM s c n))) 2 (fun _ _ => rfl) ?_
                exact q_RT_ret rfl rfl rfl
              | false =>
                refine q_RT_cF ?_
                refine q_RT_rsT (g2 := (96, [(2, .int ((s.1 15) 1)), (0, .ref 64), (1, .int a1)], [], (q_kM s c n))) rfl rfl (q_d_neF h36) ?_
                refine q_RT_seg (g2 := (97, [(2, .int ((s.1 15) 1)), (0, .ref 64), (1, .int a1)], [.int 0], (q_kM s c n))) 1 (fun _ _ => rfl) ?_
                exact q_RT_ret rfl rfl rfl
            | false =>
              refine q_RT_cF ?_
              refine q_RT_rsF (g2 := (77, [(2, .int ((s.1 15) 1)), (0, .ref 64), (1, .int a1)], [.int ((s.1 15) 1)], (q_kM s c n))) rfl rfl h35 ?_
              refine q_RT_seg (g2 := (81, [(2, .int ((s.1 15) 1)), (0, .ref 64), (1, .int a1)], [.int 167, .int a1, .int ((s.1 15) 1)], (q_kM s c n))) 2 (fun _ _ => rfl) ?_
              cases h37 : decide (a1 = 167) with
              | true =>
                refine q_RT_cT ?_
                refine q_RT_rsF (g2 := (84, [(2, .int ((s.1 15) 1)), (0, .ref 64), (1, .int a1)], [.int ((s.1 15) 1)], (q_kM s c n))) rfl rfl (q_d_neT h37) ?_
                refine q_RT_seg (g2 := (89, [(2, .int ((s.1 15) 1)), (0, .ref 64), (1, .int a1)], [.int 1, .int ((s.1 15) 1)], (q_kM s c n))) 2 (fun _ _ => rfl) ?_
                cases h38 : decide ((s.1 15) 1 = 1) with
                | true =>
                  refine q_RT_cT ?_
                  refine q_RT_rsF (g2 := (92, [(2, .int ((s.1 15) 1)), (0, .ref 64), (1, .int a1)], [], (q_kM s c n))) rfl rfl (q_d_neT h38) ?_
                  refine q_RT_seg (g2 := (97, [(2, .int ((s.1 15) 1)), (0, .ref 64), (1, .int a1)], [.int 1], (q_kM s c n))) 2 (fun _ _ => rfl) ?_
                  exact q_RT_ret rfl rfl rfl
                | false =>
                  refine q_RT_cF ?_
                  refine q_RT_rsT (g2 := (96, [(2, .int ((s.1 15) 1)), (0, .ref 64), (1, .int a1)], [], (q_kM s c n))) rfl rfl (q_d_neF h38) ?_
                  refine q_RT_seg (g2 := (97, [(2, .int ((s.1 15) 1)), (0, .ref 64), (1, .int a1)], [.int 0], (q_kM s c n))) 1 (fun _ _ => rfl) ?_
                  exact q_RT_ret rfl rfl rfl
              | false =>
                refine q_RT_cF ?_
                refine q_RT_rsT (g2 := (88, [(2, .int ((s.1 15) 1)), (0, .ref 64), (1, .int a1)], [.int ((s.1 15) 1)], (q_kM s c n))) rfl rfl (q_d_neF h37) ?_
                refine q_RT_seg (g2 := (89, [(2, .int ((s.1 15) 1)), (0, .ref 64), (1, .int a1)], [.int 0, .int ((s.1 15) 1)], (q_kM s c n))) 1 (fun _ _ => rfl) ?_
                cases h39 : decide ((s.1 15) 1 = 0) with
                | true =>
                  refine q_RT_cT ?_
                  refine q_RT_rsF (g2 := (92, [(2, .int ((s.1 15) 1)), (0, .ref 64), (1, .int a1)], [], (q_kM s c n))) rfl rfl (q_d_neT h39) ?_
                  refine q_RT_seg (g2 := (97, [(2, .int ((s.1 15) 1)), (0, .ref 64), (1, .int a1)], [.int 1], (q_kM s c n))) 2 (fun _ _ => rfl) ?_
                  exact q_RT_ret rfl rfl rfl
                | false =>
                  refine q_RT_cF ?_
                  refine q_RT_rsT (g2 := (96, [(2, .int ((s.1 15) 1)), (0, .ref 64), (1, .int a1)], [], (q_kM s c n))) rfl rfl (q_d_neF h39) ?_
                  refine q_RT_seg (g2 := (97, [(2, .int ((s.1 15) 1)), (0, .ref 64), (1, .int a1)], [.int 0], (q_kM s c n))) 1 (fun _ _ => rfl) ?_
                  exact q_RT_ret rfl rfl rfl
def dz_M253_64 (s : q_S) (a1 : Int32) : Option (q_S × Int32) :=
  (dz_M247_64 s (a1 + 1)).bind fun r2 => cond (decide (127 < r2.2)) (q_let (dz_M213 r2.1 ((a1 + 2) + (r2.2 - 256))) fun r3 => some (r2.1, r3)) (q_let (dz_M213 r2.1 ((a1 + 2) + r2.2)) fun r4 => some (r2.1, r4))
set_option maxHeartbeats 4000000 in
theorem dzt_M253_64 (s : q_S) (c n : Nat) (a1 : Int32) (x : q_S × Int32) (h : dz_M253_64 s a1 = some x) : q_Ca q_TB0 6 252 [.ref 64, .int a1] (q_kM s c n) ((q_oIM c n) x) := by
  refine q_CaP_of (φ := (q_oIM c n)) (Nat.le_of_ble_eq_true rfl) ?_ h
  clear h
  unfold dz_M253_64
  refine q_RP_seg (g2 := (4, [(0, .ref 64), (1, .int a1)], [.int (a1 + 1), .ref 64], (q_kM s c n))) 4 (fun _ _ => rfl) ?_
  refine q_RP_bd fun r2 er2 => ?_
  refine q_RP_call (v := (some (.int r2.2))) (h2 := (q_kM r2.1 c n)) rfl rfl ((dzt_M247_64 s c n (a1 + 1) r2 er2).le (Nat.le_of_ble_eq_true rfl)) ?_
  show q_RP _ _ _ (7, [(0, .ref 64), (1, .int a1)], [.int r2.2], (q_kM r2.1 c n)) _ _
  refine q_RP_seg (g2 := (14, [(2, .int r2.2), (0, .ref 64), (1, .int a1)], [.int 127, .int r2.2, .int (a1 + 2)], (q_kM r2.1 c n))) 6 (fun _ _ => rfl) ?_
  cases h1 : decide (127 < r2.2) with
  | true =>
    refine q_RP_cT ?_
    refine q_RP_rsF (g2 := (17, [(2, .int r2.2), (0, .ref 64), (1, .int a1)], [.int (a1 + 2)], (q_kM r2.1 c n))) rfl rfl (q_d_geT h1) ?_
    refine q_RP_seg (g2 := (27, [(2, .int r2.2), (0, .ref 64), (1, .int a1)], [.int ((a1 + 2) + (r2.2 - 256))], (q_kM r2.1 c n))) 5 (fun _ _ => rfl) ?_
    refine q_RP_call (v := (some (.int (dz_M213 r2.1 ((a1 + 2) + (r2.2 - 256)))))) (h2 := (q_kM r2.1 c n)) rfl rfl ((dzt_M213 r2.1 c n ((a1 + 2) + (r2.2 - 256))).le (Nat.le_of_ble_eq_true rfl)) ?_
    generalize dz_M213 r2.1 ((a1 + 2) + (r2.2 - 256)) = r3
    refine q_RP_let ?_
    show q_RP _ _ _ (30, [(2, .int r2.2), (0, .ref 64), (1, .int a1)], [.int r3], (q_kM r2.1 c n)) _ _
    exact q_RP_ret rfl rfl rfl
  | false =>
    refine q_RP_cF ?_
    refine q_RP_rsT (g2 := (25, [(2, .int r2.2), (0, .ref 64), (1, .int a1)], [.int (a1 + 2)], (q_kM r2.1 c n))) rfl rfl (q_d_geF h1) ?_
    refine q_RP_seg (g2 := (27, [(2, .int r2.2), (0, .ref 64), (1, .int a1)], [.int ((a1 + 2) + r2.2)], (q_kM r2.1 c n))) 2 (fun _ _ => rfl) ?_
    refine q_RP_call (v := (some (.int (dz_M213 r2.1 ((a1 + 2) + r2.2))))) (h2 := (q_kM r2.1 c n)) rfl rfl ((dzt_M213 r2.1 c n ((a1 + 2) + r2.2)).le (Nat.le_of_ble_eq_true rfl)) ?_
    generalize dz_M213 r2.1 ((a1 + 2) + r2.2) = r4
    refine q_RP_let ?_
    show q_RP _ _ _ (30, [(2, .int r2.2), (0, .ref 64), (1, .int a1)], [.int r4], (q_kM r2.1 c n)) _ _
    exact q_RP_ret rfl rfl rfl
def dz_M248_64 (s : q_S) (a1 : Int32) : Option (q_S × Int32) :=
  (dz_M247_64 s a1).bind fun r2 => (dz_M247_64 r2.1 (a1 + 1)).bind fun r3 => q_let (dz_M213 r3.1 (r2.2 + (256 * r3.2))) fun r4 => some (r3.1, r4)
set_option maxHeartbeats 4000000 in
theorem dzt_M248_64 (s : q_S) (c n : Nat) (a1 : Int32) (x : q_S × Int32) (h : dz_M248_64 s a1 = some x) : q_Ca q_TB0 6 247 [.ref 64, .int a1] (q_kM s c n) ((q_oIM c n) x) := by
  refine q_CaP_of (φ := (q_oIM c n)) (Nat.le_of_ble_eq_true rfl) ?_ h
  clear h
  unfold dz_M248_64
  refine q_RP_seg (g2 := (2, [(0, .ref 64), (1, .int a1)], [.int a1, .ref 64], (q_kM s c n))) 2 (fun _ _ => rfl) ?_
  refine q_RP_bd fun r2 er2 => ?_
  refine q_RP_call (v := (some (.int r2.2))) (h2 := (q_kM r2.1 c n)) rfl rfl ((dzt_M247_64 s c n a1 r2 er2).le (Nat.le_of_ble_eq_true rfl)) ?_
  show q_RP _ _ _ (5, [(0, .ref 64), (1, .int a1)], [.int r2.2], (q_kM r2.1 c n)) _ _
  refine q_RP_seg (g2 := (12, [(0, .ref 64), (1, .int a1)], [.int (a1 + 1), .ref 64, .int 256, .int r2.2], (q_kM r2.1 c n))) 5 (fun _ _ => rfl) ?_
  refine q_RP_bd fun r3 er3 => ?_
  refine q_RP_call (v := (some (.int r3.2))) (h2 := (q_kM r3.1 c n)) rfl rfl ((dzt_M247_64 r2.1 c n (a1 + 1) r3 er3).le (Nat.le_of_ble_eq_true rfl)) ?_
  show q_RP _ _ _ (15, [(0, .ref 64), (1, .int a1)], [.int r3.2, .int 256, .int r2.2], (q_kM r3.1 c n)) _ _
  refine q_RP_seg (g2 := (17, [(0, .ref 64), (1, .int a1)], [.int (r2.2 + (256 * r3.2))], (q_kM r3.1 c n))) 2 (fun _ _ => rfl) ?_
  refine q_RP_call (v := (some (.int (dz_M213 r3.1 (r2.2 + (256 * r3.2)))))) (h2 := (q_kM r3.1 c n)) rfl rfl ((dzt_M213 r3.1 c n (r2.2 + (256 * r3.2))).le (Nat.le_of_ble_eq_true rfl)) ?_
  generalize dz_M213 r3.1 (r2.2 + (256 * r3.2)) = r4
  refine q_RP_let ?_
  show q_RP _ _ _ (20, [(0, .ref 64), (1, .int a1)], [.int r4], (q_kM r3.1 c n)) _ _
  exact q_RP_ret rfl rfl rfl
def dz_M249_64 (s : q_S) (a1 : Int32) (a2 : Int32) : Option (q_S × Int32) :=
  cond (decide (a1 < 6)) ((dz_M248_64 s (a2 + 1)).bind fun r2 => some (r2.1, r2.2)) ((dz_M247_64 s (a2 + 1)).bind fun r3 => (dz_M247_64 r3.1 r3.2).bind fun r4 => (dz_M247_64 r4.1 ((r3.2 + 1) - (r3.2 + 1) / 256 * 256)).bind fun r5 => q_let (dz_M213 r5.1 (r4.2 + (256 * r5.2))) fun r6 => some (r5.1, r6))
set_option maxHeartbeats 4000000 in
theorem dzt_M249_64 (s : q_S) (c n : Nat) (a1 : Int32) (a2 : Int32) (x : q_S × Int32) (h : dz_M249_64 s a1 a2 = some x) : q_Ca q_TB0 7 248 [.ref 64, .int a1, .int a2] (q_kM s c n) ((q_oIM c n) x) := by
  refine q_CaP_of (φ := (q_oIM c n)) (Nat.le_of_ble_eq_true rfl) ?_ h
  clear h
  unfold dz_M249_64
  refine q_RP_seg (g2 := (3, [(0, .ref 64), (1, .int a1), (2, .int a2)], [.int 6, .int a1], (q_kM s c n))) 2 (fun _ _ => rfl) ?_
  cases h2 : decide (a1 < 6) with
  | true =>
    refine q_RP_cT ?_
    refine q_RP_rsF (g2 := (6, [(0, .ref 64), (1, .int a1), (2, .int a2)], [], (q_kM s c n))) rfl rfl (q_d_geT h2) ?_
    refine q_RP_seg (g2 := (10, [(0, .ref 64), (1, .int a1), (2, .int a2)], [.int (a2 + 1), .ref 64], (q_kM s c n))) 4 (fun _ _ => rfl) ?_
    refine q_RP_bd fun r2 er2 => ?_
    refine q_RP_call (v := (some (.int r2.2))) (h2 := (q_kM r2.1 c n)) rfl rfl ((dzt_M248_64 s c n (a2 + 1) r2 er2).le (Nat.le_of_ble_eq_true rfl)) ?_
    show q_RP _ _ _ (13, [(0, .ref 64), (1, .int a1), (2, .int a2)], [.int r2.2], (q_kM r2.1 c n)) _ _
    exact q_RP_ret rfl rfl rfl
  | false =>
    refine q_RP_cF ?_
    refine q_RP_rsT (g2 := (14, [(0, .ref 64), (1, .int a1), (2, .int a2)], [], (q_kM s c n))) rfl rfl (q_d_geF h2) ?_
    refine q_RP_seg (g2 := (18, [(0, .ref 64), (1, .int a1), (2, .int a2)], [.int (a2 + 1), .ref 64], (q_kM s c n))) 4 (fun _ _ => rfl) ?_
    refine q_RP_bd fun r3 er3 => ?_
    refine q_RP_call (v := (some (.int r3.2))) (h2 := (q_kM r3.1 c n)) rfl rfl ((dzt_M247_64 s c n (a2 + 1) r3 er3).le (Nat.le_of_ble_eq_true rfl)) ?_
    show q_RP _ _ _ (21, [(0, .ref 64), (1, .int a1), (2, .int a2)], [.int r3.2], (q_kM r3.1 c n)) _ _
    refine q_RP_seg (g2 := (24, [(3, .int r3.2), (0, .ref 64), (1, .int a1), (2, .int a2)], [.int r3.2, .ref 64], (q_kM r3.1 c n))) 3 (fun _ _ => rfl) ?_
    refine q_RP_bd fun r4 er4 => ?_
    refine q_RP_call (v := (some (.int r4.2))) (h2 := (q_kM r4.1 c n)) rfl rfl ((dzt_M247_64 r3.1 c n r3.2 r4 er4).le (Nat.le_of_ble_eq_true rfl)) ?_
    show q_RP _ _ _ (27, [(3, .int r3.2), (0, .ref 64), (1, .int a1), (2, .int a2)], [.int r4.2], (q_kM r4.1 c n)) _ _
    refine q_RP_seg (g2 := (38, [(3, .int r3.2), (0, .ref 64), (1, .int a1), (2, .int a2)], [.int ((r3.2 + 1) - (r3.2 + 1) / 256 * 256), .ref 64, .int 256, .int r4.2], (q_kM r4.1 c n))) 7 (fun _ _ => rfl) ?_
    refine q_RP_bd fun r5 er5 => ?_
    refine q_RP_call (v := (some (.int r5.2))) (h2 := (q_kM r5.1 c n)) rfl rfl ((dzt_M247_64 r4.1 c n ((r3.2 + 1) - (r3.2 + 1) / 256 * 256) r5 er5).le (Nat.le_of_ble_eq_true rfl)) ?_
    show q_RP _ _ _ (41, [(3, .int r3.2), (0, .ref 64), (1, .int a1), (2, .int a2)], [.int r5.2, .int 256, .int r4.2], (q_kM r5.1 c n)) _ _
    refine q_RP_seg (g2 := (43, [(3, .int r3.2), (0, .ref 64), (1, .int a1), (2, .int a2)], [.int (r4.2 + (256 * r5.2))], (q_kM r5.1 c n))) 2 (fun _ _ => rfl) ?_
    refine q_RP_call (v := (some (.int (dz_M213 r5.1 (r4.2 + (256 * r5.2)))))) (h2 := (q_kM r5.1 c n)) rfl rfl ((dzt_M213 r5.1 c n (r4.2 + (256 * r5.2))).le (Nat.le_of_ble_eq_true rfl)) ?_
    generalize dz_M213 r5.1 (r4.2 + (256 * r5.2)) = r6
    refine q_RP_let ?_
    show q_RP _ _ _ (46, [(3, .int r3.2), (0, .ref 64), (1, .int a1), (2, .int a2)], [.int r6], (q_kM r5.1 c n)) _ _
    exact q_RP_ret rfl rfl rfl
def dz_M250_64 (s : q_S) (a1 : Int32) (a2 : Int32) : Option (q_S × Int32) :=
  cond (decide (a1 = 1)) ((dz_M247_64 s (a2 + 1)).bind fun r2 => some (r2.1, r2.2)) (cond (decide (a1 = 2)) ((dz_M247_64 s (a2 + 1)).bind fun r3 => some (r3.1, ((r3.2 + ((r3.1.1 14) 1)) - (r3.2 + ((r3.1.1 14) 1)) / 256 * 256))) (cond (decide (a1 = 3)) ((dz_M248_64 s (a2 + 1)).bind fun r4 => some (r4.1, r4.2)) (cond (decide (a1 = 4)) ((dz_M249_64 s a1 a2).bind fun r5 => q_let (dz_M213 r5.1 (r5.2 + ((r5.1.1 14) 1))) fun r6 => some (r5.1, r6)) (cond (decide (a1 < 7)) ((dz_M249_64 s a1 a2).bind fun r7 => q_let (dz_M213 r7.1 (r7.2 + ((r7.1.1 14) 2))) fun r8 => some (r7.1, r8)) ((dz_M247_64 s (a2 + 1)).bind fun r9 => q_let ((r9.2 + ((r9.1.1 14) 1)) - (r9.2 + ((r9.1.1 14) 1)) / 256 * 256) fun x10 => (dz_M247_64 r9.1 x10).bind fun r11 => (dz_M247_64 r11.1 ((x10 + 1) - (x10 + 1) / 256 * 256)).bind fun r12 => q_let (dz_M213 r12.1 (r11.2 + (256 * r12.2))) fun r13 => some (r12.1, r13))))))
set_option maxHeartbeats 4000000 in
theorem dzt_M250_64 (s : q_S) (c n : Nat) (a1 : Int32) (a2 : Int32) (x : q_S × Int32) (h : dz_M250_64 s a1 a2 = some x) : q_Ca q_TB0 8 249 [.ref 64, .int a1, .int a2] (q_kM s c n) ((q_oIM c n) x) := by
  refine q_CaP_of (φ := (q_oIM c n)) (Nat.le_of_ble_eq_true rfl) ?_ h
  clear h
  unfold dz_M250_64
  refine q_RP_seg (g2 := (2, [(0, .ref 64), (1, .int a1), (2, .int a2)], [.int 1, .int a1], (q_kM s c n))) 2 (fun _ _ => rfl) ?_
  cases h2 : decide (a1 = 1) with
  | true =>
    refine q_RP_cT ?_
    refine q_RP_rsF (g2 := (5, [(0, .ref 64), (1, .int a1), (2, .int a2)], [], (q_kM s c n))) rfl rfl (q_d_neT h2) ?_
    refine q_RP_seg (g2 := (9, [(0, .ref 64), (1, .int a1), (2, .int a2)], [.int (a2 + 1), .ref 64], (q_kM s c n))) 4 (fun _ _ => rfl) ?_
    refine q_RP_bd fun r2 er2 => ?_
    refine q_RP_call (v := (some (.int r2.2))) (h2 := (q_kM r2.1 c n)) rfl rfl ((dzt_M247_64 s c n (a2 + 1) r2 er2).le (Nat.le_of_ble_eq_true rfl)) ?_
    show q_RP _ _ _ (12, [(0, .ref 64), (1, .int a1), (2, .int a2)], [.int r2.2], (q_kM r2.1 c n)) _ _
    exact q_RP_ret rfl rfl rfl
  | false =>
    refine q_RP_cF ?_
    refine q_RP_rsT (g2 := (13, [(0, .ref 64), (1, .int a1), (2, .int a2)], [], (q_kM s c n))) rfl rfl (q_d_neF h2) ?_
    refine q_RP_seg (g2 := (15, [(0, .ref 64), (1, .int a1), (2, .int a2)], [.int 2, .int a1], (q_kM s c n))) 2 (fun _ _ => rfl) ?_
    cases h3 : decide (a1 = 2) with
    | true =>
      refine q_RP_cT ?_
      refine q_RP_rsF (g2 := (18, [(0, .ref 64), (1, .int a1), (2, .int a2)], [], (q_kM s c n))) rfl rfl (q_d_neT h3) ?_
      refine q_RP_seg (g2 := (22, [(0, .ref 64), (1, .int a1), (2, .int a2)], [.int (a2 + 1), .ref 64], (q_kM s c n))) 4 (fun _ _ => rfl) ?_
      refine q_RP_bd fun r3 er3 => ?_
      refine q_RP_call (v := (some (.int r3.2))) (h2 := (q_kM r3.1 c n)) rfl rfl ((dzt_M247_64 s c n (a2 + 1) r3 er3).le (Nat.le_of_ble_eq_true rfl)) ?_
      show q_RP _ _ _ (25, [(0, .ref 64), (1, .int a1), (2, .int a2)], [.int r3.2], (q_kM r3.1 c n)) _ _
      refine q_RP_seg (g2 := (31, [(0, .ref 64), (1, .int a1), (2, .int a2)], [.int ((r3.1.1 14) 1), .int r3.2], (q_kM r3.1 c n))) 4 (fun _ _ => rfl) ?_
      refine q_RP_seg (g2 := (36, [(0, .ref 64), (1, .int a1), (2, .int a2)], [.int ((r3.2 + ((r3.1.1 14) 1)) - (r3.2 + ((r3.1.1 14) 1)) / 256 * 256)], (q_kM r3.1 c n))) 3 (fun _ _ => rfl) ?_
      exact q_RP_ret rfl rfl rfl
    | false =>
      refine q_RP_cF ?_
      refine q_RP_rsT (g2 := (37, [(0, .ref 64), (1, .int a1), (2, .int a2)], [], (q_kM s c n))) rfl rfl (q_d_neF h3) ?_
      refine q_RP_seg (g2 := (39, [(0, .ref 64), (1, .int a1), (2, .int a2)], [.int 3, .int a1], (q_kM s c n))) 2 (fun _ _ => rfl) ?_
      cases h4 : decide (a1 = 3) with
      | true =>
        refine q_RP_cT ?_
        refine q_RP_rsF (g2 := (42, [(0, .ref 64), (1, .int a1), (2, .int a2)], [], (q_kM s c n))) rfl rfl (q_d_neT h4) ?_
        refine q_RP_seg (g2 := (46, [(0, .ref 64), (1, .int a1), (2, .int a2)], [.int (a2 + 1), .ref 64], (q_kM s c n))) 4 (fun _ _ => rfl) ?_
        refine q_RP_bd fun r4 er4 => ?_
        refine q_RP_call (v := (some (.int r4.2))) (h2 := (q_kM r4.1 c n)) rfl rfl ((dzt_M248_64 s c n (a2 + 1) r4 er4).le (Nat.le_of_ble_eq_true rfl)) ?_
        show q_RP _ _ _ (49, [(0, .ref 64), (1, .int a1), (2, .int a2)], [.int r4.2], (q_kM r4.1 c n)) _ _
        exact q_RP_ret rfl rfl rfl
      | false =>
        refine q_RP_cF ?_
        refine q_RP_rsT (g2 := (50, [(0, .ref 64), (1, .int a1), (2, .int a2)], [], (q_kM s c n))) rfl rfl (q_d_neF h4) ?_
        refine q_RP_seg (g2 := (52, [(0, .ref 64), (1, .int a1), (2, .int a2)], [.int 4, .int a1], (q_kM s c n))) 2 (fun _ _ => rfl) ?_
        cases h5 : decide (a1 = 4) with
        | true =>
          refine q_RP_cT ?_
          refine q_RP_rsF (g2 := (55, [(0, .ref 64), (1, .int a1), (2, .int a2)], [], (q_kM s c n))) rfl rfl (q_d_neT h5) ?_
          refine q_RP_seg (g2 := (58, [(0, .ref 64), (1, .int a1), (2, .int a2)], [.int a2, .int a1, .ref 64], (q_kM s c n))) 3 (fun _ _ => rfl) ?_
          refine q_RP_bd fun r5 er5 => ?_
          refine q_RP_call (v := (some (.int r5.2))) (h2 := (q_kM r5.1 c n)) rfl rfl ((dzt_M249_64 s c n a1 a2 r5 er5).le (Nat.le_of_ble_eq_true rfl)) ?_
          show q_RP _ _ _ (61, [(0, .ref 64), (1, .int a1), (2, .int a2)], [.int r5.2], (q_kM r5.1 c n)) _ _
          refine q_RP_seg (g2 := (67, [(0, .ref 64), (1, .int a1), (2, .int a2)], [.int ((r5.1.1 14) 1), .int r5.2], (q_kM r5.1 c n))) 4 (fun _ _ => rfl) ?_
          refine q_RP_seg (g2 := (68, [(0, .ref 64), (1, .int a1), (2, .int a2)], [.int (r5.2 + ((r5.1.1 14) 1))], (q_kM r5.1 c n))) 1 (fun _ _ => rfl) ?_
          refine q_RP_call (v := (some (.int (dz_M213 r5.1 (r5.2 + ((r5.1.1 14) 1)))))) (h2 := (q_kM r5.1 c n)) rfl rfl ((dzt_M213 r5.1 c n (r5.2 + ((r5.1.1 14) 1))).le (Nat.le_of_ble_eq_true rfl)) ?_
          generalize dz_M213 r5.1 (r5.2 + ((r5.1.1 14) 1)) = r6
          refine q_RP_let ?_
          show q_RP _ _ _ (71, [(0, .ref 64), (1, .int a1), (2, .int a2)], [.int r6], (q_kM r5.1 c n)) _ _
          exact q_RP_ret rfl rfl rfl
        | false =>
          refine q_RP_cF ?_
          refine q_RP_rsT (g2 := (72, [(0, .ref 64), (1, .int a1), (2, .int a2)], [], (q_kM s c n))) rfl rfl (q_d_neF h5) ?_
          refine q_RP_seg (g2 := (75, [(0, .ref 64), (1, .int a1), (2, .int a2)], [.int 7, .int a1], (q_kM s c n))) 2 (fun _ _ => rfl) ?_
          cases h6 : decide (a1 < 7) with
          | true =>
            refine q_RP_cT ?_
            refine q_RP_rsF (g2 := (78, [(0, .ref 64), (1, .int a1), (2, .int a2)], [], (q_kM s c n))) rfl rfl (q_d_geT h6) ?_
            refine q_RP_seg (g2 := (81, [(0, .ref 64), (1, .int a1), (2, .int a2)], [.int a2, .int a1, .ref 64], (q_kM s c n))) 3 (fun _ _ => rfl) ?_
            refine q_RP_bd fun r7 er7 => ?_
            refine q_RP_call (v := (some (.int r7.2))) (h2 := (q_kM r7.1 c n)) rfl rfl ((dzt_M249_64 s c n a1 a2 r7 er7).le (Nat.le_of_ble_eq_true rfl)) ?_
            show q_RP _ _ _ (84, [(0, .ref 64), (1, .int a1), (2, .int a2)], [.int r7.2], (q_kM r7.1 c n)) _ _
            refine q_RP_seg (g2 := (90, [(0, .ref 64), (1, .int a1), (2, .int a2)], [.int ((r7.1.1 14) 2), .int r7.2], (q_kM r7.1 c n))) 4 (fun _ _ => rfl) ?_
            refine q_RP_seg (g2 := (91, [(0, .ref 64), (1, .int a1), (2, .int a2)], [.int (r7.2 + ((r7.1.1 14) 2))], (q_kM r7.1 c n))) 1 (fun _ _ => rfl) ?_
            refine q_RP_call (v := (some (.int (dz_M213 r7.1 (r7.2 + ((r7.1.1 14) 2)))))) (h2 := (q_kM r7.1 c n)) rfl rfl ((dzt_M213 r7.1 c n (r7.2 + ((r7.1.1 14) 2))).le (Nat.le_of_ble_eq_true rfl)) ?_
            generalize dz_M213 r7.1 (r7.2 + ((r7.1.1 14) 2)) = r8
            refine q_RP_let ?_
            show q_RP _ _ _ (94, [(0, .ref 64), (1, .int a1), (2, .int a2)], [.int r8], (q_kM r7.1 c n)) _ _
            exact q_RP_ret rfl rfl rfl
          | false =>
            refine q_RP_cF ?_
            refine q_RP_rsT (g2 := (95, [(0, .ref 64), (1, .int a1), (2, .int a2)], [], (q_kM s c n))) rfl rfl (q_d_geF h6) ?_
            refine q_RP_seg (g2 := (99, [(0, .ref 64), (1, .int a1), (2, .int a2)], [.int (a2 + 1), .ref 64], (q_kM s c n))) 4 (fun _ _ => rfl) ?_
            refine q_RP_bd fun r9 er9 => ?_
            refine q_RP_call (v := (some (.int r9.2))) (h2 := (q_kM r9.1 c n)) rfl rfl ((dzt_M247_64 s c n (a2 + 1) r9 er9).le (Nat.le_of_ble_eq_true rfl)) ?_
            show q_RP _ _ _ (102, [(0, .ref 64), (1, .int a1), (2, .int a2)], [.int r9.2], (q_kM r9.1 c n)) _ _
            refine q_RP_seg (g2 := (108, [(0, .ref 64), (1, .int a1), (2, .int a2)], [.int ((r9.1.1 14) 1), .int r9.2], (q_kM r9.1 c n))) 4 (fun _ _ => rfl) ?_
            refine q_RP_seg (g2 := (113, [(0, .ref 64), (1, .int a1), (2, .int a2)], [.int ((r9.2 + ((r9.1.1 14) 1)) - (r9.2 + ((r9.1.1 14) 1)) / 256 * 256)], (q_kM r9.1 c n))) 3 (fun _ _ => rfl) ?_
            generalize ((r9.2 + ((r9.1.1 14) 1)) - (r9.2 + ((r9.1.1 14) 1)) / 256 * 256) = x10
            refine q_RP_let ?_
            show q_RP _ _ _ (113, [(0, .ref 64), (1, .int a1), (2, .int a2)], [.int x10], (q_kM r9.1 c n)) _ _
            refine q_RP_seg (g2 := (116, [(3, .int x10), (0, .ref 64), (1, .int a1), (2, .int a2)], [.int x10, .ref 64], (q_kM r9.1 c n))) 3 (fun _ _ => rfl) ?_
            refine q_RP_bd fun r11 er11 => ?_
            refine q_RP_call (v := (some (.int r11.2))) (h2 := (q_kM r11.1 c n)) rfl rfl ((dzt_M247_64 r9.1 c n x10 r11 er11).le (Nat.le_of_ble_eq_true rfl)) ?_
            show q_RP _ _ _ (119, [(3, .int x10), (0, .ref 64), (1, .int a1), (2, .int a2)], [.int r11.2], (q_kM r11.1 c n)) _ _
            refine q_RP_seg (g2 := (130, [(3, .int x10), (0, .ref 64), (1, .int a1), (2, .int a2)], [.int ((x10 + 1) - (x10 + 1) / 256 * 256), .ref 64, .int 256, .int r11.2], (q_kM r11.1 c n))) 7 (fun _ _ => rfl) ?_
            refine q_RP_bd fun r12 er12 => ?_
            refine q_RP_call (v := (some (.int r12.2))) (h2 := (q_kM r12.1 c n)) rfl rfl ((dzt_M247_64 r11.1 c n ((x10 + 1) - (x10 + 1) / 256 * 256) r12 er12).le (Nat.le_of_ble_eq_true rfl)) ?_
            show q_RP _ _ _ (133, [(3, .int x10), (0, .ref 64), (1, .int a1), (2, .int a2)], [.int r12.2, .int 256, .int r11.2], (q_kM r12.1 c n)) _ _
            refine q_RP_seg (g2 := (135, [(3, .int x10), (0, .ref 64), (1, .int a1), (2, .int a2)], [.int (r11.2 + (256 * r12.2))], (q_kM r12.1 c n))) 2 (fun _ _ => rfl) ?_
            refine q_RP_call (v := (some (.int (dz_M213 r12.1 (r11.2 + (256 * r12.2)))))) (h2 := (q_kM r12.1 c n)) rfl rfl ((dzt_M213 r12.1 c n (r11.2 + (256 * r12.2))).le (Nat.le_of_ble_eq_true rfl)) ?_
            generalize dz_M213 r12.1 (r11.2 + (256 * r12.2)) = r13
            refine q_RP_let ?_
            show q_RP _ _ _ (138, [(3, .int x10), (0, .ref 64), (1, .int a1), (2, .int a2)], [.int r13], (q_kM r12.1 c n)) _ _
            exact q_RP_ret rfl rfl rfl
def dz_M245 (s : q_S) (a0 : Int32) : Bool :=
  q_let (dz_M202 s a0 3 5) fun r1 => cond r1 (true) (q_let (dz_M202 s a0 14 15) fun r2 => cond r2 (true) (q_let (dz_M202 s a0 17 19) fun r3 => cond r3 (true) (false)))
set_option maxHeartbeats 4000000 in
theorem dzt_M245 (s : q_S) (c n : Nat) (a0 : Int32) : q_Ca q_TB0 2 244 [.int a0] (q_kM s c n) ((q_oB (q_kM s c n)) (dz_M245 s a0)) := by
  refine q_CaT_of (φ := (q_oB (q_kM s c n))) (Nat.le_of_ble_eq_true rfl) ?_
  unfold dz_M245
  refine q_RT_seg (g2 := (3, [(0, .int a0)], [.int 5, .int 3, .int a0], (q_kM s c n))) 3 (fun _ _ => rfl) ?_
  refine q_RT_call (v := (some (.int (q_b (dz_M202 s a0 3 5))))) (h2 := (q_kM s c n)) rfl rfl ((dzt_M202 s c n a0 3 5).le (Nat.le_of_ble_eq_true rfl)) ?_
  generalize dz_M202 s a0 3 5 = r1
  refine q_RT_let ?_
  show q_RT _ _ _ (6, [(0, .int a0)], [.int (q_b r1)], (q_kM s c n)) _ _
  cases h1 : r1 with
  | true =>
    refine q_RT_cT ?_
    show q_RT _ _ _ (6, [(0, .int a0)], [.int 1], (q_kM s c n)) _ _
    refine q_RT_seg (g2 := (36, [(0, .int a0)], [.int 1], (q_kM s c n))) 3 (fun _ _ => rfl) ?_
    exact q_RT_ret rfl rfl rfl
  | false =>
    refine q_RT_cF ?_
    show q_RT _ _ _ (6, [(0, .int a0)], [.int 0], (q_kM s c n)) _ _
    refine q_RT_seg (g2 := (14, [(0, .int a0)], [.int 15, .int 14, .int a0], (q_kM s c n))) 4 (fun _ _ => rfl) ?_
    refine q_RT_call (v := (some (.int (q_b (dz_M202 s a0 14 15))))) (h2 := (q_kM s c n)) rfl rfl ((dzt_M202 s c n a0 14 15).le (Nat.le_of_ble_eq_true rfl)) ?_
    generalize dz_M202 s a0 14 15 = r2
    refine q_RT_let ?_
    show q_RT _ _ _ (17, [(0, .int a0)], [.int (q_b r2)], (q_kM s c n)) _ _
    cases h2 : r2 with
    | true =>
      refine q_RT_cT ?_
      show q_RT _ _ _ (17, [(0, .int a0)], [.int 1], (q_kM s c n)) _ _
      refine q_RT_seg (g2 := (36, [(0, .int a0)], [.int 1], (q_kM s c n))) 3 (fun _ _ => rfl) ?_
      exact q_RT_ret rfl rfl rfl
    | false =>
      refine q_RT_cF ?_
      show q_RT _ _ _ (17, [(0, .int a0)], [.int 0], (q_kM s c n)) _ _
      refine q_RT_seg (g2 := (25, [(0, .int a0)], [.int 19, .int 17, .int a0], (q_kM s c n))) 4 (fun _ _ => rfl) ?_
      refine q_RT_call (v := (some (.int (q_b (dz_M202 s a0 17 19))))) (h2 := (q_kM s c n)) rfl rfl ((dzt_M202 s c n a0 17 19).le (Nat.le_of_ble_eq_true rfl)) ?_
      generalize dz_M202 s a0 17 19 = r3
      refine q_RT_let ?_
      show q_RT _ _ _ (28, [(0, .int a0)], [.int (q_b r3)], (q_kM s c n)) _ _
      cases h3 : r3 with
      | true =>
        refine q_RT_cT ?_
        show q_RT _ _ _ (28, [(0, .int a0)], [.int 1], (q_kM s c n)) _ _
        refine q_RT_seg (g2 := (36, [(0, .int a0)], [.int 1], (q_kM s c n))) 3 (fun _ _ => rfl) ?_
        exact q_RT_ret rfl rfl rfl
      | false =>
        refine q_RT_cF ?_
        show q_RT _ _ _ (28, [(0, .int a0)], [.int 0], (q_kM s c n)) _ _
        refine q_RT_seg (g2 := (36, [(0, .int a0)], [.int 0], (q_kM s c n))) 2 (fun _ _ => rfl) ?_
        exact q_RT_ret rfl rfl rfl
def dz_M251_64_28 (s : q_S) (v1 : Int32) (v2 : Int32) (v3 : Int32) : Option (q_S × Int32) :=
  cond (decide (v2 = 1)) (q_let (dz_M202 s v2 4 6) fun r5 => cond r5 ((dz_M249_64 s v2 v3).bind fun r6 => (dz_M250_64 r6.1 v2 v3).bind fun r7 => cond (decide (r6.2 / 256 = r7.2 / 256)) (q_let (dz_M245 r7.1 v1) fun r8 => cond r8 (some (r7.1, 6)) (some (r7.1, 5))) (some (r7.1, 6))) (some (s, 5))) (cond (decide (v2 < 6)) (q_let (dz_M202 s v2 4 6) fun r9 => cond r9 ((dz_M249_64 s v2 v3).bind fun r10 => (dz_M250_64 r10.1 v2 v3).bind fun r11 => cond (decide (r10.2 / 256 = r11.2 / 256)) (q_let (dz_M245 r11.1 v1) fun r12 => cond r12 (some (r11.1, 7)) (some (r11.1, 6))) (some (r11.1, 7))) (some (s, 6))) (q_let (dz_M202 s v2 4 6) fun r13 => cond r13 ((dz_M249_64 s v2 v3).bind fun r14 => (dz_M250_64 r14.1 v2 v3).bind fun r15 => cond (decide (r14.2 / 256 = r15.2 / 256)) (q_let (dz_M245 r15.1 v1) fun r16 => cond r16 (some (r15.1, (((v2 - 1) + 2) + 1))) (some (r15.1, (((v2 - 1) + 2) + 0)))) (some (r15.1, (((v2 - 1) + 2) + 1)))) (some (s, ((v2 - 1) + 2)))))
set_option maxHeartbeats 4000000 in
theorem dzt_M251_64_28 (c n : Nat) (s : q_S) (v1 : Int32) (v2 : Int32) (v3 : Int32) : q_RP q_TB0 8 250 (28, [(0, .ref 64), (1, .int v1), (2, .int v2), (3, .int v3)], [], (q_kM s c n)) (q_oIM c n) (dz_M251_64_28 s v1 v2 v3) := by
  unfold dz_M251_64_28
  refine q_RP_seg (g2 := (37, [(4, .int 2), (0, .ref 64), (1, .int v1), (2, .int v2), (3, .int v3)], [.int 1, .int v2], (q_kM s c n))) 5 (fun _ _ => rfl) ?_
  cases h7 : decide (v2 = 1) with
  | true =>
    refine q_RP_cT ?_
    refine q_RP_rsF (g2 := (40, [(4, .int 2), (0, .ref 64), (1, .int v1), (2, .int v2), (3, .int v3)], [], (q_kM s c n))) rfl rfl (q_d_neT h7) ?_
    refine q_RP_seg (g2 := (63, [(5, .int 3), (4, .int 2), (0, .ref 64), (1, .int v1), (2, .int v2), (3, .int v3)], [.int 6, .int 4, .int v2], (q_kM s c n))) 6 (fun _ _ => rfl) ?_
    refine q_RP_call (v := (some (.int (q_b (dz_M202 s v2 4 6))))) (h2 := (q_kM s c n)) rfl rfl ((dzt_M202 s c n v2 4 6).le (Nat.le_of_ble_eq_true rfl)) ?_
    generalize dz_M202 s v2 4 6 = r5
    refine q_RP_let ?_
    show q_RP _ _ _ (66, [(5, .int 3), (4, .int 2), (0, .ref 64), (1, .int v1), (2, .int v2), (3, .int v3)], [.int (q_b r5)], (q_kM s c n)) _ _
    cases h8 : r5 with
    | true =>
      refine q_RP_cT ?_
      show q_RP _ _ _ (66, [(5, .int 3), (4, .int 2), (0, .ref 64), (1, .int v1), (2, .int v2), (3, .int v3)], [.int 1], (q_kM s c n)) _ _
      refine q_RP_seg (g2 := (78, [(5, .int 3), (4, .int 2), (0, .ref 64), (1, .int v1), (2, .int v2), (3, .int v3)], [.int v3, .int v2, .ref 64], (q_kM s c n))) 4 (fun _ _ => rfl) ?_
      refine q_RP_bd fun r6 er6 => ?_
      refine q_RP_call (v := (some (.int r6.2))) (h2 := (q_kM r6.1 c n)) rfl rfl ((dzt_M249_64 s c n v2 v3 r6 er6).le (Nat.le_of_ble_eq_true rfl)) ?_
      show q_RP _ _ _ (81, [(5, .int 3), (4, .int 2), (0, .ref 64), (1, .int v1), (2, .int v2), (3, .int v3)], [.int r6.2], (q_kM r6.1 c n)) _ _
      refine q_RP_seg (g2 := (88, [(5, .int 3), (4, .int 2), (0, .ref 64), (1, .int v1), (2, .int v2), (3, .int v3)], [.int v3, .int v2, .ref 64, .int (r6.2 / 256)], (q_kM r6.1 c n))) 5 (fun _ _ => rfl) ?_
      refine q_RP_bd fun r7 er7 => ?_
      refine q_RP_call (v := (some (.int r7.2))) (h2 := (q_kM r7.1 c n)) rfl rfl ((dzt_M250_64 r6.1 c n v2 v3 r7 er7).le (Nat.le_of_ble_eq_true rfl)) ?_
      show q_RP _ _ _ (91, [(5, .int 3), (4, .int 2), (0, .ref 64), (1, .int v1), (2, .int v2), (3, .int v3)], [.int r7.2, .int (r6.2 / 256)], (q_kM r7.1 c n)) _ _
      refine q_RP_seg (g2 := (95, [(5, .int 3), (4, .int 2), (0, .ref 64), (1, .int v1), (2, .int v2), (3, .int v3)], [.int (r7.2 / 256), .int (r6.2 / 256)], (q_kM r7.1 c n))) 2 (fun _ _ => rfl) ?_
      cases h9 : decide (r6.2 / 256 = r7.2 / 256) with
      | true =>
        refine q_RP_cT ?_
        refine q_RP_rsT (g2 := (102, [(5, .int 3), (4, .int 2), (0, .ref 64), (1, .int v1), (2, .int v2), (3, .int v3)], [], (q_kM r7.1 c n))) rfl rfl h9 ?_
        refine q_RP_seg (g2 := (116, [(6, .int 0), (5, .int 3), (4, .int 2), (0, .ref 64), (1, .int v1), (2, .int v2), (3, .int v3)], [.int v1, .int 5], (q_kM r7.1 c n))) 8 (fun _ _ => rfl) ?_
        refine q_RP_call (v := (some (.int (q_b (dz_M245 r7.1 v1))))) (h2 := (q_kM r7.1 c n)) rfl rfl ((dzt_M245 r7.1 c n v1).le (Nat.le_of_ble_eq_true rfl)) ?_
        generalize dz_M245 r7.1 v1 = r8
        refine q_RP_let ?_
        show q_RP _ _ _ (119, [(6, .int 0), (5, .int 3), (4, .int 2), (0, .ref 64), (1, .int v1), (2, .int v2), (3, .int v3)], [.int (q_b r8), .int 5], (q_kM r7.1 c n)) _ _
        cases h10 : r8 with
        | true =>
          refine q_RP_cT ?_
          show q_RP _ _ _ (119, [(6, .int 0), (5, .int 3), (4, .int 2), (0, .ref 64), (1, .int v1), (2, .int v2), (3, .int v3)], [.int 1, .int 5], (q_kM r7.1 c n)) _ _
          refine q_RP_seg (g2 := (128, [(6, .int 0), (5, .int 3), (4, .int 2), (0, .ref 64), (1, .int v1), (2, .int v2), (3, .int v3)], [.int 6], (q_kM r7.1 c n))) 4 (fun _ _ => rfl) ?_
          exact q_RP_ret rfl rfl rfl
        | false =>
          refine q_RP_cF ?_
          show q_RP _ _ _ (119, [(6, .int 0), (5, .int 3), (4, .int 2), (0, .ref 64), (1, .int v1), (2, .int v2), (3, .int v3)], [.int 0, .int 5], (q_kM r7.1 c n)) _ _
          refine q_RP_seg (g2 := (128, [(6, .int 0), (5, .int 3), (4, .int 2), (0, .ref 64), (1, .int v1), (2, .int v2), (3, .int v3)], [.int 5], (q_kM r7.1 c n))) 3 (fun _ _ => rfl) ?_
          exact q_RP_ret rfl rfl rfl
      | false =>
        refine q_RP_cF ?_
        refine q_RP_rsF (g2 := (98, [(5, .int 3), (4, .int 2), (0, .ref 64), (1, .int v1), (2, .int v2), (3, .int v3)], [], (q_kM r7.1 c n))) rfl rfl h9 ?_
        refine q_RP_seg (g2 := (128, [(6, .int 1), (5, .int 3), (4, .int 2), (0, .ref 64), (1, .int v1), (2, .int v2), (3, .int v3)], [.int 6], (q_kM r7.1 c n))) 11 (fun _ _ => rfl) ?_
        exact q_RP_ret rfl rfl rfl
    | false =>
      refine q_RP_cF ?_
      show q_RP _ _ _ (66, [(5, .int 3), (4, .int 2), (0, .ref 64), (1, .int v1), (2, .int v2), (3, .int v3)], [.int 0], (q_kM s c n)) _ _
      refine q_RP_seg (g2 := (74, [(5, .int 3), (4, .int 2), (0, .ref 64), (1, .int v1), (2, .int v2), (3, .int v3)], [.int 5], (q_kM s c n))) 4 (fun _ _ => rfl) ?_
      exact q_RP_ret rfl rfl rfl
  | false =>
    refine q_RP_cF ?_
    refine q_RP_rsT (g2 := (44, [(4, .int 2), (0, .ref 64), (1, .int v1), (2, .int v2), (3, .int v3)], [], (q_kM s c n))) rfl rfl (q_d_neF h7) ?_
    refine q_RP_seg (g2 := (47, [(4, .int 2), (0, .ref 64), (1, .int v1), (2, .int v2), (3, .int v3)], [.int 6, .int v2], (q_kM s c n))) 2 (fun _ _ => rfl) ?_
    cases h11 : decide (v2 < 6) with
    | true =>
      refine q_RP_cT ?_
      refine q_RP_rsF (g2 := (50, [(4, .int 2), (0, .ref 64), (1, .int v1), (2, .int v2), (3, .int v3)], [], (q_kM s c n))) rfl rfl (q_d_geT h11) ?_
      refine q_RP_seg (g2 := (63, [(5, .int 4), (4, .int 2), (0, .ref 64), (1, .int v1), (2, .int v2), (3, .int v3)], [.int 6, .int 4, .int v2], (q_kM s c n))) 6 (fun _ _ => rfl) ?_
      refine q_RP_call (v := (some (.int (q_b (dz_M202 s v2 4 6))))) (h2 := (q_kM s c n)) rfl rfl ((dzt_M202 s c n v2 4 6).le (Nat.le_of_ble_eq_true rfl)) ?_
      generalize dz_M202 s v2 4 6 = r9
      refine q_RP_let ?_
      show q_RP _ _ _ (66, [(5, .int 4), (4, .int 2), (0, .ref 64), (1, .int v1), (2, .int v2), (3, .int v3)], [.int (q_b r9)], (q_kM s c n)) _ _
      cases h12 : r9 with
      | true =>
        refine q_RP_cT ?_
        show q_RP _ _ _ (66, [(5, .int 4), (4, .int 2), (0, .ref 64), (1, .int v1), (2, .int v2), (3, .int v3)], [.int 1], (q_kM s c n)) _ _
        refine q_RP_seg (g2 := (78, [(5, .int 4), (4, .int 2), (0, .ref 64), (1, .int v1), (2, .int v2), (3, .int v3)], [.int v3, .int v2, .ref 64], (q_kM s c n))) 4 (fun _ _ => rfl) ?_
        refine q_RP_bd fun r10 er10 => ?_
        refine q_RP_call (v := (some (.int r10.2))) (h2 := (q_kM r10.1 c n)) rfl rfl ((dzt_M249_64 s c n v2 v3 r10 er10).le (Nat.le_of_ble_eq_true rfl)) ?_
        show q_RP _ _ _ (81, [(5, .int 4), (4, .int 2), (0, .ref 64), (1, .int v1), (2, .int v2), (3, .int v3)], [.int r10.2], (q_kM r10.1 c n)) _ _
        refine q_RP_seg (g2 := (88, [(5, .int 4), (4, .int 2), (0, .ref 64), (1, .int v1), (2, .int v2), (3, .int v3)], [.int v3, .int v2, .ref 64, .int (r10.2 / 256)], (q_kM r10.1 c n))) 5 (fun _ _ => rfl) ?_
        refine q_RP_bd fun r11 er11 => ?_
        refine q_RP_call (v := (some (.int r11.2))) (h2 := (q_kM r11.1 c n)) rfl rfl ((dzt_M250_64 r10.1 c n v2 v3 r11 er11).le (Nat.le_of_ble_eq_true rfl)) ?_
        show q_RP _ _ _ (91, [(5, .int 4), (4, .int 2), (0, .ref 64), (1, .int v1), (2, .int v2), (3, .int v3)], [.int r11.2, .int (r10.2 / 256)], (q_kM r11.1 c n)) _ _
        refine q_RP_seg (g2 := (95, [(5, .int 4), (4, .int 2), (0, .ref 64), (1, .int v1), (2, .int v2), (3, .int v3)], [.int (r11.2 / 256), .int (r10.2 / 256)], (q_kM r11.1 c n))) 2 (fun _ _ => rfl) ?_
        cases h13 : decide (r10.2 / 256 = r11.2 / 256) with
        | true =>
          refine q_RP_cT ?_
          refine q_RP_rsT (g2 := (102, [(5, .int 4), (4, .int 2), (0, .ref 64), (1, .int v1), (2, .int v2), (3, .int v3)], [], (q_kM r11.1 c n))) rfl rfl h13 ?_
          refine q_RP_seg (g2 := (116, [(6, .int 0), (5, .int 4), (4, .int 2), (0, .ref 64), (1, .int v1), (2, .int v2), (3, .int v3)], [.int v1, .int 6], (q_kM r11.1 c n))) 8 (fun _ _ => rfl) ?_
          refine q_RP_call (v := (some (.int (q_b (dz_M245 r11.1 v1))))) (h2 := (q_kM r11.1 c n)) rfl rfl ((dzt_M245 r11.1 c n v1).le (Nat.le_of_ble_eq_true rfl)) ?_
          generalize dz_M245 r11.1 v1 = r12
          refine q_RP_let ?_
          show q_RP _ _ _ (119, [(6, .int 0), (5, .int 4), (4, .int 2), (0, .ref 64), (1, .int v1), (2, .int v2), (3, .int v3)], [.int (q_b r12), .int 6], (q_kM r11.1 c n)) _ _
          cases h14 : r12 with
          | true =>
            refine q_RP_cT ?_
            show q_RP _ _ _ (119, [(6, .int 0), (5, .int 4), (4, .int 2), (0, .ref 64), (1, .int v1), (2, .int v2), (3, .int v3)], [.int 1, .int 6], (q_kM r11.1 c n)) _ _
            refine q_RP_seg (g2 := (128, [(6, .int 0), (5, .int 4), (4, .int 2), (0, .ref 64), (1, .int v1), (2, .int v2), (3, .int v3)], [.int 7], (q_kM r11.1 c n))) 4 (fun _ _ => rfl) ?_
            exact q_RP_ret rfl rfl rfl
          | false =>
            refine q_RP_cF ?_
            show q_RP _ _ _ (119, [(6, .int 0), (5, .int 4), (4, .int 2), (0, .ref 64), (1, .int v1), (2, .int v2), (3, .int v3)], [.int 0, .int 6], (q_kM r11.1 c n)) _ _
            refine q_RP_seg (g2 := (128, [(6, .int 0), (5, .int 4), (4, .int 2), (0, .ref 64), (1, .int v1), (2, .int v2), (3, .int v3)], [.int 6], (q_kM r11.1 c n))) 3 (fun _ _ => rfl) ?_
            exact q_RP_ret rfl rfl rfl
        | false =>
          refine q_RP_cF ?_
          refine q_RP_rsF (g2 := (98, [(5, .int 4), (4, .int 2), (0, .ref 64), (1, .int v1), (2, .int v2), (3, .int v3)], [], (q_kM r11.1 c n))) rfl rfl h13 ?_
          refine q_RP_seg (g2 := (128, [(6, .int 1), (5, .int 4), (4, .int 2), (0, .ref 64), (1, .int v1), (2, .int v2), (3, .int v3)], [.int 7], (q_kM r11.1 c n))) 11 (fun _ _ => rfl) ?_
          exact q_RP_ret rfl rfl rfl
      | false =>
        refine q_RP_cF ?_
        show q_RP _ _ _ (66, [(5, .int 4), (4, .int 2), (0, .ref 64), (1, .int v1), (2, .int v2), (3, .int v3)], [.int 0], (q_kM s c n)) _ _
        refine q_RP_seg (g2 := (74, [(5, .int 4), (4, .int 2), (0, .ref 64), (1, .int v1), (2, .int v2), (3, .int v3)], [.int 6], (q_kM s c n))) 4 (fun _ _ => rfl) ?_
        exact q_RP_ret rfl rfl rfl
    | false =>
      refine q_RP_cF ?_
      refine q_RP_rsT (g2 := (54, [(4, .int 2), (0, .ref 64), (1, .int v1), (2, .int v2), (3, .int v3)], [], (q_kM s c n))) rfl rfl (q_d_geF h11) ?_
      refine q_RP_seg (g2 := (63, [(5, .int (v2 - 1)), (4, .int 2), (0, .ref 64), (1, .int v1), (2, .int v2), (3, .int v3)], [.int 6, .int 4, .int v2], (q_kM s c n))) 7 (fun _ _ => rfl) ?_
      refine q_RP_call (v := (some (.int (q_b (dz_M202 s v2 4 6))))) (h2 := (q_kM s c n)) rfl rfl ((dzt_M202 s c n v2 4 6).le (Nat.le_of_ble_eq_true rfl)) ?_
      generalize dz_M202 s v2 4 6 = r13
      refine q_RP_let ?_
      show q_RP _ _ _ (66, [(5, .int (v2 - 1)), (4, .int 2), (0, .ref 64), (1, .int v1), (2, .int v2), (3, .int v3)], [.int (q_b r13)], (q_kM s c n)) _ _
      cases h15 : r13 with
      | true =>
        refine q_RP_cT ?_
        show q_RP _ _ _ (66, [(5, .int (v2 - 1)), (4, .int 2), (0, .ref 64), (1, .int v1), (2, .int v2), (3, .int v3)], [.int 1], (q_kM s c n)) _ _
        refine q_RP_seg (g2 := (78, [(5, .int (v2 - 1)), (4, .int 2), (0, .ref 64), (1, .int v1), (2, .int v2), (3, .int v3)], [.int v3, .int v2, .ref 64], (q_kM s c n))) 4 (fun _ _ => rfl) ?_
        refine q_RP_bd fun r14 er14 => ?_
        refine q_RP_call (v := (some (.int r14.2))) (h2 := (q_kM r14.1 c n)) rfl rfl ((dzt_M249_64 s c n v2 v3 r14 er14).le (Nat.le_of_ble_eq_true rfl)) ?_
        show q_RP _ _ _ (81, [(5, .int (v2 - 1)), (4, .int 2), (0, .ref 64), (1, .int v1), (2, .int v2), (3, .int v3)], [.int r14.2], (q_kM r14.1 c n)) _ _
        refine q_RP_seg (g2 := (88, [(5, .int (v2 - 1)), (4, .int 2), (0, .ref 64), (1, .int v1), (2, .int v2), (3, .int v3)], [.int v3, .int v2, .ref 64, .int (r14.2 / 256)], (q_kM r14.1 c n))) 5 (fun _ _ => rfl) ?_
        refine q_RP_bd fun r15 er15 => ?_
        refine q_RP_call (v := (some (.int r15.2))) (h2 := (q_kM r15.1 c n)) rfl rfl ((dzt_M250_64 r14.1 c n v2 v3 r15 er15).le (Nat.le_of_ble_eq_true rfl)) ?_
        show q_RP _ _ _ (91, [(5, .int (v2 - 1)), (4, .int 2), (0, .ref 64), (1, .int v1), (2, .int v2), (3, .int v3)], [.int r15.2, .int (r14.2 / 256)], (q_kM r15.1 c n)) _ _
        refine q_RP_seg (g2 := (95, [(5, .int (v2 - 1)), (4, .int 2), (0, .ref 64), (1, .int v1), (2, .int v2), (3, .int v3)], [.int (r15.2 / 256), .int (r14.2 / 256)], (q_kM r15.1 c n))) 2 (fun _ _ => rfl) ?_
        cases h16 : decide (r14.2 / 256 = r15.2 / 256) with
        | true =>
          refine q_RP_cT ?_
          refine q_RP_rsT (g2 := (102, [(5, .int (v2 - 1)), (4, .int 2), (0, .ref 64), (1, .int v1), (2, .int v2), (3, .int v3)], [], (q_kM r15.1 c n))) rfl rfl h16 ?_
          refine q_RP_seg (g2 := (116, [(6, .int 0), (5, .int (v2 - 1)), (4, .int 2), (0, .ref 64), (1, .int v1), (2, .int v2), (3, .int v3)], [.int v1, .int ((v2 - 1) + 2)], (q_kM r15.1 c n))) 8 (fun _ _ => rfl) ?_
          refine q_RP_call (v := (some (.int (q_b (dz_M245 r15.1 v1))))) (h2 := (q_kM r15.1 c n)) rfl rfl ((dzt_M245 r15.1 c n v1).le (Nat.le_of_ble_eq_true rfl)) ?_
          generalize dz_M245 r15.1 v1 = r16
          refine q_RP_let ?_
          show q_RP _ _ _ (119, [(6, .int 0), (5, .int (v2 - 1)), (4, .int 2), (0, .ref 64), (1, .int v1), (2, .int v2), (3, .int v3)], [.int (q_b r16), .int ((v2 - 1) + 2)], (q_kM r15.1 c n)) _ _
          cases h17 : r16 with
          | true =>
            refine q_RP_cT ?_
            show q_RP _ _ _ (119, [(6, .int 0), (5, .int (v2 - 1)), (4, .int 2), (0, .ref 64), (1, .int v1), (2, .int v2), (3, .int v3)], [.int 1, .int ((v2 - 1) + 2)], (q_kM r15.1 c n)) _ _
            refine q_RP_seg (g2 := (128, [(6, .int 0), (5, .int (v2 - 1)), (4, .int 2), (0, .ref 64), (1, .int v1), (2, .int v2), (3, .int v3)], [.int (((v2 - 1) + 2) + 1)], (q_kM r15.1 c n))) 4 (fun _ _ => rfl) ?_
            exact q_RP_ret rfl rfl rfl
          | false =>
            refine q_RP_cF ?_
            show q_RP _ _ _ (119, [(6, .int 0), (5, .int (v2 - 1)), (4, .int 2), (0, .ref 64), (1, .int v1), (2, .int v2), (3, .int v3)], [.int 0, .int ((v2 - 1) + 2)], (q_kM r15.1 c n)) _ _
            refine q_RP_seg (g2 := (128, [(6, .int 0), (5, .int (v2 - 1)), (4, .int 2), (0, .ref 64), (1, .int v1), (2, .int v2), (3, .int v3)], [.int (((v2 - 1) + 2) + 0)], (q_kM r15.1 c n))) 3 (fun _ _ => rfl) ?_
            exact q_RP_ret rfl rfl rfl
        | false =>
          refine q_RP_cF ?_
          refine q_RP_rsF (g2 := (98, [(5, .int (v2 - 1)), (4, .int 2), (0, .ref 64), (1, .int v1), (2, .int v2), (3, .int v3)], [], (q_kM r15.1 c n))) rfl rfl h16 ?_
          refine q_RP_seg (g2 := (128, [(6, .int 1), (5, .int (v2 - 1)), (4, .int 2), (0, .ref 64), (1, .int v1), (2, .int v2), (3, .int v3)], [.int (((v2 - 1) + 2) + 1)], (q_kM r15.1 c n))) 11 (fun _ _ => rfl) ?_
          exact q_RP_ret rfl rfl rfl
      | false =>
        refine q_RP_cF ?_
        show q_RP _ _ _ (66, [(5, .int (v2 - 1)), (4, .int 2), (0, .ref 64), (1, .int v1), (2, .int v2), (3, .int v3)], [.int 0], (q_kM s c n)) _ _
        refine q_RP_seg (g2 := (74, [(5, .int (v2 - 1)), (4, .int 2), (0, .ref 64), (1, .int v1), (2, .int v2), (3, .int v3)], [.int ((v2 - 1) + 2)], (q_kM s c n))) 4 (fun _ _ => rfl) ?_
        exact q_RP_ret rfl rfl rfl
def dz_M251_64 (s : q_S) (a1 : Int32) (a2 : Int32) (a3 : Int32) : Option (q_S × Int32) :=
  cond (decide (a2 = 0)) (some (s, 2)) (q_let (dz_M202 s a1 14 15) fun r4 => cond r4 (dz_M251_64_28 s a1 a2 a3) (q_let (dz_M202 s a1 18 19) fun r17 => cond r17 (dz_M251_64_28 s a1 a2 a3) (cond (decide (a2 = 1)) (q_let (dz_M202 s a2 4 6) fun r18 => cond r18 ((dz_M249_64 s a2 a3).bind fun r19 => (dz_M250_64 r19.1 a2 a3).bind fun r20 => cond (decide (r19.2 / 256 = r20.2 / 256)) (q_let (dz_M245 r20.1 a1) fun r21 => cond r21 (some (r20.1, 4)) (some (r20.1, 3))) (some (r20.1, 4))) (some (s, 3))) (cond (decide (a2 < 6)) (q_let (dz_M202 s a2 4 6) fun r22 => cond r22 ((dz_M249_64 s a2 a3).bind fun r23 => (dz_M250_64 r23.1 a2 a3).bind fun r24 => cond (decide (r23.2 / 256 = r24.2 / 256)) (q_let (dz_M245 r24.1 a1) fun r25 => cond r25 (some (r24.1, 5)) (some (r24.1, 4))) (some (r24.1, 5))) (some (s, 4))) (q_let (dz_M202 s a2 4 6) fun r26 => cond r26 ((dz_M249_64 s a2 a3).bind fun r27 => (dz_M250_64 r27.1 a2 a3).bind fun r28 => cond (decide (r27.2 / 256 = r28.2 / 256)) (q_let (dz_M245 r28.1 a1) fun r29 => cond r29 (some (r28.1, (((a2 - 1) + 0) + 1))) (some (r28.1, (((a2 - 1) + 0) + 0)))) (some (r28.1, (((a2 - 1) + 0) + 1)))) (some (s, ((a2 - 1) + 0))))))))
set_option maxHeartbeats 4000000 in
theorem dzt_M251_64 (s : q_S) (c n : Nat) (a1 : Int32) (a2 : Int32) (a3 : Int32) (x : q_S × Int32) (h : dz_M251_64 s a1 a2 a3 = some x) : q_Ca q_TB0 9 250 [.ref 64, .int a1, .int a2, .int a3] (q_kM s c n) ((q_oIM c n) x) := by
  refine q_CaP_of (φ := (q_oIM c n)) (Nat.le_of_ble_eq_true rfl) ?_ h
  clear h
  unfold dz_M251_64
  refine q_RP_seg (g2 := (1, [(0, .ref 64), (1, .int a1), (2, .int a2), (3, .int a3)], [.int a2], (q_kM s c n))) 1 (fun _ _ => rfl) ?_
  cases h5 : decide (a2 = 0) with
  | true =>
    refine q_RP_cT ?_
    refine q_RP_rsF (g2 := (4, [(0, .ref 64), (1, .int a1), (2, .int a2), (3, .int a3)], [], (q_kM s c n))) rfl rfl (q_d_neT h5) ?_
    refine q_RP_seg (g2 := (5, [(0, .ref 64), (1, .int a1), (2, .int a2), (3, .int a3)], [.int 2], (q_kM s c n))) 1 (fun _ _ => rfl) ?_
    exact q_RP_ret rfl rfl rfl
  | false =>
    refine q_RP_cF ?_
    refine q_RP_rsT (g2 := (6, [(0, .ref 64), (1, .int a1), (2, .int a2), (3, .int a3)], [], (q_kM s c n))) rfl rfl (q_d_neF h5) ?_
    refine q_RP_seg (g2 := (11, [(0, .ref 64), (1, .int a1), (2, .int a2), (3, .int a3)], [.int 15, .int 14, .int a1], (q_kM s c n))) 3 (fun _ _ => rfl) ?_
    refine q_RP_call (v := (some (.int (q_b (dz_M202 s a1 14 15))))) (h2 := (q_kM s c n)) rfl rfl ((dzt_M202 s c n a1 14 15).le (Nat.le_of_ble_eq_true rfl)) ?_
    generalize dz_M202 s a1 14 15 = r4
    refine q_RP_let ?_
    show q_RP _ _ _ (14, [(0, .ref 64), (1, .int a1), (2, .int a2), (3, .int a3)], [.int (q_b r4)], (q_kM s c n)) _ _
    cases h6 : r4 with
    | true =>
      refine q_RP_cT ?_
      show q_RP _ _ _ (14, [(0, .ref 64), (1, .int a1), (2, .int a2), (3, .int a3)], [.int 1], (q_kM s c n)) _ _
      refine q_RP_seg (g2 := (28, [(0, .ref 64), (1, .int a1), (2, .int a2), (3, .int a3)], [], (q_kM s c n))) 1 (fun _ _ => rfl) ?_
      exact (dzt_M251_64_28 c n s a1 a2 a3)
    | false =>
      refine q_RP_cF ?_
      show q_RP _ _ _ (14, [(0, .ref 64), (1, .int a1), (2, .int a2), (3, .int a3)], [.int 0], (q_kM s c n)) _ _
      refine q_RP_seg (g2 := (22, [(0, .ref 64), (1, .int a1), (2, .int a2), (3, .int a3)], [.int 19, .int 18, .int a1], (q_kM s c n))) 4 (fun _ _ => rfl) ?_
      refine q_RP_call (v := (some (.int (q_b (dz_M202 s a1 18 19))))) (h2 := (q_kM s c n)) rfl rfl ((dzt_M202 s c n a1 18 19).le (Nat.le_of_ble_eq_true rfl)) ?_
      generalize dz_M202 s a1 18 19 = r17
      refine q_RP_let ?_
      show q_RP _ _ _ (25, [(0, .ref 64), (1, .int a1), (2, .int a2), (3, .int a3)], [.int (q_b r17)], (q_kM s c n)) _ _
      cases h18 : r17 with
      | true =>
        refine q_RP_cT ?_
        show q_RP _ _ _ (25, [(0, .ref 64), (1, .int a1), (2, .int a2), (3, .int a3)], [.int 1], (q_kM s c n)) _ _
        refine q_RP_seg (g2 := (28, [(0, .ref 64), (1, .int a1), (2, .int a2), (3, .int a3)], [], (q_kM s c n))) 1 (fun _ _ => rfl) ?_
        exact (dzt_M251_64_28 c n s a1 a2 a3)
      | false =>
        refine q_RP_cF ?_
        show q_RP _ _ _ (25, [(0, .ref 64), (1, .int a1), (2, .int a2), (3, .int a3)], [.int 0], (q_kM s c n)) _ _
        refine q_RP_seg (g2 := (37, [(4, .int 0), (0, .ref 64), (1, .int a1), (2, .int a2), (3, .int a3)], [.int 1, .int a2], (q_kM s c n))) 5 (fun _ _ => rfl) ?_
        cases h19 : decide (a2 = 1) with
        | true =>
          refine q_RP_cT ?_
          refine q_RP_rsF (g2 := (40, [(4, .int 0), (0, .ref 64), (1, .int a1), (2, .int a2), (3, .int a3)], [], (q_kM s c n))) rfl rfl (q_d_neT h19) ?_
          refine q_RP_seg (g2 := (63, [(5, .int 3), (4, .int 0), (0, .ref 64), (1, .int a1), (2, .int a2), (3, .int a3)], [.int 6, .int 4, .int a2], (q_kM s c n))) 6 (fun _ _ => rfl) ?_
          refine q_RP_call (v := (some (.int (q_b (dz_M202 s a2 4 6))))) (h2 := (q_kM s c n)) rfl rfl ((dzt_M202 s c n a2 4 6).le (Nat.le_of_ble_eq_true rfl)) ?_
          generalize dz_M202 s a2 4 6 = r18
          refine q_RP_let ?_
          show q_RP _ _ _ (66, [(5, .int 3), (4, .int 0), (0, .ref 64), (1, .int a1), (2, .int a2), (3, .int a3)], [.int (q_b r18)], (q_kM s c n)) _ _
          cases h20 : r18 with
          | true =>
            refine q_RP_cT ?_
            show q_RP _ _ _ (66, [(5, .int 3), (4, .int 0), (0, .ref 64), (1, .int a1), (2, .int a2), (3, .int a3)], [.int 1], (q_kM s c n)) _ _
            refine q_RP_seg (g2 := (78, [(5, .int 3), (4, .int 0), (0, .ref 64), (1, .int a1), (2, .int a2), (3, .int a3)], [.int a3, .int a2, .ref 64], (q_kM s c n))) 4 (fun _ _ => rfl) ?_
            refine q_RP_bd fun r19 er19 => ?_
            refine q_RP_call (v := (some (.int r19.2))) (h2 := (q_kM r19.1 c n)) rfl rfl ((dzt_M249_64 s c n a2 a3 r19 er19).le (Nat.le_of_ble_eq_true rfl)) ?_
            show q_RP _ _ _ (81, [(5, .int 3), (4, .int 0), (0, .ref 64), (1, .int a1), (2, .int a2), (3, .int a3)], [.int r19.2], (q_kM r19.1 c n)) _ _
            refine q_RP_seg (g2 := (88, [(5, .int 3), (4, .int 0), (0, .ref 64), (1, .int a1), (2, .int a2), (3, .int a3)], [.int a3, .int a2, .ref 64, .int (r19.2 / 256)], (q_kM r19.1 c n))) 5 (fun _ _ => rfl) ?_
            refine q_RP_bd fun r20 er20 => ?_
            refine q_RP_call (v := (some (.int r20.2))) (h2 := (q_kM r20.1 c n)) rfl rfl ((dzt_M250_64 r19.1 c n a2 a3 r20 er20).le (Nat.le_of_ble_eq_true rfl)) ?_
            show q_RP _ _ _ (91, [(5, .int 3), (4, .int 0), (0, .ref 64), (1, .int a1), (2, .int a2), (3, .int a3)], [.int r20.2, .int (r19.2 / 256)], (q_kM r20.1 c n)) _ _
            refine q_RP_seg (g2 := (95, [(5, .int 3), (4, .int 0), (0, .ref 64), (1, .int a1), (2, .int a2), (3, .int a3)], [.int (r20.2 / 256), .int (r19.2 / 256)], (q_kM r20.1 c n))) 2 (fun _ _ => rfl) ?_
            cases h21 : decide (r19.2 / 256 = r20.2 / 256) with
            | true =>
              refine q_RP_cT ?_
              refine q_RP_rsT (g2 := (102, [(5, .int 3), (4, .int 0), (0, .ref 64), (1, .int a1), (2, .int a2), (3, .int a3)], [], (q_kM r20.1 c n))) rfl rfl h21 ?_
              refine q_RP_seg (g2 := (116, [(6, .int 0), (5, .int 3), (4, .int 0), (0, .ref 64), (1, .int a1), (2, .int a2), (3, .int a3)], [.int a1, .int 3], (q_kM r20.1 c n))) 8 (fun _ _ => rfl) ?_
              refine q_RP_call (v := (some (.int (q_b (dz_M245 r20.1 a1))))) (h2 := (q_kM r20.1 c n)) rfl rfl ((dzt_M245 r20.1 c n a1).le (Nat.le_of_ble_eq_true rfl)) ?_
              generalize dz_M245 r20.1 a1 = r21
              refine q_RP_let ?_
              show q_RP _ _ _ (119, [(6, .int 0), (5, .int 3), (4, .int 0), (0, .ref 64), (1, .int a1), (2, .int a2), (3, .int a3)], [.int (q_b r21), .int 3], (q_kM r20.1 c n)) _ _
              cases h22 : r21 with
              | true =>
                refine q_RP_cT ?_
                show q_RP _ _ _ (119, [(6, .int 0), (5, .int 3), (4, .int 0), (0, .ref 64), (1, .int a1), (2, .int a2), (3, .int a3)], [.int 1, .int 3], (q_kM r20.1 c n)) _ _
                refine q_RP_seg (g2 := (128, [(6, .int 0), (5, .int 3), (4, .int 0), (0, .ref 64), (1, .int a1), (2, .int a2), (3, .int a3)], [.int 4], (q_kM r20.1 c n))) 4 (fun _ _ => rfl) ?_
                exact q_RP_ret rfl rfl rfl
              | false =>
                refine q_RP_cF ?_
                show q_RP _ _ _ (119, [(6, .int 0), (5, .int 3), (4, .int 0), (0, .ref 64), (1, .int a1), (2, .int a2), (3, .int a3)], [.int 0, .int 3], (q_kM r20.1 c n)) _ _
                refine q_RP_seg (g2 := (128, [(6, .int 0), (5, .int 3), (4, .int 0), (0, .ref 64), (1, .int a1), (2, .int a2), (3, .int a3)], [.int 3], (q_kM r20.1 c n))) 3 (fun _ _ => rfl) ?_
                exact q_RP_ret rfl rfl rfl
            | false =>
              refine q_RP_cF ?_
              refine q_RP_rsF (g2 := (98, [(5, .int 3), (4, .int 0), (0, .ref 64), (1, .int a1), (2, .int a2), (3, .int a3)], [], (q_kM r20.1 c n))) rfl rfl h21 ?_
              refine q_RP_seg (g2 := (128, [(6, .int 1), (5, .int 3), (4, .int 0), (0, .ref 64), (1, .int a1), (2, .int a2), (3, .int a3)], [.int 4], (q_kM r20.1 c n))) 11 (fun _ _ => rfl) ?_
              exact q_RP_ret rfl rfl rfl
          | false =>
            refine q_RP_cF ?_
            show q_RP _ _ _ (66, [(5, .int 3), (4, .int 0), (0, .ref 64), (1, .int a1), (2, .int a2), (3, .int a3)], [.int 0], (q_kM s c n)) _ _
            refine q_RP_seg (g2 := (74, [(5, .int 3), (4, .int 0), (0, .ref 64), (1, .int a1), (2, .int a2), (3, .int a3)], [.int 3], (q_kM s c n))) 4 (fun _ _ => rfl) ?_
            exact q_RP_ret rfl rfl rfl
        | false =>
          refine q_RP_cF ?_
          refine q_RP_rsT (g2 := (44, [(4, .int 0), (0, .ref 64), (1, .int a1), (2, .int a2), (3, .int a3)], [], (q_kM s c n))) rfl rfl (q_d_neF h19) ?_
          refine q_RP_seg (g2 := (47, [(4, .int 0), (0, .ref 64), (1, .int a1), (2, .int a2), (3, .int a3)], [.int 6, .int a2], (q_kM s c n))) 2 (fun _ _ => rfl) ?_
          cases h23 : decide (a2 < 6) with
          | true =>
            refine q_RP_cT ?_
            refine q_RP_rsF (g2 := (50, [(4, .int 0), (0, .ref 64), (1, .int a1), (2, .int a2), (3, .int a3)], [], (q_kM s c n))) rfl rfl (q_d_geT h23) ?_
            refine q_RP_seg (g2 := (63, [(5, .int 4), (4, .int 0), (0, .ref 64), (1, .int a1), (2, .int a2), (3, .int a3)], [.int 6, .int 4, .int a2], (q_kM s c n))) 6 (fun _ _ => rfl) ?_
            refine q_RP_call (v := (some (.int (q_b (dz_M202 s a2 4 6))))) (h2 := (q_kM s c n)) rfl rfl ((dzt_M202 s c n a2 4 6).le (Nat.le_of_ble_eq_true rfl)) ?_
            generalize dz_M202 s a2 4 6 = r22
            refine q_RP_let ?_
            show q_RP _ _ _ (66, [(5, .int 4), (4, .int 0), (0, .ref 64), (1, .int a1), (2, .int a2), (3, .int a3)], [.int (q_b r22)], (q_kM s c n)) _ _
            cases h24 : r22 with
            | true =>
              refine q_RP_cT ?_
              show q_RP _ _ _ (66, [(5, .int 4), (4, .int 0), (0, .ref 64), (1, .int a1), (2, .int a2), (3, .int a3)], [.int 1], (q_kM s c n)) _ _
              refine q_RP_seg (g2 := (78, [(5, .int 4), (4, .int 0), (0, .ref 64), (1, .int a1), (2, .int a2), (3, .int a3)], [.int a3, .int a2, .ref 64], (q_kM s c n))) 4 (fun _ _ => rfl) ?_
              refine q_RP_bd fun r23 er23 => ?_
              refine q_RP_call (v := (some (.int r23.2))) (h2 := (q_kM r23.1 c n)) rfl rfl ((dzt_M249_64 s c n a2 a3 r23 er23).le (Nat.le_of_ble_eq_true rfl)) ?_
              show q_RP _ _ _ (81, [(5, .int 4), (4, .int 0), (0, .ref 64), (1, .int a1), (2, .int a2), (3, .int a3)], [.int r23.2], (q_kM r23.1 c n)) _ _
              refine q_RP_seg (g2 := (88, [(5, .int 4), (4, .int 0), (0, .ref 64), (1, .int a1), (2, .int a2), (3, .int a3)], [.int a3, .int a2, .ref 64, .int (r23.2 / 256)], (q_kM r23.1 c n))) 5 (fun _ _ => rfl) ?_
              refine q_RP_bd fun r24 er24 => ?_
              refine q_RP_call (v := (some (.int r24.2))) (h2 := (q_kM r24.1 c n)) rfl rfl ((dzt_M250_64 r23.1 c n a2 a3 r24 er24).le (Nat.le_of_ble_eq_true rfl)) ?_
              show q_RP _ _ _ (91, [(5, .int 4), (4, .int 0), (0, .ref 64), (1, .int a1), (2, .int a2), (3, .int a3)], [.int r24.2, .int (r23.2 / 256)], (q_kM r24.1 c n)) _ _
              refine q_RP_seg (g2 := (95, [(5, .int 4), (4, .int 0), (0, .ref 64), (1, .int a1), (2, .int a2), (3, .int a3)], [.int (r24.2 / 256), .int (r23.2 / 256)], (q_kM r24.1 c n))) 2 (fun _ _ => rfl) ?_
              cases h25 : decide (r23.2 / 256 = r24.2 / 256) with
              | true =>
                refine q_RP_cT ?_
                refine q_RP_rsT (g2 := (102, [(5, .int 4), (4, .int 0), (0, .ref 64), (1, .int a1), (2, .int a2), (3, .int a3)], [], (q_kM r24.1 c n))) rfl rfl h25 ?_
                refine q_RP_seg (g2 := (116, [(6, .int 0), (5, .int 4), (4, .int 0), (0, .ref 64), (1, .int a1), (2, .int a2), (3, .int a3)], [.int a1, .int 4], (q_kM r24.1 c n))) 8 (fun _ _ => rfl) ?_
                refine q_RP_call (v := (some (.int (q_b (dz_M245 r24.1 a1))))) (h2 := (q_kM r24.1 c n)) rfl rfl ((dzt_M245 r24.1 c n a1).le (Nat.le_of_ble_eq_true rfl)) ?_
                generalize dz_M245 r24.1 a1 = r25
                refine q_RP_let ?_
                show q_RP _ _ _ (119, [(6, .int 0), (5, .int 4), (4, .int 0), (0, .ref 64), (1, .int a1), (2, .int a2), (3, .int a3)], [.int (q_b r25), .int 4], (q_kM r24.1 c n)) _ _
                cases h26 : r25 with
                | true =>
                  refine q_RP_cT ?_
                  show q_RP _ _ _ (119, [(6, .int 0), (5, .int 4), (4, .int 0), (0, .ref 64), (1, .int a1), (2, .int a2), (3, .int a3)], [.int 1, .int 4], (q_kM r24.1 c n)) _ _
                  refine q_RP_seg (g2 := (128, [(6, .int 0), (5, .int 4), (4, .int 0), (0, .ref 64), (1, .int a1), (2, .int a2), (3, .int a3)], [.int 5], (q_kM r24.1 c n))) 4 (fun _ _ => rfl) ?_
                  exact q_RP_ret rfl rfl rfl
                | false =>
                  refine q_RP_cF ?_
                  show q_RP _ _ _ (119, [(6, .int 0), (5, .int 4), (4, .int 0), (0, .ref 64), (1, .int a1), (2, .int a2), (3, .int a3)], [.int 0, .int 4], (q_kM r24.1 c n)) _ _
                  refine q_RP_seg (g2 := (128, [(6, .int 0), (5, .int 4), (4, .int 0), (0, .ref 64), (1, .int a1), (2, .int a2), (3, .int a3)], [.int 4], (q_kM r24.1 c n))) 3 (fun _ _ => rfl) ?_
                  exact q_RP_ret rfl rfl rfl
              | false =>
                refine q_RP_cF ?_
                refine q_RP_rsF (g2 := (98, [(5, .int 4), (4, .int 0), (0, .ref 64), (1, .int a1), (2, .int a2), (3, .int a3)], [], (q_kM r24.1 c n))) rfl rfl h25 ?_
                refine q_RP_seg (g2 := (128, [(6, .int 1), (5, .int 4), (4, .int 0), (0, .ref 64), (1, .int a1), (2, .int a2), (3, .int a3)], [.int 5], (q_kM r24.1 c n))) 11 (fun _ _ => rfl) ?_
                exact q_RP_ret rfl rfl rfl
            | false =>
              refine q_RP_cF ?_
              show q_RP _ _ _ (66, [(5, .int 4), (4, .int 0), (0, .ref 64), (1, .int a1), (2, .int a2), (3, .int a3)], [.int 0], (q_kM s c n)) _ _
              refine q_RP_seg (g2 := (74, [(5, .int 4), (4, .int 0), (0, .ref 64), (1, .int a1), (2, .int a2), (3, .int a3)], [.int 4], (q_kM s c n))) 4 (fun _ _ => rfl) ?_
              exact q_RP_ret rfl rfl rfl
          | false =>
            refine q_RP_cF ?_
            refine q_RP_rsT (g2 := (54, [(4, .int 0), (0, .ref 64), (1, .int a1), (2, .int a2), (3, .int a3)], [], (q_kM s c n))) rfl rfl (q_d_geF h23) ?_
            refine q_RP_seg (g2 := (63, [(5, .int (a2 - 1)), (4, .int 0), (0, .ref 64), (1, .int a1), (2, .int a2), (3, .int a3)], [.int 6, .int 4, .int a2], (q_kM s c n))) 7 (fun _ _ => rfl) ?_
            refine q_RP_call (v := (some (.int (q_b (dz_M202 s a2 4 6))))) (h2 := (q_kM s c n)) rfl rfl ((dzt_M202 s c n a2 4 6).le (Nat.le_of_ble_eq_true rfl)) ?_
            generalize dz_M202 s a2 4 6 = r26
            refine q_RP_let ?_
            show q_RP _ _ _ (66, [(5, .int (a2 - 1)), (4, .int 0), (0, .ref 64), (1, .int a1), (2, .int a2), (3, .int a3)], [.int (q_b r26)], (q_kM s c n)) _ _
            cases h27 : r26 with
            | true =>
              refine q_RP_cT ?_
              show q_RP _ _ _ (66, [(5, .int (a2 - 1)), (4, .int 0), (0, .ref 64), (1, .int a1), (2, .int a2), (3, .int a3)], [.int 1], (q_kM s c n)) _ _
              refine q_RP_seg (g2 := (78, [(5, .int (a2 - 1)), (4, .int 0), (0, .ref 64), (1, .int a1), (2, .int a2), (3, .int a3)], [.int a3, .int a2, .ref 64], (q_kM s c n))) 4 (fun _ _ => rfl) ?_
              refine q_RP_bd fun r27 er27 => ?_
              refine q_RP_call (v := (some (.int r27.2))) (h2 := (q_kM r27.1 c n)) rfl rfl ((dzt_M249_64 s c n a2 a3 r27 er27).le (Nat.le_of_ble_eq_true rfl)) ?_
              show q_RP _ _ _ (81, [(5, .int (a2 - 1)), (4, .int 0), (0, .ref 64), (1, .int a1), (2, .int a2), (3, .int a3)], [.int r27.2], (q_kM r27.1 c n)) _ _
              refine q_RP_seg (g2 := (88, [(5, .int (a2 - 1)), (4, .int 0), (0, .ref 64), (1, .int a1), (2, .int a2), (3, .int a3)], [.int a3, .int a2, .ref 64, .int (r27.2 / 256)], (q_kM r27.1 c n))) 5 (fun _ _ => rfl) ?_
              refine q_RP_bd fun r28 er28 => ?_
              refine q_RP_call (v := (some (.int r28.2))) (h2 := (q_kM r28.1 c n)) rfl rfl ((dzt_M250_64 r27.1 c n a2 a3 r28 er28).le (Nat.le_of_ble_eq_true rfl)) ?_
              show q_RP _ _ _ (91, [(5, .int (a2 - 1)), (4, .int 0), (0, .ref 64), (1, .int a1), (2, .int a2), (3, .int a3)], [.int r28.2, .int (r27.2 / 256)], (q_kM r28.1 c n)) _ _
              refine q_RP_seg (g2 := (95, [(5, .int (a2 - 1)), (4, .int 0), (0, .ref 64), (1, .int a1), (2, .int a2), (3, .int a3)], [.int (r28.2 / 256), .int (r27.2 / 256)], (q_kM r28.1 c n))) 2 (fun _ _ => rfl) ?_
              cases h28 : decide (r27.2 / 256 = r28.2 / 256) with
              | true =>
                refine q_RP_cT ?_
                refine q_RP_rsT (g2 := (102, [(5, .int (a2 - 1)), (4, .int 0), (0, .ref 64), (1, .int a1), (2, .int a2), (3, .int a3)], [], (q_kM r28.1 c n))) rfl rfl h28 ?_
                refine q_RP_seg (g2 := (116, [(6, .int 0), (5, .int (a2 - 1)), (4, .int 0), (0, .ref 64), (1, .int a1), (2, .int a2), (3, .int a3)], [.int a1, .int ((a2 - 1) + 0)], (q_kM r28.1 c n))) 8 (fun _ _ => rfl) ?_
                refine q_RP_call (v := (some (.int (q_b (dz_M245 r28.1 a1))))) (h2 := (q_kM r28.1 c n)) rfl rfl ((dzt_M245 r28.1 c n a1).le (Nat.le_of_ble_eq_true rfl)) ?_
                generalize dz_M245 r28.1 a1 = r29
                refine q_RP_let ?_
                show q_RP _ _ _ (119, [(6, .int 0), (5, .int (a2 - 1)), (4, .int 0), (0, .ref 64), (1, .int a1), (2, .int a2), (3, .int a3)], [.int (q_b r29), .int ((a2 - 1) + 0)], (q_kM r28.1 c n)) _ _
                cases h29 : r29 with
                | true =>
                  refine q_RP_cT ?_
                  show q_RP _ _ _ (119, [(6, .int 0), (5, .int (a2 - 1)), (4, .int 0), (0, .ref 64), (1, .int a1), (2, .int a2), (3, .int a3)], [.int 1, .int ((a2 - 1) + 0)], (q_kM r28.1 c n)) _ _
                  refine q_RP_seg (g2 := (128, [(6, .int 0), (5, .int (a2 - 1)), (4, .int 0), (0, .ref 64), (1, .int a1), (2, .int a2), (3, .int a3)], [.int (((a2 - 1) + 0) + 1)], (q_kM r28.1 c n))) 4 (fun _ _ => rfl) ?_
                  exact q_RP_ret rfl rfl rfl
                | false =>
                  refine q_RP_cF ?_
                  show q_RP _ _ _ (119, [(6, .int 0), (5, .int (a2 - 1)), (4, .int 0), (0, .ref 64), (1, .int a1), (2, .int a2), (3, .int a3)], [.int 0, .int ((a2 - 1) + 0)], (q_kM r28.1 c n)) _ _
                  refine q_RP_seg (g2 := (128, [(6, .int 0), (5, .int (a2 - 1)), (4, .int 0), (0, .ref 64), (1, .int a1), (2, .int a2), (3, .int a3)], [.int (((a2 - 1) + 0) + 0)], (q_kM r28.1 c n))) 3 (fun _ _ => rfl) ?_
                  exact q_RP_ret rfl rfl rfl
              | false =>
                refine q_RP_cF ?_
                refine q_RP_rsF (g2 := (98, [(5, .int (a2 - 1)), (4, .int 0), (0, .ref 64), (1, .int a1), (2, .int a2), (3, .int a3)], [], (q_kM r28.1 c n))) rfl rfl h28 ?_
                refine q_RP_seg (g2 := (128, [(6, .int 1), (5, .int (a2 - 1)), (4, .int 0), (0, .ref 64), (1, .int a1), (2, .int a2), (3, .int a3)], [.int (((a2 - 1) + 0) + 1)], (q_kM r28.1 c n))) 11 (fun _ _ => rfl) ?_
                exact q_RP_ret rfl rfl rfl
            | false =>
              refine q_RP_cF ?_
              show q_RP _ _ _ (66, [(5, .int (a2 - 1)), (4, .int 0), (0, .ref 64), (1, .int a1), (2, .int a2), (3, .int a3)], [.int 0], (q_kM s c n)) _ _
              refine q_RP_seg (g2 := (74, [(5, .int (a2 - 1)), (4, .int 0), (0, .ref 64), (1, .int a1), (2, .int a2), (3, .int a3)], [.int ((a2 - 1) + 0)], (q_kM s c n))) 4 (fun _ _ => rfl) ?_
              exact q_RP_ret rfl rfl rfl
def dz_M254_64 (s : q_S) (a1 : Int32) : Option (q_S × Int32) :=
  (dz_M247_64 s a1).bind fun r2 => q_let (dz_M244 r2.1 r2.2) fun r3 => cond (decide (r3 < 0)) (q_let (dz_M202 r2.1 r2.2 160 167) fun r4 => cond r4 (q_let (dz_M252_64 r2.1 r2.2) fun r5 => cond r5 (q_let (dz_M213 r2.1 (a1 + 2)) fun r6 => (dz_M253_64 r2.1 a1).bind fun r7 => cond (decide (r6 / 256 = r7.2 / 256)) (some (r7.1, 3)) (some (r7.1, 4))) (some (r2.1, 2))) (cond (decide (r2.2 = 138)) (some (r2.1, 3)) (cond (decide (r2.2 = 140)) (some (r2.1, 3)) (cond (decide (r2.2 = 157)) (some (r2.1, 3)) (cond (decide (r2.2 = 139)) (some (r2.1, 4)) (cond (decide (r2.2 = 141)) (some (r2.1, 4)) (cond (decide (r2.2 = 159)) (some (r2.1, 5)) (cond (decide (r2.2 = 155)) (some (r2.1, 6)) (cond (decide (r2.2 = 156)) (some (r2.1, 6)) (cond (decide (r2.2 = 158)) (some (r2.1, 6)) (cond (decide (r2.2 = 154)) (some (r2.1, 7)) (some (r2.1, 2))))))))))))) ((dz_M251_64 r2.1 r3 (r2.2 - r2.2 / 8 * 8) a1).bind fun r8 => some (r8.1, r8.2))
set_option maxHeartbeats 4000000 in
theorem dzt_M254_64 (s : q_S) (c n : Nat) (a1 : Int32) (x : q_S × Int32) (h : dz_M254_64 s a1 = some x) : q_Ca q_TB0 10 253 [.ref 64, .int a1] (q_kM s c n) ((q_oIM c n) x) := by
  refine q_CaP_of (φ := (q_oIM c n)) (Nat.le_of_ble_eq_true rfl) ?_ h
  clear h
  unfold dz_M254_64
  refine q_RP_seg (g2 := (2, [(0, .ref 64), (1, .int a1)], [.int a1, .ref 64], (q_kM s c n))) 2 (fun _ _ => rfl) ?_
  refine q_RP_bd fun r2 er2 => ?_
  refine q_RP_call (v := (some (.int r2.2))) (h2 := (q_kM r2.1 c n)) rfl rfl ((dzt_M247_64 s c n a1 r2 er2).le (Nat.le_of_ble_eq_true rfl)) ?_
  show q_RP _ _ _ (5, [(0, .ref 64), (1, .int a1)], [.int r2.2], (q_kM r2.1 c n)) _ _
  refine q_RP_seg (g2 := (7, [(2, .int r2.2), (0, .ref 64), (1, .int a1)], [.int r2.2], (q_kM r2.1 c n))) 2 (fun _ _ => rfl) ?_
  refine q_RP_call (v := (some (.int (dz_M244 r2.1 r2.2)))) (h2 := (q_kM r2.1 c n)) rfl rfl ((dzt_M244 r2.1 c n r2.2).le (Nat.le_of_ble_eq_true rfl)) ?_
  generalize dz_M244 r2.1 r2.2 = r3
  refine q_RP_let ?_
  show q_RP _ _ _ (10, [(2, .int r2.2), (0, .ref 64), (1, .int a1)], [.int r3], (q_kM r2.1 c n)) _ _
  refine q_RP_seg (g2 := (12, [(3, .int r3), (2, .int r2.2), (0, .ref 64), (1, .int a1)], [.int r3], (q_kM r2.1 c n))) 2 (fun _ _ => rfl) ?_
  cases h1 : decide (r3 < 0) with
  | true =>
    refine q_RP_cT ?_
    refine q_RP_rsT (g2 := (26, [(3, .int r3), (2, .int r2.2), (0, .ref 64), (1, .int a1)], [], (q_kM r2.1 c n))) rfl rfl h1 ?_
    refine q_RP_seg (g2 := (33, [(3, .int r3), (2, .int r2.2), (0, .ref 64), (1, .int a1)], [.int 167, .int 160, .int r2.2], (q_kM r2.1 c n))) 3 (fun _ _ => rfl) ?_
    refine q_RP_call (v := (some (.int (q_b (dz_M202 r2.1 r2.2 160 167))))) (h2 := (q_kM r2.1 c n)) rfl rfl ((dzt_M202 r2.1 c n r2.2 160 167).le (Nat.le_of_ble_eq_true rfl)) ?_
    generalize dz_M202 r2.1 r2.2 160 167 = r4
    refine q_RP_let ?_
    show q_RP _ _ _ (36, [(3, .int r3), (2, .int r2.2), (0, .ref 64), (1, .int a1)], [.int (q_b r4)], (q_kM r2.1 c n)) _ _
    cases h2 : r4 with
    | true =>
      refine q_RP_cT ?_
      show q_RP _ _ _ (36, [(3, .int r3), (2, .int r2.2), (0, .ref 64), (1, .int a1)], [.int 1], (q_kM r2.1 c n)) _ _
      refine q_RP_seg (g2 := (41, [(3, .int r3), (2, .int r2.2), (0, .ref 64), (1, .int a1)], [.int r2.2, .ref 64], (q_kM r2.1 c n))) 3 (fun _ _ => rfl) ?_
      refine q_RP_call (v := (some (.int (q_b (dz_M252_64 r2.1 r2.2))))) (h2 := (q_kM r2.1 c n)) rfl rfl ((dzt_M252_64 r2.1 c n r2.2).le (Nat.le_of_ble_eq_true rfl)) ?_
      generalize dz_M252_64 r2.1 r2.2 = r5
      refine q_RP_let ?_
      show q_RP _ _ _ (44, [(3, .int r3), (2, .int r2.2), (0, .ref 64), (1, .int a1)], [.int (q_b r5)], (q_kM r2.1 c n)) _ _
      cases h3 : r5 with
      | true =>
        refine q_RP_cT ?_
        show q_RP _ _ _ (44, [(3, .int r3), (2, .int r2.2), (0, .ref 64), (1, .int a1)], [.int 1], (q_kM r2.1 c n)) _ _
        refine q_RP_seg (g2 := (54, [(3, .int r3), (2, .int r2.2), (0, .ref 64), (1, .int a1)], [.int (a1 + 2)], (q_kM r2.1 c n))) 4 (fun _ _ => rfl) ?_
        refine q_RP_call (v := (some (.int (dz_M213 r2.1 (a1 + 2))))) (h2 := (q_kM r2.1 c n)) rfl rfl ((dzt_M213 r2.1 c n (a1 + 2)).le (Nat.le_of_ble_eq_true rfl)) ?_
        generalize dz_M213 r2.1 (a1 + 2) = r6
        refine q_RP_let ?_
        show q_RP _ _ _ (57, [(3, .int r3), (2, .int r2.2), (0, .ref 64), (1, .int a1)], [.int r6], (q_kM r2.1 c n)) _ _
        refine q_RP_seg (g2 := (63, [(3, .int r3), (2, .int r2.2), (0, .ref 64), (1, .int a1)], [.int a1, .ref 64, .int (r6 / 256)], (q_kM r2.1 c n))) 4 (fun _ _ => rfl) ?_
        refine q_RP_bd fun r7 er7 => ?_
        refine q_RP_call (v := (some (.int r7.2))) (h2 := (q_kM r7.1 c n)) rfl rfl ((dzt_M253_64 r2.1 c n a1 r7 er7).le (Nat.le_of_ble_eq_true rfl)) ?_
        show q_RP _ _ _ (66, [(3, .int r3), (2, .int r2.2), (0, .ref 64), (1, .int a1)], [.int r7.2, .int (r6 / 256)], (q_kM r7.1 c n)) _ _
        refine q_RP_seg (g2 := (70, [(3, .int r3), (2, .int r2.2), (0, .ref 64), (1, .int a1)], [.int (r7.2 / 256), .int (r6 / 256)], (q_kM r7.1 c n))) 2 (fun _ _ => rfl) ?_
        cases h4 : decide (r6 / 256 = r7.2 / 256) with
        | true =>
          refine q_RP_cT ?_
          refine q_RP_rsF (g2 := (73, [(3, .int r3), (2, .int r2.2), (0, .ref 64), (1, .int a1)], [], (q_kM r7.1 c n))) rfl rfl (q_d_neT h4) ?_
          refine q_RP_seg (g2 := (78, [(3, .int r3), (2, .int r2.2), (0, .ref 64), (1, .int a1)], [.int 3], (q_kM r7.1 c n))) 2 (fun _ _ => rfl) ?_
          exact q_RP_ret rfl rfl rfl
        | false =>
          refine q_RP_cF ?_
          refine q_RP_rsT (g2 := (77, [(3, .int r3), (2, .int r2.2), (0, .ref 64), (1, .int a1)], [], (q_kM r7.1 c n))) rfl rfl (q_d_neF h4) ?_
          refine q_RP_seg (g2 := (78, [(3, .int r3), (2, .int r2.2), (0, .ref 64), (1, .int a1)], [.int 4], (q_kM r7.1 c n))) 1 (fun _ _ => rfl) ?_
          exact q_RP_ret rfl rfl rfl
      | false =>
        refine q_RP_cF ?_
        show q_RP _ _ _ (44, [(3, .int r3), (2, .int r2.2), (0, .ref 64), (1, .int a1)], [.int 0], (q_kM r2.1 c n)) _ _
        refine q_RP_seg (g2 := (78, [(3, .int r3), (2, .int r2.2), (0, .ref 64), (1, .int a1)], [.int 2], (q_kM r2.1 c n))) 3 (fun _ _ => rfl) ?_
        exact q_RP_ret rfl rfl rfl
    | false =>
      refine q_RP_cF ?_
      show q_RP _ _ _ (36, [(3, .int r3), (2, .int r2.2), (0, .ref 64), (1, .int a1)], [.int 0], (q_kM r2.1 c n)) _ _
      refine q_RP_seg (g2 := (83, [(3, .int r3), (2, .int r2.2), (0, .ref 64), (1, .int a1)], [.int 138, .int r2.2], (q_kM r2.1 c n))) 3 (fun _ _ => rfl) ?_
      cases h5 : decide (r2.2 = 138) with
      | true =>
        refine q_RP_cT ?_
        refine q_RP_rsT (g2 := (100, [(3, .int r3), (2, .int r2.2), (0, .ref 64), (1, .int a1)], [], (q_kM r2.1 c n))) rfl rfl h5 ?_
        refine q_RP_seg (g2 := (101, [(3, .int r3), (2, .int r2.2), (0, .ref 64), (1, .int a1)], [.int 3], (q_kM r2.1 c n))) 1 (fun _ _ => rfl) ?_
        exact q_RP_ret rfl rfl rfl
      | false =>
        refine q_RP_cF ?_
        refine q_RP_rsF (g2 := (86, [(3, .int r3), (2, .int r2.2), (0, .ref 64), (1, .int a1)], [], (q_kM r2.1 c n))) rfl rfl h5 ?_
        refine q_RP_seg (g2 := (90, [(3, .int r3), (2, .int r2.2), (0, .ref 64), (1, .int a1)], [.int 140, .int r2.2], (q_kM r2.1 c n))) 2 (fun _ _ => rfl) ?_
        cases h6 : decide (r2.2 = 140) with
        | true =>
          refine q_RP_cT ?_
          refine q_RP_rsT (g2 := (100, [(3, .int r3), (2, .int r2.2), (0, .ref 64), (1, .int a1)], [], (q_kM r2.1 c n))) rfl rfl h6 ?_
          refine q_RP_seg (g2 := (101, [(3, .int r3), (2, .int r2.2), (0, .ref 64), (1, .int a1)], [.int 3], (q_kM r2.1 c n))) 1 (fun _ _ => rfl) ?_
          exact q_RP_ret rfl rfl rfl
        | false =>
          refine q_RP_cF ?_
          refine q_RP_rsF (g2 := (93, [(3, .int r3), (2, .int r2.2), (0, .ref 64), (1, .int a1)], [], (q_kM r2.1 c n))) rfl rfl h6 ?_
          refine q_RP_seg (g2 := (97, [(3, .int r3), (2, .int r2.2), (0, .ref 64), (1, .int a1)], [.int 157, .int r2.2], (q_kM r2.1 c n))) 2 (fun _ _ => rfl) ?_
          cases h7 : decide (r2.2 = 157) with
          | true =>
            refine q_RP_cT ?_
            refine q_RP_rsF (g2 := (100, [(3, .int r3), (2, .int r2.2), (0, .ref 64), (1, .int a1)], [], (q_kM r2.1 c n))) rfl rfl (q_d_neT h7) ?_
            refine q_RP_seg (g2 := (101, [(3, .int r3), (2, .int r2.2), (0, .ref 64), (1, .int a1)], [.int 3], (q_kM r2.1 c n))) 1 (fun _ _ => rfl) ?_
            exact q_RP_ret rfl rfl rfl
          | false =>
            refine q_RP_cF ?_
            refine q_RP_rsT (g2 := (102, [(3, .int r3), (2, .int r2.2), (0, .ref 64), (1, .int a1)], [], (q_kM r2.1 c n))) rfl rfl (q_d_neF h7) ?_
            refine q_RP_seg (g2 := (106, [(3, .int r3), (2, .int r2.2), (0, .ref 64), (1, .int a1)], [.int 139, .int r2.2], (q_kM r2.1 c n))) 2 (fun _ _ => rfl) ?_
            cases h8 : decide (r2.2 = 139) with
            | true =>
              refine q_RP_cT ?_
              refine q_RP_rsT (g2 := (116, [(3, .int r3), (2, .int r2.2), (0, .ref 64), (1, .int a1)], [], (q_kM r2.1 c n))) rfl rfl h8 ?_
              refine q_RP_seg (g2 := (117, [(3, .int r3), (2, .int r2.2), (0, .ref 64), (1, .int a1)], [.int 4], (q_kM r2.1 c n))) 1 (fun _ _ => rfl) ?_
              exact q_RP_ret rfl rfl rfl
            | false =>
              refine q_RP_cF ?_
              refine q_RP_rsF (g2 := (109, [(3, .int r3), (2, .int r2.2), (0, .ref 64), (1, .int a1)], [], (q_kM r2.1 c n))) rfl rfl h8 ?_
              refine q_RP_seg (g2 := (113, [(3, .int r3), (2, .int r2.2), (0, .ref 64), (1, .int a1)], [.int 141, .int r2.2], (q_kM r2.1 c n))) 2 (fun _ _ => rfl) ?_
              cases h9 : decide (r2.2 = 141) with
              | true =>
                refine q_RP_cT ?_
                refine q_RP_rsF (g2 := (116, [(3, .int r3), (2, .int r2.2), (0, .ref 64), (1, .int a1)], [], (q_kM r2.1 c n))) rfl rfl (q_d_neT h9) ?_
                refine q_RP_seg (g2 := (117, [(3, .int r3), (2, .int r2.2), (0, .ref 64), (1, .int a1)], [.int 4], (q_kM r2.1 c n))) 1 (fun _ _ => rfl) ?_
                exact q_RP_ret rfl rfl rfl
              | false =>
                refine q_RP_cF ?_
                refine q_RP_rsT (g2 := (118, [(3, .int r3), (2, .int r2.2), (0, .ref 64), (1, .int a1)], [], (q_kM r2.1 c n))) rfl rfl (q_d_neF h9) ?_
                refine q_RP_seg (g2 := (122, [(3, .int r3), (2, .int r2.2), (0, .ref 64), (1, .int a1)], [.int 159, .int r2.2], (q_kM r2.1 c n))) 2 (fun _ _ => rfl) ?_
                cases h10 : decide (r2.2 = 159) with
                | true =>
                  refine q_RP_cT ?_
                  refine q_RP_rsF (g2 := (125, [(3, .int r3), (2, .int r2.2), (0, .ref 64), (1, .int a1)], [], (q_kM r2.1 c n))) rfl rfl (q_d_neT h10) ?_
                  refine q_RP_seg (g2 := (126, [(3, .int r3), (2, .int r2.2), (0, .ref 64), (1, .int a1)], [.int 5], (q_kM r2.1 c n))) 1 (fun _ _ => rfl) ?_
                  exact q_RP_ret rfl rfl rfl
                | false =>
                  refine q_RP_cF ?_
                  refine q_RP_rsT (g2 := (127, [(3, .int r3), (2, .int r2.2), (0, .ref 64), (1, .int a1)], [], (q_kM r2.1 c n))) rfl rfl (q_d_neF h10) ?_
                  refine q_RP_seg (g2 := (131, [(3, .int r3), (2, .int r2.2), (0, .ref 64), (1, .int a1)], [.int 155, .int r2.2], (q_kM r2.1 c n))) 2 (fun _ _ => rfl) ?_
                  cases h11 : decide (r2.2 = 155) with
                  | true =>
                    refine q_RP_cT ?_
                    refine q_RP_rsT (g2 := (148, [(3, .int r3), (2, .int r2.2), (0, .ref 64), (1, .int a1)], [], (q_kM r2.1 c n))) rfl rfl h11 ?_
                    refine q_RP_seg (g2 := (150, [(3, .int r3), (2, .int r2.2), (0, .ref 64), (1, .int a1)], [.int 6], (q_kM r2.1 c n))) 1 (fun _ _ => rfl) ?_
                    exact q_RP_ret rfl rfl rfl
                  | false =>
                    refine q_RP_cF ?_
                    refine q_RP_rsF (g2 := (134, [(3, .int r3), (2, .int r2.2), (0, .ref 64), (1, .int a1)], [], (q_kM r2.1 c n))) rfl rfl h11 ?_
                    refine q_RP_seg (g2 := (138, [(3, .int r3), (2, .int r2.2), (0, .ref 64), (1, .int a1)], [.int 156, .int r2.2], (q_kM r2.1 c n))) 2 (fun _ _ => rfl) ?_
                    cases h12 : decide (r2.2 = 156) with
                    | true =>
                      refine q_RP_cT ?_
                      refine q_RP_rsT (g2 := (148, [(3, .int r3), (2, .int r2.2), (0, .ref 64), (1, .int a1)], [], (q_kM r2.1 c n))) rfl rfl h12 ?_
                      refine q_RP_seg (g2 := (150, [(3, .int r3), (2, .int r2.2), (0, .ref 64), (1, .int a1)], [.int 6], (q_kM r2.1 c n))) 1 (fun _ _ => rfl) ?_
                      exact q_RP_ret rfl rfl rfl
                    | false =>
                      refine q_RP_cF ?_
                      refine q_RP_rsF (g2 := (141, [(3, .int r3), (2, .int r2.2), (0, .ref 64), (1, .int a1)], [], (q_kM r2.1 c n))) rfl rfl h12 ?_
                      refine q_RP_seg (g2 := (145, [(3, .int r3), (2, .int r2.2), (0, .ref 64), (1, .int a1)], [.int 158, .int r2.2], (q_kM r2.1 c n))) 2 (fun _ _ => rfl) ?_
                      cases h13 : decide (r2.2 = 158) with
                      | true =>
                        refine q_RP_cT ?_
                        refine q_RP_rsF (g2 := (148, [(3, .int r3), (2, .int r2.2), (0, .ref 64), (1, .int a1)], [], (q_kM r2.1 c n))) rfl rfl (q_d_neT h13) ?_
                        refine q_RP_seg (g2 := (150, [(3, .int r3), (2, .int r2.2), (0, .ref 64), (1, .int a1)], [.int 6], (q_kM r2.1 c n))) 1 (fun _ _ => rfl) ?_
                        exact q_RP_ret rfl rfl rfl
                      | false =>
                        refine q_RP_cF ?_
                        refine q_RP_rsT (g2 := (151, [(3, .int r3), (2, .int r2.2), (0, .ref 64), (1, .int a1)], [], (q_kM r2.1 c n))) rfl rfl (q_d_neF h13) ?_
                        refine q_RP_seg (g2 := (155, [(3, .int r3), (2, .int r2.2), (0, .ref 64), (1, .int a1)], [.int 154, .int r2.2], (q_kM r2.1 c n))) 2 (fun _ _ => rfl) ?_
                        cases h14 : decide (r2.2 = 154) with
                        | true =>
                          refine q_RP_cT ?_
                          refine q_RP_rsF (g2 := (158, [(3, .int r3), (2, .int r2.2), (0, .ref 64), (1, .int a1)], [], (q_kM r2.1 c n))) rfl rfl (q_d_neT h14) ?_
                          refine q_RP_seg (g2 := (164, [(3, .int r3), (2, .int r2.2), (0, .ref 64), (1, .int a1)], [.int 7], (q_kM r2.1 c n))) 2 (fun _ _ => rfl) ?_
                          exact q_RP_ret rfl rfl rfl
                        | false =>
                          refine q_RP_cF ?_
                          refine q_RP_rsT (g2 := (163, [(3, .int r3), (2, .int r2.2), (0, .ref 64), (1, .int a1)], [], (q_kM r2.1 c n))) rfl rfl (q_d_neF h14) ?_
                          refine q_RP_seg (g2 := (164, [(3, .int r3), (2, .int r2.2), (0, .ref 64), (1, .int a1)], [.int 2], (q_kM r2.1 c n))) 1 (fun _ _ => rfl) ?_
                          exact q_RP_ret rfl rfl rfl
  | false =>
    refine q_RP_cF ?_
    refine q_RP_rsF (g2 := (15, [(3, .int r3), (2, .int r2.2), (0, .ref 64), (1, .int a1)], [], (q_kM r2.1 c n))) rfl rfl h1 ?_
    refine q_RP_seg (g2 := (22, [(3, .int r3), (2, .int r2.2), (0, .ref 64), (1, .int a1)], [.int a1, .int (r2.2 - r2.2 / 8 * 8), .int r3, .ref 64], (q_kM r2.1 c n))) 6 (fun _ _ => rfl) ?_
    refine q_RP_bd fun r8 er8 => ?_
    refine q_RP_call (v := (some (.int r8.2))) (h2 := (q_kM r8.1 c n)) rfl rfl ((dzt_M251_64 r2.1 c n r3 (r2.2 - r2.2 / 8 * 8) a1 r8 er8).le (Nat.le_of_ble_eq_true rfl)) ?_
    show q_RP _ _ _ (25, [(3, .int r3), (2, .int r2.2), (0, .ref 64), (1, .int a1)], [.int r8.2], (q_kM r8.1 c n)) _ _
    exact q_RP_ret rfl rfl rfl
def dz_M277_64_75 (s : q_S) : Option (q_S) :=
  cond (decide (0 < (s.1 14) 18)) (some (q_sA s 14 (upd (s.1 14) 17 7))) ((dz_M254_64 s ((s.1 14) 4)).bind fun r2 => some (q_sA r2.1 14 (upd (r2.1.1 14) 17 r2.2)))
set_option maxHeartbeats 4000000 in
theorem dzt_M277_64_75 (c n : Nat) (s : q_S) : q_RP q_TB0 10 276 (75, [(0, .ref 64)], [], (q_kM s c n)) (q_oSM c n) (dz_M277_64_75 s) := by
  unfold dz_M277_64_75
  refine q_RP_seg (g2 := (88, [(0, .ref 64)], [.int ((s.1 14) 18), .int 17, .ref 78], (q_kM s c n))) 7 (fun _ _ => rfl) ?_
  cases h6 : decide (0 < (s.1 14) 18) with
  | true =>
    refine q_RP_cT ?_
    refine q_RP_rsF (g2 := (91, [(0, .ref 64)], [.int 17, .ref 78], (q_kM s c n))) rfl rfl (q_d_geT h6) ?_
    refine q_RP_seg (g2 := (107, [(0, .ref 64)], [], (q_kM (q_sA s 14 (upd (s.1 14) 17 7)) c n))) 3 (fun _ _ => rfl) ?_
    exact q_RP_ret rfl rfl rfl
  | false =>
    refine q_RP_cF ?_
    refine q_RP_rsT (g2 := (96, [(0, .ref 64)], [.int 17, .ref 78], (q_kM s c n))) rfl rfl (q_d_geF h6) ?_
    refine q_RP_seg (g2 := (103, [(0, .ref 64)], [.int ((s.1 14) 4), .ref 64, .int 17, .ref 78], (q_kM s c n))) 5 (fun _ _ => rfl) ?_
    refine q_RP_bd fun r2 er2 => ?_
    refine q_RP_call (v := (some (.int r2.2))) (h2 := (q_kM r2.1 c n)) rfl rfl ((dzt_M254_64 s c n ((s.1 14) 4) r2 er2).le (Nat.le_of_ble_eq_true rfl)) ?_
    show q_RP _ _ _ (106, [(0, .ref 64)], [.int r2.2, .int 17, .ref 78], (q_kM r2.1 c n)) _ _
    refine q_RP_seg (g2 := (107, [(0, .ref 64)], [], (q_kM (q_sA r2.1 14 (upd (r2.1.1 14) 17 r2.2)) c n))) 1 (fun _ _ => rfl) ?_
    exact q_RP_ret rfl rfl rfl
def dz_M277_64 (s : q_S) : Option (q_S) :=
  cond (decide ((s.1 15) 6 = 0)) (cond (decide (((s.1 14) 9) &&& ((s.1 4) 11) = 0)) (dz_M277_64_75 (q_sA s 14 (upd (s.1 14) 18 0))) (cond (decide ((s.1 15) 3 = 0)) (dz_M277_64_75 (q_sA s 14 (upd (s.1 14) 18 3838))) (dz_M277_64_75 (q_sA s 14 (upd (s.1 14) 18 0))))) (dz_M277_64_75 (q_sA (q_sA s 14 (upd (s.1 14) 18 3834)) 15 (upd (s.1 15) 6 (vp_nar .boolean 0))))
set_option maxHeartbeats 4000000 in
theorem dzt_M277_64 (s : q_S) (c n : Nat) (x : q_S) (h : dz_M277_64 s = some x) : q_Ca q_TB0 11 276 [.ref 64] (q_kM s c n) ((q_oSM c n) x) := by
  refine q_CaP_of (φ := (q_oSM c n)) (Nat.le_of_ble_eq_true rfl) ?_ h
  clear h
  unfold dz_M277_64
  refine q_RP_seg (g2 := (13, [(0, .ref 64)], [.int ((s.1 15) 6), .int 18, .ref 78], (q_kM s c n))) 7 (fun _ _ => rfl) ?_
  cases h4 : decide ((s.1 15) 6 = 0) with
  | true =>
    refine q_RP_cT ?_
    refine q_RP_rsT (g2 := (22, [(0, .ref 64)], [.int 18, .ref 78], (q_kM s c n))) rfl rfl h4 ?_
    refine q_RP_seg (g2 := (29, [(0, .ref 64)], [.int ((s.1 14) 9), .int 18, .ref 78], (q_kM s c n))) 4 (fun _ _ => rfl) ?_
    refine q_RP_seg (g2 := (36, [(0, .ref 64)], [.int ((s.1 4) 11), .int ((s.1 14) 9), .int 18, .ref 78], (q_kM s c n))) 4 (fun _ _ => rfl) ?_
    refine q_RP_seg (g2 := (37, [(0, .ref 64)], [.int (((s.1 14) 9) &&& ((s.1 4) 11)), .int 18, .ref 78], (q_kM s c n))) 1 (fun _ _ => rfl) ?_
    cases h5 : decide (((s.1 14) 9) &&& ((s.1 4) 11) = 0) with
    | true =>
      refine q_RP_cT ?_
      refine q_RP_rsT (g2 := (55, [(0, .ref 64)], [.int 18, .ref 78], (q_kM s c n))) rfl rfl h5 ?_
      refine q_RP_seg (g2 := (64, [(0, .ref 64)], [.int ((s.1 15) 6)], (q_kM (q_sA s 14 (upd (s.1 14) 18 0)) c n))) 6 (fun _ _ => rfl) ?_
      refine q_RP_rsT (g2 := (75, [(0, .ref 64)], [], (q_kM (q_sA s 14 (upd (s.1 14) 18 0)) c n))) rfl rfl h4 ?_
      exact (dzt_M277_64_75 c n (q_sA s 14 (upd (s.1 14) 18 0)))
    | false =>
      refine q_RP_cF ?_
      refine q_RP_rsF (g2 := (40, [(0, .ref 64)], [.int 18, .ref 78], (q_kM s c n))) rfl rfl h5 ?_
      refine q_RP_seg (g2 := (46, [(0, .ref 64)], [.int ((s.1 15) 3), .int 18, .ref 78], (q_kM s c n))) 4 (fun _ _ => rfl) ?_
      cases h7 : decide ((s.1 15) 3 = 0) with
      | true =>
        refine q_RP_cT ?_
        refine q_RP_rsF (g2 := (49, [(0, .ref 64)], [.int 18, .ref 78], (q_kM s c n))) rfl rfl (q_d_neT h7) ?_
        refine q_RP_seg (g2 := (64, [(0, .ref 64)], [.int ((s.1 15) 6)], (q_kM (q_sA s 14 (upd (s.1 14) 18 3838)) c n))) 7 (fun _ _ => rfl) ?_
        refine q_RP_rsT (g2 := (75, [(0, .ref 64)], [], (q_kM (q_sA s 14 (upd (s.1 14) 18 3838)) c n))) rfl rfl h4 ?_
        exact (dzt_M277_64_75 c n (q_sA s 14 (upd (s.1 14) 18 3838)))
      | false =>
        refine q_RP_cF ?_
        refine q_RP_rsT (g2 := (55, [(0, .ref 64)], [.int 18, .ref 78], (q_kM s c n))) rfl rfl (q_d_neF h7) ?_
        refine q_RP_seg (g2 := (64, [(0, .ref 64)], [.int ((s.1 15) 6)], (q_kM (q_sA s 14 (upd (s.1 14) 18 0)) c n))) 6 (fun _ _ => rfl) ?_
        refine q_RP_rsT (g2 := (75, [(0, .ref 64)], [], (q_kM (q_sA s 14 (upd (s.1 14) 18 0)) c n))) rfl rfl h4 ?_
        exact (dzt_M277_64_75 c n (q_sA s 14 (upd (s.1 14) 18 0)))
  | false =>
    refine q_RP_cF ?_
    refine q_RP_rsF (g2 := (16, [(0, .ref 64)], [.int 18, .ref 78], (q_kM s c n))) rfl rfl h4 ?_
    refine q_RP_seg (g2 := (64, [(0, .ref 64)], [.int ((s.1 15) 6)], (q_kM (q_sA s 14 (upd (s.1 14) 18 3834)) c n))) 7 (fun _ _ => rfl) ?_
    refine q_RP_rsF (g2 := (67, [(0, .ref 64)], [], (q_kM (q_sA s 14 (upd (s.1 14) 18 3834)) c n))) rfl rfl h4 ?_
    refine q_RP_seg (g2 := (75, [(0, .ref 64)], [], (q_kM (q_sA (q_sA s 14 (upd (s.1 14) 18 3834)) 15 (upd (s.1 15) 6 (vp_nar .boolean 0))) c n))) 5 (fun _ _ => rfl) ?_
    exact (dzt_M277_64_75 c n (q_sA (q_sA s 14 (upd (s.1 14) 18 3834)) 15 (upd (s.1 15) 6 (vp_nar .boolean 0))))
def dz_M255_64 (s : q_S) (a1 : Int32) : Option (q_S) :=
  cond (q_in ((256 : Int32) + ((s.1 14) 3)) 4096) (some (q_sA (q_sA s 1 (upd (s.1 1) (((256 : Int32) + ((s.1 14) 3)).toNatClampNeg) a1)) 14 (upd (s.1 14) 3 ((((s.1 14) 3) + 255) - (((s.1 14) 3) + 255) / 256 * 256)))) none
set_option maxHeartbeats 4000000 in
theorem dzt_M255_64 (s : q_S) (c n : Nat) (a1 : Int32) (x : q_S) (h : dz_M255_64 s a1 = some x) : q_Ca q_TB0 1 254 [.ref 64, .int a1] (q_kM s c n) ((q_oSM c n) x) := by
  refine q_CaP_of (φ := (q_oSM c n)) (Nat.le_of_ble_eq_true rfl) ?_ h
  clear h
  unfold dz_M255_64
  refine q_RP_seg (g2 := (13, [(0, .ref 64), (1, .int a1)], [.int ((s.1 14) 3), .int 256, .ref 65], (q_kM s c n))) 7 (fun _ _ => rfl) ?_
  refine q_RP_seg (g2 := (15, [(0, .ref 64), (1, .int a1)], [.int a1, .int ((256 : Int32) + ((s.1 14) 3)), .ref 65], (q_kM s c n))) 2 (fun _ _ => rfl) ?_
  refine q_RP_as fun i1 => ?_
  refine q_RP_rsT (g2 := (16, [(0, .ref 64), (1, .int a1)], [], (q_kM (q_sA s 1 (upd (s.1 1) (((256 : Int32) + ((s.1 14) 3)).toNatClampNeg) a1)) c n))) rfl q_wM1 i1 ?_
  refine q_RP_seg (g2 := (27, [(0, .ref 64), (1, .int a1)], [.int ((s.1 14) 3), .int 3, .ref 78], (q_kM (q_sA s 1 (upd (s.1 1) (((256 : Int32) + ((s.1 14) 3)).toNatClampNeg) a1)) c n))) 7 (fun _ _ => rfl) ?_
  refine q_RP_seg (g2 := (36, [(0, .ref 64), (1, .int a1)], [], (q_kM (q_sA (q_sA s 1 (upd (s.1 1) (((256 : Int32) + ((s.1 14) 3)).toNatClampNeg) a1)) 14 (upd (s.1 14) 3 ((((s.1 14) 3) + 255) - (((s.1 14) 3) + 255) / 256 * 256))) c n))) 5 (fun _ _ => rfl) ?_
  exact q_RP_ret rfl rfl rfl
def dz_M257_64 (s : q_S) (a1 : Int32) (a2 : Int32) : Option (Int32) :=
  cond (q_in a1 8) (cond (decide ((s.1 15) (a1.toNatClampNeg) = 0)) (some 0) (some a2)) none
set_option maxHeartbeats 4000000 in
theorem dzt_M257_64 (s : q_S) (c n : Nat) (a1 : Int32) (a2 : Int32) (x : Int32) (h : dz_M257_64 s a1 a2 = some x) : q_Ca q_TB0 1 256 [.ref 64, .int a1, .int a2] (q_kM s c n) ((q_oP (q_kM s c n)) x) := by
  refine q_CaP_of (φ := (q_oP (q_kM s c n))) (Nat.le_of_ble_eq_true rfl) ?_ h
  clear h
  unfold dz_M257_64
  refine q_RP_seg (g2 := (5, [(0, .ref 64), (1, .int a1), (2, .int a2)], [.int a1, .ref 79], (q_kM s c n))) 3 (fun _ _ => rfl) ?_
  refine q_RP_as fun i1 => ?_
  refine q_RP_rsT (g2 := (6, [(0, .ref 64), (1, .int a1), (2, .int a2)], [.int ((s.1 15) (a1.toNatClampNeg))], (q_kM s c n))) rfl rfl i1 ?_
  cases h2 : decide ((s.1 15) (a1.toNatClampNeg) = 0) with
  | true =>
    refine q_RP_cT ?_
    refine q_RP_rsT (g2 := (13, [(0, .ref 64), (1, .int a1), (2, .int a2)], [], (q_kM s c n))) rfl rfl h2 ?_
    refine q_RP_seg (g2 := (14, [(0, .ref 64), (1, .int a1), (2, .int a2)], [.int 0], (q_kM s c n))) 1 (fun _ _ => rfl) ?_
    exact q_RP_ret rfl rfl rfl
  | false =>
    refine q_RP_cF ?_
    refine q_RP_rsF (g2 := (9, [(0, .ref 64), (1, .int a1), (2, .int a2)], [], (q_kM s c n))) rfl rfl h2 ?_
    refine q_RP_seg (g2 := (14, [(0, .ref 64), (1, .int a1), (2, .int a2)], [.int a2], (q_kM s c n))) 2 (fun _ _ => rfl) ?_
    exact q_RP_ret rfl rfl rfl
def dz_M258_64 (s : q_S) (a1 : Int32) : Option (Int32) :=
  (dz_M257_64 s 5 1).bind fun r2 => (dz_M257_64 s 4 2).bind fun r3 => (dz_M257_64 s 3 4).bind fun r4 => (dz_M257_64 s 2 8).bind fun r5 => (dz_M257_64 s 1 64).bind fun r6 => (dz_M257_64 s 0 128).bind fun r7 => some (((((((r2 + r3) + r4) + r5) + a1) + 32) + r6) + r7)
set_option maxHeartbeats 4000000 in
theorem dzt_M258_64 (s : q_S) (c n : Nat) (a1 : Int32) (x : Int32) (h : dz_M258_64 s a1 = some x) : q_Ca q_TB0 2 257 [.ref 64, .int a1] (q_kM s c n) ((q_oP (q_kM s c n)) x) := by
  refine q_CaP_of (φ := (q_oP (q_kM s c n))) (Nat.le_of_ble_eq_true rfl) ?_ h
  clear h
  unfold dz_M258_64
  refine q_RP_seg (g2 := (3, [(0, .ref 64), (1, .int a1)], [.int 1, .int 5, .ref 64], (q_kM s c n))) 3 (fun _ _ => rfl) ?_
  refine q_RP_bd fun r2 er2 => ?_
  refine q_RP_call (v := (some (.int r2))) (h2 := (q_kM s c n)) rfl rfl ((dzt_M257_64 s c n 5 1 r2 er2).le (Nat.le_of_ble_eq_true rfl)) ?_
  show q_RP _ _ _ (6, [(0, .ref 64), (1, .int a1)], [.int r2], (q_kM s c n)) _ _
  refine q_RP_seg (g2 := (9, [(0, .ref 64), (1, .int a1)], [.int 2, .int 4, .ref 64, .int r2], (q_kM s c n))) 3 (fun _ _ => rfl) ?_
  refine q_RP_bd fun r3 er3 => ?_
  refine q_RP_call (v := (some (.int r3))) (h2 := (q_kM s c n)) rfl rfl ((dzt_M257_64 s c n 4 2 r3 er3).le (Nat.le_of_ble_eq_true rfl)) ?_
  show q_RP _ _ _ (12, [(0, .ref 64), (1, .int a1)], [.int r3, .int r2], (q_kM s c n)) _ _
  refine q_RP_seg (g2 := (16, [(0, .ref 64), (1, .int a1)], [.int 4, .int 3, .ref 64, .int (r2 + r3)], (q_kM s c n))) 4 (fun _ _ => rfl) ?_
  refine q_RP_bd fun r4 er4 => ?_
  refine q_RP_call (v := (some (.int r4))) (h2 := (q_kM s c n)) rfl rfl ((dzt_M257_64 s c n 3 4 r4 er4).le (Nat.le_of_ble_eq_true rfl)) ?_
  show q_RP _ _ _ (19, [(0, .ref 64), (1, .int a1)], [.int r4, .int (r2 + r3)], (q_kM s c n)) _ _
  refine q_RP_seg (g2 := (24, [(0, .ref 64), (1, .int a1)], [.int 8, .int 2, .ref 64, .int ((r2 + r3) + r4)], (q_kM s c n))) 4 (fun _ _ => rfl) ?_
  refine q_RP_bd fun r5 er5 => ?_
  refine q_RP_call (v := (some (.int r5))) (h2 := (q_kM s c n)) rfl rfl ((dzt_M257_64 s c n 2 8 r5 er5).le (Nat.le_of_ble_eq_true rfl)) ?_
  show q_RP _ _ _ (27, [(0, .ref 64), (1, .int a1)], [.int r5, .int ((r2 + r3) + r4)], (q_kM s c n)) _ _
  refine q_RP_seg (g2 := (37, [(0, .ref 64), (1, .int a1)], [.int 64, .int 1, .ref 64, .int (((((r2 + r3) + r4) + r5) + a1) + 32)], (q_kM s c n))) 8 (fun _ _ => rfl) ?_
  refine q_RP_bd fun r6 er6 => ?_
  refine q_RP_call (v := (some (.int r6))) (h2 := (q_kM s c n)) rfl rfl ((dzt_M257_64 s c n 1 64 r6 er6).le (Nat.le_of_ble_eq_true rfl)) ?_
  show q_RP _ _ _ (40, [(0, .ref 64), (1, .int a1)], [.int r6, .int (((((r2 + r3) + r4) + r5) + a1) + 32)], (q_kM s c n)) _ _
  refine q_RP_seg (g2 := (46, [(0, .ref 64), (1, .int a1)], [.int 128, .int 0, .ref 64, .int ((((((r2 + r3) + r4) + r5) + a1) + 32) + r6)], (q_kM s c n))) 4 (fun _ _ => rfl) ?_
  refine q_RP_bd fun r7 er7 => ?_
  refine q_RP_call (v := (some (.int r7))) (h2 := (q_kM s c n)) rfl rfl ((dzt_M257_64 s c n 0 128 r7 er7).le (Nat.le_of_ble_eq_true rfl)) ?_
  show q_RP _ _ _ (49, [(0, .ref 64), (1, .int a1)], [.int r7, .int ((((((r2 + r3) + r4) + r5) + a1) + 32) + r6)], (q_kM s c n)) _ _
  refine q_RP_seg (g2 := (50, [(0, .ref 64), (1, .int a1)], [.int (((((((r2 + r3) + r4) + r5) + a1) + 32) + r6) + r7)], (q_kM s c n))) 1 (fun _ _ => rfl) ?_
  exact q_RP_ret rfl rfl rfl
def dz_M260_64 (s : q_S) (a1 : Int32) (a2 : Int32) (a3 : Int32) : Option (q_S) :=
  (dz_M255_64 s (a2 / 256)).bind fun r2 => (dz_M255_64 r2 (a2 - a2 / 256 * 256)).bind fun r3 => (dz_M258_64 r3 a3).bind fun r4 => (dz_M255_64 r3 r4).bind fun r5 => (dz_M248_64 (q_sA r5 15 (upd (r5.1 15) 3 (vp_nar .boolean 1))) a1).bind fun r6 => some (q_sA r6.1 14 (upd (r6.1.1 14) 4 r6.2))
set_option maxHeartbeats 4000000 in
theorem dzt_M260_64 (s : q_S) (c n : Nat) (a1 : Int32) (a2 : Int32) (a3 : Int32) (x : q_S) (h : dz_M260_64 s a1 a2 a3 = some x) : q_Ca q_TB0 7 259 [.ref 64, .int a1, .int a2, .int a3] (q_kM s c n) ((q_oSM c n) x) := by
  refine q_CaP_of (φ := (q_oSM c n)) (Nat.le_of_ble_eq_true rfl) ?_ h
  clear h
  unfold dz_M260_64
  refine q_RP_seg (g2 := (6, [(0, .ref 64), (1, .int a1), (2, .int a2), (3, .int a3)], [.int (a2 / 256), .ref 64], (q_kM s c n))) 4 (fun _ _ => rfl) ?_
  refine q_RP_bd fun r2 er2 => ?_
  refine q_RP_call (v := none) (h2 := (q_kM r2 c n)) rfl rfl ((dzt_M255_64 s c n (a2 / 256) r2 er2).le (Nat.le_of_ble_eq_true rfl)) ?_
  show q_RP _ _ _ (9, [(0, .ref 64), (1, .int a1), (2, .int a2), (3, .int a3)], [], (q_kM r2 c n)) _ _
  refine q_RP_seg (g2 := (15, [(0, .ref 64), (1, .int a1), (2, .int a2), (3, .int a3)], [.int (a2 - a2 / 256 * 256), .ref 64], (q_kM r2 c n))) 4 (fun _ _ => rfl) ?_
  refine q_RP_bd fun r3 er3 => ?_
  refine q_RP_call (v := none) (h2 := (q_kM r3 c n)) rfl rfl ((dzt_M255_64 r2 c n (a2 - a2 / 256 * 256) r3 er3).le (Nat.le_of_ble_eq_true rfl)) ?_
  show q_RP _ _ _ (18, [(0, .ref 64), (1, .int a1), (2, .int a2), (3, .int a3)], [], (q_kM r3 c n)) _ _
  refine q_RP_seg (g2 := (21, [(0, .ref 64), (1, .int a1), (2, .int a2), (3, .int a3)], [.int a3, .ref 64, .ref 64], (q_kM r3 c n))) 3 (fun _ _ => rfl) ?_
  refine q_RP_bd fun r4 er4 => ?_
  refine q_RP_call (v := (some (.int r4))) (h2 := (q_kM r3 c n)) rfl rfl ((dzt_M258_64 r3 c n a3 r4 er4).le (Nat.le_of_ble_eq_true rfl)) ?_
  show q_RP _ _ _ (24, [(0, .ref 64), (1, .int a1), (2, .int a2), (3, .int a3)], [.int r4, .ref 64], (q_kM r3 c n)) _ _
  refine q_RP_bd fun r5 er5 => ?_
  refine q_RP_call (v := none) (h2 := (q_kM r5 c n)) rfl rfl ((dzt_M255_64 r3 c n r4 r5 er5).le (Nat.le_of_ble_eq_true rfl)) ?_
  show q_RP _ _ _ (27, [(0, .ref 64), (1, .int a1), (2, .int a2), (3, .int a3)], [], (q_kM r5 c n)) _ _
  refine q_RP_seg (g2 := (41, [(0, .ref 64), (1, .int a1), (2, .int a2), (3, .int a3)], [.int a1, .ref 64, .int 4, .ref 78], (q_kM (q_sA r5 15 (upd (r5.1 15) 3 (vp_nar .boolean 1))) c n))) 10 (fun _ _ => rfl) ?_
  refine q_RP_bd fun r6 er6 => ?_
  refine q_RP_call (v := (some (.int r6.2))) (h2 := (q_kM r6.1 c n)) rfl rfl ((dzt_M248_64 (q_sA r5 15 (upd (r5.1 15) 3 (vp_nar .boolean 1))) c n a1 r6 er6).le (Nat.le_of_ble_eq_true rfl)) ?_
  show q_RP _ _ _ (44, [(0, .ref 64), (1, .int a1), (2, .int a2), (3, .int a3)], [.int r6.2, .int 4, .ref 78], (q_kM r6.1 c n)) _ _
  refine q_RP_seg (g2 := (45, [(0, .ref 64), (1, .int a1), (2, .int a2), (3, .int a3)], [], (q_kM (q_sA r6.1 14 (upd (r6.1.1 14) 4 r6.2)) c n))) 1 (fun _ _ => rfl) ?_
  exact q_RP_ret rfl rfl rfl
def dz_M256_64 (s : q_S) : Option (q_S × Int32) :=
  cond (q_in ((256 : Int32) + ((upd (s.1 14) 3 ((((s.1 14) 3) + 1) - (((s.1 14) 3) + 1) / 256 * 256)) 3)) 4096) (some ((q_sA s 14 (upd (s.1 14) 3 ((((s.1 14) 3) + 1) - (((s.1 14) 3) + 1) / 256 * 256))), ((s.1 1) (((256 : Int32) + ((upd (s.1 14) 3 ((((s.1 14) 3) + 1) - (((s.1 14) 3) + 1) / 256 * 256)) 3)).toNatClampNeg)))) none
set_option maxHeartbeats 4000000 in
theorem dzt_M256_64 (s : q_S) (c n : Nat) (x : q_S × Int32) (h : dz_M256_64 s = some x) : q_Ca q_TB0 1 255 [.ref 64] (q_kM s c n) ((q_oIM c n) x) := by
  refine q_CaP_of (φ := (q_oIM c n)) (Nat.le_of_ble_eq_true rfl) ?_ h
  clear h
  unfold dz_M256_64
  refine q_RP_seg (g2 := (11, [(0, .ref 64)], [.int ((s.1 14) 3), .int 3, .ref 78], (q_kM s c n))) 7 (fun _ _ => rfl) ?_
  refine q_RP_seg (g2 := (31, [(0, .ref 64)], [.int ((upd (s.1 14) 3 ((((s.1 14) 3) + 1) - (((s.1 14) 3) + 1) / 256 * 256)) 3), .int 256, .ref 65], (q_kM (q_sA s 14 (upd (s.1 14) 3 ((((s.1 14) 3) + 1) - (((s.1 14) 3) + 1) / 256 * 256))) c n))) 12 (fun _ _ => rfl) ?_
  refine q_RP_seg (g2 := (32, [(0, .ref 64)], [.int ((256 : Int32) + ((upd (s.1 14) 3 ((((s.1 14) 3) + 1) - (((s.1 14) 3) + 1) / 256 * 256)) 3)), .ref 65], (q_kM (q_sA s 14 (upd (s.1 14) 3 ((((s.1 14) 3) + 1) - (((s.1 14) 3) + 1) / 256 * 256))) c n))) 1 (fun _ _ => rfl) ?_
  refine q_RP_as fun i1 => ?_
  refine q_RP_rsT (g2 := (33, [(0, .ref 64)], [.int ((s.1 1) (((256 : Int32) + ((upd (s.1 14) 3 ((((s.1 14) 3) + 1) - (((s.1 14) 3) + 1) / 256 * 256)) 3)).toNatClampNeg))], (q_kM (q_sA s 14 (upd (s.1 14) 3 ((((s.1 14) 3) + 1) - (((s.1 14) 3) + 1) / 256 * 256))) c n))) rfl rfl i1 ?_
  exact q_RP_ret rfl rfl rfl
end
section
-- 47.mc
def dz_M259_64 (s : q_S) (a1 : Int32) : q_S :=
  q_let (dz_M206 s a1 0) fun r1 => cond r1 (q_let (dz_M206 (q_sA s 15 (upd (s.1 15) 5 (vp_nar .boolean 1))) a1 1) fun r2 => cond r2 (q_let ((q_sA s 15 (upd (s.1 15) 5 (vp_nar .boolean 1)))) fun r3 => q_let (dz_M206 (q_sA r3 15 (upd (r3.1 15) 4 (vp_nar .boolean 1))) a1 2) fun r4 => cond r4 (q_let ((q_sA r3 15 (upd (r3.1 15) 4 (vp_nar .boolean 1)))) fun r5 => q_let (dz_M206 (q_sA r5 15 (upd (r5.1 15) 3 (vp_nar .boolean 1))) a1 3) fun r6 => cond r6 (q_let ((q_sA r5 15 (upd (r5.1 15) 3 (vp_nar .boolean 1)))) fun r7 => q_let (dz_M206 (q_sA r7 15 (upd (r7.1 15) 2 (vp_nar .boolean 1))) a1 6) fun r8 => cond r8 (q_let ((q_sA r7 15 (upd (r7.1 15) 2 (vp_nar .boolean 1)))) fun r9 => q_let (dz_M206 (q_sA r9 15 (upd (r9.1 15) 1 (vp_nar .boolean 1))) a1 7) fun r10 => cond r10 (q_let ((q_sA r9 15 (upd (r9.1 15) 1 (vp_nar .boolean 1)))) fun r11 => (q_sA r11 15 (upd (r11.1 15) 0 (vp_nar .boolean 1)))) (q_let ((q_sA r9 15 (upd (r9.1 15) 1 (vp_nar .boolean 1)))) fun r12 => (q_sA r12 15 (upd (r12.1 15) 0 (vp_nar .boolean 0))))) (q_let ((q_sA r7 15 (upd (r7.1 15) 2 (vp_nar .boolean 1)))) fun r13 => q_let (dz_M206 (q_sA r13 15 (upd (r13.1 15) 1 (vp_nar .boolean 0))) a1 7) fun r14 => cond r14 (q_let ((q_sA r13 15 (upd (r13.1 15) 1 (vp_nar .boolean 0)))) fun r15 => (q_sA r15 15 (upd (r15.1 15) 0 (vp_nar .boolean 1)))) (q_let ((q_sA r13 15 (upd (r13.1 15) 1 (vp_nar .boolean 0)))) fun r16 => (q_sA r16 15 (upd (r16.1 15) 0 (vp_nar .boolean 0)))))) (q_let ((q_sA r5 15 (upd (r5.1 15) 3 (vp_nar .boolean 1)))) fun r17 => q_let (dz_M206 (q_sA r17 15 (upd (r17.1 15) 2 (vp_nar .boolean 0))) a1 6) fun r18 => cond r18 (q_let ((q_sA r17 15 (upd (r17.1 15) 2 (vp_nar .boolean 0)))) fun r19 => q_let (dz_M206 (q_sA r19 15 (upd (r19.1 15) 1 (vp_nar .boolean 1))) a1 7) fun r20 => cond r20 (q_let ((q_sA r19 15 (upd (r19.1 15) 1 (vp_nar .boolean 1)))) fun r21 => (q_sA r21 15 (upd (r21.1 15) 0 (vp_nar .boolean 1)))) (q_let ((q_sA r19 15 (upd (r19.1 15) 1 (vp_nar .boolean 1)))) fun r22 => (q_sA r22 15 (upd (r22.1 15) 0 (vp_nar .boolean 0))))) (q_let ((q_sA r17 15 (upd (r17.1 15) 2 (vp_nar .boolean 0)))) fun r23 => q_let (dz_M206 (q_sA r23 15 (upd (r23.1 15) 1 (vp_nar .boolean 0))) a1 7) fun r24 => cond r24 (q_let ((q_sA r23 15 (upd (r23.1 15) 1 (vp_nar .boolean 0)))) fun r25 => (q_sA r25 15 (upd (r25.1 15) 0 (vp_nar .boolean 1)))) (q_let ((q_sA r23 15 (upd (r23.1 15) 1 (vp_nar .boolean 0)))) fun r26 => (q_sA r26 15 (upd (r26.1 15) 0 (vp_nar .boolean 0))))))) (q_let ((q_sA r3 15 (upd (r3.1 15) 4 (vp_nar .boolean 1)))) fun r27 => q_let (dz_M206 (q_sA r27 15 (upd (r27.1 15) 3 (vp_nar .boolean 0))) a1 3) fun r28 => cond r28 (q_let ((q_sA r27 15 (upd (r27.1 15) 3 (vp_nar .boolean 0)))) fun r29 => q_let (dz_M206 (q_sA r29 15 (upd (r29.1 15) 2 (vp_nar .boolean 1))) a1 6) fun r30 => cond r30 (q_let ((q_sA r29 15 (upd (r29.1 15) 2 (vp_nar .boolean 1)))) fun r31 => q_let (dz_M206 (q_sA r31 15 (upd (r31.1 15) 1 (vp_nar .boolean 1))) a1 7) fun r32 => cond r32 (q_let ((q_sA r31 15 (upd (r31.1 15) 1 (vp_nar .boolean 1)))) fun r33 => (q_sA r33 15 (upd (r33.1 15) 0 (vp_nar .boolean 1)))) (q_let ((q_sA r31 15 (upd (r31.1 15) 1 (vp_nar .boolean 1)))) fun r34 => (q_sA r34 15 (upd (r34.1 15) 0 (vp_nar .boolean 0))))) (q_let ((q_sA r29 15 (upd (r29.1 15) 2 (vp_nar .boolean 1)))) fun r35 => q_let (dz_M206 (q_sA r35 15 (upd (r35.1 15) 1 (vp_nar .boolean 0))) a1 7) fun r36 => cond r36 (q_let ((q_sA r35 15 (upd (r35.1 15) 1 (vp_nar .boolean 0)))) fun r37 => (q_sA r37 15 (upd (r37.1 15) 0 (vp_nar .boolean 1)))) (q_let ((q_sA r35 15 (upd (r35.1 15) 1 (vp_nar .boolean 0)))) fun r38 => (q_sA r38 15 (upd (r38.1 15) 0 (vp_nar .boolean 0)))))) (q_let ((q_sA r27 15 (upd (r27.1 15) 3 (vp_nar .boolean 0)))) fun r39 => q_let (dz_M206 (q_sA r39 15 (upd (r39.1 15) 2 (vp_nar .boolean 0))) a1 6) fun r40 => cond r40 (q_let ((q_sA r39 15 (upd (r39.1 15) 2 (vp_nar .boolean 0)))) fun r41 => q_let (dz_M206 (q_sA r41 15 (upd (r41.1 15) 1 (vp_nar .boolean 1))) a1 7) fun r42 => cond r42 (q_let ((q_sA r41 15 (upd (r41.1 15) 1 (vp_nar .boolean 1)))) fun r43 => (q_sA r43 15 (upd (r43.1 15) 0 (vp_nar .boolean 1)))) (q_let ((q_sA r41 15 (upd (r41.1 15) 1 (vp_nar .boolean 1)))) fun r44 => (q_sA r44 15 (upd (r44.1 15) 0 (vp_nar .boolean 0))))) (q_let ((q_sA r39 15 (upd (r39.1 15) 2 (vp_nar .boolean 0)))) fun r45 => q_let (dz_M206 (q_sA r45 15 (upd (r45.1 15) 1 (vp_nar .boolean 0))) a1 7) fun r46 => cond r46 (q_let ((q_sA r45 15 (upd (r45.1 15) 1 (vp_nar .boolean 0)))) fun r47 => (q_sA r47 15 (upd (r47.1 15) 0 (vp_nar .boolean 1)))) (q_let ((q_sA r45 15 (upd (r45.1 15) 1 (vp_nar .boolean 0)))) fun r48 => (q_sA r48 15 (upd (r48.1 15) 0 (vp_nar .boolean 0)))))))) (q_let ((q_sA s 15 (upd (s.1 15) 5 (vp_nar .boolean 1)))) fun r49 => q_let (dz_M206 (q_sA r49 15 (upd (r49.1 15) 4 (vp_nar .boolean 0))) a1 2) fun r50 => cond r50 (q_let ((q_sA r49 15 (upd (r49.1 15) 4 (vp_nar .boolean 0)))) fun r51 => q_let (dz_M206 (q_sA r51 15 (upd (r51.1 15) 3 (vp_nar .boolean 1))) a1 3) fun r52 => cond r52 (q_let ((q_sA r51 15 (upd (r51.1 15) 3 (vp_nar .boolean 1)))) fun r53 => q_let (dz_M206 (q_sA r53 15 (upd (r53.1 15) 2 (vp_nar .boolean 1))) a1 6) fun r54 => cond r54 (q_let ((q_sA r53 15 (upd (r53.1 15) 2 (vp_nar .boolean 1)))) fun r55 => q_let (dz_M206 (q_sA r55 15 (upd (r55.1 15) 1 (vp_nar .boolean 1))) a1 7) fun r56 => cond r56 (q_let ((q_sA r55 15 (upd (r55.1 15) 1 (vp_nar .boolean 1)))) fun r57 => (q_sA r57 15 (upd (r57.1 15) 0 (vp_nar .boolean 1)))) (q_let ((q_sA r55 15 (upd (r55.1 15) 1 (vp_nar .boolean 1)))) fun r58 => (q_sA r58 15 (upd (r58.1 15) 0 (vp_nar .boolean 0))))) (q_let ((q_sA r53 15 (upd (r53.1 15) 2 (vp_nar .boolean 1)))) fun r59 => q_let (dz_M206 (q_sA r59 15 (upd (r59.1 15) 1 (vp_nar .boolean 0))) a1 7) fun r60 => cond r60 (q_let ((q_sA r59 15 (upd (r59.1 15) 1 (vp_nar .boolean 0)))) fun r61 => (q_sA r61 15 (upd (r61.1 15) 0 (vp_nar .boolean 1)))) (q_let ((q_sA r59 15 (upd (r59.1 15) 1 (vp_nar .boolean 0)))) fun r62 => (q_sA r62 15 (upd (r62.1 15) 0 (vp_nar .boolean 0)))))) (q_let ((q_sA r51 15 (upd (r51.1 15) 3 (vp_nar .boolean 1)))) fun r63 => q_let (dz_M206 (q_sA r63 15 (upd (r63.1 15) 2 (vp_nar .boolean 0))) a1 6) fun r64 => cond r64 (q_let ((q_sA r63 15 (upd (r63.1 15) 2 (vp_nar .boolean 0)))) fun r65 => q_let (dz_M206 (q_sA r65 15 (upd (r65.1 15) 1 (vp_nar .boolean 1))) a1 7) fun r66 => cond r66 (q_let ((q_sA r65 15 (upd (r65.1 15) 1 (vp_nar .boolean 1)))) fun r67 => (q_sA r67 15 (upd (r67.1 15) 0 (vp_nar .boolean 1)))) (q_let ((q_sA r65 15 (upd (r65.1 15) 1 (vp_nar .boolean 1)))) fun r68 => (q_sA r68 15 (upd (r68.1 15) 0 (vp_nar .boolean 0))))) (q_let ((q_sA r63 15 (upd (r63.1 15) 2 (vp_nar .boolean 0)))) fun r69 => q_let (dz_M206 (q_sA r69 15 (upd (r69.1 15) 1 (vp_nar .boolean 0))) a1 7) fun r70 => cond r70 (q_let ((q_sA r69 15 (upd (r69.1 15) 1 (vp_nar .boolean 0)))) fun r71 => (q_sA r71 15 (upd (r71.1 15) 0 (vp_nar .boolean 1)))) (q_let ((q_sA r69 15 (upd (r69.1 15) 1 (vp_nar .boolean 0)))) fun r72 => (q_sA r72 15 (upd (r72.1 15) 0 (vp_nar .boolean 0))))))) (q_let ((q_sA r49 15 (upd (r49.1 15) 4 (vp_nar .boolean 0)))) fun r73 => q_let (dz_M206 (q_sA r73 15 (upd (r73.1 15) 3 (vp_nar .boolean 0))) a1 3) fun r74 => cond r74 (q_let ((q_sA r73 15 (upd (r73.1 15) 3 (vp_nar .boolean 0)))) fun r75 => q_let (dz_M206 (q_sA r75 15 (upd (r75.1 15) 2 (vp_nar .boolean 1))) a1 6) fun r76 => cond r76 (q_let ((q_sA r75 15 (upd (r75.1 15) 2 (vp_nar .boolean 1)))) fun r77 => q_let (dz_M206 (q_sA r77 15 (upd (r77.1 15) 1 (vp_nar .boolean 1))) a1 7) fun r78 => cond r78 (q_let ((q_sA r77 15 (upd (r77.1 15) 1 (vp_nar .boolean 1)))) fun r79 => (q_sA r79 15 (upd (r79.1 15) 0 (vp_nar .boolean 1)))) (q_let ((q_sA r77 15 (upd (r77.1 15) 1 (vp_nar .boolean 1)))) fun r80 => (q_sA r80 15 (upd (r80.1 15) 0 (vp_nar .boolean 0))))) (q_let ((q_sA r75 15 (upd (r75.1 15) 2 (vp_nar .boolean 1)))) fun r81 => q_let (dz_M206 (q_sA r81 15 (upd (r81.1 15) 1 (vp_nar .boolean 0))) a1 7) fun r82 => cond r82 (q_let ((q_sA r81 15 (upd (r81.1 15) 1 (vp_nar .boolean 0)))) fun r83 => (q_sA r83 15 (upd (r83.1 15) 0 (vp_nar .boolean 1)))) (q_let ((q_sA r81 15 (upd (r81.1 15) 1 (vp_nar .boolean 0)))) fun r84 => (q_sA r84 15 (upd (r84.1 15) 0 (vp_nar .boolean 0)))))) (q_let ((q_sA r73 15 (upd (r73.1 15) 3 (vp_nar .boolean 0)))) fun r85 => q_let (dz_M206 (q_sA r85 15 (upd (r85.1 15) 2 (vp_nar .boolean 0))) a1 6) fun r86 => cond r86 (q_let ((q_sA r85 15 (upd (r85.1 15) 2 (vp_nar .boolean 0)))) fun r87 => q_let (dz_M206 (q_sA r87 15 (upd (r87.1 15) 1 (vp_nar .boolean 1))) a1 7) fun r88 => cond r88 (q_let ((q_sA r87 15 (upd (r87.1 15) 1 (vp_nar .boolean 1)))) fun r89 => (q_sA r89 15 (upd (r89.1 15) 0 (vp_nar .boolean 1)))) (q_let ((q_sA r87 15 (upd (r87.1 15) 1 (vp_nar .boolean 1)))) fun r90 => (q_sA r90 15 (upd (r90.1 15) 0 (vp_nar .boolean 0))))) (q_let ((q_sA r85 15 (upd (r85.1 15) 2 (vp_nar .boolean 0)))) fun r91 => q_let (dz_M206 (q_sA r91 15 (upd (r91.1 15) 1 (vp_nar .boolean 0))) a1 7) fun r92 => cond r92 (q_let ((q_sA r91 15 (upd (r91.1 15) 1 (vp_nar .boolean 0)))) fun r93 => (q_sA r93 15 (upd (r93.1 15) 0 (vp_nar .boolean 1)))) (q_let ((q_sA r91 15 (upd (r91.1 15) 1 (vp_nar .boolean 0)))) fun r94 => (q_sA r94 15 (upd (r94.1 15) 0 (vp_nar .boolean 0))))))))) (q_let (dz_M206 (q_sA s 15 (upd (s.1 15) 5 (vp_nar .boolean 0))) a1 1) fun r95 => cond r95 (q_let ((q_sA s 15 (upd (s.1 15) 5 (vp_nar .boolean 0)))) fun r96 => q_let (dz_M206 (q_sA r96 15 (upd (r96.1 15) 4 (vp_nar .boolean 1))) a1 2) fun r97 => cond r97 (q_let ((q_sA r96 15 (upd (r96.1 15) 4 (vp_nar .boolean 1)))) fun r98 => q_let (dz_M206 (q_sA r98 15 (upd (r98.1 15) 3 (vp_nar .boolean 1))) a1 3) fun r99 => cond r99 (q_let ((q_sA r98 15 (upd (r98.1 15) 3 (vp_nar .boolean 1)))) fun r100 => q_let (dz_M206 (q_sA r100 15 (upd (r100.1 15) 2 (vp_nar .boolean 1))) a1 6) fun r101 => cond r101 (q_let ((q_sA r100 15 (upd (r100.1 15) 2 (vp_nar .boolean 1)))) fun r102 => q_let (dz_M206 (q_sA r102 15 (upd (r102.1 15) 1 (vp_nar .boolean 1))) a1 7) fun r103 => cond r103 (q_let ((q_sA r102 15 (upd (r102.1 15) 1 (vp_nar .boolean 1)))) fun r104 => (q_sA r104 15 (upd (r104.1 15) 0 (vp_nar .boolean 1)))) (q_let ((q_sA r102 15 (upd (r102.1 15) 1 (vp_nar .boolean 1)))) fun r105 => (q_sA r105 15 (upd (r105.1 15) 0 (vp_nar .boolean 0))))) (q_let ((q_sA r100 15 (upd (r100.1 15) 2 (vp_nar .boolean 1)))) fun r106 => q_let (dz_M206 (q_sA r106 15 (upd (r106.1 15) 1 (vp_nar .boolean 0))) a1 7) fun r107 => cond r107 (q_let ((q_sA r106 15 (upd (r106.1 15) 1 (vp_nar .boolean 0)))) fun r108 => (q_sA r108 15 (upd (r108.1 15) 0 (vp_nar .boolean 1)))) (q_let ((q_sA r106 15 (upd (r106.1 15) 1 (vp_nar .boolean 0)))) fun r109 => (q_sA r109 15 (upd (r109.1 15) 0 (vp_nar .boolean 0)))))) (q_let ((q_sA r98 15 (upd (r98.1 15) 3 (vp_nar .boolean 1)))) fun r110 => q_let (dz_M206 (q_sA r110 15 (upd (r110.1 15) 2 (vp_nar .boolean 0))) a1 6) fun r111 => cond r111 (q_let ((q_sA r110 15 (upd (r110.1 15) 2 (vp_nar .boolean 0)))) fun r112 => q_let (dz_M206 (q_sA r112 15 (upd (r112.1 15) 1 (vp_nar .boolean 1))) a1 7) fun r113 => cond r113 (q_let ((q_sA r112 15 (upd (r112.1 15) 1 (vp_nar .boolean 1)))) fun r114 => (q_sA r114 15 (upd (r114.1 15) 0 (vp_nar .boolean 1)))) (q_let ((q_sA r112 15 (upd (r112.1 15) 1 (vp_nar .boolean 1)))) fun r115 => (q_sA r115 15 (upd (r115.1 15) 0 (vp_nar .boolean 0))))) (q_let ((q_sA r110 15 (upd (r110.1 15) 2 (vp_nar .boolean 0)))) fun r116 => q_let (dz_M206 (q_sA r116 15 (upd (r116.1 15) 1 (vp_nar .boolean 0))) a1 7) fun r117 => cond r117 (q_let ((q_sA r116 15 (upd (r116.1 15) 1 (vp_nar .boolean 0)))) fun r118 => (q_sA r118 15 (upd (r118.1 15) 0 (vp_nar .boolean 1)))) (q_let ((q_sA r116 15 (upd (r116.1 15) 1 (vp_nar .boolean 0)))) fun r119 => (q_sA r119 15 (upd (r119.1 15) 0 (vp_nar .boolean 0))))))) (q_let ((q_sA r96 15 (upd (r96.1 15) 4 (vp_nar .boolean 1)))) fun r120 => q_let (dz_M206 (q_sA r120 15 (upd (r120.1 15) 3 (vp_nar .boolean 0))) a1 3) fun r121 => cond r121 (q_let ((q_sA r120 15 (upd (r120.1 15) 3 (vp_nar .boolean 0)))) fun r122 => q_let (dz_M206 (q_sA r122 15 (upd (r122.1 15) 2 (vp_nar .boolean 1))) a1 6) fun r123 => cond r123 (q_let ((q_sA r122 15 (upd (r122.1 15) 2 (vp_nar .boolean 1)))) fun r124 => q_let (dz_M206 (q_sA r124 15 (upd (r124.1 15) 1 (vp_nar .boolean 1))) a1 7) fun r125 => cond r125 (q_let ((q_sA r124 15 (upd (r124.1 15) 1 (vp_nar .boolean 1)))) fun r126 => (q_sA r126 15 (upd (r126.1 15) 0 (vp_nar .boolean 1)))) (q_let ((q_sA r124 15 (upd (r124.1 15) 1 (vp_nar .boolean 1)))) fun r127 => (q_sA r127 15 (upd (r127.1 15) 0 (vp_nar .boolean 0))))) (q_let ((q_sA r122 15 (upd (r122.1 15) 2 (vp_nar .boolean 1)))) fun r128 => q_let (dz_M206 (q_sA r128 15 (upd (r128.1 15) 1 (vp_nar .boolean 0))) a1 7) fun r129 => cond r129 (q_let ((q_sA r128 15 (upd (r128.1 15) 1 (vp_nar .boolean 0)))) fun r130 => (q_sA r130 15 (upd (r130.1 15) 0 (vp_nar .boolean 1)))) (q_let ((q_sA r128 15 (upd (r128.1 15) 1 (vp_nar .boolean 0)))) fun r131 => (q_sA r131 15 (upd (r131.1 15) 0 (vp_nar .boolean 0)))))) (q_let ((q_sA r120 15 (upd (r120.1 15) 3 (vp_nar .boolean 0)))) fun r132 => q_let (dz_M206 (q_sA r132 15 (upd (r132.1 15) 2 (vp_nar .boolean 0))) a1 6) fun r133 => cond r133 (q_let ((q_sA r132 15 (upd (r132.1 15) 2 (vp_nar .boolean 0)))) fun r134 => q_let (dz_M206 (q_sA r134 15 (upd (r134.1 15) 1 (vp_nar .boolean 1))) a1 7) fun r135 => cond r135 (q_let ((q_sA r134 15 (upd (r134.1 15) 1 (vp_nar .boolean 1)))) fun r136 => (q_sA r136 15 (upd (r136.1 15) 0 (vp_nar .boolean 1)))) (q_let ((q_sA r134 15 (upd (r134.1 15) 1 (vp_nar .boolean 1)))) fun r137 => (q_sA r137 15 (upd (r137.1 15) 0 (vp_nar .boolean 0))))) (q_let ((q_sA r132 15 (upd (r132.1 15) 2 (vp_nar .boolean 0)))) fun r138 => q_let (dz_M206 (q_sA r138 15 (upd (r138.1 15) 1 (vp_nar .boolean 0))) a1 7) fun r139 => cond r139 (q_let ((q_sA r138 15 (upd (r138.1 15) 1 (vp_nar .boolean 0)))) fun r140 => (q_sA r140 15 (upd (r140.1 15) 0 (vp_nar .boolean 1)))) (q_let ((q_sA r138 15 (upd (r138.1 15) 1 (vp_nar .boolean 0)))) fun r141 => (q_sA r141 15 (upd (r141.1 15) 0 (vp_nar .boolean 0)))))))) (q_let ((q_sA s 15 (upd (s.1 15) 5 (vp_nar .boolean 0)))) fun r142 => q_let (dz_M206 (q_sA r142 15 (upd (r142.1 15) 4 (vp_nar .boolean 0))) a1 2) fun r143 => cond r143 (q_let ((q_sA r142 15 (upd (r142.1 15) 4 (vp_nar .boolean 0)))) fun r144 => q_let (dz_M206 (q_sA r144 15 (upd (r144.1 15) 3 (vp_nar .boolean 1))) a1 3) fun r145 => cond r145 (q_let ((q_sA r144 15 (upd (r144.1 15) 3 (vp_nar .boolean 1)))) fun r146 => q_let (dz_M206 (q_sA r146 15 (upd (r146.1 15) 2 (vp_nar .boolean 1))) a1 6) fun r147 => cond r147 (q_let ((q_sA r146 15 (upd (r146.1 15) 2 (vp_nar .boolean 1)))) fun r148 => q_let (dz_M206 (q_sA r148 15 (upd (r148.1 15) 1 (vp_nar .boolean 1))) a1 7) fun r149 => cond r149 (q_let ((q_sA r148 15 (upd (r148.1 15) 1 (vp_nar .boolean 1)))) fun r150 => (q_sA r150 15 (upd (r150.1 15) 0 (vp_nar .boolean 1)))) (q_let ((q_sA r148 15 (upd (r148.1 15) 1 (vp_nar .boolean 1)))) fun r151 => (q_sA r151 15 (upd (r151.1 15) 0 (vp_nar .boolean 0))))) (q_let ((q_sA r146 15 (upd (r146.1 15) 2 (vp_nar .boolean 1)))) fun r152 => q_let (dz_M206 (q_sA r152 15 (upd (r152.1 15) 1 (vp_nar .boolean 0))) a1 7) fun r153 => cond r153 (q_let ((q_sA r152 15 (upd (r152.1 15) 1 (vp_nar .boolean 0)))) fun r154 => (q_sA r154 15 (upd (r154.1 15) 0 (vp_nar .boolean 1)))) (q_let ((q_sA r152 15 (upd (r152.1 15) 1 (vp_nar .boolean 0)))) fun r155 => (q_sA r155 15 (upd (r155.1 15) 0 (vp_nar .boolean 0)))))) (q_let ((q_sA r144 15 (upd (r144.1 15) 3 (vp_nar .boolean 1)))) fun r156 => q_let (dz_M206 (q_sA r156 15 (upd (r156.1 15) 2 (vp_nar .boolean 0))) a1 6) fun r157 => cond r157 (q_let ((q_sA r156 15 (upd (r156.1 15) 2 (vp_nar .boolean 0)))) fun r158 => q_let (dz_M206 (q_sA r158 15 (upd (r158.1 15) 1 (vp_nar .boolean 1))) a1 7) fun r159 => cond r159 (q_let ((q_sA r158 15 (upd (r158.1 15) 1 (vp_nar .boolean 1)))) fun r160 => (q_sA r160 15 (upd (r160.1 15) 0 (vp_nar .boolean 1)))) (q_let ((q_sA r158 15 (upd (r158.1 15) 1 (vp_nar .boolean 1)))) fun r161 => (q_sA r161 15 (upd (r161.1 15) 0 (vp_nar .boolean 0))))) (q_let ((q_sA r156 15 (upd (r156.1 15) 2 (vp_nar .boolean 0)))) fun r162 => q_let (dz_M206 (q_sA r162 15 (upd (r162.1 15) 1 (vp_nar .boolean 0))) a1 7) fun r163 => cond r163 (q_let ((q_sA r162 15 (upd (r162.1 15) 1 (vp_nar .boolean 0)))) fun r164 => (q_sA r164 15 (upd (r164.1 15) 0 (vp_nar .boolean 1)))) (q_let ((q_sA r162 15 (upd (r162.1 15) 1 (vp_nar .boolean 0)))) fun r165 => (q_sA r165 15 (upd (r165.1 15) 0 (vp_nar .boolean 0))))))) (q_let ((q_sA r142 15 (upd (r142.1 15) 4 (vp_nar .boolean 0)))) fun r166 => q_let (dz_M206 (q_sA r166 15 (upd (r166.1 15) 3 (vp_nar .boolean 0))) a1 3) fun r167 => cond r167 (q_let ((q_sA r166 15 (upd (r166.1 15) 3 (vp_nar .boolean 0)))) fun r168 => q_let (dz_M206 (q_sA r168 15 (upd (r168.1 15) 2 (vp_nar .boolean 1))) a1 6) fun r169 => cond r169 (q_let ((q_sA r168 15 (upd (r168.1 15) 2 (vp_nar .boolean 1)))) fun r170 => q_let (dz_M206 (q_sA r170 15 (upd (r170.1 15) 1 (vp_nar .boolean 1))) a1 7) fun r171 => cond r171 (q_let ((q_sA r170 15 (upd (r170.1 15) 1 (vp_nar .boolean 1)))) fun r172 => (q_sA r172 15 (upd (r172.1 15) 0 (vp_nar .boolean 1)))) (q_let ((q_sA r170 15 (upd (r170.1 15) 1 (vp_nar .boolean 1)))) fun r173 => (q_sA r173 15 (upd (r173.1 15) 0 (vp_nar .boolean 0))))) (q_let ((q_sA r168 15 (upd (r168.1 15) 2 (vp_nar .boolean 1)))) fun r174 => q_let (dz_M206 (q_sA r174 15 (upd (r174.1 15) 1 (vp_nar .boolean 0))) a1 7) fun r175 => cond r175 (q_let ((q_sA r174 15 (upd (r174.1 15) 1 (vp_nar .boolean 0)))) fun r176 => (q_sA r176 15 (upd (r176.1 15) 0 (vp_nar .boolean 1)))) (q_let ((q_sA r174 15 (upd (r174.1 15) 1 (vp_nar .boolean 0)))) fun r177 => (q_sA r177 15 (upd (r177.1 15) 0 (vp_nar .boolean 0)))))) (q_let ((q_sA r166 15 (upd (r166.1 15) 3 (vp_nar .boolean 0)))) fun r178 => q_let (dz_M206 (q_sA r178 15 (upd (r178.1 15) 2 (vp_nar .boolean 0))) a1 6) fun r179 => cond r179 (q_let ((q_sA r178 15 (upd (r178.1 15) 2 (vp_nar .boolean 0)))) fun r180 => q_let (dz_M206 (q_sA r180 15 (upd (r180.1 15) 1 (vp_nar .boolean 1))) a1 7) fun r181 => cond r181 (q_let ((q_sA r180 15 (upd (r180.1 15) 1 (vp_nar .boolean 1)))) fun r182 => (q_sA r182 15 (upd (r182.1 15) 0 (vp_nar .boolean 1)))) (q_let ((q_sA r180 15 (upd (r180.1 15) 1 (vp_nar .boolean 1)))) fun r183 => (q_sA r183 15 (upd (r183.1 15) 0 (vp_nar .boolean 0))))) (q_let ((q_sA r178 15 (upd (r178.1 15) 2 (vp_nar .boolean 0)))) fun r184 => q_let (dz_M206 (q_sA r184 15 (upd (r184.1 15) 1 (vp_nar .boolean 0))) a1 7) fun r185 => cond r185 (q_let ((q_sA r184 15 (upd (r184.1 15) 1 (vp_nar .boolean 0)))) fun r186 => (q_sA r186 15 (upd (r186.1 15) 0 (vp_nar .boolean 1)))) (q_let ((q_sA r184 15 (upd (r184.1 15) 1 (vp_nar .boolean 0)))) fun r187 => (q_sA r187 15 (upd (r187.1 15) 0 (vp_nar .boolean 0)))))))))
def q_f259 (s : q_S) (k : Nat) (b : Bool) : q_S := q_sA s 15 (upd (s.1 15) k (vp_nar .boolean (q_b b)))
def q_h259_5 (t : q_S) (a1 : Int32) : q_S := q_f259 t 0 (dz_M206 t a1 7)
def q_h259_4 (t : q_S) (a1 : Int32) : q_S := q_h259_5 (q_f259 t 1 (dz_M206 t a1 6)) a1
def q_h259_3 (t : q_S) (a1 : Int32) : q_S := q_h259_4 (q_f259 t 2 (dz_M206 t a1 3)) a1
def q_h259_2 (t : q_S) (a1 : Int32) : q_S := q_h259_3 (q_f259 t 3 (dz_M206 t a1 2)) a1
def q_h259_1 (t : q_S) (a1 : Int32) : q_S := q_h259_2 (q_f259 t 4 (dz_M206 t a1 1)) a1
def q_h259_0 (t : q_S) (a1 : Int32) : q_S := q_h259_1 (q_f259 t 5 (dz_M206 t a1 0)) a1
set_option maxHeartbeats 4000000 in
theorem q_f259e (s : q_S) (a1 : Int32) : dz_M259_64 s a1 = q_h259_0 s a1 := by
  unfold dz_M259_64 q_h259_0 q_h259_1 q_h259_2 q_h259_3 q_h259_4 q_h259_5 dz_M206 q_let
  dsimp only
  generalize cond (decide ((a1 >>> ((0 : Int32) &&& 31)) &&& 1 = 1)) true false = b0
  generalize cond (decide ((a1 >>> ((1 : Int32) &&& 31)) &&& 1 = 1)) true false = b1
  generalize cond (decide ((a1 >>> ((2 : Int32) &&& 31)) &&& 1 = 1)) true false = b2
  generalize cond (decide ((a1 >>> ((3 : Int32) &&& 31)) &&& 1 = 1)) true false = b3
  generalize cond (decide ((a1 >>> ((6 : Int32) &&& 31)) &&& 1 = 1)) true false = b6
  generalize cond (decide ((a1 >>> ((7 : Int32) &&& 31)) &&& 1 = 1)) true false = b7
  cases b0 <;> cases b1 <;> cases b2 <;> cases b3 <;> cases b6 <;> cases b7 <;> rfl
theorem q_T259_5 (t : q_S) (c n : Nat) (a1 : Int32) : q_RT q_TB0 1 258 (64, [(0, .ref 64), (1, .int a1)], [.int 7, .int a1, .int 0, .ref 79], (q_kM t c n)) (q_oSM c n) (q_h259_5 t a1) := by
  unfold q_h259_5
  refine q_RT_call (v := (some (.int (q_b (dz_M206 t a1 7))))) (h2 := (q_kM t c n)) rfl rfl ((dzt_M206 t c n a1 7).le (Nat.le_of_ble_eq_true rfl)) ?_
  generalize dz_M206 t a1 7 = b
  show q_RT _ _ _ (67, [(0, .ref 64), (1, .int a1)], [.int (q_b b), .int 0, .ref 79], (q_kM t c n)) _ _
  refine q_RT_seg (g2 := (68, [(0, .ref 64), (1, .int a1)], [], (q_kM (q_f259 t 0 b) c n))) 1 (fun _ _ => rfl) ?_
  exact q_RT_ret rfl rfl rfl
theorem q_T259_4 (t : q_S) (c n : Nat) (a1 : Int32) : q_RT q_TB0 1 258 (52, [(0, .ref 64), (1, .int a1)], [.int 6, .int a1, .int 1, .ref 79], (q_kM t c n)) (q_oSM c n) (q_h259_4 t a1) := by
  unfold q_h259_4
  refine q_RT_call (v := (some (.int (q_b (dz_M206 t a1 6))))) (h2 := (q_kM t c n)) rfl rfl ((dzt_M206 t c n a1 6).le (Nat.le_of_ble_eq_true rfl)) ?_
  generalize dz_M206 t a1 6 = b
  show q_RT _ _ _ (55, [(0, .ref 64), (1, .int a1)], [.int (q_b b), .int 1, .ref 79], (q_kM t c n)) _ _
  refine q_RT_seg (g2 := (64, [(0, .ref 64), (1, .int a1)], [.int 7, .int a1, .int 0, .ref 79], (q_kM (q_f259 t 1 b) c n))) 6 (fun _ _ => rfl) ?_
  exact q_T259_5 _ c n a1
theorem q_T259_3 (t : q_S) (c n : Nat) (a1 : Int32) : q_RT q_TB0 1 258 (40, [(0, .ref 64), (1, .int a1)], [.int 3, .int a1, .int 2, .ref 79], (q_kM t c n)) (q_oSM c n) (q_h259_3 t a1) := by
  unfold q_h259_3
  refine q_RT_call (v := (some (.int (q_b (dz_M206 t a1 3))))) (h2 := (q_kM t c n)) rfl rfl ((dzt_M206 t c n a1 3).le (Nat.le_of_ble_eq_true rfl)) ?_
  generalize dz_M206 t a1 3 = b
  show q_RT _ _ _ (43, [(0, .ref 64), (1, .int a1)], [.int (q_b b), .int 2, .ref 79], (q_kM t c n)) _ _
  refine q_RT_seg (g2 := (52, [(0, .ref 64), (1, .int a1)], [.int 6, .int a1, .int 1, .ref 79], (q_kM (q_f259 t 2 b) c n))) 6 (fun _ _ => rfl) ?_
  exact q_T259_4 _ c n a1
theorem q_T259_2 (t : q_S) (c n : Nat) (a1 : Int32) : q_RT q_TB0 1 258 (29, [(0, .ref 64), (1, .int a1)], [.int 2, .int a1, .int 3, .ref 79], (q_kM t c n)) (q_oSM c n) (q_h259_2 t a1) := by
  unfold q_h259_2
  refine q_RT_call (v := (some (.int (q_b (dz_M206 t a1 2))))) (h2 := (q_kM t c n)) rfl rfl ((dzt_M206 t c n a1 2).le (Nat.le_of_ble_eq_true rfl)) ?_
  generalize dz_M206 t a1 2 = b
  show q_RT _ _ _ (32, [(0, .ref 64), (1, .int a1)], [.int (q_b b), .int 3, .ref 79], (q_kM t c n)) _ _
  refine q_RT_seg (g2 := (40, [(0, .ref 64), (1, .int a1)], [.int 3, .int a1, .int 2, .ref 79], (q_kM (q_f259 t 3 b) c n))) 6 (fun _ _ => rfl) ?_
  exact q_T259_3 _ c n a1
theorem q_T259_1 (t : q_S) (c n : Nat) (a1 : Int32) : q_RT q_TB0 1 258 (18, [(0, .ref 64), (1, .int a1)], [.int 1, .int a1, .int 4, .ref 79], (q_kM t c n)) (q_oSM c n) (q_h259_1 t a1) := by
  unfold q_h259_1
  refine q_RT_call (v := (some (.int (q_b (dz_M206 t a1 1))))) (h2 := (q_kM t c n)) rfl rfl ((dzt_M206 t c n a1 1).le (Nat.le_of_ble_eq_true rfl)) ?_
  generalize dz_M206 t a1 1 = b
  show q_RT _ _ _ (21, [(0, .ref 64), (1, .int a1)], [.int (q_b b), .int 4, .ref 79], (q_kM t c n)) _ _
  refine q_RT_seg (g2 := (29, [(0, .ref 64), (1, .int a1)], [.int 2, .int a1, .int 3, .ref 79], (q_kM (q_f259 t 4 b) c n))) 6 (fun _ _ => rfl) ?_
  exact q_T259_2 _ c n a1
theorem q_T259_0 (t : q_S) (c n : Nat) (a1 : Int32) : q_RT q_TB0 1 258 (7, [(0, .ref 64), (1, .int a1)], [.int 0, .int a1, .int 5, .ref 79], (q_kM t c n)) (q_oSM c n) (q_h259_0 t a1) := by
  unfold q_h259_0
  refine q_RT_call (v := (some (.int (q_b (dz_M206 t a1 0))))) (h2 := (q_kM t c n)) rfl rfl ((dzt_M206 t c n a1 0).le (Nat.le_of_ble_eq_true rfl)) ?_
  generalize dz_M206 t a1 0 = b
  show q_RT _ _ _ (10, [(0, .ref 64), (1, .int a1)], [.int (q_b b), .int 5, .ref 79], (q_kM t c n)) _ _
  refine q_RT_seg (g2 := (18, [(0, .ref 64), (1, .int a1)], [.int 1, .int a1, .int 4, .ref 79], (q_kM (q_f259 t 5 b) c n))) 6 (fun _ _ => rfl) ?_
  exact q_T259_1 _ c n a1
set_option maxHeartbeats 4000000 in
theorem dzt_M259_64 (s : q_S) (c n : Nat) (a1 : Int32) : q_Ca q_TB0 2 258 [.ref 64, .int a1] (q_kM s c n) ((q_oSM c n) (dz_M259_64 s a1)) := by
  rw [q_f259e]
  refine q_CaT_of (φ := (q_oSM c n)) (Nat.le_of_ble_eq_true rfl) ?_
  refine q_RT_seg (g2 := (7, [(0, .ref 64), (1, .int a1)], [.int 0, .int a1, .int 5, .ref 79], (q_kM s c n))) 5 (fun _ _ => rfl) ?_
  exact q_T259_0 s c n a1
def dz_M274_64 (s : q_S) (a1 : Int32) : Option (q_S × Int32) :=
  (dz_M256_64 s).bind fun r2 => (dz_M256_64 r2.1).bind fun r3 => q_let (dz_M213 r3.1 ((r2.2 + (256 * r3.2)) + a1)) fun r4 => some (r3.1, r4)
set_option maxHeartbeats 4000000 in
theorem dzt_M274_64 (s : q_S) (c n : Nat) (a1 : Int32) (x : q_S × Int32) (h : dz_M274_64 s a1 = some x) : q_Ca q_TB0 2 273 [.ref 64, .int a1] (q_kM s c n) ((q_oIM c n) x) := by
  refine q_CaP_of (φ := (q_oIM c n)) (Nat.le_of_ble_eq_true rfl) ?_ h
  clear h
  unfold dz_M274_64
  refine q_RP_seg (g2 := (1, [(0, .ref 64), (1, .int a1)], [.ref 64], (q_kM s c n))) 1 (fun _ _ => rfl) ?_
  refine q_RP_bd fun r2 er2 => ?_
  refine q_RP_call (v := (some (.int r2.2))) (h2 := (q_kM r2.1 c n)) rfl rfl ((dzt_M256_64 s c n r2 er2).le (Nat.le_of_ble_eq_true rfl)) ?_
  show q_RP _ _ _ (4, [(0, .ref 64), (1, .int a1)], [.int r2.2], (q_kM r2.1 c n)) _ _
  refine q_RP_seg (g2 := (10, [(2, .int r2.2), (0, .ref 64), (1, .int a1)], [.ref 64, .int 256, .int r2.2], (q_kM r2.1 c n))) 4 (fun _ _ => rfl) ?_
  refine q_RP_bd fun r3 er3 => ?_
  refine q_RP_call (v := (some (.int r3.2))) (h2 := (q_kM r3.1 c n)) rfl rfl ((dzt_M256_64 r2.1 c n r3 er3).le (Nat.le_of_ble_eq_true rfl)) ?_
  show q_RP _ _ _ (13, [(2, .int r2.2), (0, .ref 64), (1, .int a1)], [.int r3.2, .int 256, .int r2.2], (q_kM r3.1 c n)) _ _
  refine q_RP_seg (g2 := (17, [(2, .int r2.2), (0, .ref 64), (1, .int a1)], [.int ((r2.2 + (256 * r3.2)) + a1)], (q_kM r3.1 c n))) 4 (fun _ _ => rfl) ?_
  refine q_RP_call (v := (some (.int (dz_M213 r3.1 ((r2.2 + (256 * r3.2)) + a1))))) (h2 := (q_kM r3.1 c n)) rfl rfl ((dzt_M213 r3.1 c n ((r2.2 + (256 * r3.2)) + a1)).le (Nat.le_of_ble_eq_true rfl)) ?_
  generalize dz_M213 r3.1 ((r2.2 + (256 * r3.2)) + a1) = r4
  refine q_RP_let ?_
  show q_RP _ _ _ (20, [(2, .int r2.2), (0, .ref 64), (1, .int a1)], [.int r4], (q_kM r3.1 c n)) _ _
  exact q_RP_ret rfl rfl rfl
def dz_M275_64_43 (s : q_S) (v1 : Int32) (v3 : Int32) : Option (q_S) :=
  cond (decide (v1 = 159)) ((dz_M247_64 s v3).bind fun r6 => (dz_M247_64 r6.1 (((v3 / 256) * 256) + ((v3 + 1) - (v3 + 1) / 256 * 256))).bind fun r7 => q_let (dz_M213 r7.1 (r6.2 + (256 * r7.2))) fun r8 => some (q_sA r7.1 14 (upd (r7.1.1 14) 4 r8))) (some (q_sA s 14 (upd (s.1 14) 4 v3)))
set_option maxHeartbeats 4000000 in
theorem dzt_M275_64_43 (c n : Nat) (s : q_S) (v1 : Int32) (v3 : Int32) : q_RP q_TB0 6 274 (43, [(0, .ref 64), (1, .int v1), (3, .int v3)], [], (q_kM s c n)) (q_oSM c n) (dz_M275_64_43 s v1 v3) := by
  unfold dz_M275_64_43
  refine q_RP_seg (g2 := (52, [(0, .ref 64), (1, .int v1), (3, .int v3)], [.int 159, .int v1, .int 4, .ref 78], (q_kM s c n))) 5 (fun _ _ => rfl) ?_
  cases h2 : decide (v1 = 159) with
  | true =>
    refine q_RP_cT ?_
    refine q_RP_rsF (g2 := (55, [(0, .ref 64), (1, .int v1), (3, .int v3)], [.int 4, .ref 78], (q_kM s c n))) rfl rfl (q_d_neT h2) ?_
    refine q_RP_seg (g2 := (57, [(0, .ref 64), (1, .int v1), (3, .int v3)], [.int v3, .ref 64, .int 4, .ref 78], (q_kM s c n))) 2 (fun _ _ => rfl) ?_
    refine q_RP_bd fun r6 er6 => ?_
    refine q_RP_call (v := (some (.int r6.2))) (h2 := (q_kM r6.1 c n)) rfl rfl ((dzt_M247_64 s c n v3 r6 er6).le (Nat.le_of_ble_eq_true rfl)) ?_
    show q_RP _ _ _ (60, [(0, .ref 64), (1, .int v1), (3, .int v3)], [.int r6.2, .int 4, .ref 78], (q_kM r6.1 c n)) _ _
    refine q_RP_seg (g2 := (81, [(0, .ref 64), (1, .int v1), (3, .int v3)], [.int (((v3 / 256) * 256) + ((v3 + 1) - (v3 + 1) / 256 * 256)), .ref 64, .int 256, .int r6.2, .int 4, .ref 78], (q_kM r6.1 c n))) 13 (fun _ _ => rfl) ?_
    refine q_RP_bd fun r7 er7 => ?_
    refine q_RP_call (v := (some (.int r7.2))) (h2 := (q_kM r7.1 c n)) rfl rfl ((dzt_M247_64 r6.1 c n (((v3 / 256) * 256) + ((v3 + 1) - (v3 + 1) / 256 * 256)) r7 er7).le (Nat.le_of_ble_eq_true rfl)) ?_
    show q_RP _ _ _ (84, [(0, .ref 64), (1, .int v1), (3, .int v3)], [.int r7.2, .int 256, .int r6.2, .int 4, .ref 78], (q_kM r7.1 c n)) _ _
    refine q_RP_seg (g2 := (86, [(0, .ref 64), (1, .int v1), (3, .int v3)], [.int (r6.2 + (256 * r7.2)), .int 4, .ref 78], (q_kM r7.1 c n))) 2 (fun _ _ => rfl) ?_
    refine q_RP_call (v := (some (.int (dz_M213 r7.1 (r6.2 + (256 * r7.2)))))) (h2 := (q_kM r7.1 c n)) rfl rfl ((dzt_M213 r7.1 c n (r6.2 + (256 * r7.2))).le (Nat.le_of_ble_eq_true rfl)) ?_
    generalize dz_M213 r7.1 (r6.2 + (256 * r7.2)) = r8
    refine q_RP_let ?_
    show q_RP _ _ _ (89, [(0, .ref 64), (1, .int v1), (3, .int v3)], [.int r8, .int 4, .ref 78], (q_kM r7.1 c n)) _ _
    refine q_RP_seg (g2 := (94, [(0, .ref 64), (1, .int v1), (3, .int v3)], [], (q_kM (q_sA r7.1 14 (upd (r7.1.1 14) 4 r8)) c n))) 2 (fun _ _ => rfl) ?_
    exact q_RP_ret rfl rfl rfl
  | false =>
    refine q_RP_cF ?_
    refine q_RP_rsT (g2 := (92, [(0, .ref 64), (1, .int v1), (3, .int v3)], [.int 4, .ref 78], (q_kM s c n))) rfl rfl (q_d_neF h2) ?_
    refine q_RP_seg (g2 := (94, [(0, .ref 64), (1, .int v1), (3, .int v3)], [], (q_kM (q_sA s 14 (upd (s.1 14) 4 v3)) c n))) 2 (fun _ _ => rfl) ?_
    exact q_RP_ret rfl rfl rfl
def dz_M275_64 (s : q_S) (a1 : Int32) (a2 : Int32) : Option (q_S) :=
  (dz_M248_64 s (a2 + 1)).bind fun r2 => cond (decide (a1 = 158)) (q_let (dz_M213 r2.1 (a2 + 2)) fun r3 => (dz_M255_64 r2.1 (r3 / 256)).bind fun r4 => (dz_M255_64 r4 (r3 - r3 / 256 * 256)).bind fun r5 => dz_M275_64_43 r5 a1 r2.2) (dz_M275_64_43 r2.1 a1 r2.2)
set_option maxHeartbeats 4000000 in
theorem dzt_M275_64 (s : q_S) (c n : Nat) (a1 : Int32) (a2 : Int32) (x : q_S) (h : dz_M275_64 s a1 a2 = some x) : q_Ca q_TB0 7 274 [.ref 64, .int a1, .int a2] (q_kM s c n) ((q_oSM c n) x) := by
  refine q_CaP_of (φ := (q_oSM c n)) (Nat.le_of_ble_eq_true rfl) ?_ h
  clear h
  unfold dz_M275_64
  refine q_RP_seg (g2 := (4, [(0, .ref 64), (1, .int a1), (2, .int a2)], [.int (a2 + 1), .ref 64], (q_kM s c n))) 4 (fun _ _ => rfl) ?_
  refine q_RP_bd fun r2 er2 => ?_
  refine q_RP_call (v := (some (.int r2.2))) (h2 := (q_kM r2.1 c n)) rfl rfl ((dzt_M248_64 s c n (a2 + 1) r2 er2).le (Nat.le_of_ble_eq_true rfl)) ?_
  show q_RP _ _ _ (7, [(0, .ref 64), (1, .int a1), (2, .int a2)], [.int r2.2], (q_kM r2.1 c n)) _ _
  refine q_RP_seg (g2 := (12, [(3, .int r2.2), (0, .ref 64), (1, .int a1), (2, .int a2)], [.int 158, .int a1], (q_kM r2.1 c n))) 3 (fun _ _ => rfl) ?_
  cases h1 : decide (a1 = 158) with
  | true =>
    refine q_RP_cT ?_
    refine q_RP_rsF (g2 := (15, [(3, .int r2.2), (0, .ref 64), (1, .int a1), (2, .int a2)], [], (q_kM r2.1 c n))) rfl rfl (q_d_neT h1) ?_
    refine q_RP_seg (g2 := (18, [(3, .int r2.2), (0, .ref 64), (1, .int a1), (2, .int a2)], [.int (a2 + 2)], (q_kM r2.1 c n))) 3 (fun _ _ => rfl) ?_
    refine q_RP_call (v := (some (.int (dz_M213 r2.1 (a2 + 2))))) (h2 := (q_kM r2.1 c n)) rfl rfl ((dzt_M213 r2.1 c n (a2 + 2)).le (Nat.le_of_ble_eq_true rfl)) ?_
    generalize dz_M213 r2.1 (a2 + 2) = r3
    refine q_RP_let ?_
    show q_RP _ _ _ (21, [(3, .int r2.2), (0, .ref 64), (1, .int a1), (2, .int a2)], [.int r3], (q_kM r2.1 c n)) _ _
    refine q_RP_seg (g2 := (30, [(4, .int r3), (3, .int r2.2), (0, .ref 64), (1, .int a1), (2, .int a2)], [.int (r3 / 256), .ref 64], (q_kM r2.1 c n))) 5 (fun _ _ => rfl) ?_
    refine q_RP_bd fun r4 er4 => ?_
    refine q_RP_call (v := none) (h2 := (q_kM r4 c n)) rfl rfl ((dzt_M255_64 r2.1 c n (r3 / 256) r4 er4).le (Nat.le_of_ble_eq_true rfl)) ?_
    show q_RP _ _ _ (33, [(4, .int r3), (3, .int r2.2), (0, .ref 64), (1, .int a1), (2, .int a2)], [], (q_kM r4 c n)) _ _
    refine q_RP_seg (g2 := (40, [(4, .int r3), (3, .int r2.2), (0, .ref 64), (1, .int a1), (2, .int a2)], [.int (r3 - r3 / 256 * 256), .ref 64], (q_kM r4 c n))) 4 (fun _ _ => rfl) ?_
    refine q_RP_bd fun r5 er5 => ?_
    refine q_RP_call (v := none) (h2 := (q_kM r5 c n)) rfl rfl ((dzt_M255_64 r4 c n (r3 - r3 / 256 * 256) r5 er5).le (Nat.le_of_ble_eq_true rfl)) ?_
    show q_RP _ _ _ (43, [(4, .int r3), (3, .int r2.2), (0, .ref 64), (1, .int a1), (2, .int a2)], [], (q_kM r5 c n)) _ _
    exact q_RP_xt (q_xt_mk (q_mn1 2 rfl (q_mn1 3 rfl (q_mn1 1 rfl q_mn0))) rfl) (dzt_M275_64_43 c n r5 a1 r2.2)
  | false =>
    refine q_RP_cF ?_
    refine q_RP_rsT (g2 := (43, [(3, .int r2.2), (0, .ref 64), (1, .int a1), (2, .int a2)], [], (q_kM r2.1 c n))) rfl rfl (q_d_neF h1) ?_
    exact q_RP_xt (q_xt_mk (q_mn1 1 rfl (q_mn1 2 rfl (q_mn1 0 rfl q_mn0))) rfl) (dzt_M275_64_43 c n r2.1 a1 r2.2)
def dz_M261_64 (s : q_S) (a1 : Int32) : q_S × Int32 :=
  cond (decide (a1 = 0)) (cond (decide (127 < a1)) (q_let ((q_sA s 15 (upd (s.1 15) 4 (vp_nar .boolean 1)))) fun r1 => ((q_sA r1 15 (upd (r1.1 15) 0 (vp_nar .boolean 1))), a1)) (q_let ((q_sA s 15 (upd (s.1 15) 4 (vp_nar .boolean 1)))) fun r2 => ((q_sA r2 15 (upd (r2.1 15) 0 (vp_nar .boolean 0))), a1))) (cond (decide (127 < a1)) (q_let ((q_sA s 15 (upd (s.1 15) 4 (vp_nar .boolean 0)))) fun r3 => ((q_sA r3 15 (upd (r3.1 15) 0 (vp_nar .boolean 1))), a1)) (q_let ((q_sA s 15 (upd (s.1 15) 4 (vp_nar .boolean 0)))) fun r4 => ((q_sA r4 15 (upd (r4.1 15) 0 (vp_nar .boolean 0))), a1)))
set_option maxHeartbeats 4000000 in
theorem dzt_M261_64 (s : q_S) (c n : Nat) (a1 : Int32) : q_Ca q_TB0 1 260 [.ref 64, .int a1] (q_kM s c n) ((q_oIM c n) (dz_M261_64 s a1)) := by
  refine q_CaT_of (φ := (q_oIM c n)) (Nat.le_of_ble_eq_true rfl) ?_
  unfold dz_M261_64
  refine q_RT_seg (g2 := (6, [(0, .ref 64), (1, .int a1)], [.int a1, .int 4, .ref 79], (q_kM s c n))) 4 (fun _ _ => rfl) ?_
  cases h1 : decide (a1 = 0) with
  | true =>
    refine q_RT_cT ?_
    refine q_RT_rsF (g2 := (9, [(0, .ref 64), (1, .int a1)], [.int 4, .ref 79], (q_kM s c n))) rfl rfl (q_d_neT h1) ?_
    refine q_RT_seg (g2 := (23, [(0, .ref 64), (1, .int a1)], [.int 127, .int a1, .int 0, .ref 79], (q_kM (q_sA s 15 (upd (s.1 15) 4 (vp_nar .boolean 1))) c n))) 8 (fun _ _ => rfl) ?_
    cases h2 : decide (127 < a1) with
    | true =>
      refine q_RT_cT ?_
      refine q_RT_rsF (g2 := (26, [(0, .ref 64), (1, .int a1)], [.int 0, .ref 79], (q_kM (q_sA s 15 (upd (s.1 15) 4 (vp_nar .boolean 1))) c n))) rfl rfl (q_d_geT h2) ?_
      refine q_RT_seg (g2 := (31, [(0, .ref 64), (1, .int a1)], [.int 1, .int 0, .ref 79], (q_kM (q_sA s 15 (upd (s.1 15) 4 (vp_nar .boolean 1))) c n))) 2 (fun _ _ => rfl) ?_
      generalize (q_sA s 15 (upd (s.1 15) 4 (vp_nar .boolean 1))) = r1
      refine q_RT_let ?_
      show q_RT _ _ _ (31, [(0, .ref 64), (1, .int a1)], [.int 1, .int 0, .ref 79], (q_kM r1 c n)) _ _
      refine q_RT_seg (g2 := (33, [(0, .ref 64), (1, .int a1)], [.int a1], (q_kM (q_sA r1 15 (upd (r1.1 15) 0 (vp_nar .boolean 1))) c n))) 2 (fun _ _ => rfl) ?_
      exact q_RT_ret rfl rfl rfl
    | false =>
      refine q_RT_cF ?_
      refine q_RT_rsT (g2 := (30, [(0, .ref 64), (1, .int a1)], [.int 0, .ref 79], (q_kM (q_sA s 15 (upd (s.1 15) 4 (vp_nar .boolean 1))) c n))) rfl rfl (q_d_geF h2) ?_
      refine q_RT_seg (g2 := (31, [(0, .ref 64), (1, .int a1)], [.int 0, .int 0, .ref 79], (q_kM (q_sA s 15 (upd (s.1 15) 4 (vp_nar .boolean 1))) c n))) 1 (fun _ _ => rfl) ?_
      generalize (q_sA s 15 (upd (s.1 15) 4 (vp_nar .boolean 1))) = r2
      refine q_RT_let ?_
      show q_RT _ _ _ (31, [(0, .ref 64), (1, .int a1)], [.int 0, .int 0, .ref 79], (q_kM r2 c n)) _ _
      refine q_RT_seg (g2 := (33, [(0, .ref 64), (1, .int a1)], [.int a1], (q_kM (q_sA r2 15 (upd (r2.1 15) 0 (vp_nar .boolean 0))) c n))) 2 (fun _ _ => rfl) ?_
      exact q_RT_ret rfl rfl rfl
  | false =>
    refine q_RT_cF ?_
    refine q_RT_rsT (g2 := (13, [(0, .ref 64), (1, .int a1)], [.int 4, .ref 79], (q_kM s c n))) rfl rfl (q_d_neF h1) ?_
    refine q_RT_seg (g2 := (23, [(0, .ref 64), (1, .int a1)], [.int 127, .int a1, .int 0, .ref 79], (q_kM (q_sA s 15 (upd (s.1 15) 4 (vp_nar .boolean 0))) c n))) 7 (fun _ _ => rfl) ?_
    cases h3 : decide (127 < a1) with
    | true =>
      refine q_RT_cT ?_
      refine q_RT_rsF (g2 := (26, [(0, .ref 64), (1, .int a1)], [.int 0, .ref 79], (q_kM (q_sA s 15 (upd (s.1 15) 4 (vp_nar .boolean 0))) c n))) rfl rfl (q_d_geT h3) ?_
      refine q_RT_seg (g2 := (31, [(0, .ref 64), (1, .int a1)], [.int 1, .int 0, .ref 79], (q_kM (q_sA s 15 (upd (s.1 15) 4 (vp_nar .boolean 0))) c n))) 2 (fun _ _ => rfl) ?_
      generalize (q_sA s 15 (upd (s.1 15) 4 (vp_nar .boolean 0))) = r3
      refine q_RT_let ?_
      show q_RT _ _ _ (31, [(0, .ref 64), (1, .int a1)], [.int 1, .int 0, .ref 79], (q_kM r3 c n)) _ _
      refine q_RT_seg (g2 := (33, [(0, .ref 64), (1, .int a1)], [.int a1], (q_kM (q_sA r3 15 (upd (r3.1 15) 0 (vp_nar .boolean 1))) c n))) 2 (fun _ _ => rfl) ?_
      exact q_RT_ret rfl rfl rfl
    | false =>
      refine q_RT_cF ?_
      refine q_RT_rsT (g2 := (30, [(0, .ref 64), (1, .int a1)], [.int 0, .ref 79], (q_kM (q_sA s 15 (upd (s.1 15) 4 (vp_nar .boolean 0))) c n))) rfl rfl (q_d_geF h3) ?_
      refine q_RT_seg (g2 := (31, [(0, .ref 64), (1, .int a1)], [.int 0, .int 0, .ref 79], (q_kM (q_sA s 15 (upd (s.1 15) 4 (vp_nar .boolean 0))) c n))) 1 (fun _ _ => rfl) ?_
      generalize (q_sA s 15 (upd (s.1 15) 4 (vp_nar .boolean 0))) = r4
      refine q_RT_let ?_
      show q_RT _ _ _ (31, [(0, .ref 64), (1, .int a1)], [.int 0, .int 0, .ref 79], (q_kM r4 c n)) _ _
      refine q_RT_seg (g2 := (33, [(0, .ref 64), (1, .int a1)], [.int a1], (q_kM (q_sA r4 15 (upd (r4.1 15) 0 (vp_nar .boolean 0))) c n))) 2 (fun _ _ => rfl) ?_
      exact q_RT_ret rfl rfl rfl
def dz_M262_64 (s : q_S) (a1 : Int32) (a2 : Int32) : Option (q_S) :=
  q_let (dz_M261_64 s a2) fun r2 => cond (q_in a1 24) (some (q_sA r2.1 14 (upd (r2.1.1 14) (a1.toNatClampNeg) r2.2))) none
set_option maxHeartbeats 4000000 in
theorem dzt_M262_64 (s : q_S) (c n : Nat) (a1 : Int32) (a2 : Int32) (x : q_S) (h : dz_M262_64 s a1 a2 = some x) : q_Ca q_TB0 2 261 [.ref 64, .int a1, .int a2] (q_kM s c n) ((q_oSM c n) x) := by
  refine q_CaP_of (φ := (q_oSM c n)) (Nat.le_of_ble_eq_true rfl) ?_ h
  clear h
  unfold dz_M262_64
  refine q_RP_seg (g2 := (7, [(0, .ref 64), (1, .int a1), (2, .int a2)], [.int a2, .ref 64, .int a1, .ref 78], (q_kM s c n))) 5 (fun _ _ => rfl) ?_
  refine q_RP_call (v := (some (.int (dz_M261_64 s a2).2))) (h2 := (q_kM (dz_M261_64 s a2).1 c n)) rfl rfl ((dzt_M261_64 s c n a2).le (Nat.le_of_ble_eq_true rfl)) ?_
  generalize dz_M261_64 s a2 = r2
  refine q_RP_let ?_
  show q_RP _ _ _ (10, [(0, .ref 64), (1, .int a1), (2, .int a2)], [.int r2.2, .int a1, .ref 78], (q_kM r2.1 c n)) _ _
  refine q_RP_as fun i1 => ?_
  refine q_RP_rsT (g2 := (11, [(0, .ref 64), (1, .int a1), (2, .int a2)], [], (q_kM (q_sA r2.1 14 (upd (r2.1.1 14) (a1.toNatClampNeg) r2.2)) c n))) rfl q_wM14 i1 ?_
  exact q_RP_ret rfl rfl rfl
def dz_M272_64 (s : q_S) (a1 : Int32) : Option (q_S) :=
  (dz_M257_64 s 5 1).bind fun r2 => cond (decide (a1 - a1 / 2 * 2 = 0)) (q_let (dz_M206 s ((s.1 14) 0) 7) fun r3 => cond r3 (cond (decide (a1 = 150)) ((dz_M262_64 (q_sA s 15 (upd (s.1 15) 5 (vp_nar .boolean 1))) 0 ((((s.1 14) 0) * 2) &&& 255)).bind fun r4 => some r4) (cond (decide (a1 = 151)) ((dz_M262_64 (q_sA s 15 (upd (s.1 15) 5 (vp_nar .boolean 1))) 0 (((s.1 14) 0) / 2)).bind fun r5 => some r5) (cond (decide (a1 = 152)) ((dz_M262_64 (q_sA s 15 (upd (s.1 15) 5 (vp_nar .boolean 1))) 0 (((((s.1 14) 0) * 2) + r2) &&& 255)).bind fun r6 => some r6) ((dz_M262_64 (q_sA s 15 (upd (s.1 15) 5 (vp_nar .boolean 1))) 0 ((((s.1 14) 0) / 2) + (128 * r2))).bind fun r7 => some r7)))) (cond (decide (a1 = 150)) ((dz_M262_64 (q_sA s 15 (upd (s.1 15) 5 (vp_nar .boolean 0))) 0 ((((s.1 14) 0) * 2) &&& 255)).bind fun r8 => some r8) (cond (decide (a1 = 151)) ((dz_M262_64 (q_sA s 15 (upd (s.1 15) 5 (vp_nar .boolean 0))) 0 (((s.1 14) 0) / 2)).bind fun r9 => some r9) (cond (decide (a1 = 152)) ((dz_M262_64 (q_sA s 15 (upd (s.1 15) 5 (vp_nar .boolean 0))) 0 (((((s.1 14) 0) * 2) + r2) &&& 255)).bind fun r10 => some r10) ((dz_M262_64 (q_sA s 15 (upd (s.1 15) 5 (vp_nar .boolean 0))) 0 ((((s.1 14) 0) / 2) + (128 * r2))).bind fun r11 => some r11))))) (q_let (dz_M206 s ((s.1 14) 0) 0) fun r12 => cond r12 (cond (decide (a1 = 150)) ((dz_M262_64 (q_sA s 15 (upd (s.1 15) 5 (vp_nar .boolean 1))) 0 ((((s.1 14) 0) * 2) &&& 255)).bind fun r13 => some r13) (cond (decide (a1 = 151)) ((dz_M262_64 (q_sA s 15 (upd (s.1 15) 5 (vp_nar .boolean 1))) 0 (((s.1 14) 0) / 2)).bind fun r14 => some r14) (cond (decide (a1 = 152)) ((dz_M262_64 (q_sA s 15 (upd (s.1 15) 5 (vp_nar .boolean 1))) 0 (((((s.1 14) 0) * 2) + r2) &&& 255)).bind fun r15 => some r15) ((dz_M262_64 (q_sA s 15 (upd (s.1 15) 5 (vp_nar .boolean 1))) 0 ((((s.1 14) 0) / 2) + (128 * r2))).bind fun r16 => some r16)))) (cond (decide (a1 = 150)) ((dz_M262_64 (q_sA s 15 (upd (s.1 15) 5 (vp_nar .boolean 0))) 0 ((((s.1 14) 0) * 2) &&& 255)).bind fun r17 => some r17) (cond (decide (a1 = 151)) ((dz_M262_64 (q_sA s 15 (upd (s.1 15) 5 (vp_nar .boolean 0))) 0 (((s.1 14) 0) / 2)).bind fun r18 => some r18) (cond (decide (a1 = 152)) ((dz_M262_64 (q_sA s 15 (upd (s.1 15) 5 (vp_nar .boolean 0))) 0 (((((s.1 14) 0) * 2) + r2) &&& 255)).bind fun r19 => some r19) ((dz_M262_64 (q_sA s 15 (upd (s.1 15) 5 (vp_nar .boolean 0))) 0 ((((s.1 14) 0) / 2) + (128 * r2))).bind fun r20 => some r20)))))
set_option maxHeartbeats 4000000 in
theorem dzt_M272_64 (s : q_S) (c n : Nat) (a1 : Int32) (x : q_S) (h : dz_M272_64 s a1 = some x) : q_Ca q_TB0 3 271 [.ref 64, .int a1] (q_kM s c n) ((q_oSM c n) x) := by
  refine q_CaP_of (φ := (q_oSM c n)) (Nat.le_of_ble_eq_true rfl) ?_ h
  clear h
  unfold dz_M272_64
  refine q_RP_seg (g2 := (6, [(0, .ref 64), (1, .int a1)], [.int ((s.1 14) 0)], (q_kM s c n))) 4 (fun _ _ => rfl) ?_
  refine q_RP_seg (g2 := (10, [(2, .int ((s.1 14) 0)), (0, .ref 64), (1, .int a1)], [.int 1, .int 5, .ref 64], (q_kM s c n))) 4 (fun _ _ => rfl) ?_
  refine q_RP_bd fun r2 er2 => ?_
  refine q_RP_call (v := (some (.int r2))) (h2 := (q_kM s c n)) rfl rfl ((dzt_M257_64 s c n 5 1 r2 er2).le (Nat.le_of_ble_eq_true rfl)) ?_
  show q_RP _ _ _ (13, [(2, .int ((s.1 14) 0)), (0, .ref 64), (1, .int a1)], [.int r2], (q_kM s c n)) _ _
  refine q_RP_seg (g2 := (23, [(3, .int r2), (2, .int ((s.1 14) 0)), (0, .ref 64), (1, .int a1)], [.int (a1 - a1 / 2 * 2), .int ((s.1 14) 0), .int 5, .ref 79], (q_kM s c n))) 8 (fun _ _ => rfl) ?_
  cases h1 : decide (a1 - a1 / 2 * 2 = 0) with
  | true =>
    refine q_RP_cT ?_
    refine q_RP_rsF (g2 := (26, [(3, .int r2), (2, .int ((s.1 14) 0)), (0, .ref 64), (1, .int a1)], [.int ((s.1 14) 0), .int 5, .ref 79], (q_kM s c n))) rfl rfl (q_d_neT h1) ?_
    refine q_RP_seg (g2 := (32, [(3, .int r2), (2, .int ((s.1 14) 0)), (0, .ref 64), (1, .int a1)], [.int 7, .int ((s.1 14) 0), .int 5, .ref 79], (q_kM s c n))) 2 (fun _ _ => rfl) ?_
    refine q_RP_call (v := (some (.int (q_b (dz_M206 s ((s.1 14) 0) 7))))) (h2 := (q_kM s c n)) rfl rfl ((dzt_M206 s c n ((s.1 14) 0) 7).le (Nat.le_of_ble_eq_true rfl)) ?_
    generalize dz_M206 s ((s.1 14) 0) 7 = r3
    refine q_RP_let ?_
    show q_RP _ _ _ (35, [(3, .int r2), (2, .int ((s.1 14) 0)), (0, .ref 64), (1, .int a1)], [.int (q_b r3), .int 5, .ref 79], (q_kM s c n)) _ _
    cases h2 : r3 with
    | true =>
      refine q_RP_cT ?_
      show q_RP _ _ _ (35, [(3, .int r2), (2, .int ((s.1 14) 0)), (0, .ref 64), (1, .int a1)], [.int 1, .int 5, .ref 79], (q_kM s c n)) _ _
      refine q_RP_seg (g2 := (42, [(3, .int r2), (2, .int ((s.1 14) 0)), (0, .ref 64), (1, .int a1)], [.int 150, .int a1, .int 0, .ref 64], (q_kM (q_sA s 15 (upd (s.1 15) 5 (vp_nar .boolean 1))) c n))) 5 (fun _ _ => rfl) ?_
      cases h3 : decide (a1 = 150) with
      | true =>
        refine q_RP_cT ?_
        refine q_RP_rsF (g2 := (45, [(3, .int r2), (2, .int ((s.1 14) 0)), (0, .ref 64), (1, .int a1)], [.int 0, .ref 64], (q_kM (q_sA s 15 (upd (s.1 15) 5 (vp_nar .boolean 1))) c n))) rfl rfl (q_d_neT h3) ?_
        refine q_RP_seg (g2 := (96, [(3, .int r2), (2, .int ((s.1 14) 0)), (0, .ref 64), (1, .int a1)], [.int ((((s.1 14) 0) * 2) &&& 255), .int 0, .ref 64], (q_kM (q_sA s 15 (upd (s.1 15) 5 (vp_nar .boolean 1))) c n))) 6 (fun _ _ => rfl) ?_
        refine q_RP_bd fun r4 er4 => ?_
        refine q_RP_call (v := none) (h2 := (q_kM r4 c n)) rfl rfl ((dzt_M262_64 (q_sA s 15 (upd (s.1 15) 5 (vp_nar .boolean 1))) c n 0 ((((s.1 14) 0) * 2) &&& 255) r4 er4).le (Nat.le_of_ble_eq_true rfl)) ?_
        show q_RP _ _ _ (99, [(3, .int r2), (2, .int ((s.1 14) 0)), (0, .ref 64), (1, .int a1)], [], (q_kM r4 c n)) _ _
        exact q_RP_ret rfl rfl rfl
      | false =>
        refine q_RP_cF ?_
        refine q_RP_rsT (g2 := (55, [(3, .int r2), (2, .int ((s.1 14) 0)), (0, .ref 64), (1, .int a1)], [.int 0, .ref 64], (q_kM (q_sA s 15 (upd (s.1 15) 5 (vp_nar .boolean 1))) c n))) rfl rfl (q_d_neF h3) ?_
        refine q_RP_seg (g2 := (59, [(3, .int r2), (2, .int ((s.1 14) 0)), (0, .ref 64), (1, .int a1)], [.int 151, .int a1, .int 0, .ref 64], (q_kM (q_sA s 15 (upd (s.1 15) 5 (vp_nar .boolean 1))) c n))) 2 (fun _ _ => rfl) ?_
        cases h4 : decide (a1 = 151) with
        | true =>
          refine q_RP_cT ?_
          refine q_RP_rsF (g2 := (62, [(3, .int r2), (2, .int ((s.1 14) 0)), (0, .ref 64), (1, .int a1)], [.int 0, .ref 64], (q_kM (q_sA s 15 (upd (s.1 15) 5 (vp_nar .boolean 1))) c n))) rfl rfl (q_d_neT h4) ?_
          refine q_RP_seg (g2 := (96, [(3, .int r2), (2, .int ((s.1 14) 0)), (0, .ref 64), (1, .int a1)], [.int (((s.1 14) 0) / 2), .int 0, .ref 64], (q_kM (q_sA s 15 (upd (s.1 15) 5 (vp_nar .boolean 1))) c n))) 4 (fun _ _ => rfl) ?_
          refine q_RP_bd fun r5 er5 => ?_
          refine q_RP_call (v := none) (h2 := (q_kM r5 c n)) rfl rfl ((dzt_M262_64 (q_sA s 15 (upd (s.1 15) 5 (vp_nar .boolean 1))) c n 0 (((s.1 14) 0) / 2) r5 er5).le (Nat.le_of_ble_eq_true rfl)) ?_
          show q_RP _ _ _ (99, [(3, .int r2), (2, .int ((s.1 14) 0)), (0, .ref 64), (1, .int a1)], [], (q_kM r5 c n)) _ _
          exact q_RP_ret rfl rfl rfl
        | false =>
          refine q_RP_cF ?_
          refine q_RP_rsT (g2 := (68, [(3, .int r2), (2, .int ((s.1 14) 0)), (0, .ref 64), (1, .int a1)], [.int 0, .ref 64], (q_kM (q_sA s 15 (upd (s.1 15) 5 (vp_nar .boolean 1))) c n))) rfl rfl (q_d_neF h4) ?_
          refine q_RP_seg (g2 := (72, [(3, .int r2), (2, .int ((s.1 14) 0)), (0, .ref 64), (1, .int a1)], [.int 152, .int a1, .int 0, .ref 64], (q_kM (q_sA s 15 (upd (s.1 15) 5 (vp_nar .boolean 1))) c n))) 2 (fun _ _ => rfl) ?_
          cases h5 : decide (a1 = 152) with
          | true =>
            refine q_RP_cT ?_
            refine q_RP_rsF (g2 := (75, [(3, .int r2), (2, .int ((s.1 14) 0)), (0, .ref 64), (1, .int a1)], [.int 0, .ref 64], (q_kM (q_sA s 15 (upd (s.1 15) 5 (vp_nar .boolean 1))) c n))) rfl rfl (q_d_neT h5) ?_
            refine q_RP_seg (g2 := (96, [(3, .int r2), (2, .int ((s.1 14) 0)), (0, .ref 64), (1, .int a1)], [.int (((((s.1 14) 0) * 2) + r2) &&& 255), .int 0, .ref 64], (q_kM (q_sA s 15 (upd (s.1 15) 5 (vp_nar .boolean 1))) c n))) 8 (fun _ _ => rfl) ?_
            refine q_RP_bd fun r6 er6 => ?_
            refine q_RP_call (v := none) (h2 := (q_kM r6 c n)) rfl rfl ((dzt_M262_64 (q_sA s 15 (upd (s.1 15) 5 (vp_nar .boolean 1))) c n 0 (((((s.1 14) 0) * 2) + r2) &&& 255) r6 er6).le (Nat.le_of_ble_eq_true rfl)) ?_
            show q_RP _ _ _ (99, [(3, .int r2), (2, .int ((s.1 14) 0)), (0, .ref 64), (1, .int a1)], [], (q_kM r6 c n)) _ _
            exact q_RP_ret rfl rfl rfl
          | false =>
            refine q_RP_cF ?_
            refine q_RP_rsT (g2 := (87, [(3, .int r2), (2, .int ((s.1 14) 0)), (0, .ref 64), (1, .int a1)], [.int 0, .ref 64], (q_kM (q_sA s 15 (upd (s.1 15) 5 (vp_nar .boolean 1))) c n))) rfl rfl (q_d_neF h5) ?_
            refine q_RP_seg (g2 := (96, [(3, .int r2), (2, .int ((s.1 14) 0)), (0, .ref 64), (1, .int a1)], [.int ((((s.1 14) 0) / 2) + (128 * r2)), .int 0, .ref 64], (q_kM (q_sA s 15 (upd (s.1 15) 5 (vp_nar .boolean 1))) c n))) 7 (fun _ _ => rfl) ?_
            refine q_RP_bd fun r7 er7 => ?_
            refine q_RP_call (v := none) (h2 := (q_kM r7 c n)) rfl rfl ((dzt_M262_64 (q_sA s 15 (upd (s.1 15) 5 (vp_nar .boolean 1))) c n 0 ((((s.1 14) 0) / 2) + (128 * r2)) r7 er7).le (Nat.le_of_ble_eq_true rfl)) ?_
            show q_RP _ _ _ (99, [(3, .int r2), (2, .int ((s.1 14) 0)), (0, .ref 64), (1, .int a1)], [], (q_kM r7 c n)) _ _
            exact q_RP_ret rfl rfl rfl
    | false =>
      refine q_RP_cF ?_
      show q_RP _ _ _ (35, [(3, .int r2), (2, .int ((s.1 14) 0)), (0, .ref 64), (1, .int a1)], [.int 0, .int 5, .ref 79], (q_kM s c n)) _ _
      refine q_RP_seg (g2 := (42, [(3, .int r2), (2, .int ((s.1 14) 0)), (0, .ref 64), (1, .int a1)], [.int 150, .int a1, .int 0, .ref 64], (q_kM (q_sA s 15 (upd (s.1 15) 5 (vp_nar .boolean 0))) c n))) 5 (fun _ _ => rfl) ?_
      cases h6 : decide (a1 = 150) with
      | true =>
        refine q_RP_cT ?_
        refine q_RP_rsF (g2 := (45, [(3, .int r2), (2, .int ((s.1 14) 0)), (0, .ref 64), (1, .int a1)], [.int 0, .ref 64], (q_kM (q_sA s 15 (upd (s.1 15) 5 (vp_nar .boolean 0))) c n))) rfl rfl (q_d_neT h6) ?_
        refine q_RP_seg (g2 := (96, [(3, .int r2), (2, .int ((s.1 14) 0)), (0, .ref 64), (1, .int a1)], [.int ((((s.1 14) 0) * 2) &&& 255), .int 0, .ref 64], (q_kM (q_sA s 15 (upd (s.1 15) 5 (vp_nar .boolean 0))) c n))) 6 (fun _ _ => rfl) ?_
        refine q_RP_bd fun r8 er8 => ?_
        refine q_RP_call (v := none) (h2 := (q_kM r8 c n)) rfl rfl ((dzt_M262_64 (q_sA s 15 (upd (s.1 15) 5 (vp_nar .boolean 0))) c n 0 ((((s.1 14) 0) * 2) &&& 255) r8 er8).le (Nat.le_of_ble_eq_true rfl)) ?_
        show q_RP _ _ _ (99, [(3, .int r2), (2, .int ((s.1 14) 0)), (0, .ref 64), (1, .int a1)], [], (q_kM r8 c n)) _ _
        exact q_RP_ret rfl rfl rfl
      | false =>
        refine q_RP_cF ?_
        refine q_RP_rsT (g2 := (55, [(3, .int r2), (2, .int ((s.1 14) 0)), (0, .ref 64), (1, .int a1)], [.int 0, .ref 64], (q_kM (q_sA s 15 (upd (s.1 15) 5 (vp_nar .boolean 0))) c n))) rfl rfl (q_d_neF h6) ?_
        refine q_RP_seg (g2 := (59, [(3, .int r2), (2, .int ((s.1 14) 0)), (0, .ref 64), (1, .int a1)], [.int 151, .int a1, .int 0, .ref 64], (q_kM (q_sA s 15 (upd (s.1 15) 5 (vp_nar .boolean 0))) c n))) 2 (fun _ _ => rfl) ?_
        cases h7 : decide (a1 = 151) with
        | true =>
          refine q_RP_cT ?_
          refine q_RP_rsF (g2 := (62, [(3, .int r2), (2, .int ((s.1 14) 0)), (0, .ref 64), (1, .int a1)], [.int 0, .ref 64], (q_kM (q_sA s 15 (upd (s.1 15) 5 (vp_nar .boolean 0))) c n))) rfl rfl (q_d_neT h7) ?_
          refine q_RP_seg (g2 := (96, [(3, .int r2), (2, .int ((s.1 14) 0)), (0, .ref 64), (1, .int a1)], [.int (((s.1 14) 0) / 2), .int 0, .ref 64], (q_kM (q_sA s 15 (upd (s.1 15) 5 (vp_nar .boolean 0))) c n))) 4 (fun _ _ => rfl) ?_
          refine q_RP_bd fun r9 er9 => ?_
          refine q_RP_call (v := none) (h2 := (q_kM r9 c n)) rfl rfl ((dzt_M262_64 (q_sA s 15 (upd (s.1 15) 5 (vp_nar .boolean 0))) c n 0 (((s.1 14) 0) / 2) r9 er9).le (Nat.le_of_ble_eq_true rfl)) ?_
          show q_RP _ _ _ (99, [(3, .int r2), (2, .int ((s.1 14) 0)), (0, .ref 64), (1, .int a1)], [], (q_kM r9 c n)) _ _
          exact q_RP_ret rfl rfl rfl
        | false =>
          refine q_RP_cF ?_
          refine q_RP_rsT (g2 := (68, [(3, .int r2), (2, .int ((s.1 14) 0)), (0, .ref 64), (1, .int a1)], [.int 0, .ref 64], (q_kM (q_sA s 15 (upd (s.1 15) 5 (vp_nar .boolean 0))) c n))) rfl rfl (q_d_neF h7) ?_
          refine q_RP_seg (g2 := (72, [(3, .int r2), (2, .int ((s.1 14) 0)), (0, .ref 64), (1, .int a1)], [.int 152, .int a1, .int 0, .ref 64], (q_kM (q_sA s 15 (upd (s.1 15) 5 (vp_nar .boolean 0))) c n))) 2 (fun _ _ => rfl) ?_
          cases h8 : decide (a1 = 152) with
          | true =>
            refine q_RP_cT ?_
            refine q_RP_rsF (g2 := (75, [(3, .int r2), (2, .int ((s.1 14) 0)), (0, .ref 64), (1, .int a1)], [.int 0, .ref 64], (q_kM (q_sA s 15 (upd (s.1 15) 5 (vp_nar .boolean 0))) c n))) rfl rfl (q_d_neT h8) ?_
            refine q_RP_seg (g2 := (96, [(3, .int r2), (2, .int ((s.1 14) 0)), (0, .ref 64), (1, .int a1)], [.int (((((s.1 14) 0) * 2) + r2) &&& 255), .int 0, .ref 64], (q_kM (q_sA s 15 (upd (s.1 15) 5 (vp_nar .boolean 0))) c n))) 8 (fun _ _ => rfl) ?_
            refine q_RP_bd fun r10 er10 => ?_
            refine q_RP_call (v := none) (h2 := (q_kM r10 c n)) rfl rfl ((dzt_M262_64 (q_sA s 15 (upd (s.1 15) 5 (vp_nar .boolean 0))) c n 0 (((((s.1 14) 0) * 2) + r2) &&& 255) r10 er10).le (Nat.le_of_ble_eq_true rfl)) ?_
            show q_RP _ _ _ (99, [(3, .int r2), (2, .int ((s.1 14) 0)), (0, .ref 64), (1, .int a1)], [], (q_kM r10 c n)) _ _
            exact q_RP_ret rfl rfl rfl
          | false =>
            refine q_RP_cF ?_
            refine q_RP_rsT (g2 := (87, [(3, .int r2), (2, .int ((s.1 14) 0)), (0, .ref 64), (1, .int a1)], [.int 0, .ref 64], (q_kM (q_sA s 15 (upd (s.1 15) 5 (vp_nar .boolean 0))) c n))) rfl rfl (q_d_neF h8) ?_
            refine q_RP_seg (g2 := (96, [(3, .int r2), (2, .int ((s.1 14) 0)), (0, .ref 64), (1, .int a1)], [.int ((((s.1 14) 0) / 2) + (128 * r2)), .int 0, .ref 64], (q_kM (q_sA s 15 (upd (s.1 15) 5 (vp_nar .boolean 0))) c n))) 7 (fun _ _ => rfl) ?_
            refine q_RP_bd fun r11 er11 => ?_
            refine q_RP_call (v := none) (h2 := (q_kM r11 c n)) rfl rfl ((dzt_M262_64 (q_sA s 15 (upd (s.1 15) 5 (vp_nar .boolean 0))) c n 0 ((((s.1 14) 0) / 2) + (128 * r2)) r11 er11).le (Nat.le_of_ble_eq_true rfl)) ?_
            show q_RP _ _ _ (99, [(3, .int r2), (2, .int ((s.1 14) 0)), (0, .ref 64), (1, .int a1)], [], (q_kM r11 c n)) _ _
            exact q_RP_ret rfl rfl rfl
  | false =>
    refine q_RP_cF ?_
    refine q_RP_rsT (g2 := (31, [(3, .int r2), (2, .int ((s.1 14) 0)), (0, .ref 64), (1, .int a1)], [.int ((s.1 14) 0), .int 5, .ref 79], (q_kM s c n))) rfl rfl (q_d_neF h1) ?_
    refine q_RP_seg (g2 := (32, [(3, .int r2), (2, .int ((s.1 14) 0)), (0, .ref 64), (1, .int a1)], [.int 0, .int ((s.1 14) 0), .int 5, .ref 79], (q_kM s c n))) 1 (fun _ _ => rfl) ?_
    refine q_RP_call (v := (some (.int (q_b (dz_M206 s ((s.1 14) 0) 0))))) (h2 := (q_kM s c n)) rfl rfl ((dzt_M206 s c n ((s.1 14) 0) 0).le (Nat.le_of_ble_eq_true rfl)) ?_
    generalize dz_M206 s ((s.1 14) 0) 0 = r12
    refine q_RP_let ?_
    show q_RP _ _ _ (35, [(3, .int r2), (2, .int ((s.1 14) 0)), (0, .ref 64), (1, .int a1)], [.int (q_b r12), .int 5, .ref 79], (q_kM s c n)) _ _
    cases h9 : r12 with
    | true =>
      refine q_RP_cT ?_
      show q_RP _ _ _ (35, [(3, .int r2), (2, .int ((s.1 14) 0)), (0, .ref 64), (1, .int a1)], [.int 1, .int 5, .ref 79], (q_kM s c n)) _ _
      refine q_RP_seg (g2 := (42, [(3, .int r2), (2, .int ((s.1 14) 0)), (0, .ref 64), (1, .int a1)], [.int 150, .int a1, .int 0, .ref 64], (q_kM (q_sA s 15 (upd (s.1 15) 5 (vp_nar .boolean 1))) c n))) 5 (fun _ _ => rfl) ?_
      cases h10 : decide (a1 = 150) with
      | true =>
        refine q_RP_cT ?_
        refine q_RP_rsF (g2 := (45, [(3, .int r2), (2, .int ((s.1 14) 0)), (0, .ref 64), (1, .int a1)], [.int 0, .ref 64], (q_kM (q_sA s 15 (upd (s.1 15) 5 (vp_nar .boolean 1))) c n))) rfl rfl (q_d_neT h10) ?_
        refine q_RP_seg (g2 := (96, [(3, .int r2), (2, .int ((s.1 14) 0)), (0, .ref 64), (1, .int a1)], [.int ((((s.1 14) 0) * 2) &&& 255), .int 0, .ref 64], (q_kM (q_sA s 15 (upd (s.1 15) 5 (vp_nar .boolean 1))) c n))) 6 (fun _ _ => rfl) ?_
        refine q_RP_bd fun r13 er13 => ?_
        refine q_RP_call (v := none) (h2 := (q_kM r13 c n)) rfl rfl ((dzt_M262_64 (q_sA s 15 (upd (s.1 15) 5 (vp_nar .boolean 1))) c n 0 ((((s.1 14) 0) * 2) &&& 255) r13 er13).le (Nat.le_of_ble_eq_true rfl)) ?_
        show q_RP _ _ _ (99, [(3, .int r2), (2, .int ((s.1 14) 0)), (0, .ref 64), (1, .int a1)], [], (q_kM r13 c n)) _ _
        exact q_RP_ret rfl rfl rfl
      | false =>
        refine q_RP_cF ?_
        refine q_RP_rsT (g2 := (55, [(3, .int r2), (2, .int ((s.1 14) 0)), (0, .ref 64), (1, .int a1)], [.int 0, .ref 64], (q_kM (q_sA s 15 (upd (s.1 15) 5 (vp_nar .boolean 1))) c n))) rfl rfl (q_d_neF h10) ?_
        refine q_RP_seg (g2 := (59, [(3, .int r2), (2, .int ((s.1 14) 0)), (0, .ref 64), (1, .int a1)], [.int 151, .int a1, .int 0, .ref 64], (q_kM (q_sA s 15 (upd (s.1 15) 5 (vp_nar .boolean 1))) c n))) 2 (fun _ _ => rfl) ?_
        cases h11 : decide (a1 = 151) with
        | true =>
          refine q_RP_cT ?_
          refine q_RP_rsF (g2 := (62, [(3, .int r2), (2, .int ((s.1 14) 0)), (0, .ref 64), (1, .int a1)], [.int 0, .ref 64], (q_kM (q_sA s 15 (upd (s.1 15) 5 (vp_nar .boolean 1))) c n))) rfl rfl (q_d_neT h11) ?_
          refine q_RP_seg (g2 := (96, [(3, .int r2), (2, .int ((s.1 14) 0)), (0, .ref 64), (1, .int a1)], [.int (((s.1 14) 0) / 2), .int 0, .ref 64], (q_kM (q_sA s 15 (upd (s.1 15) 5 (vp_nar .boolean 1))) c n))) 4 (fun _ _ => rfl) ?_
          refine q_RP_bd fun r14 er14 => ?_
          refine q_RP_call (v := none) (h2 := (q_kM r14 c n)) rfl rfl ((dzt_M262_64 (q_sA s 15 (upd (s.1 15) 5 (vp_nar .boolean 1))) c n 0 (((s.1 14) 0) / 2) r14 er14).le (Nat.le_of_ble_eq_true rfl)) ?_
          show q_RP _ _ _ (99, [(3, .int r2), (2, .int ((s.1 14) 0)), (0, .ref 64), (1, .int a1)], [], (q_kM r14 c n)) _ _
          exact q_RP_ret rfl rfl rfl
        | false =>
          refine q_RP_cF ?_
          refine q_RP_rsT (g2 := (68, [(3, .int r2), (2, .int ((s.1 14) 0)), (0, .ref 64), (1, .int a1)], [.int 0, .ref 64], (q_kM (q_sA s 15 (upd (s.1 15) 5 (vp_nar .boolean 1))) c n))) rfl rfl (q_d_neF h11) ?_
          refine q_RP_seg (g2 := (72, [(3, .int r2), (2, .int ((s.1 14) 0)), (0, .ref 64), (1, .int a1)], [.int 152, .int a1, .int 0, .ref 64], (q_kM (q_sA s 15 (upd (s.1 15) 5 (vp_nar .boolean 1))) c n))) 2 (fun _ _ => rfl) ?_
          cases h12 : decide (a1 = 152) with
          | true =>
            refine q_RP_cT ?_
            refine q_RP_rsF (g2 := (75, [(3, .int r2), (2, .int ((s.1 14) 0)), (0, .ref 64), (1, .int a1)], [.int 0, .ref 64], (q_kM (q_sA s 15 (upd (s.1 15) 5 (vp_nar .boolean 1))) c n))) rfl rfl (q_d_neT h12) ?_
            refine q_RP_seg (g2 := (96, [(3, .int r2), (2, .int ((s.1 14) 0)), (0, .ref 64), (1, .int a1)], [.int (((((s.1 14) 0) * 2) + r2) &&& 255), .int 0, .ref 64], (q_kM (q_sA s 15 (upd (s.1 15) 5 (vp_nar .boolean 1))) c n))) 8 (fun _ _ => rfl) ?_
            refine q_RP_bd fun r15 er15 => ?_
            refine q_RP_call (v := none) (h2 := (q_kM r15 c n)) rfl rfl ((dzt_M262_64 (q_sA s 15 (upd (s.1 15) 5 (vp_nar .boolean 1))) c n 0 (((((s.1 14) 0) * 2) + r2) &&& 255) r15 er15).le (Nat.le_of_ble_eq_true rfl)) ?_
            show q_RP _ _ _ (99, [(3, .int r2), (2, .int ((s.1 14) 0)), (0, .ref 64), (1, .int a1)], [], (q_kM r15 c n)) _ _
            exact q_RP_ret rfl rfl rfl
          | false =>
            refine q_RP_cF ?_
            refine q_RP_rsT (g2 := (87, [(3, .int r2), (2, .int ((s.1 14) 0)), (0, .ref 64), (1, .int a1)], [.int 0, .ref 64], (q_kM (q_sA s 15 (upd (s.1 15) 5 (vp_nar .boolean 1))) c n))) rfl rfl (q_d_neF h12) ?_
            refine q_RP_seg (g2 := (96, [(3, .int r2), (2, .int ((s.1 14) 0)), (0, .ref 64), (1, .int a1)], [.int ((((s.1 14) 0) / 2) + (128 * r2)), .int 0, .ref 64], (q_kM (q_sA s 15 (upd (s.1 15) 5 (vp_nar .boolean 1))) c n))) 7 (fun _ _ => rfl) ?_
            refine q_RP_bd fun r16 er16 => ?_
            refine q_RP_call (v := none) (h2 := (q_kM r16 c n)) rfl rfl ((dzt_M262_64 (q_sA s 15 (upd (s.1 15) 5 (vp_nar .boolean 1))) c n 0 ((((s.1 14) 0) / 2) + (128 * r2)) r16 er16).le (Nat.le_of_ble_eq_true rfl)) ?_
            show q_RP _ _ _ (99, [(3, .int r2), (2, .int ((s.1 14) 0)), (0, .ref 64), (1, .int a1)], [], (q_kM r16 c n)) _ _
            exact q_RP_ret rfl rfl rfl
    | false =>
      refine q_RP_cF ?_
      show q_RP _ _ _ (35, [(3, .int r2), (2, .int ((s.1 14) 0)), (0, .ref 64), (1, .int a1)], [.int 0, .int 5, .ref 79], (q_kM s c n)) _ _
      refine q_RP_seg (g2 := (42, [(3, .int r2), (2, .int ((s.1 14) 0)), (0, .ref 64), (1, .int a1)], [.int 150, .int a1, .int 0, .ref 64], (q_kM (q_sA s 15 (upd (s.1 15) 5 (vp_nar .boolean 0))) c n))) 5 (fun _ _ => rfl) ?_
      cases h13 : decide (a1 = 150) with
      | true =>
        refine q_RP_cT ?_
        refine q_RP_rsF (g2 := (45, [(3, .int r2), (2, .int ((s.1 14) 0)), (0, .ref 64), (1, .int a1)], [.int 0, .ref 64], (q_kM (q_sA s 15 (upd (s.1 15) 5 (vp_nar .boolean 0))) c n))) rfl rfl (q_d_neT h13) ?_
        refine q_RP_seg (g2 := (96, [(3, .int r2), (2, .int ((s.1 14) 0)), (0, .ref 64), (1, .int a1)], [.int ((((s.1 14) 0) * 2) &&& 255), .int 0, .ref 64], (q_kM (q_sA s 15 (upd (s.1 15) 5 (vp_nar .boolean 0))) c n))) 6 (fun _ _ => rfl) ?_
        refine q_RP_bd fun r17 er17 => ?_
        refine q_RP_call (v := none) (h2 := (q_kM r17 c n)) rfl rfl ((dzt_M262_64 (q_sA s 15 (upd (s.1 15) 5 (vp_nar .boolean 0))) c n 0 ((((s.1 14) 0) * 2) &&& 255) r17 er17).le (Nat.le_of_ble_eq_true rfl)) ?_
        show q_RP _ _ _ (99, [(3, .int r2), (2, .int ((s.1 14) 0)), (0, .ref 64), (1, .int a1)], [], (q_kM r17 c n)) _ _
        exact q_RP_ret rfl rfl rfl
      | false =>
        refine q_RP_cF ?_
        refine q_RP_rsT (g2 := (55, [(3, .int r2), (2, .int ((s.1 14) 0)), (0, .ref 64), (1, .int a1)], [.int 0, .ref 64], (q_kM (q_sA s 15 (upd (s.1 15) 5 (vp_nar .boolean 0))) c n))) rfl rfl (q_d_neF h13) ?_
        refine q_RP_seg (g2 := (59, [(3, .int r2), (2, .int ((s.1 14) 0)), (0, .ref 64), (1, .int a1)], [.int 151, .int a1, .int 0, .ref 64], (q_kM (q_sA s 15 (upd (s.1 15) 5 (vp_nar .boolean 0))) c n))) 2 (fun _ _ => rfl) ?_
        cases h14 : decide (a1 = 151) with
        | true =>
          refine q_RP_cT ?_
          refine q_RP_rsF (g2 := (62, [(3, .int r2), (2, .int ((s.1 14) 0)), (0, .ref 64), (1, .int a1)], [.int 0, .ref 64], (q_kM (q_sA s 15 (upd (s.1 15) 5 (vp_nar .boolean 0))) c n))) rfl rfl (q_d_neT h14) ?_
          refine q_RP_seg (g2 := (96, [(3, .int r2), (2, .int ((s.1 14) 0)), (0, .ref 64), (1, .int a1)], [.int (((s.1 14) 0) / 2), .int 0, .ref 64], (q_kM (q_sA s 15 (upd (s.1 15) 5 (vp_nar .boolean 0))) c n))) 4 (fun _ _ => rfl) ?_
          refine q_RP_bd fun r18 er18 => ?_
          refine q_RP_call (v := none) (h2 := (q_kM r18 c n)) rfl rfl ((dzt_M262_64 (q_sA s 15 (upd (s.1 15) 5 (vp_nar .boolean 0))) c n 0 (((s.1 14) 0) / 2) r18 er18).le (Nat.le_of_ble_eq_true rfl)) ?_
          show q_RP _ _ _ (99, [(3, .int r2), (2, .int ((s.1 14) 0)), (0, .ref 64), (1, .int a1)], [], (q_kM r18 c n)) _ _
          exact q_RP_ret rfl rfl rfl
        | false =>
          refine q_RP_cF ?_
          refine q_RP_rsT (g2 := (68, [(3, .int r2), (2, .int ((s.1 14) 0)), (0, .ref 64), (1, .int a1)], [.int 0, .ref 64], (q_kM (q_sA s 15 (upd (s.1 15) 5 (vp_nar .boolean 0))) c n))) rfl rfl (q_d_neF h14) ?_
          refine q_RP_seg (g2 := (72, [(3, .int r2), (2, .int ((s.1 14) 0)), (0, .ref 64), (1, .int a1)], [.int 152, .int a1, .int 0, .ref 64], (q_kM (q_sA s 15 (upd (s.1 15) 5 (vp_nar .boolean 0))) c n))) 2 (fun _ _ => rfl) ?_
          cases h15 : decide (a1 = 152) with
          | true =>
            refine q_RP_cT ?_
            refine q_RP_rsF (g2 := (75, [(3, .int r2), (2, .int ((s.1 14) 0)), (0, .ref 64), (1, .int a1)], [.int 0, .ref 64], (q_kM (q_sA s 15 (upd (s.1 15) 5 (vp_nar .boolean 0))) c n))) rfl rfl (q_d_neT h15) ?_
            refine q_RP_seg (g2 := (96, [(3, .int r2), (2, .int ((s.1 14) 0)), (0, .ref 64), (1, .int a1)], [.int (((((s.1 14) 0) * 2) + r2) &&& 255), .int 0, .ref 64], (q_kM (q_sA s 15 (upd (s.1 15) 5 (vp_nar .boolean 0))) c n))) 8 (fun _ _ => rfl) ?_
            refine q_RP_bd fun r19 er19 => ?_
            refine q_RP_call (v := none) (h2 := (q_kM r19 c n)) rfl rfl ((dzt_M262_64 (q_sA s 15 (upd (s.1 15) 5 (vp_nar .boolean 0))) c n 0 (((((s.1 14) 0) * 2) + r2) &&& 255) r19 er19).le (Nat.le_of_ble_eq_true rfl)) ?_
            show q_RP _ _ _ (99, [(3, .int r2), (2, .int ((s.1 14) 0)), (0, .ref 64), (1, .int a1)], [], (q_kM r19 c n)) _ _
            exact q_RP_ret rfl rfl rfl
          | false =>
            refine q_RP_cF ?_
            refine q_RP_rsT (g2 := (87, [(3, .int r2), (2, .int ((s.1 14) 0)), (0, .ref 64), (1, .int a1)], [.int 0, .ref 64], (q_kM (q_sA s 15 (upd (s.1 15) 5 (vp_nar .boolean 0))) c n))) rfl rfl (q_d_neF h15) ?_
            refine q_RP_seg (g2 := (96, [(3, .int r2), (2, .int ((s.1 14) 0)), (0, .ref 64), (1, .int a1)], [.int ((((s.1 14) 0) / 2) + (128 * r2)), .int 0, .ref 64], (q_kM (q_sA s 15 (upd (s.1 15) 5 (vp_nar .boolean 0))) c n))) 7 (fun _ _ => rfl) ?_
            refine q_RP_bd fun r20 er20 => ?_
            refine q_RP_call (v := none) (h2 := (q_kM r20 c n)) rfl rfl ((dzt_M262_64 (q_sA s 15 (upd (s.1 15) 5 (vp_nar .boolean 0))) c n 0 ((((s.1 14) 0) / 2) + (128 * r2)) r20 er20).le (Nat.le_of_ble_eq_true rfl)) ?_
            show q_RP _ _ _ (99, [(3, .int r2), (2, .int ((s.1 14) 0)), (0, .ref 64), (1, .int a1)], [], (q_kM r20 c n)) _ _
            exact q_RP_ret rfl rfl rfl
def dz_M273_64 (s : q_S) (a1 : Int32) (a2 : Int32) : Option (q_S) :=
  cond (decide (a1 < 128)) (q_let (dz_M213 (q_sA s 15 (upd (s.1 15) 7 (vp_nar .boolean 1))) (a2 + 1)) fun r4 => some (q_sA (q_sA s 15 (upd (s.1 15) 7 (vp_nar .boolean 1))) 14 (upd (s.1 14) 4 r4))) (cond (decide (153 < a1)) (q_let (dz_M213 (q_sA s 15 (upd (s.1 15) 7 (vp_nar .boolean 1))) (a2 + 1)) fun r5 => some (q_sA (q_sA s 15 (upd (s.1 15) 7 (vp_nar .boolean 1))) 14 (upd (s.1 14) 4 r5))) (cond (decide (a1 = 128)) ((dz_M262_64 s 1 ((((s.1 14) 1) + 1) &&& 255)).bind fun r6 => q_let (dz_M213 r6 (a2 + 1)) fun r7 => some (q_sA r6 14 (upd (r6.1 14) 4 r7))) (cond (decide (a1 = 129)) ((dz_M262_64 s 1 ((((s.1 14) 1) - 1) &&& 255)).bind fun r8 => q_let (dz_M213 r8 (a2 + 1)) fun r9 => some (q_sA r8 14 (upd (r8.1 14) 4 r9))) (cond (decide (a1 = 130)) ((dz_M262_64 s 2 ((((s.1 14) 2) + 1) &&& 255)).bind fun r10 => q_let (dz_M213 r10 (a2 + 1)) fun r11 => some (q_sA r10 14 (upd (r10.1 14) 4 r11))) (cond (decide (a1 = 131)) ((dz_M262_64 s 2 ((((s.1 14) 2) - 1) &&& 255)).bind fun r12 => q_let (dz_M213 r12 (a2 + 1)) fun r13 => some (q_sA r12 14 (upd (r12.1 14) 4 r13))) (cond (decide (a1 = 132)) ((dz_M262_64 s 1 ((s.1 14) 0)).bind fun r14 => q_let (dz_M213 r14 (a2 + 1)) fun r15 => some (q_sA r14 14 (upd (r14.1 14) 4 r15))) (cond (decide (a1 = 133)) ((dz_M262_64 s 0 ((s.1 14) 1)).bind fun r16 => q_let (dz_M213 r16 (a2 + 1)) fun r17 => some (q_sA r16 14 (upd (r16.1 14) 4 r17))) (cond (decide (a1 = 134)) ((dz_M262_64 s 2 ((s.1 14) 0)).bind fun r18 => q_let (dz_M213 r18 (a2 + 1)) fun r19 => some (q_sA r18 14 (upd (r18.1 14) 4 r19))) (cond (decide (a1 = 135)) ((dz_M262_64 s 0 ((s.1 14) 2)).bind fun r20 => q_let (dz_M213 r20 (a2 + 1)) fun r21 => some (q_sA r20 14 (upd (r20.1 14) 4 r21))) (cond (decide (a1 = 136)) ((dz_M262_64 s 1 ((s.1 14) 3)).bind fun r22 => q_let (dz_M213 r22 (a2 + 1)) fun r23 => some (q_sA r22 14 (upd (r22.1 14) 4 r23))) (cond (decide (a1 = 137)) (q_let (dz_M213 (q_sA s 14 (upd (s.1 14) 3 ((s.1 14) 1))) (a2 + 1)) fun r24 => q_let ((q_sA s 14 (upd (s.1 14) 3 ((s.1 14) 1)))) fun r25 => some (q_sA r25 14 (upd (r25.1 14) 4 r24))) (cond (decide (a1 = 138)) ((dz_M255_64 s ((s.1 14) 0)).bind fun r26 => q_let (dz_M213 r26 (a2 + 1)) fun r27 => some (q_sA r26 14 (upd (r26.1 14) 4 r27))) (cond (decide (a1 = 139)) ((dz_M256_64 s).bind fun r28 => (dz_M262_64 r28.1 0 r28.2).bind fun r29 => q_let (dz_M213 r29 (a2 + 1)) fun r30 => some (q_sA r29 14 (upd (r29.1 14) 4 r30))) (cond (decide (a1 = 140)) ((dz_M258_64 s 16).bind fun r31 => (dz_M255_64 s r31).bind fun r32 => q_let (dz_M213 r32 (a2 + 1)) fun r33 => some (q_sA r32 14 (upd (r32.1 14) 4 r33))) (cond (decide (a1 = 141)) ((dz_M256_64 s).bind fun r34 => q_let (dz_M259_64 r34.1 r34.2) fun r35 => q_let (dz_M213 r35 (a2 + 1)) fun r36 => some (q_sA r35 14 (upd (r35.1 14) 4 r36))) (cond (decide (a1 = 142)) (q_let (dz_M213 (q_sA s 15 (upd (s.1 15) 5 (vp_nar .boolean 1))) (a2 + 1)) fun r37 => some (q_sA (q_sA s 15 (upd (s.1 15) 5 (vp_nar .boolean 1))) 14 (upd (s.1 14) 4 r37))) (cond (decide (a1 = 143)) (q_let (dz_M213 (q_sA s 15 (upd (s.1 15) 5 (vp_nar .boolean 0))) (a2 + 1)) fun r38 => some (q_sA (q_sA s 15 (upd (s.1 15) 5 (vp_nar .boolean 0))) 14 (upd (s.1 14) 4 r38))) (cond (decide (a1 = 144)) (q_let (dz_M213 (q_sA s 15 (upd (s.1 15) 2 (vp_nar .boolean 1))) (a2 + 1)) fun r39 => some (q_sA (q_sA s 15 (upd (s.1 15) 2 (vp_nar .boolean 1))) 14 (upd (s.1 14) 4 r39))) (cond (decide (a1 = 145)) (q_let (dz_M213 (q_sA s 15 (upd (s.1 15) 2 (vp_nar .boolean 0))) (a2 + 1)) fun r40 => some (q_sA (q_sA s 15 (upd (s.1 15) 2 (vp_nar .boolean 0))) 14 (upd (s.1 14) 4 r40))) (cond (decide (a1 = 146)) (q_let (dz_M213 (q_sA s 15 (upd (s.1 15) 3 (vp_nar .boolean 1))) (a2 + 1)) fun r41 => some (q_sA (q_sA s 15 (upd (s.1 15) 3 (vp_nar .boolean 1))) 14 (upd (s.1 14) 4 r41))) (cond (decide (a1 = 147)) (q_let (dz_M213 (q_sA s 15 (upd (s.1 15) 3 (vp_nar .boolean 0))) (a2 + 1)) fun r42 => some (q_sA (q_sA s 15 (upd (s.1 15) 3 (vp_nar .boolean 0))) 14 (upd (s.1 14) 4 r42))) (cond (decide (a1 = 148)) (q_let (dz_M213 (q_sA s 15 (upd (s.1 15) 1 (vp_nar .boolean 0))) (a2 + 1)) fun r43 => some (q_sA (q_sA s 15 (upd (s.1 15) 1 (vp_nar .boolean 0))) 14 (upd (s.1 14) 4 r43))) (cond (decide (a1 = 149)) (q_let (dz_M213 s (a2 + 1)) fun r44 => some (q_sA s 14 (upd (s.1 14) 4 r44))) (cond (decide (a1 = 150)) ((dz_M272_64 s a1).bind fun r45 => q_let (dz_M213 r45 (a2 + 1)) fun r46 => some (q_sA r45 14 (upd (r45.1 14) 4 r46))) (cond (decide (a1 = 151)) ((dz_M272_64 s a1).bind fun r47 => q_let (dz_M213 r47 (a2 + 1)) fun r48 => some (q_sA r47 14 (upd (r47.1 14) 4 r48))) (cond (decide (a1 = 152)) ((dz_M272_64 s a1).bind fun r49 => q_let (dz_M213 r49 (a2 + 1)) fun r50 => some (q_sA r49 14 (upd (r49.1 14) 4 r50))) ((dz_M272_64 s a1).bind fun r51 => q_let (dz_M213 r51 (a2 + 1)) fun r52 => some (q_sA r51 14 (upd (r51.1 14) 4 r52)))))))))))))))))))))))))))))
set_option maxHeartbeats 4000000 in
theorem dzt_M273_64 (s : q_S) (c n : Nat) (a1 : Int32) (a2 : Int32) (x : q_S) (h : dz_M273_64 s a1 a2 = some x) : q_Ca q_TB0 4 272 [.ref 64, .int a1, .int a2] (q_kM s c n) ((q_oSM c n) x) := by
  refine q_CaP_of (φ := (q_oSM c n)) (Nat.le_of_ble_eq_true rfl) ?_ h
  clear h
  unfold dz_M273_64
  refine q_RP_seg (g2 := (1, [(0, .ref 64), (1, .int a1), (2, .int a2)], [.int a1], (q_kM s c n))) 1 (fun _ _ => rfl) ?_
  cases h4 : decide (a1 < 128) with
  | true =>
    refine q_RP_cT ?_
    refine q_RP_st1 (g2 := (415, [(0, .ref 64), (1, .int a1), (2, .int a2)], [], (q_kM s c n))) rfl (if_pos (Or.inl (Int32.lt_iff_toInt_lt.mp (of_decide_eq_true h4)))) ?_
    refine q_RP_seg (g2 := (431, [(0, .ref 64), (1, .int a1), (2, .int a2)], [.int (a2 + 1), .int 4, .ref 78], (q_kM (q_sA s 15 (upd (s.1 15) 7 (vp_nar .boolean 1))) c n))) 11 (fun _ _ => rfl) ?_
    refine q_RP_call (v := (some (.int (dz_M213 (q_sA s 15 (upd (s.1 15) 7 (vp_nar .boolean 1))) (a2 + 1))))) (h2 := (q_kM (q_sA s 15 (upd (s.1 15) 7 (vp_nar .boolean 1))) c n)) rfl rfl ((dzt_M213 (q_sA s 15 (upd (s.1 15) 7 (vp_nar .boolean 1))) c n (a2 + 1)).le (Nat.le_of_ble_eq_true rfl)) ?_
    generalize dz_M213 (q_sA s 15 (upd (s.1 15) 7 (vp_nar .boolean 1))) (a2 + 1) = r4
    refine q_RP_let ?_
    show q_RP _ _ _ (434, [(0, .ref 64), (1, .int a1), (2, .int a2)], [.int r4, .int 4, .ref 78], (q_kM (q_sA s 15 (upd (s.1 15) 7 (vp_nar .boolean 1))) c n)) _ _
    refine q_RP_seg (g2 := (435, [(0, .ref 64), (1, .int a1), (2, .int a2)], [], (q_kM (q_sA (q_sA s 15 (upd (s.1 15) 7 (vp_nar .boolean 1))) 14 (upd (s.1 14) 4 r4)) c n))) 1 (fun _ _ => rfl) ?_
    exact q_RP_ret rfl rfl rfl
  | false =>
    refine q_RP_cF ?_
    cases h5 : decide (153 < a1) with
    | true =>
      refine q_RP_cT ?_
      refine q_RP_st1 (g2 := (415, [(0, .ref 64), (1, .int a1), (2, .int a2)], [], (q_kM s c n))) rfl (if_pos (Or.inr (Int32.lt_iff_toInt_lt.mp (of_decide_eq_true h5)))) ?_
      refine q_RP_seg (g2 := (431, [(0, .ref 64), (1, .int a1), (2, .int a2)], [.int (a2 + 1), .int 4, .ref 78], (q_kM (q_sA s 15 (upd (s.1 15) 7 (vp_nar .boolean 1))) c n))) 11 (fun _ _ => rfl) ?_
      refine q_RP_call (v := (some (.int (dz_M213 (q_sA s 15 (upd (s.1 15) 7 (vp_nar .boolean 1))) (a2 + 1))))) (h2 := (q_kM (q_sA s 15 (upd (s.1 15) 7 (vp_nar .boolean 1))) c n)) rfl rfl ((dzt_M213 (q_sA s 15 (upd (s.1 15) 7 (vp_nar .boolean 1))) c n (a2 + 1)).le (Nat.le_of_ble_eq_true rfl)) ?_
      generalize dz_M213 (q_sA s 15 (upd (s.1 15) 7 (vp_nar .boolean 1))) (a2 + 1) = r5
      refine q_RP_let ?_
      show q_RP _ _ _ (434, [(0, .ref 64), (1, .int a1), (2, .int a2)], [.int r5, .int 4, .ref 78], (q_kM (q_sA s 15 (upd (s.1 15) 7 (vp_nar .boolean 1))) c n)) _ _
      refine q_RP_seg (g2 := (435, [(0, .ref 64), (1, .int a1), (2, .int a2)], [], (q_kM (q_sA (q_sA s 15 (upd (s.1 15) 7 (vp_nar .boolean 1))) 14 (upd (s.1 14) 4 r5)) c n))) 1 (fun _ _ => rfl) ?_
      exact q_RP_ret rfl rfl rfl
    | false =>
      refine q_RP_cF ?_
      cases h6 : decide (a1 = 128) with
      | true =>
        refine q_RP_cT ?_
        refine q_RP_st1 (g2 := (120, [(0, .ref 64), (1, .int a1), (2, .int a2)], [], (q_kM s c n))) rfl (by rw [of_decide_eq_true h6]; rfl) ?_
        refine q_RP_seg (g2 := (128, [(0, .ref 64), (1, .int a1), (2, .int a2)], [.int ((s.1 14) 1), .int 1, .ref 64], (q_kM s c n))) 6 (fun _ _ => rfl) ?_
        refine q_RP_seg (g2 := (134, [(0, .ref 64), (1, .int a1), (2, .int a2)], [.int ((((s.1 14) 1) + 1) &&& 255), .int 1, .ref 64], (q_kM s c n))) 4 (fun _ _ => rfl) ?_
        refine q_RP_bd fun r6 er6 => ?_
        refine q_RP_call (v := none) (h2 := (q_kM r6 c n)) rfl rfl ((dzt_M262_64 s c n 1 ((((s.1 14) 1) + 1) &&& 255) r6 er6).le (Nat.le_of_ble_eq_true rfl)) ?_
        show q_RP _ _ _ (137, [(0, .ref 64), (1, .int a1), (2, .int a2)], [], (q_kM r6 c n)) _ _
        refine q_RP_seg (g2 := (431, [(0, .ref 64), (1, .int a1), (2, .int a2)], [.int (a2 + 1), .int 4, .ref 78], (q_kM r6 c n))) 7 (fun _ _ => rfl) ?_
        refine q_RP_call (v := (some (.int (dz_M213 r6 (a2 + 1))))) (h2 := (q_kM r6 c n)) rfl rfl ((dzt_M213 r6 c n (a2 + 1)).le (Nat.le_of_ble_eq_true rfl)) ?_
        generalize dz_M213 r6 (a2 + 1) = r7
        refine q_RP_let ?_
        show q_RP _ _ _ (434, [(0, .ref 64), (1, .int a1), (2, .int a2)], [.int r7, .int 4, .ref 78], (q_kM r6 c n)) _ _
        refine q_RP_seg (g2 := (435, [(0, .ref 64), (1, .int a1), (2, .int a2)], [], (q_kM (q_sA r6 14 (upd (r6.1 14) 4 r7)) c n))) 1 (fun _ _ => rfl) ?_
        exact q_RP_ret rfl rfl rfl
      | false =>
        refine q_RP_cF ?_
        cases h7 : decide (a1 = 129) with
        | true =>
          refine q_RP_cT ?_
          refine q_RP_st1 (g2 := (140, [(0, .ref 64), (1, .int a1), (2, .int a2)], [], (q_kM s c n))) rfl (by rw [of_decide_eq_true h7]; rfl) ?_
          refine q_RP_seg (g2 := (148, [(0, .ref 64), (1, .int a1), (2, .int a2)], [.int ((s.1 14) 1), .int 1, .ref 64], (q_kM s c n))) 6 (fun _ _ => rfl) ?_
          refine q_RP_seg (g2 := (154, [(0, .ref 64), (1, .int a1), (2, .int a2)], [.int ((((s.1 14) 1) - 1) &&& 255), .int 1, .ref 64], (q_kM s c n))) 4 (fun _ _ => rfl) ?_
          refine q_RP_bd fun r8 er8 => ?_
          refine q_RP_call (v := none) (h2 := (q_kM r8 c n)) rfl rfl ((dzt_M262_64 s c n 1 ((((s.1 14) 1) - 1) &&& 255) r8 er8).le (Nat.le_of_ble_eq_true rfl)) ?_
          show q_RP _ _ _ (157, [(0, .ref 64), (1, .int a1), (2, .int a2)], [], (q_kM r8 c n)) _ _
          refine q_RP_seg (g2 := (431, [(0, .ref 64), (1, .int a1), (2, .int a2)], [.int (a2 + 1), .int 4, .ref 78], (q_kM r8 c n))) 7 (fun _ _ => rfl) ?_
          refine q_RP_call (v := (some (.int (dz_M213 r8 (a2 + 1))))) (h2 := (q_kM r8 c n)) rfl rfl ((dzt_M213 r8 c n (a2 + 1)).le (Nat.le_of_ble_eq_true rfl)) ?_
          generalize dz_M213 r8 (a2 + 1) = r9
          refine q_RP_let ?_
          show q_RP _ _ _ (434, [(0, .ref 64), (1, .int a1), (2, .int a2)], [.int r9, .int 4, .ref 78], (q_kM r8 c n)) _ _
          refine q_RP_seg (g2 := (435, [(0, .ref 64), (1, .int a1), (2, .int a2)], [], (q_kM (q_sA r8 14 (upd (r8.1 14) 4 r9)) c n))) 1 (fun _ _ => rfl) ?_
          exact q_RP_ret rfl rfl rfl
        | false =>
          refine q_RP_cF ?_
          cases h8 : decide (a1 = 130) with
          | true =>
            refine q_RP_cT ?_
            refine q_RP_st1 (g2 := (160, [(0, .ref 64), (1, .int a1), (2, .int a2)], [], (q_kM s c n))) rfl (by rw [of_decide_eq_true h8]; rfl) ?_
            refine q_RP_seg (g2 := (168, [(0, .ref 64), (1, .int a1), (2, .int a2)], [.int ((s.1 14) 2), .int 2, .ref 64], (q_kM s c n))) 6 (fun _ _ => rfl) ?_
            refine q_RP_seg (g2 := (174, [(0, .ref 64), (1, .int a1), (2, .int a2)], [.int ((((s.1 14) 2) + 1) &&& 255), .int 2, .ref 64], (q_kM s c n))) 4 (fun _ _ => rfl) ?_
            refine q_RP_bd fun r10 er10 => ?_
            refine q_RP_call (v := none) (h2 := (q_kM r10 c n)) rfl rfl ((dzt_M262_64 s c n 2 ((((s.1 14) 2) + 1) &&& 255) r10 er10).le (Nat.le_of_ble_eq_true rfl)) ?_
            show q_RP _ _ _ (177, [(0, .ref 64), (1, .int a1), (2, .int a2)], [], (q_kM r10 c n)) _ _
            refine q_RP_seg (g2 := (431, [(0, .ref 64), (1, .int a1), (2, .int a2)], [.int (a2 + 1), .int 4, .ref 78], (q_kM r10 c n))) 7 (fun _ _ => rfl) ?_
            refine q_RP_call (v := (some (.int (dz_M213 r10 (a2 + 1))))) (h2 := (q_kM r10 c n)) rfl rfl ((dzt_M213 r10 c n (a2 + 1)).le (Nat.le_of_ble_eq_true rfl)) ?_
            generalize dz_M213 r10 (a2 + 1) = r11
            refine q_RP_let ?_
            show q_RP _ _ _ (434, [(0, .ref 64), (1, .int a1), (2, .int a2)], [.int r11, .int 4, .ref 78], (q_kM r10 c n)) _ _
            refine q_RP_seg (g2 := (435, [(0, .ref 64), (1, .int a1), (2, .int a2)], [], (q_kM (q_sA r10 14 (upd (r10.1 14) 4 r11)) c n))) 1 (fun _ _ => rfl) ?_
            exact q_RP_ret rfl rfl rfl
          | false =>
            refine q_RP_cF ?_
            cases h9 : decide (a1 = 131) with
            | true =>
              refine q_RP_cT ?_
              refine q_RP_st1 (g2 := (180, [(0, .ref 64), (1, .int a1), (2, .int a2)], [], (q_kM s c n))) rfl (by rw [of_decide_eq_true h9]; rfl) ?_
              refine q_RP_seg (g2 := (188, [(0, .ref 64), (1, .int a1), (2, .int a2)], [.int ((s.1 14) 2), .int 2, .ref 64], (q_kM s c n))) 6 (fun _ _ => rfl) ?_
              refine q_RP_seg (g2 := (194, [(0, .ref 64), (1, .int a1), (2, .int a2)], [.int ((((s.1 14) 2) - 1) &&& 255), .int 2, .ref 64], (q_kM s c n))) 4 (fun _ _ => rfl) ?_
              refine q_RP_bd fun r12 er12 => ?_
              refine q_RP_call (v := none) (h2 := (q_kM r12 c n)) rfl rfl ((dzt_M262_64 s c n 2 ((((s.1 14) 2) - 1) &&& 255) r12 er12).le (Nat.le_of_ble_eq_true rfl)) ?_
              show q_RP _ _ _ (197, [(0, .ref 64), (1, .int a1), (2, .int a2)], [], (q_kM r12 c n)) _ _
              refine q_RP_seg (g2 := (431, [(0, .ref 64), (1, .int a1), (2, .int a2)], [.int (a2 + 1), .int 4, .ref 78], (q_kM r12 c n))) 7 (fun _ _ => rfl) ?_
              refine q_RP_call (v := (some (.int (dz_M213 r12 (a2 + 1))))) (h2 := (q_kM r12 c n)) rfl rfl ((dzt_M213 r12 c n (a2 + 1)).le (Nat.le_of_ble_eq_true rfl)) ?_
              generalize dz_M213 r12 (a2 + 1) = r13
              refine q_RP_let ?_
              show q_RP _ _ _ (434, [(0, .ref 64), (1, .int a1), (2, .int a2)], [.int r13, .int 4, .ref 78], (q_kM r12 c n)) _ _
              refine q_RP_seg (g2 := (435, [(0, .ref 64), (1, .int a1), (2, .int a2)], [], (q_kM (q_sA r12 14 (upd (r12.1 14) 4 r13)) c n))) 1 (fun _ _ => rfl) ?_
              exact q_RP_ret rfl rfl rfl
            | false =>
              refine q_RP_cF ?_
              cases h10 : decide (a1 = 132) with
              | true =>
                refine q_RP_cT ?_
                refine q_RP_st1 (g2 := (200, [(0, .ref 64), (1, .int a1), (2, .int a2)], [], (q_kM s c n))) rfl (by rw [of_decide_eq_true h10]; rfl) ?_
                refine q_RP_seg (g2 := (208, [(0, .ref 64), (1, .int a1), (2, .int a2)], [.int ((s.1 14) 0), .int 1, .ref 64], (q_kM s c n))) 6 (fun _ _ => rfl) ?_
                refine q_RP_bd fun r14 er14 => ?_
                refine q_RP_call (v := none) (h2 := (q_kM r14 c n)) rfl rfl ((dzt_M262_64 s c n 1 ((s.1 14) 0) r14 er14).le (Nat.le_of_ble_eq_true rfl)) ?_
                show q_RP _ _ _ (211, [(0, .ref 64), (1, .int a1), (2, .int a2)], [], (q_kM r14 c n)) _ _
                refine q_RP_seg (g2 := (431, [(0, .ref 64), (1, .int a1), (2, .int a2)], [.int (a2 + 1), .int 4, .ref 78], (q_kM r14 c n))) 7 (fun _ _ => rfl) ?_
                refine q_RP_call (v := (some (.int (dz_M213 r14 (a2 + 1))))) (h2 := (q_kM r14 c n)) rfl rfl ((dzt_M213 r14 c n (a2 + 1)).le (Nat.le_of_ble_eq_true rfl)) ?_
                generalize dz_M213 r14 (a2 + 1) = r15
                refine q_RP_let ?_
                show q_RP _ _ _ (434, [(0, .ref 64), (1, .int a1), (2, .int a2)], [.int r15, .int 4, .ref 78], (q_kM r14 c n)) _ _
                refine q_RP_seg (g2 := (435, [(0, .ref 64), (1, .int a1), (2, .int a2)], [], (q_kM (q_sA r14 14 (upd (r14.1 14) 4 r15)) c n))) 1 (fun _ _ => rfl) ?_
                exact q_RP_ret rfl rfl rfl
              | false =>
                refine q_RP_cF ?_
                cases h11 : decide (a1 = 133) with
                | true =>
                  refine q_RP_cT ?_
                  refine q_RP_st1 (g2 := (214, [(0, .ref 64), (1, .int a1), (2, .int a2)], [], (q_kM s c n))) rfl (by rw [of_decide_eq_true h11]; rfl) ?_
                  refine q_RP_seg (g2 := (222, [(0, .ref 64), (1, .int a1), (2, .int a2)], [.int ((s.1 14) 1), .int 0, .ref 64], (q_kM s c n))) 6 (fun _ _ => rfl) ?_
                  refine q_RP_bd fun r16 er16 => ?_
                  refine q_RP_call (v := none) (h2 := (q_kM r16 c n)) rfl rfl ((dzt_M262_64 s c n 0 ((s.1 14) 1) r16 er16).le (Nat.le_of_ble_eq_true rfl)) ?_
                  show q_RP _ _ _ (225, [(0, .ref 64), (1, .int a1), (2, .int a2)], [], (q_kM r16 c n)) _ _
                  refine q_RP_seg (g2 := (431, [(0, .ref 64), (1, .int a1), (2, .int a2)], [.int (a2 + 1), .int 4, .ref 78], (q_kM r16 c n))) 7 (fun _ _ => rfl) ?_
                  refine q_RP_call (v := (some (.int (dz_M213 r16 (a2 + 1))))) (h2 := (q_kM r16 c n)) rfl rfl ((dzt_M213 r16 c n (a2 + 1)).le (Nat.le_of_ble_eq_true rfl)) ?_
                  generalize dz_M213 r16 (a2 + 1) = r17
                  refine q_RP_let ?_
                  show q_RP _ _ _ (434, [(0, .ref 64), (1, .int a1), (2, .int a2)], [.int r17, .int 4, .ref 78], (q_kM r16 c n)) _ _
                  refine q_RP_seg (g2 := (435, [(0, .ref 64), (1, .int a1), (2, .int a2)], [], (q_kM (q_sA r16 14 (upd (r16.1 14) 4 r17)) c n))) 1 (fun _ _ => rfl) ?_
                  exact q_RP_ret rfl rfl rfl
                | false =>
                  refine q_RP_cF ?_
                  cases h12 : decide (a1 = 134) with
                  | true =>
                    refine q_RP_cT ?_
                    refine q_RP_st1 (g2 := (228, [(0, .ref 64), (1, .int a1), (2, .int a2)], [], (q_kM s c n))) rfl (by rw [of_decide_eq_true h12]; rfl) ?_
                    refine q_RP_seg (g2 := (236, [(0, .ref 64), (1, .int a1), (2, .int a2)], [.int ((s.1 14) 0), .int 2, .ref 64], (q_kM s c n))) 6 (fun _ _ => rfl) ?_
                    refine q_RP_bd fun r18 er18 => ?_
                    refine q_RP_call (v := none) (h2 := (q_kM r18 c n)) rfl rfl ((dzt_M262_64 s c n 2 ((s.1 14) 0) r18 er18).le (Nat.le_of_ble_eq_true rfl)) ?_
                    show q_RP _ _ _ (239, [(0, .ref 64), (1, .int a1), (2, .int a2)], [], (q_kM r18 c n)) _ _
                    refine q_RP_seg (g2 := (431, [(0, .ref 64), (1, .int a1), (2, .int a2)], [.int (a2 + 1), .int 4, .ref 78], (q_kM r18 c n))) 7 (fun _ _ => rfl) ?_
                    refine q_RP_call (v := (some (.int (dz_M213 r18 (a2 + 1))))) (h2 := (q_kM r18 c n)) rfl rfl ((dzt_M213 r18 c n (a2 + 1)).le (Nat.le_of_ble_eq_true rfl)) ?_
                    generalize dz_M213 r18 (a2 + 1) = r19
                    refine q_RP_let ?_
                    show q_RP _ _ _ (434, [(0, .ref 64), (1, .int a1), (2, .int a2)], [.int r19, .int 4, .ref 78], (q_kM r18 c n)) _ _
                    refine q_RP_seg (g2 := (435, [(0, .ref 64), (1, .int a1), (2, .int a2)], [], (q_kM (q_sA r18 14 (upd (r18.1 14) 4 r19)) c n))) 1 (fun _ _ => rfl) ?_
                    exact q_RP_ret rfl rfl rfl
                  | false =>
                    refine q_RP_cF ?_
                    cases h13 : decide (a1 = 135) with
                    | true =>
                      refine q_RP_cT ?_
                      refine q_RP_st1 (g2 := (242, [(0, .ref 64), (1, .int a1), (2, .int a2)], [], (q_kM s c n))) rfl (by rw [of_decide_eq_true h13]; rfl) ?_
                      refine q_RP_seg (g2 := (250, [(0, .ref 64), (1, .int a1), (2, .int a2)], [.int ((s.1 14) 2), .int 0, .ref 64], (q_kM s c n))) 6 (fun _ _ => rfl) ?_
                      refine q_RP_bd fun r20 er20 => ?_
                      refine q_RP_call (v := none) (h2 := (q_kM r20 c n)) rfl rfl ((dzt_M262_64 s c n 0 ((s.1 14) 2) r20 er20).le (Nat.le_of_ble_eq_true rfl)) ?_
                      show q_RP _ _ _ (253, [(0, .ref 64), (1, .int a1), (2, .int a2)], [], (q_kM r20 c n)) _ _
                      refine q_RP_seg (g2 := (431, [(0, .ref 64), (1, .int a1), (2, .int a2)], [.int (a2 + 1), .int 4, .ref 78], (q_kM r20 c n))) 7 (fun _ _ => rfl) ?_
                      refine q_RP_call (v := (some (.int (dz_M213 r20 (a2 + 1))))) (h2 := (q_kM r20 c n)) rfl rfl ((dzt_M213 r20 c n (a2 + 1)).le (Nat.le_of_ble_eq_true rfl)) ?_
                      generalize dz_M213 r20 (a2 + 1) = r21
                      refine q_RP_let ?_
                      show q_RP _ _ _ (434, [(0, .ref 64), (1, .int a1), (2, .int a2)], [.int r21, .int 4, .ref 78], (q_kM r20 c n)) _ _
                      refine q_RP_seg (g2 := (435, [(0, .ref 64), (1, .int a1), (2, .int a2)], [], (q_kM (q_sA r20 14 (upd (r20.1 14) 4 r21)) c n))) 1 (fun _ _ => rfl) ?_
                      exact q_RP_ret rfl rfl rfl
                    | false =>
                      refine q_RP_cF ?_
                      cases h14 : decide (a1 = 136) with
                      | true =>
                        refine q_RP_cT ?_
                        refine q_RP_st1 (g2 := (256, [(0, .ref 64), (1, .int a1), (2, .int a2)], [], (q_kM s c n))) rfl (by rw [of_decide_eq_true h14]; rfl) ?_
                        refine q_RP_seg (g2 := (264, [(0, .ref 64), (1, .int a1), (2, .int a2)], [.int ((s.1 14) 3), .int 1, .ref 64], (q_kM s c n))) 6 (fun _ _ => rfl) ?_
                        refine q_RP_bd fun r22 er22 => ?_
                        refine q_RP_call (v := none) (h2 := (q_kM r22 c n)) rfl rfl ((dzt_M262_64 s c n 1 ((s.1 14) 3) r22 er22).le (Nat.le_of_ble_eq_true rfl)) ?_
                        show q_RP _ _ _ (267, [(0, .ref 64), (1, .int a1), (2, .int a2)], [], (q_kM r22 c n)) _ _
                        refine q_RP_seg (g2 := (431, [(0, .ref 64), (1, .int a1), (2, .int a2)], [.int (a2 + 1), .int 4, .ref 78], (q_kM r22 c n))) 7 (fun _ _ => rfl) ?_
                        refine q_RP_call (v := (some (.int (dz_M213 r22 (a2 + 1))))) (h2 := (q_kM r22 c n)) rfl rfl ((dzt_M213 r22 c n (a2 + 1)).le (Nat.le_of_ble_eq_true rfl)) ?_
                        generalize dz_M213 r22 (a2 + 1) = r23
                        refine q_RP_let ?_
                        show q_RP _ _ _ (434, [(0, .ref 64), (1, .int a1), (2, .int a2)], [.int r23, .int 4, .ref 78], (q_kM r22 c n)) _ _
                        refine q_RP_seg (g2 := (435, [(0, .ref 64), (1, .int a1), (2, .int a2)], [], (q_kM (q_sA r22 14 (upd (r22.1 14) 4 r23)) c n))) 1 (fun _ _ => rfl) ?_
                        exact q_RP_ret rfl rfl rfl
                      | false =>
                        refine q_RP_cF ?_
                        cases h15 : decide (a1 = 137) with
                        | true =>
                          refine q_RP_cT ?_
                          refine q_RP_st1 (g2 := (270, [(0, .ref 64), (1, .int a1), (2, .int a2)], [], (q_kM s c n))) rfl (by rw [of_decide_eq_true h15]; rfl) ?_
                          refine q_RP_seg (g2 := (281, [(0, .ref 64), (1, .int a1), (2, .int a2)], [.int ((s.1 14) 1), .int 3, .ref 78], (q_kM s c n))) 7 (fun _ _ => rfl) ?_
                          refine q_RP_seg (g2 := (431, [(0, .ref 64), (1, .int a1), (2, .int a2)], [.int (a2 + 1), .int 4, .ref 78], (q_kM (q_sA s 14 (upd (s.1 14) 3 ((s.1 14) 1))) c n))) 8 (fun _ _ => rfl) ?_
                          refine q_RP_call (v := (some (.int (dz_M213 (q_sA s 14 (upd (s.1 14) 3 ((s.1 14) 1))) (a2 + 1))))) (h2 := (q_kM (q_sA s 14 (upd (s.1 14) 3 ((s.1 14) 1))) c n)) rfl rfl ((dzt_M213 (q_sA s 14 (upd (s.1 14) 3 ((s.1 14) 1))) c n (a2 + 1)).le (Nat.le_of_ble_eq_true rfl)) ?_
                          generalize dz_M213 (q_sA s 14 (upd (s.1 14) 3 ((s.1 14) 1))) (a2 + 1) = r24
                          refine q_RP_let ?_
                          show q_RP _ _ _ (434, [(0, .ref 64), (1, .int a1), (2, .int a2)], [.int r24, .int 4, .ref 78], (q_kM (q_sA s 14 (upd (s.1 14) 3 ((s.1 14) 1))) c n)) _ _
                          generalize (q_sA s 14 (upd (s.1 14) 3 ((s.1 14) 1))) = r25
                          refine q_RP_let ?_
                          show q_RP _ _ _ (434, [(0, .ref 64), (1, .int a1), (2, .int a2)], [.int r24, .int 4, .ref 78], (q_kM r25 c n)) _ _
                          refine q_RP_seg (g2 := (435, [(0, .ref 64), (1, .int a1), (2, .int a2)], [], (q_kM (q_sA r25 14 (upd (r25.1 14) 4 r24)) c n))) 1 (fun _ _ => rfl) ?_
                          exact q_RP_ret rfl rfl rfl
                        | false =>
                          refine q_RP_cF ?_
                          cases h16 : decide (a1 = 138) with
                          | true =>
                            refine q_RP_cT ?_
                            refine q_RP_st1 (g2 := (285, [(0, .ref 64), (1, .int a1), (2, .int a2)], [], (q_kM s c n))) rfl (by rw [of_decide_eq_true h16]; rfl) ?_
                            refine q_RP_seg (g2 := (292, [(0, .ref 64), (1, .int a1), (2, .int a2)], [.int ((s.1 14) 0), .ref 64], (q_kM s c n))) 5 (fun _ _ => rfl) ?_
                            refine q_RP_bd fun r26 er26 => ?_
                            refine q_RP_call (v := none) (h2 := (q_kM r26 c n)) rfl rfl ((dzt_M255_64 s c n ((s.1 14) 0) r26 er26).le (Nat.le_of_ble_eq_true rfl)) ?_
                            show q_RP _ _ _ (295, [(0, .ref 64), (1, .int a1), (2, .int a2)], [], (q_kM r26 c n)) _ _
                            refine q_RP_seg (g2 := (431, [(0, .ref 64), (1, .int a1), (2, .int a2)], [.int (a2 + 1), .int 4, .ref 78], (q_kM r26 c n))) 7 (fun _ _ => rfl) ?_
                            refine q_RP_call (v := (some (.int (dz_M213 r26 (a2 + 1))))) (h2 := (q_kM r26 c n)) rfl rfl ((dzt_M213 r26 c n (a2 + 1)).le (Nat.le_of_ble_eq_true rfl)) ?_
                            generalize dz_M213 r26 (a2 + 1) = r27
                            refine q_RP_let ?_
                            show q_RP _ _ _ (434, [(0, .ref 64), (1, .int a1), (2, .int a2)], [.int r27, .int 4, .ref 78], (q_kM r26 c n)) _ _
                            refine q_RP_seg (g2 := (435, [(0, .ref 64), (1, .int a1), (2, .int a2)], [], (q_kM (q_sA r26 14 (upd (r26.1 14) 4 r27)) c n))) 1 (fun _ _ => rfl) ?_
                            exact q_RP_ret rfl rfl rfl
                          | false =>
                            refine q_RP_cF ?_
                            cases h17 : decide (a1 = 139) with
                            | true =>
                              refine q_RP_cT ?_
                              refine q_RP_st1 (g2 := (298, [(0, .ref 64), (1, .int a1), (2, .int a2)], [], (q_kM s c n))) rfl (by rw [of_decide_eq_true h17]; rfl) ?_
                              refine q_RP_seg (g2 := (301, [(0, .ref 64), (1, .int a1), (2, .int a2)], [.ref 64, .int 0, .ref 64], (q_kM s c n))) 3 (fun _ _ => rfl) ?_
                              refine q_RP_bd fun r28 er28 => ?_
                              refine q_RP_call (v := (some (.int r28.2))) (h2 := (q_kM r28.1 c n)) rfl rfl ((dzt_M256_64 s c n r28 er28).le (Nat.le_of_ble_eq_true rfl)) ?_
                              show q_RP _ _ _ (304, [(0, .ref 64), (1, .int a1), (2, .int a2)], [.int r28.2, .int 0, .ref 64], (q_kM r28.1 c n)) _ _
                              refine q_RP_bd fun r29 er29 => ?_
                              refine q_RP_call (v := none) (h2 := (q_kM r29 c n)) rfl rfl ((dzt_M262_64 r28.1 c n 0 r28.2 r29 er29).le (Nat.le_of_ble_eq_true rfl)) ?_
                              show q_RP _ _ _ (307, [(0, .ref 64), (1, .int a1), (2, .int a2)], [], (q_kM r29 c n)) _ _
                              refine q_RP_seg (g2 := (431, [(0, .ref 64), (1, .int a1), (2, .int a2)], [.int (a2 + 1), .int 4, .ref 78], (q_kM r29 c n))) 7 (fun _ _ => rfl) ?_
                              refine q_RP_call (v := (some (.int (dz_M213 r29 (a2 + 1))))) (h2 := (q_kM r29 c n)) rfl rfl ((dzt_M213 r29 c n (a2 + 1)).le (Nat.le_of_ble_eq_true rfl)) ?_
                              generalize dz_M213 r29 (a2 + 1) = r30
                              refine q_RP_let ?_
                              show q_RP _ _ _ (434, [(0, .ref 64), (1, .int a1), (2, .int a2)], [.int r30, .int 4, .ref 78], (q_kM r29 c n)) _ _
                              refine q_RP_seg (g2 := (435, [(0, .ref 64), (1, .int a1), (2, .int a2)], [], (q_kM (q_sA r29 14 (upd (r29.1 14) 4 r30)) c n))) 1 (fun _ _ => rfl) ?_
                              exact q_RP_ret rfl rfl rfl
                            | false =>
                              refine q_RP_cF ?_
                              cases h18 : decide (a1 = 140) with
                              | true =>
                                refine q_RP_cT ?_
                                refine q_RP_st1 (g2 := (310, [(0, .ref 64), (1, .int a1), (2, .int a2)], [], (q_kM s c n))) rfl (by rw [of_decide_eq_true h18]; rfl) ?_
                                refine q_RP_seg (g2 := (314, [(0, .ref 64), (1, .int a1), (2, .int a2)], [.int 16, .ref 64, .ref 64], (q_kM s c n))) 3 (fun _ _ => rfl) ?_
                                refine q_RP_bd fun r31 er31 => ?_
                                refine q_RP_call (v := (some (.int r31))) (h2 := (q_kM s c n)) rfl rfl ((dzt_M258_64 s c n 16 r31 er31).le (Nat.le_of_ble_eq_true rfl)) ?_
                                show q_RP _ _ _ (317, [(0, .ref 64), (1, .int a1), (2, .int a2)], [.int r31, .ref 64], (q_kM s c n)) _ _
                                refine q_RP_bd fun r32 er32 => ?_
                                refine q_RP_call (v := none) (h2 := (q_kM r32 c n)) rfl rfl ((dzt_M255_64 s c n r31 r32 er32).le (Nat.le_of_ble_eq_true rfl)) ?_
                                show q_RP _ _ _ (320, [(0, .ref 64), (1, .int a1), (2, .int a2)], [], (q_kM r32 c n)) _ _
                                refine q_RP_seg (g2 := (431, [(0, .ref 64), (1, .int a1), (2, .int a2)], [.int (a2 + 1), .int 4, .ref 78], (q_kM r32 c n))) 7 (fun _ _ => rfl) ?_
                                refine q_RP_call (v := (some (.int (dz_M213 r32 (a2 + 1))))) (h2 := (q_kM r32 c n)) rfl rfl ((dzt_M213 r32 c n (a2 + 1)).le (Nat.le_of_ble_eq_true rfl)) ?_
                                generalize dz_M213 r32 (a2 + 1) = r33
                                refine q_RP_let ?_
                                show q_RP _ _ _ (434, [(0, .ref 64), (1, .int a1), (2, .int a2)], [.int r33, .int 4, .ref 78], (q_kM r32 c n)) _ _
                                refine q_RP_seg (g2 := (435, [(0, .ref 64), (1, .int a1), (2, .int a2)], [], (q_kM (q_sA r32 14 (upd (r32.1 14) 4 r33)) c n))) 1 (fun _ _ => rfl) ?_
                                exact q_RP_ret rfl rfl rfl
                              | false =>
                                refine q_RP_cF ?_
                                cases h19 : decide (a1 = 141) with
                                | true =>
                                  refine q_RP_cT ?_
                                  refine q_RP_st1 (g2 := (323, [(0, .ref 64), (1, .int a1), (2, .int a2)], [], (q_kM s c n))) rfl (by rw [of_decide_eq_true h19]; rfl) ?_
                                  refine q_RP_seg (g2 := (325, [(0, .ref 64), (1, .int a1), (2, .int a2)], [.ref 64, .ref 64], (q_kM s c n))) 2 (fun _ _ => rfl) ?_
                                  refine q_RP_bd fun r34 er34 => ?_
                                  refine q_RP_call (v := (some (.int r34.2))) (h2 := (q_kM r34.1 c n)) rfl rfl ((dzt_M256_64 s c n r34 er34).le (Nat.le_of_ble_eq_true rfl)) ?_
                                  show q_RP _ _ _ (328, [(0, .ref 64), (1, .int a1), (2, .int a2)], [.int r34.2, .ref 64], (q_kM r34.1 c n)) _ _
                                  refine q_RP_call (v := none) (h2 := (q_kM (dz_M259_64 r34.1 r34.2) c n)) rfl rfl ((dzt_M259_64 r34.1 c n r34.2).le (Nat.le_of_ble_eq_true rfl)) ?_
                                  generalize dz_M259_64 r34.1 r34.2 = r35
                                  refine q_RP_let ?_
                                  show q_RP _ _ _ (331, [(0, .ref 64), (1, .int a1), (2, .int a2)], [], (q_kM r35 c n)) _ _
                                  refine q_RP_seg (g2 := (431, [(0, .ref 64), (1, .int a1), (2, .int a2)], [.int (a2 + 1), .int 4, .ref 78], (q_kM r35 c n))) 7 (fun _ _ => rfl) ?_
                                  refine q_RP_call (v := (some (.int (dz_M213 r35 (a2 + 1))))) (h2 := (q_kM r35 c n)) rfl rfl ((dzt_M213 r35 c n (a2 + 1)).le (Nat.le_of_ble_eq_true rfl)) ?_
                                  generalize dz_M213 r35 (a2 + 1) = r36
                                  refine q_RP_let ?_
                                  show q_RP _ _ _ (434, [(0, .ref 64), (1, .int a1), (2, .int a2)], [.int r36, .int 4, .ref 78], (q_kM r35 c n)) _ _
                                  refine q_RP_seg (g2 := (435, [(0, .ref 64), (1, .int a1), (2, .int a2)], [], (q_kM (q_sA r35 14 (upd (r35.1 14) 4 r36)) c n))) 1 (fun _ _ => rfl) ?_
                                  exact q_RP_ret rfl rfl rfl
                                | false =>
                                  refine q_RP_cF ?_
                                  cases h20 : decide (a1 = 142) with
                                  | true =>
                                    refine q_RP_cT ?_
                                    refine q_RP_st1 (g2 := (334, [(0, .ref 64), (1, .int a1), (2, .int a2)], [], (q_kM s c n))) rfl (by rw [of_decide_eq_true h20]; rfl) ?_
                                    refine q_RP_seg (g2 := (431, [(0, .ref 64), (1, .int a1), (2, .int a2)], [.int (a2 + 1), .int 4, .ref 78], (q_kM (q_sA s 15 (upd (s.1 15) 5 (vp_nar .boolean 1))) c n))) 12 (fun _ _ => rfl) ?_
                                    refine q_RP_call (v := (some (.int (dz_M213 (q_sA s 15 (upd (s.1 15) 5 (vp_nar .boolean 1))) (a2 + 1))))) (h2 := (q_kM (q_sA s 15 (upd (s.1 15) 5 (vp_nar .boolean 1))) c n)) rfl rfl ((dzt_M213 (q_sA s 15 (upd (s.1 15) 5 (vp_nar .boolean 1))) c n (a2 + 1)).le (Nat.le_of_ble_eq_true rfl)) ?_
                                    generalize dz_M213 (q_sA s 15 (upd (s.1 15) 5 (vp_nar .boolean 1))) (a2 + 1) = r37
                                    refine q_RP_let ?_
                                    show q_RP _ _ _ (434, [(0, .ref 64), (1, .int a1), (2, .int a2)], [.int r37, .int 4, .ref 78], (q_kM (q_sA s 15 (upd (s.1 15) 5 (vp_nar .boolean 1))) c n)) _ _
                                    refine q_RP_seg (g2 := (435, [(0, .ref 64), (1, .int a1), (2, .int a2)], [], (q_kM (q_sA (q_sA s 15 (upd (s.1 15) 5 (vp_nar .boolean 1))) 14 (upd (s.1 14) 4 r37)) c n))) 1 (fun _ _ => rfl) ?_
                                    exact q_RP_ret rfl rfl rfl
                                  | false =>
                                    refine q_RP_cF ?_
                                    cases h21 : decide (a1 = 143) with
                                    | true =>
                                      refine q_RP_cT ?_
                                      refine q_RP_st1 (g2 := (344, [(0, .ref 64), (1, .int a1), (2, .int a2)], [], (q_kM s c n))) rfl (by rw [of_decide_eq_true h21]; rfl) ?_
                                      refine q_RP_seg (g2 := (431, [(0, .ref 64), (1, .int a1), (2, .int a2)], [.int (a2 + 1), .int 4, .ref 78], (q_kM (q_sA s 15 (upd (s.1 15) 5 (vp_nar .boolean 0))) c n))) 12 (fun _ _ => rfl) ?_
                                      refine q_RP_call (v := (some (.int (dz_M213 (q_sA s 15 (upd (s.1 15) 5 (vp_nar .boolean 0))) (a2 + 1))))) (h2 := (q_kM (q_sA s 15 (upd (s.1 15) 5 (vp_nar .boolean 0))) c n)) rfl rfl ((dzt_M213 (q_sA s 15 (upd (s.1 15) 5 (vp_nar .boolean 0))) c n (a2 + 1)).le (Nat.le_of_ble_eq_true rfl)) ?_
                                      generalize dz_M213 (q_sA s 15 (upd (s.1 15) 5 (vp_nar .boolean 0))) (a2 + 1) = r38
                                      refine q_RP_let ?_
                                      show q_RP _ _ _ (434, [(0, .ref 64), (1, .int a1), (2, .int a2)], [.int r38, .int 4, .ref 78], (q_kM (q_sA s 15 (upd (s.1 15) 5 (vp_nar .boolean 0))) c n)) _ _
                                      refine q_RP_seg (g2 := (435, [(0, .ref 64), (1, .int a1), (2, .int a2)], [], (q_kM (q_sA (q_sA s 15 (upd (s.1 15) 5 (vp_nar .boolean 0))) 14 (upd (s.1 14) 4 r38)) c n))) 1 (fun _ _ => rfl) ?_
                                      exact q_RP_ret rfl rfl rfl
                                    | false =>
                                      refine q_RP_cF ?_
                                      cases h22 : decide (a1 = 144) with
                                      | true =>
                                        refine q_RP_cT ?_
                                        refine q_RP_st1 (g2 := (354, [(0, .ref 64), (1, .int a1), (2, .int a2)], [], (q_kM s c n))) rfl (by rw [of_decide_eq_true h22]; rfl) ?_
                                        refine q_RP_seg (g2 := (431, [(0, .ref 64), (1, .int a1), (2, .int a2)], [.int (a2 + 1), .int 4, .ref 78], (q_kM (q_sA s 15 (upd (s.1 15) 2 (vp_nar .boolean 1))) c n))) 12 (fun _ _ => rfl) ?_
                                        refine q_RP_call (v := (some (.int (dz_M213 (q_sA s 15 (upd (s.1 15) 2 (vp_nar .boolean 1))) (a2 + 1))))) (h2 := (q_kM (q_sA s 15 (upd (s.1 15) 2 (vp_nar .boolean 1))) c n)) rfl rfl ((dzt_M213 (q_sA s 15 (upd (s.1 15) 2 (vp_nar .boolean 1))) c n (a2 + 1)).le (Nat.le_of_ble_eq_true rfl)) ?_
                                        generalize dz_M213 (q_sA s 15 (upd (s.1 15) 2 (vp_nar .boolean 1))) (a2 + 1) = r39
                                        refine q_RP_let ?_
                                        show q_RP _ _ _ (434, [(0, .ref 64), (1, .int a1), (2, .int a2)], [.int r39, .int 4, .ref 78], (q_kM (q_sA s 15 (upd (s.1 15) 2 (vp_nar .boolean 1))) c n)) _ _
                                        refine q_RP_seg (g2 := (435, [(0, .ref 64), (1, .int a1), (2, .int a2)], [], (q_kM (q_sA (q_sA s 15 (upd (s.1 15) 2 (vp_nar .boolean 1))) 14 (upd (s.1 14) 4 r39)) c n))) 1 (fun _ _ => rfl) ?_
                                        exact q_RP_ret rfl rfl rfl
                                      | false =>
                                        refine q_RP_cF ?_
                                        cases h23 : decide (a1 = 145) with
                                        | true =>
                                          refine q_RP_cT ?_
                                          refine q_RP_st1 (g2 := (364, [(0, .ref 64), (1, .int a1), (2, .int a2)], [], (q_kM s c n))) rfl (by rw [of_decide_eq_true h23]; rfl) ?_
                                          refine q_RP_seg (g2 := (431, [(0, .ref 64), (1, .int a1), (2, .int a2)], [.int (a2 + 1), .int 4, .ref 78], (q_kM (q_sA s 15 (upd (s.1 15) 2 (vp_nar .boolean 0))) c n))) 12 (fun _ _ => rfl) ?_
                                          refine q_RP_call (v := (some (.int (dz_M213 (q_sA s 15 (upd (s.1 15) 2 (vp_nar .boolean 0))) (a2 + 1))))) (h2 := (q_kM (q_sA s 15 (upd (s.1 15) 2 (vp_nar .boolean 0))) c n)) rfl rfl ((dzt_M213 (q_sA s 15 (upd (s.1 15) 2 (vp_nar .boolean 0))) c n (a2 + 1)).le (Nat.le_of_ble_eq_true rfl)) ?_
                                          generalize dz_M213 (q_sA s 15 (upd (s.1 15) 2 (vp_nar .boolean 0))) (a2 + 1) = r40
                                          refine q_RP_let ?_
                                          show q_RP _ _ _ (434, [(0, .ref 64), (1, .int a1), (2, .int a2)], [.int r40, .int 4, .ref 78], (q_kM (q_sA s 15 (upd (s.1 15) 2 (vp_nar .boolean 0))) c n)) _ _
                                          refine q_RP_seg (g2 := (435, [(0, .ref 64), (1, .int a1), (2, .int a2)], [], (q_kM (q_sA (q_sA s 15 (upd (s.1 15) 2 (vp_nar .boolean 0))) 14 (upd (s.1 14) 4 r40)) c n))) 1 (fun _ _ => rfl) ?_
                                          exact q_RP_ret rfl rfl rfl
                                        | false =>
                                          refine q_RP_cF ?_
                                          cases h24 : decide (a1 = 146) with
                                          | true =>
                                            refine q_RP_cT ?_
                                            refine q_RP_st1 (g2 := (374, [(0, .ref 64), (1, .int a1), (2, .int a2)], [], (q_kM s c n))) rfl (by rw [of_decide_eq_true h24]; rfl) ?_
                                            refine q_RP_seg (g2 := (431, [(0, .ref 64), (1, .int a1), (2, .int a2)], [.int (a2 + 1), .int 4, .ref 78], (q_kM (q_sA s 15 (upd (s.1 15) 3 (vp_nar .boolean 1))) c n))) 12 (fun _ _ => rfl) ?_
                                            refine q_RP_call (v := (some (.int (dz_M213 (q_sA s 15 (upd (s.1 15) 3 (vp_nar .boolean 1))) (a2 + 1))))) (h2 := (q_kM (q_sA s 15 (upd (s.1 15) 3 (vp_nar .boolean 1))) c n)) rfl rfl ((dzt_M213 (q_sA s 15 (upd (s.1 15) 3 (vp_nar .boolean 1))) c n (a2 + 1)).le (Nat.le_of_ble_eq_true rfl)) ?_
                                            generalize dz_M213 (q_sA s 15 (upd (s.1 15) 3 (vp_nar .boolean 1))) (a2 + 1) = r41
                                            refine q_RP_let ?_
                                            show q_RP _ _ _ (434, [(0, .ref 64), (1, .int a1), (2, .int a2)], [.int r41, .int 4, .ref 78], (q_kM (q_sA s 15 (upd (s.1 15) 3 (vp_nar .boolean 1))) c n)) _ _
                                            refine q_RP_seg (g2 := (435, [(0, .ref 64), (1, .int a1), (2, .int a2)], [], (q_kM (q_sA (q_sA s 15 (upd (s.1 15) 3 (vp_nar .boolean 1))) 14 (upd (s.1 14) 4 r41)) c n))) 1 (fun _ _ => rfl) ?_
                                            exact q_RP_ret rfl rfl rfl
                                          | false =>
                                            refine q_RP_cF ?_
                                            cases h25 : decide (a1 = 147) with
                                            | true =>
                                              refine q_RP_cT ?_
                                              refine q_RP_st1 (g2 := (384, [(0, .ref 64), (1, .int a1), (2, .int a2)], [], (q_kM s c n))) rfl (by rw [of_decide_eq_true h25]; rfl) ?_
                                              refine q_RP_seg (g2 := (431, [(0, .ref 64), (1, .int a1), (2, .int a2)], [.int (a2 + 1), .int 4, .ref 78], (q_kM (q_sA s 15 (upd (s.1 15) 3 (vp_nar .boolean 0))) c n))) 12 (fun _ _ => rfl) ?_
                                              refine q_RP_call (v := (some (.int (dz_M213 (q_sA s 15 (upd (s.1 15) 3 (vp_nar .boolean 0))) (a2 + 1))))) (h2 := (q_kM (q_sA s 15 (upd (s.1 15) 3 (vp_nar .boolean 0))) c n)) rfl rfl ((dzt_M213 (q_sA s 15 (upd (s.1 15) 3 (vp_nar .boolean 0))) c n (a2 + 1)).le (Nat.le_of_ble_eq_true rfl)) ?_
                                              generalize dz_M213 (q_sA s 15 (upd (s.1 15) 3 (vp_nar .boolean 0))) (a2 + 1) = r42
                                              refine q_RP_let ?_
                                              show q_RP _ _ _ (434, [(0, .ref 64), (1, .int a1), (2, .int a2)], [.int r42, .int 4, .ref 78], (q_kM (q_sA s 15 (upd (s.1 15) 3 (vp_nar .boolean 0))) c n)) _ _
                                              refine q_RP_seg (g2 := (435, [(0, .ref 64), (1, .int a1), (2, .int a2)], [], (q_kM (q_sA (q_sA s 15 (upd (s.1 15) 3 (vp_nar .boolean 0))) 14 (upd (s.1 14) 4 r42)) c n))) 1 (fun _ _ => rfl) ?_
                                              exact q_RP_ret rfl rfl rfl
                                            | false =>
                                              refine q_RP_cF ?_
                                              cases h26 : decide (a1 = 148) with
                                              | true =>
                                                refine q_RP_cT ?_
                                                refine q_RP_st1 (g2 := (394, [(0, .ref 64), (1, .int a1), (2, .int a2)], [], (q_kM s c n))) rfl (by rw [of_decide_eq_true h26]; rfl) ?_
                                                refine q_RP_seg (g2 := (431, [(0, .ref 64), (1, .int a1), (2, .int a2)], [.int (a2 + 1), .int 4, .ref 78], (q_kM (q_sA s 15 (upd (s.1 15) 1 (vp_nar .boolean 0))) c n))) 12 (fun _ _ => rfl) ?_
                                                refine q_RP_call (v := (some (.int (dz_M213 (q_sA s 15 (upd (s.1 15) 1 (vp_nar .boolean 0))) (a2 + 1))))) (h2 := (q_kM (q_sA s 15 (upd (s.1 15) 1 (vp_nar .boolean 0))) c n)) rfl rfl ((dzt_M213 (q_sA s 15 (upd (s.1 15) 1 (vp_nar .boolean 0))) c n (a2 + 1)).le (Nat.le_of_ble_eq_true rfl)) ?_
                                                generalize dz_M213 (q_sA s 15 (upd (s.1 15) 1 (vp_nar .boolean 0))) (a2 + 1) = r43
                                                refine q_RP_let ?_
                                                show q_RP _ _ _ (434, [(0, .ref 64), (1, .int a1), (2, .int a2)], [.int r43, .int 4, .ref 78], (q_kM (q_sA s 15 (upd (s.1 15) 1 (vp_nar .boolean 0))) c n)) _ _
                                                refine q_RP_seg (g2 := (435, [(0, .ref 64), (1, .int a1), (2, .int a2)], [], (q_kM (q_sA (q_sA s 15 (upd (s.1 15) 1 (vp_nar .boolean 0))) 14 (upd (s.1 14) 4 r43)) c n))) 1 (fun _ _ => rfl) ?_
                                                exact q_RP_ret rfl rfl rfl
                                              | false =>
                                                refine q_RP_cF ?_
                                                cases h27 : decide (a1 = 149) with
                                                | true =>
                                                  refine q_RP_cT ?_
                                                  refine q_RP_st1 (g2 := (404, [(0, .ref 64), (1, .int a1), (2, .int a2)], [], (q_kM s c n))) rfl (by rw [of_decide_eq_true h27]; rfl) ?_
                                                  refine q_RP_seg (g2 := (431, [(0, .ref 64), (1, .int a1), (2, .int a2)], [.int (a2 + 1), .int 4, .ref 78], (q_kM s c n))) 7 (fun _ _ => rfl) ?_
                                                  refine q_RP_call (v := (some (.int (dz_M213 s (a2 + 1))))) (h2 := (q_kM s c n)) rfl rfl ((dzt_M213 s c n (a2 + 1)).le (Nat.le_of_ble_eq_true rfl)) ?_
                                                  generalize dz_M213 s (a2 + 1) = r44
                                                  refine q_RP_let ?_
                                                  show q_RP _ _ _ (434, [(0, .ref 64), (1, .int a1), (2, .int a2)], [.int r44, .int 4, .ref 78], (q_kM s c n)) _ _
                                                  refine q_RP_seg (g2 := (435, [(0, .ref 64), (1, .int a1), (2, .int a2)], [], (q_kM (q_sA s 14 (upd (s.1 14) 4 r44)) c n))) 1 (fun _ _ => rfl) ?_
                                                  exact q_RP_ret rfl rfl rfl
                                                | false =>
                                                  refine q_RP_cF ?_
                                                  cases h28 : decide (a1 = 150) with
                                                  | true =>
                                                    refine q_RP_cT ?_
                                                    refine q_RP_st1 (g2 := (407, [(0, .ref 64), (1, .int a1), (2, .int a2)], [], (q_kM s c n))) rfl (by rw [of_decide_eq_true h28]; rfl) ?_
                                                    refine q_RP_seg (g2 := (409, [(0, .ref 64), (1, .int a1), (2, .int a2)], [.int a1, .ref 64], (q_kM s c n))) 2 (fun _ _ => rfl) ?_
                                                    refine q_RP_bd fun r45 er45 => ?_
                                                    refine q_RP_call (v := none) (h2 := (q_kM r45 c n)) rfl rfl ((dzt_M272_64 s c n a1 r45 er45).le (Nat.le_of_ble_eq_true rfl)) ?_
                                                    show q_RP _ _ _ (412, [(0, .ref 64), (1, .int a1), (2, .int a2)], [], (q_kM r45 c n)) _ _
                                                    refine q_RP_seg (g2 := (431, [(0, .ref 64), (1, .int a1), (2, .int a2)], [.int (a2 + 1), .int 4, .ref 78], (q_kM r45 c n))) 7 (fun _ _ => rfl) ?_
                                                    refine q_RP_call (v := (some (.int (dz_M213 r45 (a2 + 1))))) (h2 := (q_kM r45 c n)) rfl rfl ((dzt_M213 r45 c n (a2 + 1)).le (Nat.le_of_ble_eq_true rfl)) ?_
                                                    generalize dz_M213 r45 (a2 + 1) = r46
                                                    refine q_RP_let ?_
                                                    show q_RP _ _ _ (434, [(0, .ref 64), (1, .int a1), (2, .int a2)], [.int r46, .int 4, .ref 78], (q_kM r45 c n)) _ _
                                                    refine q_RP_seg (g2 := (435, [(0, .ref 64), (1, .int a1), (2, .int a2)], [], (q_kM (q_sA r45 14 (upd (r45.1 14) 4 r46)) c n))) 1 (fun _ _ => rfl) ?_
                                                    exact q_RP_ret rfl rfl rfl
                                                  | false =>
                                                    refine q_RP_cF ?_
                                                    cases h29 : decide (a1 = 151) with
                                                    | true =>
                                                      refine q_RP_cT ?_
                                                      refine q_RP_st1 (g2 := (407, [(0, .ref 64), (1, .int a1), (2, .int a2)], [], (q_kM s c n))) rfl (by rw [of_decide_eq_true h29]; rfl) ?_
                                                      refine q_RP_seg (g2 := (409, [(0, .ref 64), (1, .int a1), (2, .int a2)], [.int a1, .ref 64], (q_kM s c n))) 2 (fun _ _ => rfl) ?_
                                                      refine q_RP_bd fun r47 er47 => ?_
                                                      refine q_RP_call (v := none) (h2 := (q_kM r47 c n)) rfl rfl ((dzt_M272_64 s c n a1 r47 er47).le (Nat.le_of_ble_eq_true rfl)) ?_
                                                      show q_RP _ _ _ (412, [(0, .ref 64), (1, .int a1), (2, .int a2)], [], (q_kM r47 c n)) _ _
                                                      refine q_RP_seg (g2 := (431, [(0, .ref 64), (1, .int a1), (2, .int a2)], [.int (a2 + 1), .int 4, .ref 78], (q_kM r47 c n))) 7 (fun _ _ => rfl) ?_
                                                      refine q_RP_call (v := (some (.int (dz_M213 r47 (a2 + 1))))) (h2 := (q_kM r47 c n)) rfl rfl ((dzt_M213 r47 c n (a2 + 1)).le (Nat.le_of_ble_eq_true rfl)) ?_
                                                      generalize dz_M213 r47 (a2 + 1) = r48
                                                      refine q_RP_let ?_
                                                      show q_RP _ _ _ (434, [(0, .ref 64), (1, .int a1), (2, .int a2)], [.int r48, .int 4, .ref 78], (q_kM r47 c n)) _ _
                                                      refine q_RP_seg (g2 := (435, [(0, .ref 64), (1, .int a1), (2, .int a2)], [], (q_kM (q_sA r47 14 (upd (r47.1 14) 4 r48)) c n))) 1 (fun _ _ => rfl) ?_
                                                      exact q_RP_ret rfl rfl rfl
                                                    | false =>
                                                      refine q_RP_cF ?_
                                                      cases h30 : decide (a1 = 152) with
                                                      | true =>
                                                        refine q_RP_cT ?_
                                                        refine q_RP_st1 (g2 := (407, [(0, .ref 64), (1, .int a1), (2, .int a2)], [], (q_kM s c n))) rfl (by rw [of_decide_eq_true h30]; rfl) ?_
                                                        refine q_RP_seg (g2 := (409, [(0, .ref 64), (1, .int a1), (2, .int a2)], [.int a1, .ref 64], (q_kM s c n))) 2 (fun _ _ => rfl) ?_
                                                        refine q_RP_bd fun r49 er49 => ?_
                                                        refine q_RP_call (v := none) (h2 := (q_kM r49 c n)) rfl rfl ((dzt_M272_64 s c n a1 r49 er49).le (Nat.le_of_ble_eq_true rfl)) ?_
                                                        show q_RP _ _ _ (412, [(0, .ref 64), (1, .int a1), (2, .int a2)], [], (q_kM r49 c n)) _ _
                                                        refine q_RP_seg (g2 := (431, [(0, .ref 64), (1, .int a1), (2, .int a2)], [.int (a2 + 1), .int 4, .ref 78], (q_kM r49 c n))) 7 (fun _ _ => rfl) ?_
                                                        refine q_RP_call (v := (some (.int (dz_M213 r49 (a2 + 1))))) (h2 := (q_kM r49 c n)) rfl rfl ((dzt_M213 r49 c n (a2 + 1)).le (Nat.le_of_ble_eq_true rfl)) ?_
                                                        generalize dz_M213 r49 (a2 + 1) = r50
                                                        refine q_RP_let ?_
                                                        show q_RP _ _ _ (434, [(0, .ref 64), (1, .int a1), (2, .int a2)], [.int r50, .int 4, .ref 78], (q_kM r49 c n)) _ _
                                                        refine q_RP_seg (g2 := (435, [(0, .ref 64), (1, .int a1), (2, .int a2)], [], (q_kM (q_sA r49 14 (upd (r49.1 14) 4 r50)) c n))) 1 (fun _ _ => rfl) ?_
                                                        exact q_RP_ret rfl rfl rfl
                                                      | false =>
                                                        refine q_RP_cF ?_
                                                        have h31 : a1 = 153 := Int32.toInt_inj.mp (by have e0 := q_neI h6 (n := 128); have e1 := q_neI h7 (n := 129); have e2 := q_neI h8 (n := 130); have e3 := q_neI h9 (n := 131); have e4 := q_neI h10 (n := 132); have e5 := q_neI h11 (n := 133); have e6 := q_neI h12 (n := 134); have e7 := q_neI h13 (n := 135); have e8 := q_neI h14 (n := 136); have e9 := q_neI h15 (n := 137); have e10 := q_neI h16 (n := 138); have e11 := q_neI h17 (n := 139); have e12 := q_neI h18 (n := 140); have e13 := q_neI h19 (n := 141); have e14 := q_neI h20 (n := 142); have e15 := q_neI h21 (n := 143); have e16 := q_neI h22 (n := 144); have e17 := q_neI h23 (n := 145); have e18 := q_neI h24 (n := 146); have e19 := q_neI h25 (n := 147); have e20 := q_neI h26 (n := 148); have e21 := q_neI h27 (n := 149); have e22 := q_neI h28 (n := 150); have e23 := q_neI h29 (n := 151); have e24 := q_neI h30 (n := 152); have l1 : 128 ≤ (a1).toInt := q_lo1 h4; have l2 : (a1).toInt ≤ 153 := q_hi2 h5; show (a1).toInt = 153; omega)
                                                        refine q_RP_st1 (g2 := (407, [(0, .ref 64), (1, .int a1), (2, .int a2)], [], (q_kM s c n))) rfl (by rw [h31]; rfl) ?_
                                                        refine q_RP_seg (g2 := (409, [(0, .ref 64), (1, .int a1), (2, .int a2)], [.int a1, .ref 64], (q_kM s c n))) 2 (fun _ _ => rfl) ?_
                                                        refine q_RP_bd fun r51 er51 => ?_
                                                        refine q_RP_call (v := none) (h2 := (q_kM r51 c n)) rfl rfl ((dzt_M272_64 s c n a1 r51 er51).le (Nat.le_of_ble_eq_true rfl)) ?_
                                                        show q_RP _ _ _ (412, [(0, .ref 64), (1, .int a1), (2, .int a2)], [], (q_kM r51 c n)) _ _
                                                        refine q_RP_seg (g2 := (431, [(0, .ref 64), (1, .int a1), (2, .int a2)], [.int (a2 + 1), .int 4, .ref 78], (q_kM r51 c n))) 7 (fun _ _ => rfl) ?_
                                                        refine q_RP_call (v := (some (.int (dz_M213 r51 (a2 + 1))))) (h2 := (q_kM r51 c n)) rfl rfl ((dzt_M213 r51 c n (a2 + 1)).le (Nat.le_of_ble_eq_true rfl)) ?_
                                                        generalize dz_M213 r51 (a2 + 1) = r52
                                                        refine q_RP_let ?_
                                                        show q_RP _ _ _ (434, [(0, .ref 64), (1, .int a1), (2, .int a2)], [.int r52, .int 4, .ref 78], (q_kM r51 c n)) _ _
                                                        refine q_RP_seg (g2 := (435, [(0, .ref 64), (1, .int a1), (2, .int a2)], [], (q_kM (q_sA r51 14 (upd (r51.1 14) 4 r52)) c n))) 1 (fun _ _ => rfl) ?_
                                                        exact q_RP_ret rfl rfl rfl
def dz_M246 (s : q_S) (a0 : Int32) : Int32 :=
  q_let (dz_M244 s a0) fun r1 => cond (decide (r1 < 0)) (q_let (dz_M202 s a0 157 159) fun r2 => cond r2 (3) (q_let (dz_M202 s a0 160 167) fun r3 => cond r3 (2) (1))) (q_let (dz_M202 s (a0 - a0 / 8 * 8) 3 5) fun r4 => cond r4 (3) (2))
set_option maxHeartbeats 4000000 in
theorem dzt_M246 (s : q_S) (c n : Nat) (a0 : Int32) : q_Ca q_TB0 3 245 [.int a0] (q_kM s c n) ((q_oP (q_kM s c n)) (dz_M246 s a0)) := by
  refine q_CaT_of (φ := (q_oP (q_kM s c n))) (Nat.le_of_ble_eq_true rfl) ?_
  unfold dz_M246
  refine q_RT_seg (g2 := (1, [(0, .int a0)], [.int a0], (q_kM s c n))) 1 (fun _ _ => rfl) ?_
  refine q_RT_call (v := (some (.int (dz_M244 s a0)))) (h2 := (q_kM s c n)) rfl rfl ((dzt_M244 s c n a0).le (Nat.le_of_ble_eq_true rfl)) ?_
  generalize dz_M244 s a0 = r1
  refine q_RT_let ?_
  show q_RT _ _ _ (4, [(0, .int a0)], [.int r1], (q_kM s c n)) _ _
  refine q_RT_seg (g2 := (6, [(1, .int r1), (0, .int a0)], [.int r1], (q_kM s c n))) 2 (fun _ _ => rfl) ?_
  cases h1 : decide (r1 < 0) with
  | true =>
    refine q_RT_cT ?_
    refine q_RT_rsT (g2 := (27, [(1, .int r1), (0, .int a0)], [], (q_kM s c n))) rfl rfl h1 ?_
    refine q_RT_seg (g2 := (34, [(1, .int r1), (0, .int a0)], [.int 159, .int 157, .int a0], (q_kM s c n))) 3 (fun _ _ => rfl) ?_
    refine q_RT_call (v := (some (.int (q_b (dz_M202 s a0 157 159))))) (h2 := (q_kM s c n)) rfl rfl ((dzt_M202 s c n a0 157 159).le (Nat.le_of_ble_eq_true rfl)) ?_
    generalize dz_M202 s a0 157 159 = r2
    refine q_RT_let ?_
    show q_RT _ _ _ (37, [(1, .int r1), (0, .int a0)], [.int (q_b r2)], (q_kM s c n)) _ _
    cases h2 : r2 with
    | true =>
      refine q_RT_cT ?_
      show q_RT _ _ _ (37, [(1, .int r1), (0, .int a0)], [.int 1], (q_kM s c n)) _ _
      refine q_RT_seg (g2 := (41, [(1, .int r1), (0, .int a0)], [.int 3], (q_kM s c n))) 2 (fun _ _ => rfl) ?_
      exact q_RT_ret rfl rfl rfl
    | false =>
      refine q_RT_cF ?_
      show q_RT _ _ _ (37, [(1, .int r1), (0, .int a0)], [.int 0], (q_kM s c n)) _ _
      refine q_RT_seg (g2 := (49, [(1, .int r1), (0, .int a0)], [.int 167, .int 160, .int a0], (q_kM s c n))) 4 (fun _ _ => rfl) ?_
      refine q_RT_call (v := (some (.int (q_b (dz_M202 s a0 160 167))))) (h2 := (q_kM s c n)) rfl rfl ((dzt_M202 s c n a0 160 167).le (Nat.le_of_ble_eq_true rfl)) ?_
      generalize dz_M202 s a0 160 167 = r3
      refine q_RT_let ?_
      show q_RT _ _ _ (52, [(1, .int r1), (0, .int a0)], [.int (q_b r3)], (q_kM s c n)) _ _
      cases h3 : r3 with
      | true =>
        refine q_RT_cT ?_
        show q_RT _ _ _ (52, [(1, .int r1), (0, .int a0)], [.int 1], (q_kM s c n)) _ _
        refine q_RT_seg (g2 := (60, [(1, .int r1), (0, .int a0)], [.int 2], (q_kM s c n))) 3 (fun _ _ => rfl) ?_
        exact q_RT_ret rfl rfl rfl
      | false =>
        refine q_RT_cF ?_
        show q_RT _ _ _ (52, [(1, .int r1), (0, .int a0)], [.int 0], (q_kM s c n)) _ _
        refine q_RT_seg (g2 := (60, [(1, .int r1), (0, .int a0)], [.int 1], (q_kM s c n))) 2 (fun _ _ => rfl) ?_
        exact q_RT_ret rfl rfl rfl
  | false =>
    refine q_RT_cF ?_
    refine q_RT_rsF (g2 := (9, [(1, .int r1), (0, .int a0)], [], (q_kM s c n))) rfl rfl h1 ?_
    refine q_RT_seg (g2 := (15, [(1, .int r1), (0, .int a0)], [.int 5, .int 3, .int (a0 - a0 / 8 * 8)], (q_kM s c n))) 5 (fun _ _ => rfl) ?_
    refine q_RT_call (v := (some (.int (q_b (dz_M202 s (a0 - a0 / 8 * 8) 3 5))))) (h2 := (q_kM s c n)) rfl rfl ((dzt_M202 s c n (a0 - a0 / 8 * 8) 3 5).le (Nat.le_of_ble_eq_true rfl)) ?_
    generalize dz_M202 s (a0 - a0 / 8 * 8) 3 5 = r4
    refine q_RT_let ?_
    show q_RT _ _ _ (18, [(1, .int r1), (0, .int a0)], [.int (q_b r4)], (q_kM s c n)) _ _
    cases h4 : r4 with
    | true =>
      refine q_RT_cT ?_
      show q_RT _ _ _ (18, [(1, .int r1), (0, .int a0)], [.int 1], (q_kM s c n)) _ _
      refine q_RT_seg (g2 := (26, [(1, .int r1), (0, .int a0)], [.int 3], (q_kM s c n))) 3 (fun _ _ => rfl) ?_
      exact q_RT_ret rfl rfl rfl
    | false =>
      refine q_RT_cF ?_
      show q_RT _ _ _ (18, [(1, .int r1), (0, .int a0)], [.int 0], (q_kM s c n)) _ _
      refine q_RT_seg (g2 := (26, [(1, .int r1), (0, .int a0)], [.int 2], (q_kM s c n))) 2 (fun _ _ => rfl) ?_
      exact q_RT_ret rfl rfl rfl
def dz_M263_64 (s : q_S) (a1 : Int32) (a2 : Int32) : Option (q_S) :=
  cond (q_in a1 24) (cond (decide ((s.1 14) (a1.toNatClampNeg) < a2)) (q_let (dz_M261_64 (q_sA s 15 (upd (s.1 15) 5 (vp_nar .boolean 0))) ((((s.1 14) (a1.toNatClampNeg)) - a2) &&& 255)) fun r1 => some r1.1) (q_let (dz_M261_64 (q_sA s 15 (upd (s.1 15) 5 (vp_nar .boolean 1))) ((((s.1 14) (a1.toNatClampNeg)) - a2) &&& 255)) fun r2 => some r2.1)) none
set_option maxHeartbeats 4000000 in
theorem dzt_M263_64 (s : q_S) (c n : Nat) (a1 : Int32) (a2 : Int32) (x : q_S) (h : dz_M263_64 s a1 a2 = some x) : q_Ca q_TB0 2 262 [.ref 64, .int a1, .int a2] (q_kM s c n) ((q_oSM c n) x) := by
  refine q_CaP_of (φ := (q_oSM c n)) (Nat.le_of_ble_eq_true rfl) ?_ h
  clear h
  unfold dz_M263_64
  refine q_RP_seg (g2 := (10, [(0, .ref 64), (1, .int a1), (2, .int a2)], [.int a1, .ref 78, .int 5, .ref 79], (q_kM s c n))) 6 (fun _ _ => rfl) ?_
  refine q_RP_as fun i1 => ?_
  refine q_RP_rsT (g2 := (11, [(0, .ref 64), (1, .int a1), (2, .int a2)], [.int ((s.1 14) (a1.toNatClampNeg)), .int 5, .ref 79], (q_kM s c n))) rfl rfl i1 ?_
  refine q_RP_seg (g2 := (12, [(0, .ref 64), (1, .int a1), (2, .int a2)], [.int a2, .int ((s.1 14) (a1.toNatClampNeg)), .int 5, .ref 79], (q_kM s c n))) 1 (fun _ _ => rfl) ?_
  cases h2 : decide ((s.1 14) (a1.toNatClampNeg) < a2) with
  | true =>
    refine q_RP_cT ?_
    refine q_RP_rsT (g2 := (19, [(0, .ref 64), (1, .int a1), (2, .int a2)], [.int 5, .ref 79], (q_kM s c n))) rfl rfl h2 ?_
    refine q_RP_seg (g2 := (27, [(0, .ref 64), (1, .int a1), (2, .int a2)], [.int a1, .ref 78, .ref 64], (q_kM (q_sA s 15 (upd (s.1 15) 5 (vp_nar .boolean 0))) c n))) 6 (fun _ _ => rfl) ?_
    refine q_RP_rsT (g2 := (28, [(0, .ref 64), (1, .int a1), (2, .int a2)], [.int ((s.1 14) (a1.toNatClampNeg)), .ref 64], (q_kM (q_sA s 15 (upd (s.1 15) 5 (vp_nar .boolean 0))) c n))) rfl rfl i1 ?_
    refine q_RP_seg (g2 := (34, [(0, .ref 64), (1, .int a1), (2, .int a2)], [.int ((((s.1 14) (a1.toNatClampNeg)) - a2) &&& 255), .ref 64], (q_kM (q_sA s 15 (upd (s.1 15) 5 (vp_nar .boolean 0))) c n))) 4 (fun _ _ => rfl) ?_
    refine q_RP_call (v := (some (.int (dz_M261_64 (q_sA s 15 (upd (s.1 15) 5 (vp_nar .boolean 0))) ((((s.1 14) (a1.toNatClampNeg)) - a2) &&& 255)).2))) (h2 := (q_kM (dz_M261_64 (q_sA s 15 (upd (s.1 15) 5 (vp_nar .boolean 0))) ((((s.1 14) (a1.toNatClampNeg)) - a2) &&& 255)).1 c n)) rfl rfl ((dzt_M261_64 (q_sA s 15 (upd (s.1 15) 5 (vp_nar .boolean 0))) c n ((((s.1 14) (a1.toNatClampNeg)) - a2) &&& 255)).le (Nat.le_of_ble_eq_true rfl)) ?_
    generalize dz_M261_64 (q_sA s 15 (upd (s.1 15) 5 (vp_nar .boolean 0))) ((((s.1 14) (a1.toNatClampNeg)) - a2) &&& 255) = r1
    refine q_RP_let ?_
    show q_RP _ _ _ (37, [(0, .ref 64), (1, .int a1), (2, .int a2)], [.int r1.2], (q_kM r1.1 c n)) _ _
    refine q_RP_seg (g2 := (38, [(0, .ref 64), (1, .int a1), (2, .int a2)], [], (q_kM r1.1 c n))) 1 (fun _ _ => rfl) ?_
    exact q_RP_ret rfl rfl rfl
  | false =>
    refine q_RP_cF ?_
    refine q_RP_rsF (g2 := (15, [(0, .ref 64), (1, .int a1), (2, .int a2)], [.int 5, .ref 79], (q_kM s c n))) rfl rfl h2 ?_
    refine q_RP_seg (g2 := (27, [(0, .ref 64), (1, .int a1), (2, .int a2)], [.int a1, .ref 78, .ref 64], (q_kM (q_sA s 15 (upd (s.1 15) 5 (vp_nar .boolean 1))) c n))) 7 (fun _ _ => rfl) ?_
    refine q_RP_rsT (g2 := (28, [(0, .ref 64), (1, .int a1), (2, .int a2)], [.int ((s.1 14) (a1.toNatClampNeg)), .ref 64], (q_kM (q_sA s 15 (upd (s.1 15) 5 (vp_nar .boolean 1))) c n))) rfl rfl i1 ?_
    refine q_RP_seg (g2 := (34, [(0, .ref 64), (1, .int a1), (2, .int a2)], [.int ((((s.1 14) (a1.toNatClampNeg)) - a2) &&& 255), .ref 64], (q_kM (q_sA s 15 (upd (s.1 15) 5 (vp_nar .boolean 1))) c n))) 4 (fun _ _ => rfl) ?_
    refine q_RP_call (v := (some (.int (dz_M261_64 (q_sA s 15 (upd (s.1 15) 5 (vp_nar .boolean 1))) ((((s.1 14) (a1.toNatClampNeg)) - a2) &&& 255)).2))) (h2 := (q_kM (dz_M261_64 (q_sA s 15 (upd (s.1 15) 5 (vp_nar .boolean 1))) ((((s.1 14) (a1.toNatClampNeg)) - a2) &&& 255)).1 c n)) rfl rfl ((dzt_M261_64 (q_sA s 15 (upd (s.1 15) 5 (vp_nar .boolean 1))) c n ((((s.1 14) (a1.toNatClampNeg)) - a2) &&& 255)).le (Nat.le_of_ble_eq_true rfl)) ?_
    generalize dz_M261_64 (q_sA s 15 (upd (s.1 15) 5 (vp_nar .boolean 1))) ((((s.1 14) (a1.toNatClampNeg)) - a2) &&& 255) = r2
    refine q_RP_let ?_
    show q_RP _ _ _ (37, [(0, .ref 64), (1, .int a1), (2, .int a2)], [.int r2.2], (q_kM r2.1 c n)) _ _
    refine q_RP_seg (g2 := (38, [(0, .ref 64), (1, .int a1), (2, .int a2)], [], (q_kM r2.1 c n))) 1 (fun _ _ => rfl) ?_
    exact q_RP_ret rfl rfl rfl
def dz_M264_64 (s : q_S) (a1 : Int32) : Option (q_S) :=
  (dz_M257_64 s 5 1).bind fun r2 => cond (decide (((((s.1 14) 0) ^^^ ((((s.1 14) 0) + a1) + r2)) &&& (a1 ^^^ ((((s.1 14) 0) + a1) + r2))) &&& 128 = 0)) (cond (decide (255 < (((s.1 14) 0) + a1) + r2)) (q_let ((q_sA s 15 (upd (s.1 15) 1 (vp_nar .boolean 0)))) fun r3 => some (q_sA (q_sA r3 15 (upd (r3.1 15) 5 (vp_nar .boolean 1))) 14 (upd (r3.1 14) 0 (((((s.1 14) 0) + a1) + r2) - ((((s.1 14) 0) + a1) + r2) / 256 * 256)))) (q_let ((q_sA s 15 (upd (s.1 15) 1 (vp_nar .boolean 0)))) fun r4 => some (q_sA (q_sA r4 15 (upd (r4.1 15) 5 (vp_nar .boolean 0))) 14 (upd (r4.1 14) 0 (((((s.1 14) 0) + a1) + r2) - ((((s.1 14) 0) + a1) + r2) / 256 * 256))))) (cond (decide (255 < (((s.1 14) 0) + a1) + r2)) (q_let ((q_sA s 15 (upd (s.1 15) 1 (vp_nar .boolean 1)))) fun r5 => some (q_sA (q_sA r5 15 (upd (r5.1 15) 5 (vp_nar .boolean 1))) 14 (upd (r5.1 14) 0 (((((s.1 14) 0) + a1) + r2) - ((((s.1 14) 0) + a1) + r2) / 256 * 256)))) (q_let ((q_sA s 15 (upd (s.1 15) 1 (vp_nar .boolean 1)))) fun r6 => some (q_sA (q_sA r6 15 (upd (r6.1 15) 5 (vp_nar .boolean 0))) 14 (upd (r6.1 14) 0 (((((s.1 14) 0) + a1) + r2) - ((((s.1 14) 0) + a1) + r2) / 256 * 256)))))
set_option maxHeartbeats 4000000 in
theorem dzt_M264_64 (s : q_S) (c n : Nat) (a1 : Int32) (x : q_S) (h : dz_M264_64 s a1 = some x) : q_Ca q_TB0 2 263 [.ref 64, .int a1] (q_kM s c n) ((q_oSM c n) x) := by
  refine q_CaP_of (φ := (q_oSM c n)) (Nat.le_of_ble_eq_true rfl) ?_ h
  clear h
  unfold dz_M264_64
  refine q_RP_seg (g2 := (6, [(0, .ref 64), (1, .int a1)], [.int ((s.1 14) 0)], (q_kM s c n))) 4 (fun _ _ => rfl) ?_
  refine q_RP_seg (g2 := (11, [(0, .ref 64), (1, .int a1)], [.int 1, .int 5, .ref 64, .int (((s.1 14) 0) + a1)], (q_kM s c n))) 5 (fun _ _ => rfl) ?_
  refine q_RP_bd fun r2 er2 => ?_
  refine q_RP_call (v := (some (.int r2))) (h2 := (q_kM s c n)) rfl rfl ((dzt_M257_64 s c n 5 1 r2 er2).le (Nat.le_of_ble_eq_true rfl)) ?_
  show q_RP _ _ _ (14, [(0, .ref 64), (1, .int a1)], [.int r2, .int (((s.1 14) 0) + a1)], (q_kM s c n)) _ _
  refine q_RP_seg (g2 := (27, [(2, .int ((((s.1 14) 0) + a1) + r2)), (0, .ref 64), (1, .int a1)], [.int ((s.1 14) 0), .int 1, .ref 79], (q_kM s c n))) 9 (fun _ _ => rfl) ?_
  refine q_RP_seg (g2 := (37, [(2, .int ((((s.1 14) 0) + a1) + r2)), (0, .ref 64), (1, .int a1)], [.int (((((s.1 14) 0) ^^^ ((((s.1 14) 0) + a1) + r2)) &&& (a1 ^^^ ((((s.1 14) 0) + a1) + r2))) &&& 128), .int 1, .ref 79], (q_kM s c n))) 8 (fun _ _ => rfl) ?_
  cases h1 : decide (((((s.1 14) 0) ^^^ ((((s.1 14) 0) + a1) + r2)) &&& (a1 ^^^ ((((s.1 14) 0) + a1) + r2))) &&& 128 = 0) with
  | true =>
    refine q_RP_cT ?_
    refine q_RP_rsT (g2 := (44, [(2, .int ((((s.1 14) 0) + a1) + r2)), (0, .ref 64), (1, .int a1)], [.int 1, .ref 79], (q_kM s c n))) rfl rfl h1 ?_
    refine q_RP_seg (g2 := (55, [(2, .int ((((s.1 14) 0) + a1) + r2)), (0, .ref 64), (1, .int a1)], [.int 255, .int ((((s.1 14) 0) + a1) + r2), .int 5, .ref 79], (q_kM (q_sA s 15 (upd (s.1 15) 1 (vp_nar .boolean 0))) c n))) 7 (fun _ _ => rfl) ?_
    cases h2 : decide (255 < (((s.1 14) 0) + a1) + r2) with
    | true =>
      refine q_RP_cT ?_
      refine q_RP_rsF (g2 := (58, [(2, .int ((((s.1 14) 0) + a1) + r2)), (0, .ref 64), (1, .int a1)], [.int 5, .ref 79], (q_kM (q_sA s 15 (upd (s.1 15) 1 (vp_nar .boolean 0))) c n))) rfl rfl (q_d_geT h2) ?_
      refine q_RP_seg (g2 := (63, [(2, .int ((((s.1 14) 0) + a1) + r2)), (0, .ref 64), (1, .int a1)], [.int 1, .int 5, .ref 79], (q_kM (q_sA s 15 (upd (s.1 15) 1 (vp_nar .boolean 0))) c n))) 2 (fun _ _ => rfl) ?_
      generalize (q_sA s 15 (upd (s.1 15) 1 (vp_nar .boolean 0))) = r3
      refine q_RP_let ?_
      show q_RP _ _ _ (63, [(2, .int ((((s.1 14) 0) + a1) + r2)), (0, .ref 64), (1, .int a1)], [.int 1, .int 5, .ref 79], (q_kM r3 c n)) _ _
      refine q_RP_seg (g2 := (75, [(2, .int ((((s.1 14) 0) + a1) + r2)), (0, .ref 64), (1, .int a1)], [], (q_kM (q_sA (q_sA r3 15 (upd (r3.1 15) 5 (vp_nar .boolean 1))) 14 (upd (r3.1 14) 0 (((((s.1 14) 0) + a1) + r2) - ((((s.1 14) 0) + a1) + r2) / 256 * 256))) c n))) 8 (fun _ _ => rfl) ?_
      exact q_RP_ret rfl rfl rfl
    | false =>
      refine q_RP_cF ?_
      refine q_RP_rsT (g2 := (62, [(2, .int ((((s.1 14) 0) + a1) + r2)), (0, .ref 64), (1, .int a1)], [.int 5, .ref 79], (q_kM (q_sA s 15 (upd (s.1 15) 1 (vp_nar .boolean 0))) c n))) rfl rfl (q_d_geF h2) ?_
      refine q_RP_seg (g2 := (63, [(2, .int ((((s.1 14) 0) + a1) + r2)), (0, .ref 64), (1, .int a1)], [.int 0, .int 5, .ref 79], (q_kM (q_sA s 15 (upd (s.1 15) 1 (vp_nar .boolean 0))) c n))) 1 (fun _ _ => rfl) ?_
      generalize (q_sA s 15 (upd (s.1 15) 1 (vp_nar .boolean 0))) = r4
      refine q_RP_let ?_
      show q_RP _ _ _ (63, [(2, .int ((((s.1 14) 0) + a1) + r2)), (0, .ref 64), (1, .int a1)], [.int 0, .int 5, .ref 79], (q_kM r4 c n)) _ _
      refine q_RP_seg (g2 := (75, [(2, .int ((((s.1 14) 0) + a1) + r2)), (0, .ref 64), (1, .int a1)], [], (q_kM (q_sA (q_sA r4 15 (upd (r4.1 15) 5 (vp_nar .boolean 0))) 14 (upd (r4.1 14) 0 (((((s.1 14) 0) + a1) + r2) - ((((s.1 14) 0) + a1) + r2) / 256 * 256))) c n))) 8 (fun _ _ => rfl) ?_
      exact q_RP_ret rfl rfl rfl
  | false =>
    refine q_RP_cF ?_
    refine q_RP_rsF (g2 := (40, [(2, .int ((((s.1 14) 0) + a1) + r2)), (0, .ref 64), (1, .int a1)], [.int 1, .ref 79], (q_kM s c n))) rfl rfl h1 ?_
    refine q_RP_seg (g2 := (55, [(2, .int ((((s.1 14) 0) + a1) + r2)), (0, .ref 64), (1, .int a1)], [.int 255, .int ((((s.1 14) 0) + a1) + r2), .int 5, .ref 79], (q_kM (q_sA s 15 (upd (s.1 15) 1 (vp_nar .boolean 1))) c n))) 8 (fun _ _ => rfl) ?_
    cases h3 : decide (255 < (((s.1 14) 0) + a1) + r2) with
    | true =>
      refine q_RP_cT ?_
      refine q_RP_rsF (g2 := (58, [(2, .int ((((s.1 14) 0) + a1) + r2)), (0, .ref 64), (1, .int a1)], [.int 5, .ref 79], (q_kM (q_sA s 15 (upd (s.1 15) 1 (vp_nar .boolean 1))) c n))) rfl rfl (q_d_geT h3) ?_
      refine q_RP_seg (g2 := (63, [(2, .int ((((s.1 14) 0) + a1) + r2)), (0, .ref 64), (1, .int a1)], [.int 1, .int 5, .ref 79], (q_kM (q_sA s 15 (upd (s.1 15) 1 (vp_nar .boolean 1))) c n))) 2 (fun _ _ => rfl) ?_
      generalize (q_sA s 15 (upd (s.1 15) 1 (vp_nar .boolean 1))) = r5
      refine q_RP_let ?_
      show q_RP _ _ _ (63, [(2, .int ((((s.1 14) 0) + a1) + r2)), (0, .ref 64), (1, .int a1)], [.int 1, .int 5, .ref 79], (q_kM r5 c n)) _ _
      refine q_RP_seg (g2 := (75, [(2, .int ((((s.1 14) 0) + a1) + r2)), (0, .ref 64), (1, .int a1)], [], (q_kM (q_sA (q_sA r5 15 (upd (r5.1 15) 5 (vp_nar .boolean 1))) 14 (upd (r5.1 14) 0 (((((s.1 14) 0) + a1) + r2) - ((((s.1 14) 0) + a1) + r2) / 256 * 256))) c n))) 8 (fun _ _ => rfl) ?_
      exact q_RP_ret rfl rfl rfl
    | false =>
      refine q_RP_cF ?_
      refine q_RP_rsT (g2 := (62, [(2, .int ((((s.1 14) 0) + a1) + r2)), (0, .ref 64), (1, .int a1)], [.int 5, .ref 79], (q_kM (q_sA s 15 (upd (s.1 15) 1 (vp_nar .boolean 1))) c n))) rfl rfl (q_d_geF h3) ?_
      refine q_RP_seg (g2 := (63, [(2, .int ((((s.1 14) 0) + a1) + r2)), (0, .ref 64), (1, .int a1)], [.int 0, .int 5, .ref 79], (q_kM (q_sA s 15 (upd (s.1 15) 1 (vp_nar .boolean 1))) c n))) 1 (fun _ _ => rfl) ?_
      generalize (q_sA s 15 (upd (s.1 15) 1 (vp_nar .boolean 1))) = r6
      refine q_RP_let ?_
      show q_RP _ _ _ (63, [(2, .int ((((s.1 14) 0) + a1) + r2)), (0, .ref 64), (1, .int a1)], [.int 0, .int 5, .ref 79], (q_kM r6 c n)) _ _
      refine q_RP_seg (g2 := (75, [(2, .int ((((s.1 14) 0) + a1) + r2)), (0, .ref 64), (1, .int a1)], [], (q_kM (q_sA (q_sA r6 15 (upd (r6.1 15) 5 (vp_nar .boolean 0))) 14 (upd (r6.1 14) 0 (((((s.1 14) 0) + a1) + r2) - ((((s.1 14) 0) + a1) + r2) / 256 * 256))) c n))) 8 (fun _ _ => rfl) ?_
      exact q_RP_ret rfl rfl rfl
def dz_M266_64 (s : q_S) (a1 : Int32) (a2 : Int32) (a3 : Int32) : q_S :=
  cond (decide ((((a1 - a1 / 16 * 16) - (a2 - a2 / 16 * 16)) - 1) + a3 < 0)) (q_let (((((a1 - a1 / 16 * 16) - (a2 - a2 / 16 * 16)) - 1) + a3) + 10) fun x1 => cond (decide (((a1 / 16) - (a2 / 16)) - 1 < 0)) ((q_sA (q_sA s 15 (upd (s.1 15) 5 (vp_nar .boolean 0))) 14 (upd (s.1 14) 0 (((16 * ((((a1 / 16) - (a2 / 16)) - 1) + 10)) + x1) &&& 255)))) ((q_sA (q_sA s 15 (upd (s.1 15) 5 (vp_nar .boolean 1))) 14 (upd (s.1 14) 0 (((16 * ((((a1 / 16) - (a2 / 16)) - 1) + 0)) + x1) &&& 255))))) (cond (decide (((a1 / 16) - (a2 / 16)) - 0 < 0)) ((q_sA (q_sA s 15 (upd (s.1 15) 5 (vp_nar .boolean 0))) 14 (upd (s.1 14) 0 (((16 * ((((a1 / 16) - (a2 / 16)) - 0) + 10)) + (((((a1 - a1 / 16 * 16) - (a2 - a2 / 16 * 16)) - 1) + a3) + 0)) &&& 255)))) ((q_sA (q_sA s 15 (upd (s.1 15) 5 (vp_nar .boolean 1))) 14 (upd (s.1 14) 0 (((16 * ((((a1 / 16) - (a2 / 16)) - 0) + 0)) + (((((a1 - a1 / 16 * 16) - (a2 - a2 / 16 * 16)) - 1) + a3) + 0)) &&& 255)))))
set_option maxHeartbeats 4000000 in
theorem dzt_M266_64 (s : q_S) (c n : Nat) (a1 : Int32) (a2 : Int32) (a3 : Int32) : q_Ca q_TB0 1 265 [.ref 64, .int a1, .int a2, .int a3] (q_kM s c n) ((q_oSM c n) (dz_M266_64 s a1 a2 a3)) := by
  refine q_CaT_of (φ := (q_oSM c n)) (Nat.le_of_ble_eq_true rfl) ?_
  unfold dz_M266_64
  refine q_RT_seg (g2 := (26, [(4, .int ((((a1 - a1 / 16 * 16) - (a2 - a2 / 16 * 16)) - 1) + a3)), (0, .ref 64), (1, .int a1), (2, .int a2), (3, .int a3)], [.int ((((a1 - a1 / 16 * 16) - (a2 - a2 / 16 * 16)) - 1) + a3), .int ((a1 / 16) - (a2 / 16))], (q_kM s c n))) 20 (fun _ _ => rfl) ?_
  cases h1 : decide ((((a1 - a1 / 16 * 16) - (a2 - a2 / 16 * 16)) - 1) + a3 < 0) with
  | true =>
    refine q_RT_cT ?_
    refine q_RT_rsF (g2 := (29, [(4, .int ((((a1 - a1 / 16 * 16) - (a2 - a2 / 16 * 16)) - 1) + a3)), (0, .ref 64), (1, .int a1), (2, .int a2), (3, .int a3)], [.int ((a1 / 16) - (a2 / 16))], (q_kM s c n))) rfl rfl (q_d_geT h1) ?_
    refine q_RT_seg (g2 := (41, [(5, .int (((a1 / 16) - (a2 / 16)) - 1)), (4, .int ((((a1 - a1 / 16 * 16) - (a2 - a2 / 16 * 16)) - 1) + a3)), (0, .ref 64), (1, .int a1), (2, .int a2), (3, .int a3)], [.int ((((a1 - a1 / 16 * 16) - (a2 - a2 / 16 * 16)) - 1) + a3), .int ((((a1 - a1 / 16 * 16) - (a2 - a2 / 16 * 16)) - 1) + a3)], (q_kM s c n))) 6 (fun _ _ => rfl) ?_
    refine q_RT_rsF (g2 := (44, [(5, .int (((a1 / 16) - (a2 / 16)) - 1)), (4, .int ((((a1 - a1 / 16 * 16) - (a2 - a2 / 16 * 16)) - 1) + a3)), (0, .ref 64), (1, .int a1), (2, .int a2), (3, .int a3)], [.int ((((a1 - a1 / 16 * 16) - (a2 - a2 / 16 * 16)) - 1) + a3)], (q_kM s c n))) rfl rfl (q_d_geT h1) ?_
    refine q_RT_seg (g2 := (51, [(5, .int (((a1 / 16) - (a2 / 16)) - 1)), (4, .int ((((a1 - a1 / 16 * 16) - (a2 - a2 / 16 * 16)) - 1) + a3)), (0, .ref 64), (1, .int a1), (2, .int a2), (3, .int a3)], [.int (((((a1 - a1 / 16 * 16) - (a2 - a2 / 16 * 16)) - 1) + a3) + 10)], (q_kM s c n))) 3 (fun _ _ => rfl) ?_
    generalize (((((a1 - a1 / 16 * 16) - (a2 - a2 / 16 * 16)) - 1) + a3) + 10) = x1
    refine q_RT_let ?_
    show q_RT _ _ _ (51, [(5, .int (((a1 / 16) - (a2 / 16)) - 1)), (4, .int ((((a1 - a1 / 16 * 16) - (a2 - a2 / 16 * 16)) - 1) + a3)), (0, .ref 64), (1, .int a1), (2, .int a2), (3, .int a3)], [.int x1], (q_kM s c n)) _ _
    refine q_RT_seg (g2 := (60, [(4, .int x1), (5, .int (((a1 / 16) - (a2 / 16)) - 1)), (0, .ref 64), (1, .int a1), (2, .int a2), (3, .int a3)], [.int (((a1 / 16) - (a2 / 16)) - 1), .int 5, .ref 79], (q_kM s c n))) 5 (fun _ _ => rfl) ?_
    cases h2 : decide (((a1 / 16) - (a2 / 16)) - 1 < 0) with
    | true =>
      refine q_RT_cT ?_
      refine q_RT_rsT (g2 := (67, [(4, .int x1), (5, .int (((a1 / 16) - (a2 / 16)) - 1)), (0, .ref 64), (1, .int a1), (2, .int a2), (3, .int a3)], [.int 5, .ref 79], (q_kM s c n))) rfl rfl h2 ?_
      refine q_RT_seg (g2 := (73, [(4, .int x1), (5, .int (((a1 / 16) - (a2 / 16)) - 1)), (0, .ref 64), (1, .int a1), (2, .int a2), (3, .int a3)], [.int (((a1 / 16) - (a2 / 16)) - 1), .int (((a1 / 16) - (a2 / 16)) - 1)], (q_kM (q_sA s 15 (upd (s.1 15) 5 (vp_nar .boolean 0))) c n))) 4 (fun _ _ => rfl) ?_
      refine q_RT_rsF (g2 := (76, [(4, .int x1), (5, .int (((a1 / 16) - (a2 / 16)) - 1)), (0, .ref 64), (1, .int a1), (2, .int a2), (3, .int a3)], [.int (((a1 / 16) - (a2 / 16)) - 1)], (q_kM (q_sA s 15 (upd (s.1 15) 5 (vp_nar .boolean 0))) c n))) rfl rfl (q_d_geT h2) ?_
      refine q_RT_seg (g2 := (103, [(5, .int ((((a1 / 16) - (a2 / 16)) - 1) + 10)), (4, .int x1), (0, .ref 64), (1, .int a1), (2, .int a2), (3, .int a3)], [], (q_kM (q_sA (q_sA s 15 (upd (s.1 15) 5 (vp_nar .boolean 0))) 14 (upd (s.1 14) 0 (((16 * ((((a1 / 16) - (a2 / 16)) - 1) + 10)) + x1) &&& 255))) c n))) 15 (fun _ _ => rfl) ?_
      exact q_RT_ret rfl rfl rfl
    | false =>
      refine q_RT_cF ?_
      refine q_RT_rsF (g2 := (63, [(4, .int x1), (5, .int (((a1 / 16) - (a2 / 16)) - 1)), (0, .ref 64), (1, .int a1), (2, .int a2), (3, .int a3)], [.int 5, .ref 79], (q_kM s c n))) rfl rfl h2 ?_
      refine q_RT_seg (g2 := (73, [(4, .int x1), (5, .int (((a1 / 16) - (a2 / 16)) - 1)), (0, .ref 64), (1, .int a1), (2, .int a2), (3, .int a3)], [.int (((a1 / 16) - (a2 / 16)) - 1), .int (((a1 / 16) - (a2 / 16)) - 1)], (q_kM (q_sA s 15 (upd (s.1 15) 5 (vp_nar .boolean 1))) c n))) 5 (fun _ _ => rfl) ?_
      refine q_RT_rsT (g2 := (81, [(4, .int x1), (5, .int (((a1 / 16) - (a2 / 16)) - 1)), (0, .ref 64), (1, .int a1), (2, .int a2), (3, .int a3)], [.int (((a1 / 16) - (a2 / 16)) - 1)], (q_kM (q_sA s 15 (upd (s.1 15) 5 (vp_nar .boolean 1))) c n))) rfl rfl (q_d_geF h2) ?_
      refine q_RT_seg (g2 := (103, [(5, .int ((((a1 / 16) - (a2 / 16)) - 1) + 0)), (4, .int x1), (0, .ref 64), (1, .int a1), (2, .int a2), (3, .int a3)], [], (q_kM (q_sA (q_sA s 15 (upd (s.1 15) 5 (vp_nar .boolean 1))) 14 (upd (s.1 14) 0 (((16 * ((((a1 / 16) - (a2 / 16)) - 1) + 0)) + x1) &&& 255))) c n))) 14 (fun _ _ => rfl) ?_
      exact q_RT_ret rfl rfl rfl
  | false =>
    refine q_RT_cF ?_
    refine q_RT_rsT (g2 := (33, [(4, .int ((((a1 - a1 / 16 * 16) - (a2 - a2 / 16 * 16)) - 1) + a3)), (0, .ref 64), (1, .int a1), (2, .int a2), (3, .int a3)], [.int ((a1 / 16) - (a2 / 16))], (q_kM s c n))) rfl rfl (q_d_geF h1) ?_
    refine q_RT_seg (g2 := (41, [(5, .int (((a1 / 16) - (a2 / 16)) - 0)), (4, .int ((((a1 - a1 / 16 * 16) - (a2 - a2 / 16 * 16)) - 1) + a3)), (0, .ref 64), (1, .int a1), (2, .int a2), (3, .int a3)], [.int ((((a1 - a1 / 16 * 16) - (a2 - a2 / 16 * 16)) - 1) + a3), .int ((((a1 - a1 / 16 * 16) - (a2 - a2 / 16 * 16)) - 1) + a3)], (q_kM s c n))) 5 (fun _ _ => rfl) ?_
    refine q_RT_rsT (g2 := (49, [(5, .int (((a1 / 16) - (a2 / 16)) - 0)), (4, .int ((((a1 - a1 / 16 * 16) - (a2 - a2 / 16 * 16)) - 1) + a3)), (0, .ref 64), (1, .int a1), (2, .int a2), (3, .int a3)], [.int ((((a1 - a1 / 16 * 16) - (a2 - a2 / 16 * 16)) - 1) + a3)], (q_kM s c n))) rfl rfl (q_d_geF h1) ?_
    refine q_RT_seg (g2 := (60, [(4, .int (((((a1 - a1 / 16 * 16) - (a2 - a2 / 16 * 16)) - 1) + a3) + 0)), (5, .int (((a1 / 16) - (a2 / 16)) - 0)), (0, .ref 64), (1, .int a1), (2, .int a2), (3, .int a3)], [.int (((a1 / 16) - (a2 / 16)) - 0), .int 5, .ref 79], (q_kM s c n))) 7 (fun _ _ => rfl) ?_
    cases h3 : decide (((a1 / 16) - (a2 / 16)) - 0 < 0) with
    | true =>
      refine q_RT_cT ?_
      refine q_RT_rsT (g2 := (67, [(4, .int (((((a1 - a1 / 16 * 16) - (a2 - a2 / 16 * 16)) - 1) + a3) + 0)), (5, .int (((a1 / 16) - (a2 / 16)) - 0)), (0, .ref 64), (1, .int a1), (2, .int a2), (3, .int a3)], [.int 5, .ref 79], (q_kM s c n))) rfl rfl h3 ?_
      refine q_RT_seg (g2 := (73, [(4, .int (((((a1 - a1 / 16 * 16) - (a2 - a2 / 16 * 16)) - 1) + a3) + 0)), (5, .int (((a1 / 16) - (a2 / 16)) - 0)), (0, .ref 64), (1, .int a1), (2, .int a2), (3, .int a3)], [.int (((a1 / 16) - (a2 / 16)) - 0), .int (((a1 / 16) - (a2 / 16)) - 0)], (q_kM (q_sA s 15 (upd (s.1 15) 5 (vp_nar .boolean 0))) c n))) 4 (fun _ _ => rfl) ?_
      refine q_RT_rsF (g2 := (76, [(4, .int (((((a1 - a1 / 16 * 16) - (a2 - a2 / 16 * 16)) - 1) + a3) + 0)), (5, .int (((a1 / 16) - (a2 / 16)) - 0)), (0, .ref 64), (1, .int a1), (2, .int a2), (3, .int a3)], [.int (((a1 / 16) - (a2 / 16)) - 0)], (q_kM (q_sA s 15 (upd (s.1 15) 5 (vp_nar .boolean 0))) c n))) rfl rfl (q_d_geT h3) ?_
      refine q_RT_seg (g2 := (103, [(5, .int ((((a1 / 16) - (a2 / 16)) - 0) + 10)), (4, .int (((((a1 - a1 / 16 * 16) - (a2 - a2 / 16 * 16)) - 1) + a3) + 0)), (0, .ref 64), (1, .int a1), (2, .int a2), (3, .int a3)], [], (q_kM (q_sA (q_sA s 15 (upd (s.1 15) 5 (vp_nar .boolean 0))) 14 (upd (s.1 14) 0 (((16 * ((((a1 / 16) - (a2 / 16)) - 0) + 10)) + (((((a1 - a1 / 16 * 16) - (a2 - a2 / 16 * 16)) - 1) + a3) + 0)) &&& 255))) c n))) 15 (fun _ _ => rfl) ?_
      exact q_RT_ret rfl rfl rfl
    | false =>
      refine q_RT_cF ?_
      refine q_RT_rsF (g2 := (63, [(4, .int (((((a1 - a1 / 16 * 16) - (a2 - a2 / 16 * 16)) - 1) + a3) + 0)), (5, .int (((a1 / 16) - (a2 / 16)) - 0)), (0, .ref 64), (1, .int a1), (2, .int a2), (3, .int a3)], [.int 5, .ref 79], (q_kM s c n))) rfl rfl h3 ?_
      refine q_RT_seg (g2 := (73, [(4, .int (((((a1 - a1 / 16 * 16) - (a2 - a2 / 16 * 16)) - 1) + a3) + 0)), (5, .int (((a1 / 16) - (a2 / 16)) - 0)), (0, .ref 64), (1, .int a1), (2, .int a2), (3, .int a3)], [.int (((a1 / 16) - (a2 / 16)) - 0), .int (((a1 / 16) - (a2 / 16)) - 0)], (q_kM (q_sA s 15 (upd (s.1 15) 5 (vp_nar .boolean 1))) c n))) 5 (fun _ _ => rfl) ?_
      refine q_RT_rsT (g2 := (81, [(4, .int (((((a1 - a1 / 16 * 16) - (a2 - a2 / 16 * 16)) - 1) + a3) + 0)), (5, .int (((a1 / 16) - (a2 / 16)) - 0)), (0, .ref 64), (1, .int a1), (2, .int a2), (3, .int a3)], [.int (((a1 / 16) - (a2 / 16)) - 0)], (q_kM (q_sA s 15 (upd (s.1 15) 5 (vp_nar .boolean 1))) c n))) rfl rfl (q_d_geF h3) ?_
      refine q_RT_seg (g2 := (103, [(5, .int ((((a1 / 16) - (a2 / 16)) - 0) + 0)), (4, .int (((((a1 - a1 / 16 * 16) - (a2 - a2 / 16 * 16)) - 1) + a3) + 0)), (0, .ref 64), (1, .int a1), (2, .int a2), (3, .int a3)], [], (q_kM (q_sA (q_sA s 15 (upd (s.1 15) 5 (vp_nar .boolean 1))) 14 (upd (s.1 14) 0 (((16 * ((((a1 / 16) - (a2 / 16)) - 0) + 0)) + (((((a1 - a1 / 16 * 16) - (a2 - a2 / 16 * 16)) - 1) + a3) + 0)) &&& 255))) c n))) 14 (fun _ _ => rfl) ?_
      exact q_RT_ret rfl rfl rfl
def dz_M267_64_f_56 (s : q_S) (v2 : Int32) (v3 : Int32) (v4 : Int32) : Option (q_S) :=
  cond (decide ((s.1 15) 2 = 0)) (q_let (dz_M261_64 s ((s.1 14) 0)) fun r4 => some r4.1) (q_let (dz_M266_64 s v3 v2 v4) fun r5 => q_let (dz_M261_64 r5 ((r5.1 14) 0)) fun r6 => some r6.1)
set_option maxHeartbeats 4000000 in
theorem dzt_M267_64_f_56 (c n : Nat) (s : q_S) (v2 : Int32) (v3 : Int32) (v4 : Int32) : q_RP q_TB0 2 266 (56, [(0, .ref 64), (2, .int v2), (3, .int v3), (4, .int v4)], [], (q_kM s c n)) (q_oSM c n) (dz_M267_64_f_56 s v2 v3 v4) := by
  unfold dz_M267_64_f_56
  refine q_RP_seg (g2 := (62, [(0, .ref 64), (2, .int v2), (3, .int v3), (4, .int v4)], [.int ((s.1 15) 2)], (q_kM s c n))) 4 (fun _ _ => rfl) ?_
  cases h2 : decide ((s.1 15) 2 = 0) with
  | true =>
    refine q_RP_cT ?_
    refine q_RP_rsT (g2 := (73, [(0, .ref 64), (2, .int v2), (3, .int v3), (4, .int v4)], [], (q_kM s c n))) rfl rfl h2 ?_
    refine q_RP_seg (g2 := (80, [(0, .ref 64), (2, .int v2), (3, .int v3), (4, .int v4)], [.int ((s.1 14) 0), .ref 64], (q_kM s c n))) 5 (fun _ _ => rfl) ?_
    refine q_RP_call (v := (some (.int (dz_M261_64 s ((s.1 14) 0)).2))) (h2 := (q_kM (dz_M261_64 s ((s.1 14) 0)).1 c n)) rfl rfl ((dzt_M261_64 s c n ((s.1 14) 0)).le (Nat.le_of_ble_eq_true rfl)) ?_
    generalize dz_M261_64 s ((s.1 14) 0) = r4
    refine q_RP_let ?_
    show q_RP _ _ _ (83, [(0, .ref 64), (2, .int v2), (3, .int v3), (4, .int v4)], [.int r4.2], (q_kM r4.1 c n)) _ _
    refine q_RP_seg (g2 := (84, [(0, .ref 64), (2, .int v2), (3, .int v3), (4, .int v4)], [], (q_kM r4.1 c n))) 1 (fun _ _ => rfl) ?_
    exact q_RP_ret rfl rfl rfl
  | false =>
    refine q_RP_cF ?_
    refine q_RP_rsF (g2 := (65, [(0, .ref 64), (2, .int v2), (3, .int v3), (4, .int v4)], [], (q_kM s c n))) rfl rfl h2 ?_
    refine q_RP_seg (g2 := (70, [(0, .ref 64), (2, .int v2), (3, .int v3), (4, .int v4)], [.int v4, .int v2, .int v3, .ref 64], (q_kM s c n))) 4 (fun _ _ => rfl) ?_
    refine q_RP_call (v := none) (h2 := (q_kM (dz_M266_64 s v3 v2 v4) c n)) rfl rfl ((dzt_M266_64 s c n v3 v2 v4).le (Nat.le_of_ble_eq_true rfl)) ?_
    generalize dz_M266_64 s v3 v2 v4 = r5
    refine q_RP_let ?_
    show q_RP _ _ _ (73, [(0, .ref 64), (2, .int v2), (3, .int v3), (4, .int v4)], [], (q_kM r5 c n)) _ _
    refine q_RP_seg (g2 := (80, [(0, .ref 64), (2, .int v2), (3, .int v3), (4, .int v4)], [.int ((r5.1 14) 0), .ref 64], (q_kM r5 c n))) 5 (fun _ _ => rfl) ?_
    refine q_RP_call (v := (some (.int (dz_M261_64 r5 ((r5.1 14) 0)).2))) (h2 := (q_kM (dz_M261_64 r5 ((r5.1 14) 0)).1 c n)) rfl rfl ((dzt_M261_64 r5 c n ((r5.1 14) 0)).le (Nat.le_of_ble_eq_true rfl)) ?_
    generalize dz_M261_64 r5 ((r5.1 14) 0) = r6
    refine q_RP_let ?_
    show q_RP _ _ _ (83, [(0, .ref 64), (2, .int v2), (3, .int v3), (4, .int v4)], [.int r6.2], (q_kM r6.1 c n)) _ _
    refine q_RP_seg (g2 := (84, [(0, .ref 64), (2, .int v2), (3, .int v3), (4, .int v4)], [], (q_kM r6.1 c n))) 1 (fun _ _ => rfl) ?_
    exact q_RP_ret rfl rfl rfl
def dz_M267_64_f (s : q_S) (a2 : Int32) : Option (q_S) :=
  (dz_M257_64 s 5 1).bind fun r2 => (dz_M264_64 s ((255 : Int32) - a2)).bind fun r3 => cond (decide ((r3.1 15) 2 = 0)) (dz_M267_64_f_56 r3 a2 ((s.1 14) 0) r2) (dz_M267_64_f_56 r3 a2 ((s.1 14) 0) r2)
set_option maxHeartbeats 4000000 in
theorem dzt_M267_64_f (s : q_S) (c n : Nat) (a2 : Int32) (x : q_S) (h : dz_M267_64_f s a2 = some x) : q_Ca q_TB0 3 266 [.ref 64, .int 0, .int a2] (q_kM s c n) ((q_oSM c n) x) := by
  refine q_CaP_of (φ := (q_oSM c n)) (Nat.le_of_ble_eq_true rfl) ?_ h
  clear h
  unfold dz_M267_64_f
  refine q_RP_seg (g2 := (6, [(0, .ref 64), (1, .int 0), (2, .int a2)], [.int ((s.1 14) 0)], (q_kM s c n))) 4 (fun _ _ => rfl) ?_
  refine q_RP_seg (g2 := (10, [(3, .int ((s.1 14) 0)), (0, .ref 64), (1, .int 0), (2, .int a2)], [.int 1, .int 5, .ref 64], (q_kM s c n))) 4 (fun _ _ => rfl) ?_
  refine q_RP_bd fun r2 er2 => ?_
  refine q_RP_call (v := (some (.int r2))) (h2 := (q_kM s c n)) rfl rfl ((dzt_M257_64 s c n 5 1 r2 er2).le (Nat.le_of_ble_eq_true rfl)) ?_
  show q_RP _ _ _ (13, [(3, .int ((s.1 14) 0)), (0, .ref 64), (1, .int 0), (2, .int a2)], [.int r2], (q_kM s c n)) _ _
  refine q_RP_seg (g2 := (29, [(4, .int r2), (3, .int ((s.1 14) 0)), (0, .ref 64), (1, .int 0), (2, .int a2)], [.int ((255 : Int32) - a2), .ref 64], (q_kM s c n))) 7 (fun _ _ => rfl) ?_
  refine q_RP_bd fun r3 er3 => ?_
  refine q_RP_call (v := none) (h2 := (q_kM r3 c n)) rfl rfl ((dzt_M264_64 s c n ((255 : Int32) - a2) r3 er3).le (Nat.le_of_ble_eq_true rfl)) ?_
  show q_RP _ _ _ (32, [(4, .int r2), (3, .int ((s.1 14) 0)), (0, .ref 64), (1, .int 0), (2, .int a2)], [], (q_kM r3 c n)) _ _
  refine q_RP_seg (g2 := (38, [(4, .int r2), (3, .int ((s.1 14) 0)), (0, .ref 64), (1, .int 0), (2, .int a2)], [.int ((r3.1 15) 2)], (q_kM r3 c n))) 4 (fun _ _ => rfl) ?_
  cases h1 : decide ((r3.1 15) 2 = 0) with
  | true =>
    refine q_RP_cT ?_
    refine q_RP_rsT (g2 := (56, [(4, .int r2), (3, .int ((s.1 14) 0)), (0, .ref 64), (1, .int 0), (2, .int a2)], [], (q_kM r3 c n))) rfl rfl h1 ?_
    exact q_RP_xt (q_xt_mk (q_mn1 2 rfl (q_mn1 4 rfl (q_mn1 1 rfl (q_mn1 0 rfl q_mn0)))) rfl) (dzt_M267_64_f_56 c n r3 a2 ((s.1 14) 0) r2)
  | false =>
    refine q_RP_cF ?_
    refine q_RP_rsF (g2 := (41, [(4, .int r2), (3, .int ((s.1 14) 0)), (0, .ref 64), (1, .int 0), (2, .int a2)], [], (q_kM r3 c n))) rfl rfl h1 ?_
    refine q_RP_seg (g2 := (56, [(4, .int r2), (3, .int ((s.1 14) 0)), (0, .ref 64), (1, .int 0), (2, .int a2)], [], (q_kM r3 c n))) 2 (fun _ _ => rfl) ?_
    exact q_RP_xt (q_xt_mk (q_mn1 2 rfl (q_mn1 4 rfl (q_mn1 1 rfl (q_mn1 0 rfl q_mn0)))) rfl) (dzt_M267_64_f_56 c n r3 a2 ((s.1 14) 0) r2)
def dz_M268_64 (s : q_S) (a1 : Int32) : Option (q_S × Int32) :=
  (dz_M214_64 s a1).bind fun r2 => cond (decide (a1 = 3869)) (cond (decide (a1 = 3870)) (q_let ((q_sA r2.1 14 (upd (r2.1.1 14) 10 0))) fun r3 => some ((q_sA r3 14 (upd (r3.1 14) 11 0)), r2.2)) (some ((q_sA r2.1 14 (upd (r2.1.1 14) 10 0)), r2.2))) (cond (decide (a1 = 3870)) (some ((q_sA r2.1 14 (upd (r2.1.1 14) 11 0)), r2.2)) (some (r2.1, r2.2)))
set_option maxHeartbeats 4000000 in
theorem dzt_M268_64 (s : q_S) (c n : Nat) (a1 : Int32) (x : q_S × Int32) (h : dz_M268_64 s a1 = some x) : q_Ca q_TB0 5 267 [.ref 64, .int a1] (q_kM s c n) ((q_oIM c n) x) := by
  refine q_CaP_of (φ := (q_oIM c n)) (Nat.le_of_ble_eq_true rfl) ?_ h
  clear h
  unfold dz_M268_64
  refine q_RP_seg (g2 := (2, [(0, .ref 64), (1, .int a1)], [.int a1, .ref 64], (q_kM s c n))) 2 (fun _ _ => rfl) ?_
  refine q_RP_bd fun r2 er2 => ?_
  refine q_RP_call (v := (some (.int r2.2))) (h2 := (q_kM r2.1 c n)) rfl rfl ((dzt_M214_64 s c n a1 r2 er2).le (Nat.le_of_ble_eq_true rfl)) ?_
  show q_RP _ _ _ (5, [(0, .ref 64), (1, .int a1)], [.int r2.2], (q_kM r2.1 c n)) _ _
  refine q_RP_seg (g2 := (10, [(2, .int r2.2), (0, .ref 64), (1, .int a1)], [.int 3869, .int a1], (q_kM r2.1 c n))) 3 (fun _ _ => rfl) ?_
  cases h1 : decide (a1 = 3869) with
  | true =>
    refine q_RP_cT ?_
    refine q_RP_rsF (g2 := (13, [(2, .int r2.2), (0, .ref 64), (1, .int a1)], [], (q_kM r2.1 c n))) rfl rfl (q_d_neT h1) ?_
    refine q_RP_seg (g2 := (25, [(2, .int r2.2), (0, .ref 64), (1, .int a1)], [.int 3870, .int a1], (q_kM (q_sA r2.1 14 (upd (r2.1.1 14) 10 0)) c n))) 7 (fun _ _ => rfl) ?_
    cases h2 : decide (a1 = 3870) with
    | true =>
      refine q_RP_cT ?_
      refine q_RP_rsF (g2 := (28, [(2, .int r2.2), (0, .ref 64), (1, .int a1)], [], (q_kM (q_sA r2.1 14 (upd (r2.1.1 14) 10 0)) c n))) rfl rfl (q_d_neT h2) ?_
      refine q_RP_seg (g2 := (35, [(2, .int r2.2), (0, .ref 64), (1, .int a1)], [.int 0, .int 11, .ref 78], (q_kM (q_sA r2.1 14 (upd (r2.1.1 14) 10 0)) c n))) 4 (fun _ _ => rfl) ?_
      generalize (q_sA r2.1 14 (upd (r2.1.1 14) 10 0)) = r3
      refine q_RP_let ?_
      show q_RP _ _ _ (35, [(2, .int r2.2), (0, .ref 64), (1, .int a1)], [.int 0, .int 11, .ref 78], (q_kM r3 c n)) _ _
      refine q_RP_seg (g2 := (37, [(2, .int r2.2), (0, .ref 64), (1, .int a1)], [.int r2.2], (q_kM (q_sA r3 14 (upd (r3.1 14) 11 0)) c n))) 2 (fun _ _ => rfl) ?_
      exact q_RP_ret rfl rfl rfl
    | false =>
      refine q_RP_cF ?_
      refine q_RP_rsT (g2 := (36, [(2, .int r2.2), (0, .ref 64), (1, .int a1)], [], (q_kM (q_sA r2.1 14 (upd (r2.1.1 14) 10 0)) c n))) rfl rfl (q_d_neF h2) ?_
      refine q_RP_seg (g2 := (37, [(2, .int r2.2), (0, .ref 64), (1, .int a1)], [.int r2.2], (q_kM (q_sA r2.1 14 (upd (r2.1.1 14) 10 0)) c n))) 1 (fun _ _ => rfl) ?_
      exact q_RP_ret rfl rfl rfl
  | false =>
    refine q_RP_cF ?_
    refine q_RP_rsT (g2 := (21, [(2, .int r2.2), (0, .ref 64), (1, .int a1)], [], (q_kM r2.1 c n))) rfl rfl (q_d_neF h1) ?_
    refine q_RP_seg (g2 := (25, [(2, .int r2.2), (0, .ref 64), (1, .int a1)], [.int 3870, .int a1], (q_kM r2.1 c n))) 2 (fun _ _ => rfl) ?_
    cases h3 : decide (a1 = 3870) with
    | true =>
      refine q_RP_cT ?_
      refine q_RP_rsF (g2 := (28, [(2, .int r2.2), (0, .ref 64), (1, .int a1)], [], (q_kM r2.1 c n))) rfl rfl (q_d_neT h3) ?_
      refine q_RP_seg (g2 := (37, [(2, .int r2.2), (0, .ref 64), (1, .int a1)], [.int r2.2], (q_kM (q_sA r2.1 14 (upd (r2.1.1 14) 11 0)) c n))) 6 (fun _ _ => rfl) ?_
      exact q_RP_ret rfl rfl rfl
    | false =>
      refine q_RP_cF ?_
      refine q_RP_rsT (g2 := (36, [(2, .int r2.2), (0, .ref 64), (1, .int a1)], [], (q_kM r2.1 c n))) rfl rfl (q_d_neF h3) ?_
      refine q_RP_seg (g2 := (37, [(2, .int r2.2), (0, .ref 64), (1, .int a1)], [.int r2.2], (q_kM r2.1 c n))) 1 (fun _ _ => rfl) ?_
      exact q_RP_ret rfl rfl rfl
end
