def dz_M232_64_93 (s : q_S) (v1 : Int32) (v2 : Int32) : Option (q_S) :=
  cond (q_in (v2 + 2) 48) (q_let (dz_M206 s ((s.1 4) ((v2 + 2).toNatClampNeg)) 0) fun r815 => cond r815 (cond (q_in v1 3) (cond (q_in (v2 + 3) 48) (cond (decide (((s.1 4) ((v2 + 3).toNatClampNeg)) - ((s.1 4) ((v2 + 3).toNatClampNeg)) / 16 * 16 < (upd (s.1 12) (v1.toNatClampNeg) (((s.1 12) (v1.toNatClampNeg)) + 1)) (v1.toNatClampNeg))) (q_let ((q_sA s 12 (upd (s.1 12) (v1.toNatClampNeg) (((s.1 12) (v1.toNatClampNeg)) + 1)))) fun r816 => some (q_sA (q_sA r816 12 (upd (r816.1 12) (v1.toNatClampNeg) 0)) 11 (upd (r816.1 11) (v1.toNatClampNeg) (if (((r816.1 11) (v1.toNatClampNeg)) + 1) < (15 : Int32) then (((r816.1 11) (v1.toNatClampNeg)) + 1) else (15 : Int32))))) (some (q_sA s 12 (upd (s.1 12) (v1.toNatClampNeg) (((s.1 12) (v1.toNatClampNeg)) + 1))))) none) none) (cond (q_in v1 3) (cond (q_in (v2 + 3) 48) (cond (decide (((s.1 4) ((v2 + 3).toNatClampNeg)) / 16 < (upd (s.1 12) (v1.toNatClampNeg) (((s.1 12) (v1.toNatClampNeg)) + 1)) (v1.toNatClampNeg))) (q_let ((q_sA s 12 (upd (s.1 12) (v1.toNatClampNeg) (((s.1 12) (v1.toNatClampNeg)) + 1)))) fun r817 => some (q_sA (q_sA r817 12 (upd (r817.1 12) (v1.toNatClampNeg) 0)) 11 (upd (r817.1 11) (v1.toNatClampNeg) (if (0 : Int32) < (((r817.1 11) (v1.toNatClampNeg)) - 1) then (((r817.1 11) (v1.toNatClampNeg)) - 1) else (0 : Int32))))) (some (q_sA s 12 (upd (s.1 12) (v1.toNatClampNeg) (((s.1 12) (v1.toNatClampNeg)) + 1))))) none) none)) none
set_option maxHeartbeats 4000000 in
theorem dzt_M232_64_93 (c n : Nat) (s : q_S) (v1 : Int32) (v2 : Int32) : q_RP q_TB0 1 231 (93, [(0, .ref 64), (1, .int v1), (2, .int v2)], [], (q_kM s c n)) (q_oSM c n) (dz_M232_64_93 s v1 v2) := by
  unfold dz_M232_64_93
  refine q_RP_seg (g2 := (100, [(0, .ref 64), (1, .int v1), (2, .int v2)], [.int (v2 + 2), .ref 68], (q_kM s c n))) 5 (fun _ _ => rfl) ?_
  refine q_RP_as fun i1108 => ?_
  refine q_RP_rsT (g2 := (101, [(0, .ref 64), (1, .int v1), (2, .int v2)], [.int ((s.1 4) ((v2 + 2).toNatClampNeg))], (q_kM s c n))) rfl rfl i1108 ?_
  refine q_RP_seg (g2 := (102, [(0, .ref 64), (1, .int v1), (2, .int v2)], [.int 0, .int ((s.1 4) ((v2 + 2).toNatClampNeg))], (q_kM s c n))) 1 (fun _ _ => rfl) ?_
  refine q_RP_call (v := (some (.int (q_b (dz_M206 s ((s.1 4) ((v2 + 2).toNatClampNeg)) 0))))) (h2 := (q_kM s c n)) rfl rfl ((dzt_M206 s c n ((s.1 4) ((v2 + 2).toNatClampNeg)) 0).le (Nat.le_of_ble_eq_true rfl)) ?_
  generalize dz_M206 s ((s.1 4) ((v2 + 2).toNatClampNeg)) 0 = r815
  refine q_RP_let ?_
  show q_RP _ _ _ (105, [(0, .ref 64), (1, .int v1), (2, .int v2)], [.int (q_b r815)], (q_kM s c n)) _ _
  cases h1109 : r815 with
  | true =>
    refine q_RP_cT ?_
    show q_RP _ _ _ (105, [(0, .ref 64), (1, .int v1), (2, .int v2)], [.int 1], (q_kM s c n)) _ _
    refine q_RP_seg (g2 := (113, [(4, .int 1), (0, .ref 64), (1, .int v1), (2, .int v2)], [.int v1, .ref 76, .int v1, .ref 76], (q_kM s c n))) 5 (fun _ _ => rfl) ?_
    refine q_RP_as fun i1110 => ?_
    refine q_RP_rsT (g2 := (114, [(4, .int 1), (0, .ref 64), (1, .int v1), (2, .int v2)], [.int ((s.1 12) (v1.toNatClampNeg)), .int v1, .ref 76], (q_kM s c n))) rfl rfl i1110 ?_
    refine q_RP_seg (g2 := (116, [(4, .int 1), (0, .ref 64), (1, .int v1), (2, .int v2)], [.int (((s.1 12) (v1.toNatClampNeg)) + 1), .int v1, .ref 76], (q_kM s c n))) 2 (fun _ _ => rfl) ?_
    refine q_RP_rsT (g2 := (117, [(4, .int 1), (0, .ref 64), (1, .int v1), (2, .int v2)], [], (q_kM (q_sA s 12 (upd (s.1 12) (v1.toNatClampNeg) (((s.1 12) (v1.toNatClampNeg)) + 1))) c n))) rfl q_wM12 i1110 ?_
    refine q_RP_seg (g2 := (122, [(4, .int 1), (0, .ref 64), (1, .int v1), (2, .int v2)], [.int v1, .ref 76], (q_kM (q_sA s 12 (upd (s.1 12) (v1.toNatClampNeg) (((s.1 12) (v1.toNatClampNeg)) + 1))) c n))) 3 (fun _ _ => rfl) ?_
    refine q_RP_rsT (g2 := (123, [(4, .int 1), (0, .ref 64), (1, .int v1), (2, .int v2)], [.int ((upd (s.1 12) (v1.toNatClampNeg) (((s.1 12) (v1.toNatClampNeg)) + 1)) (v1.toNatClampNeg))], (q_kM (q_sA s 12 (upd (s.1 12) (v1.toNatClampNeg) (((s.1 12) (v1.toNatClampNeg)) + 1))) c n))) rfl rfl i1110 ?_
    refine q_RP_seg (g2 := (135, [(4, .int 1), (0, .ref 64), (1, .int v1), (2, .int v2)], [.int (v2 + 3), .ref 68, .int ((upd (s.1 12) (v1.toNatClampNeg) (((s.1 12) (v1.toNatClampNeg)) + 1)) (v1.toNatClampNeg))], (q_kM (q_sA s 12 (upd (s.1 12) (v1.toNatClampNeg) (((s.1 12) (v1.toNatClampNeg)) + 1))) c n))) 7 (fun _ _ => rfl) ?_
    refine q_RP_as fun i1111 => ?_
    refine q_RP_rsT (g2 := (136, [(4, .int 1), (0, .ref 64), (1, .int v1), (2, .int v2)], [.int ((s.1 4) ((v2 + 3).toNatClampNeg)), .int ((upd (s.1 12) (v1.toNatClampNeg) (((s.1 12) (v1.toNatClampNeg)) + 1)) (v1.toNatClampNeg))], (q_kM (q_sA s 12 (upd (s.1 12) (v1.toNatClampNeg) (((s.1 12) (v1.toNatClampNeg)) + 1))) c n))) rfl rfl i1111 ?_
    refine q_RP_seg (g2 := (153, [(4, .int 1), (0, .ref 64), (1, .int v1), (2, .int v2)], [.int (((s.1 4) ((v2 + 3).toNatClampNeg)) - ((s.1 4) ((v2 + 3).toNatClampNeg)) / 16 * 16), .int ((upd (s.1 12) (v1.toNatClampNeg) (((s.1 12) (v1.toNatClampNeg)) + 1)) (v1.toNatClampNeg))], (q_kM (q_sA s 12 (upd (s.1 12) (v1.toNatClampNeg) (((s.1 12) (v1.toNatClampNeg)) + 1))) c n))) 3 (fun _ _ => rfl) ?_
    cases h1112 : decide (((s.1 4) ((v2 + 3).toNatClampNeg)) - ((s.1 4) ((v2 + 3).toNatClampNeg)) / 16 * 16 < (upd (s.1 12) (v1.toNatClampNeg) (((s.1 12) (v1.toNatClampNeg)) + 1)) (v1.toNatClampNeg)) with
    | true =>
      refine q_RP_cT ?_
      refine q_RP_rsT (g2 := (157, [(4, .int 1), (0, .ref 64), (1, .int v1), (2, .int v2)], [], (q_kM (q_sA s 12 (upd (s.1 12) (v1.toNatClampNeg) (((s.1 12) (v1.toNatClampNeg)) + 1))) c n))) rfl rfl h1112 ?_
      refine q_RP_seg (g2 := (163, [(4, .int 1), (0, .ref 64), (1, .int v1), (2, .int v2)], [.int 0, .int v1, .ref 76], (q_kM (q_sA s 12 (upd (s.1 12) (v1.toNatClampNeg) (((s.1 12) (v1.toNatClampNeg)) + 1))) c n))) 4 (fun _ _ => rfl) ?_
      generalize (q_sA s 12 (upd (s.1 12) (v1.toNatClampNeg) (((s.1 12) (v1.toNatClampNeg)) + 1))) = r816
      refine q_RP_let ?_
      show q_RP _ _ _ (163, [(4, .int 1), (0, .ref 64), (1, .int v1), (2, .int v2)], [.int 0, .int v1, .ref 76], (q_kM r816 c n)) _ _
      refine q_RP_rsT (g2 := (164, [(4, .int 1), (0, .ref 64), (1, .int v1), (2, .int v2)], [], (q_kM (q_sA r816 12 (upd (r816.1 12) (v1.toNatClampNeg) 0)) c n))) rfl q_wM12 i1110 ?_
      refine q_RP_seg (g2 := (181, [(4, .int 1), (0, .ref 64), (1, .int v1), (2, .int v2)], [.int v1, .ref 75, .int 15, .int v1, .ref 75], (q_kM (q_sA r816 12 (upd (r816.1 12) (v1.toNatClampNeg) 0)) c n))) 9 (fun _ _ => rfl) ?_
      refine q_RP_rsT (g2 := (182, [(4, .int 1), (0, .ref 64), (1, .int v1), (2, .int v2)], [.int ((r816.1 11) (v1.toNatClampNeg)), .int 15, .int v1, .ref 75], (q_kM (q_sA r816 12 (upd (r816.1 12) (v1.toNatClampNeg) 0)) c n))) rfl rfl i1110 ?_
      refine q_RP_seg (g2 := (202, [(4, .int 1), (0, .ref 64), (1, .int v1), (2, .int v2)], [.int (if (((r816.1 11) (v1.toNatClampNeg)) + 1) < (15 : Int32) then (((r816.1 11) (v1.toNatClampNeg)) + 1) else (15 : Int32)), .int v1, .ref 75], (q_kM (q_sA r816 12 (upd (r816.1 12) (v1.toNatClampNeg) 0)) c n))) 4 (fun _ _ => rfl) ?_
      refine q_RP_rsT (g2 := (203, [(4, .int 1), (0, .ref 64), (1, .int v1), (2, .int v2)], [], (q_kM (q_sA (q_sA r816 12 (upd (r816.1 12) (v1.toNatClampNeg) 0)) 11 (upd (r816.1 11) (v1.toNatClampNeg) (if (((r816.1 11) (v1.toNatClampNeg)) + 1) < (15 : Int32) then (((r816.1 11) (v1.toNatClampNeg)) + 1) else (15 : Int32)))) c n))) rfl q_wM11 i1110 ?_
      exact q_RP_ret rfl rfl rfl
    | false =>
      refine q_RP_cF ?_
      refine q_RP_rsF (g2 := (156, [(4, .int 1), (0, .ref 64), (1, .int v1), (2, .int v2)], [], (q_kM (q_sA s 12 (upd (s.1 12) (v1.toNatClampNeg) (((s.1 12) (v1.toNatClampNeg)) + 1))) c n))) rfl rfl h1112 ?_
      exact q_RP_ret rfl rfl rfl
  | false =>
    refine q_RP_cF ?_
    show q_RP _ _ _ (105, [(0, .ref 64), (1, .int v1), (2, .int v2)], [.int 0], (q_kM s c n)) _ _
    refine q_RP_seg (g2 := (113, [(4, .int 0), (0, .ref 64), (1, .int v1), (2, .int v2)], [.int v1, .ref 76, .int v1, .ref 76], (q_kM s c n))) 5 (fun _ _ => rfl) ?_
    refine q_RP_as fun i1113 => ?_
    refine q_RP_rsT (g2 := (114, [(4, .int 0), (0, .ref 64), (1, .int v1), (2, .int v2)], [.int ((s.1 12) (v1.toNatClampNeg)), .int v1, .ref 76], (q_kM s c n))) rfl rfl i1113 ?_
    refine q_RP_seg (g2 := (116, [(4, .int 0), (0, .ref 64), (1, .int v1), (2, .int v2)], [.int (((s.1 12) (v1.toNatClampNeg)) + 1), .int v1, .ref 76], (q_kM s c n))) 2 (fun _ _ => rfl) ?_
    refine q_RP_rsT (g2 := (117, [(4, .int 0), (0, .ref 64), (1, .int v1), (2, .int v2)], [], (q_kM (q_sA s 12 (upd (s.1 12) (v1.toNatClampNeg) (((s.1 12) (v1.toNatClampNeg)) + 1))) c n))) rfl q_wM12 i1113 ?_
    refine q_RP_seg (g2 := (122, [(4, .int 0), (0, .ref 64), (1, .int v1), (2, .int v2)], [.int v1, .ref 76], (q_kM (q_sA s 12 (upd (s.1 12) (v1.toNatClampNeg) (((s.1 12) (v1.toNatClampNeg)) + 1))) c n))) 3 (fun _ _ => rfl) ?_
    refine q_RP_rsT (g2 := (123, [(4, .int 0), (0, .ref 64), (1, .int v1), (2, .int v2)], [.int ((upd (s.1 12) (v1.toNatClampNeg) (((s.1 12) (v1.toNatClampNeg)) + 1)) (v1.toNatClampNeg))], (q_kM (q_sA s 12 (upd (s.1 12) (v1.toNatClampNeg) (((s.1 12) (v1.toNatClampNeg)) + 1))) c n))) rfl rfl i1113 ?_
    refine q_RP_seg (g2 := (149, [(4, .int 0), (0, .ref 64), (1, .int v1), (2, .int v2)], [.int (v2 + 3), .ref 68, .int ((upd (s.1 12) (v1.toNatClampNeg) (((s.1 12) (v1.toNatClampNeg)) + 1)) (v1.toNatClampNeg))], (q_kM (q_sA s 12 (upd (s.1 12) (v1.toNatClampNeg) (((s.1 12) (v1.toNatClampNeg)) + 1))) c n))) 7 (fun _ _ => rfl) ?_
    refine q_RP_as fun i1114 => ?_
    refine q_RP_rsT (g2 := (150, [(4, .int 0), (0, .ref 64), (1, .int v1), (2, .int v2)], [.int ((s.1 4) ((v2 + 3).toNatClampNeg)), .int ((upd (s.1 12) (v1.toNatClampNeg) (((s.1 12) (v1.toNatClampNeg)) + 1)) (v1.toNatClampNeg))], (q_kM (q_sA s 12 (upd (s.1 12) (v1.toNatClampNeg) (((s.1 12) (v1.toNatClampNeg)) + 1))) c n))) rfl rfl i1114 ?_
    refine q_RP_seg (g2 := (153, [(4, .int 0), (0, .ref 64), (1, .int v1), (2, .int v2)], [.int (((s.1 4) ((v2 + 3).toNatClampNeg)) / 16), .int ((upd (s.1 12) (v1.toNatClampNeg) (((s.1 12) (v1.toNatClampNeg)) + 1)) (v1.toNatClampNeg))], (q_kM (q_sA s 12 (upd (s.1 12) (v1.toNatClampNeg) (((s.1 12) (v1.toNatClampNeg)) + 1))) c n))) 2 (fun _ _ => rfl) ?_
    cases h1115 : decide (((s.1 4) ((v2 + 3).toNatClampNeg)) / 16 < (upd (s.1 12) (v1.toNatClampNeg) (((s.1 12) (v1.toNatClampNeg)) + 1)) (v1.toNatClampNeg)) with
    | true =>
      refine q_RP_cT ?_
      refine q_RP_rsT (g2 := (157, [(4, .int 0), (0, .ref 64), (1, .int v1), (2, .int v2)], [], (q_kM (q_sA s 12 (upd (s.1 12) (v1.toNatClampNeg) (((s.1 12) (v1.toNatClampNeg)) + 1))) c n))) rfl rfl h1115 ?_
      refine q_RP_seg (g2 := (163, [(4, .int 0), (0, .ref 64), (1, .int v1), (2, .int v2)], [.int 0, .int v1, .ref 76], (q_kM (q_sA s 12 (upd (s.1 12) (v1.toNatClampNeg) (((s.1 12) (v1.toNatClampNeg)) + 1))) c n))) 4 (fun _ _ => rfl) ?_
      generalize (q_sA s 12 (upd (s.1 12) (v1.toNatClampNeg) (((s.1 12) (v1.toNatClampNeg)) + 1))) = r817
      refine q_RP_let ?_
      show q_RP _ _ _ (163, [(4, .int 0), (0, .ref 64), (1, .int v1), (2, .int v2)], [.int 0, .int v1, .ref 76], (q_kM r817 c n)) _ _
      refine q_RP_rsT (g2 := (164, [(4, .int 0), (0, .ref 64), (1, .int v1), (2, .int v2)], [], (q_kM (q_sA r817 12 (upd (r817.1 12) (v1.toNatClampNeg) 0)) c n))) rfl q_wM12 i1113 ?_
      refine q_RP_seg (g2 := (196, [(4, .int 0), (0, .ref 64), (1, .int v1), (2, .int v2)], [.int v1, .ref 75, .int 0, .int v1, .ref 75], (q_kM (q_sA r817 12 (upd (r817.1 12) (v1.toNatClampNeg) 0)) c n))) 9 (fun _ _ => rfl) ?_
      refine q_RP_rsT (g2 := (197, [(4, .int 0), (0, .ref 64), (1, .int v1), (2, .int v2)], [.int ((r817.1 11) (v1.toNatClampNeg)), .int 0, .int v1, .ref 75], (q_kM (q_sA r817 12 (upd (r817.1 12) (v1.toNatClampNeg) 0)) c n))) rfl rfl i1113 ?_
      refine q_RP_seg (g2 := (202, [(4, .int 0), (0, .ref 64), (1, .int v1), (2, .int v2)], [.int (if (0 : Int32) < (((r817.1 11) (v1.toNatClampNeg)) - 1) then (((r817.1 11) (v1.toNatClampNeg)) - 1) else (0 : Int32)), .int v1, .ref 75], (q_kM (q_sA r817 12 (upd (r817.1 12) (v1.toNatClampNeg) 0)) c n))) 3 (fun _ _ => rfl) ?_
      refine q_RP_rsT (g2 := (203, [(4, .int 0), (0, .ref 64), (1, .int v1), (2, .int v2)], [], (q_kM (q_sA (q_sA r817 12 (upd (r817.1 12) (v1.toNatClampNeg) 0)) 11 (upd (r817.1 11) (v1.toNatClampNeg) (if (0 : Int32) < (((r817.1 11) (v1.toNatClampNeg)) - 1) then (((r817.1 11) (v1.toNatClampNeg)) - 1) else (0 : Int32)))) c n))) rfl q_wM11 i1113 ?_
      exact q_RP_ret rfl rfl rfl
    | false =>
      refine q_RP_cF ?_
      refine q_RP_rsF (g2 := (156, [(4, .int 0), (0, .ref 64), (1, .int v1), (2, .int v2)], [], (q_kM (q_sA s 12 (upd (s.1 12) (v1.toNatClampNeg) (((s.1 12) (v1.toNatClampNeg)) + 1))) c n))) rfl rfl h1115 ?_
      exact q_RP_ret rfl rfl rfl
def dz_M232_64 (s : q_S) (a1 : Int32) : Option (q_S) :=
  cond (q_in a1 3) (cond (q_in ((32 : Int32) + (4 * a1)) 48) (cond (q_in (((32 : Int32) + (4 * a1)) + 1) 48) (q_let ((((s.1 10) (a1.toNatClampNeg)) + ((s.1 4) (((32 : Int32) + (4 * a1)).toNatClampNeg))) + (256 * ((s.1 4) ((((32 : Int32) + (4 * a1)) + 1).toNatClampNeg)))) fun x814 => cond (decide (65535 < x814)) (cond (decide (((s.1 13) (a1.toNatClampNeg)) - ((s.1 13) (a1.toNatClampNeg)) / 2 * 2 = (((s.1 13) (a1.toNatClampNeg)) / 2) - (((s.1 13) (a1.toNatClampNeg)) / 2) / 2 * 2)) (dz_M232_64_93 (q_sA (q_sA s 10 (upd (s.1 10) (a1.toNatClampNeg) (x814 - x814 / 65536 * 65536))) 13 (upd (s.1 13) (a1.toNatClampNeg) ((((s.1 13) (a1.toNatClampNeg)) / 2) + 0))) a1 ((32 : Int32) + (4 * a1))) (dz_M232_64_93 (q_sA (q_sA s 10 (upd (s.1 10) (a1.toNatClampNeg) (x814 - x814 / 65536 * 65536))) 13 (upd (s.1 13) (a1.toNatClampNeg) ((((s.1 13) (a1.toNatClampNeg)) / 2) + 16384))) a1 ((32 : Int32) + (4 * a1)))) (dz_M232_64_93 (q_sA s 10 (upd (s.1 10) (a1.toNatClampNeg) (x814 - x814 / 65536 * 65536))) a1 ((32 : Int32) + (4 * a1)))) none) none) none
set_option maxHeartbeats 4000000 in
theorem dzt_M232_64 (s : q_S) (c n : Nat) (a1 : Int32) (x : q_S) (h : dz_M232_64 s a1 = some x) : q_Ca q_TB0 2 231 [.ref 64, .int a1] (q_kM s c n) ((q_oSM c n) x) := by
  refine q_CaP_of (φ := (q_oSM c n)) (Nat.le_of_ble_eq_true rfl) ?_ h
  clear h
  unfold dz_M232_64
  refine q_RP_seg (g2 := (12, [(2, .int ((32 : Int32) + (4 * a1))), (0, .ref 64), (1, .int a1)], [.int a1, .ref 74], (q_kM s c n))) 9 (fun _ _ => rfl) ?_
  refine q_RP_as fun i1103 => ?_
  refine q_RP_rsT (g2 := (13, [(2, .int ((32 : Int32) + (4 * a1))), (0, .ref 64), (1, .int a1)], [.int ((s.1 10) (a1.toNatClampNeg))], (q_kM s c n))) rfl rfl i1103 ?_
  refine q_RP_seg (g2 := (18, [(2, .int ((32 : Int32) + (4 * a1))), (0, .ref 64), (1, .int a1)], [.int ((32 : Int32) + (4 * a1)), .ref 68, .int ((s.1 10) (a1.toNatClampNeg))], (q_kM s c n))) 3 (fun _ _ => rfl) ?_
  refine q_RP_as fun i1104 => ?_
  refine q_RP_rsT (g2 := (19, [(2, .int ((32 : Int32) + (4 * a1))), (0, .ref 64), (1, .int a1)], [.int ((s.1 4) (((32 : Int32) + (4 * a1)).toNatClampNeg)), .int ((s.1 10) (a1.toNatClampNeg))], (q_kM s c n))) rfl rfl i1104 ?_
  refine q_RP_seg (g2 := (30, [(2, .int ((32 : Int32) + (4 * a1))), (0, .ref 64), (1, .int a1)], [.int (((32 : Int32) + (4 * a1)) + 1), .ref 68, .int 256, .int (((s.1 10) (a1.toNatClampNeg)) + ((s.1 4) (((32 : Int32) + (4 * a1)).toNatClampNeg)))], (q_kM s c n))) 7 (fun _ _ => rfl) ?_
  refine q_RP_as fun i1105 => ?_
  refine q_RP_rsT (g2 := (31, [(2, .int ((32 : Int32) + (4 * a1))), (0, .ref 64), (1, .int a1)], [.int ((s.1 4) ((((32 : Int32) + (4 * a1)) + 1).toNatClampNeg)), .int 256, .int (((s.1 10) (a1.toNatClampNeg)) + ((s.1 4) (((32 : Int32) + (4 * a1)).toNatClampNeg)))], (q_kM s c n))) rfl rfl i1105 ?_
  refine q_RP_seg (g2 := (33, [(2, .int ((32 : Int32) + (4 * a1))), (0, .ref 64), (1, .int a1)], [.int ((((s.1 10) (a1.toNatClampNeg)) + ((s.1 4) (((32 : Int32) + (4 * a1)).toNatClampNeg))) + (256 * ((s.1 4) ((((32 : Int32) + (4 * a1)) + 1).toNatClampNeg))))], (q_kM s c n))) 2 (fun _ _ => rfl) ?_
  generalize ((((s.1 10) (a1.toNatClampNeg)) + ((s.1 4) (((32 : Int32) + (4 * a1)).toNatClampNeg))) + (256 * ((s.1 4) ((((32 : Int32) + (4 * a1)) + 1).toNatClampNeg)))) = x814
  refine q_RP_let ?_
  show q_RP _ _ _ (33, [(2, .int ((32 : Int32) + (4 * a1))), (0, .ref 64), (1, .int a1)], [.int x814], (q_kM s c n)) _ _
  refine q_RP_seg (g2 := (43, [(3, .int x814), (2, .int ((32 : Int32) + (4 * a1))), (0, .ref 64), (1, .int a1)], [.int (x814 - x814 / 65536 * 65536), .int a1, .ref 74], (q_kM s c n))) 7 (fun _ _ => rfl) ?_
  refine q_RP_rsT (g2 := (44, [(3, .int x814), (2, .int ((32 : Int32) + (4 * a1))), (0, .ref 64), (1, .int a1)], [], (q_kM (q_sA s 10 (upd (s.1 10) (a1.toNatClampNeg) (x814 - x814 / 65536 * 65536))) c n))) rfl q_wM10 i1103 ?_
  refine q_RP_seg (g2 := (47, [(3, .int x814), (2, .int ((32 : Int32) + (4 * a1))), (0, .ref 64), (1, .int a1)], [.int 65535, .int x814], (q_kM (q_sA s 10 (upd (s.1 10) (a1.toNatClampNeg) (x814 - x814 / 65536 * 65536))) c n))) 2 (fun _ _ => rfl) ?_
  cases h1106 : decide (65535 < x814) with
  | true =>
    refine q_RP_cT ?_
    refine q_RP_rsF (g2 := (50, [(3, .int x814), (2, .int ((32 : Int32) + (4 * a1))), (0, .ref 64), (1, .int a1)], [], (q_kM (q_sA s 10 (upd (s.1 10) (a1.toNatClampNeg) (x814 - x814 / 65536 * 65536))) c n))) rfl rfl (q_d_geT h1106) ?_
    refine q_RP_seg (g2 := (60, [(3, .int x814), (2, .int ((32 : Int32) + (4 * a1))), (0, .ref 64), (1, .int a1)], [.int a1, .ref 77, .int a1, .ref 77], (q_kM (q_sA s 10 (upd (s.1 10) (a1.toNatClampNeg) (x814 - x814 / 65536 * 65536))) c n))) 6 (fun _ _ => rfl) ?_
    refine q_RP_rsT (g2 := (61, [(3, .int x814), (2, .int ((32 : Int32) + (4 * a1))), (0, .ref 64), (1, .int a1)], [.int ((s.1 13) (a1.toNatClampNeg)), .int a1, .ref 77], (q_kM (q_sA s 10 (upd (s.1 10) (a1.toNatClampNeg) (x814 - x814 / 65536 * 65536))) c n))) rfl rfl i1103 ?_
    refine q_RP_seg (g2 := (68, [(3, .int x814), (2, .int ((32 : Int32) + (4 * a1))), (0, .ref 64), (1, .int a1)], [.int a1, .ref 77, .int (((s.1 13) (a1.toNatClampNeg)) / 2), .int a1, .ref 77], (q_kM (q_sA s 10 (upd (s.1 10) (a1.toNatClampNeg) (x814 - x814 / 65536 * 65536))) c n))) 5 (fun _ _ => rfl) ?_
    refine q_RP_rsT (g2 := (69, [(3, .int x814), (2, .int ((32 : Int32) + (4 * a1))), (0, .ref 64), (1, .int a1)], [.int ((s.1 13) (a1.toNatClampNeg)), .int (((s.1 13) (a1.toNatClampNeg)) / 2), .int a1, .ref 77], (q_kM (q_sA s 10 (upd (s.1 10) (a1.toNatClampNeg) (x814 - x814 / 65536 * 65536))) c n))) rfl rfl i1103 ?_
    refine q_RP_seg (g2 := (76, [(3, .int x814), (2, .int ((32 : Int32) + (4 * a1))), (0, .ref 64), (1, .int a1)], [.int a1, .ref 77, .int (((s.1 13) (a1.toNatClampNeg)) - ((s.1 13) (a1.toNatClampNeg)) / 2 * 2), .int (((s.1 13) (a1.toNatClampNeg)) / 2), .int a1, .ref 77], (q_kM (q_sA s 10 (upd (s.1 10) (a1.toNatClampNeg) (x814 - x814 / 65536 * 65536))) c n))) 5 (fun _ _ => rfl) ?_
    refine q_RP_rsT (g2 := (77, [(3, .int x814), (2, .int ((32 : Int32) + (4 * a1))), (0, .ref 64), (1, .int a1)], [.int ((s.1 13) (a1.toNatClampNeg)), .int (((s.1 13) (a1.toNatClampNeg)) - ((s.1 13) (a1.toNatClampNeg)) / 2 * 2), .int (((s.1 13) (a1.toNatClampNeg)) / 2), .int a1, .ref 77], (q_kM (q_sA s 10 (upd (s.1 10) (a1.toNatClampNeg) (x814 - x814 / 65536 * 65536))) c n))) rfl rfl i1103 ?_
    refine q_RP_seg (g2 := (81, [(3, .int x814), (2, .int ((32 : Int32) + (4 * a1))), (0, .ref 64), (1, .int a1)], [.int ((((s.1 13) (a1.toNatClampNeg)) / 2) - (((s.1 13) (a1.toNatClampNeg)) / 2) / 2 * 2), .int (((s.1 13) (a1.toNatClampNeg)) - ((s.1 13) (a1.toNatClampNeg)) / 2 * 2), .int (((s.1 13) (a1.toNatClampNeg)) / 2), .int a1, .ref 77], (q_kM (q_sA s 10 (upd (s.1 10) (a1.toNatClampNeg) (x814 - x814 / 65536 * 65536))) c n))) 4 (fun _ _ => rfl) ?_
    cases h1107 : decide (((s.1 13) (a1.toNatClampNeg)) - ((s.1 13) (a1.toNatClampNeg)) / 2 * 2 = (((s.1 13) (a1.toNatClampNeg)) / 2) - (((s.1 13) (a1.toNatClampNeg)) / 2) / 2 * 2) with
    | true =>
      refine q_RP_cT ?_
      refine q_RP_rsF (g2 := (84, [(3, .int x814), (2, .int ((32 : Int32) + (4 * a1))), (0, .ref 64), (1, .int a1)], [.int (((s.1 13) (a1.toNatClampNeg)) / 2), .int a1, .ref 77], (q_kM (q_sA s 10 (upd (s.1 10) (a1.toNatClampNeg) (x814 - x814 / 65536 * 65536))) c n))) rfl rfl (q_d_neT h1107) ?_
      refine q_RP_seg (g2 := (92, [(3, .int x814), (2, .int ((32 : Int32) + (4 * a1))), (0, .ref 64), (1, .int a1)], [.int ((((s.1 13) (a1.toNatClampNeg)) / 2) + 0), .int a1, .ref 77], (q_kM (q_sA s 10 (upd (s.1 10) (a1.toNatClampNeg) (x814 - x814 / 65536 * 65536))) c n))) 3 (fun _ _ => rfl) ?_
      refine q_RP_rsT (g2 := (93, [(3, .int x814), (2, .int ((32 : Int32) + (4 * a1))), (0, .ref 64), (1, .int a1)], [], (q_kM (q_sA (q_sA s 10 (upd (s.1 10) (a1.toNatClampNeg) (x814 - x814 / 65536 * 65536))) 13 (upd (s.1 13) (a1.toNatClampNeg) ((((s.1 13) (a1.toNatClampNeg)) / 2) + 0))) c n))) rfl q_wM13 i1103 ?_
      exact q_RP_xt (q_xt_mk (q_mn1 2 rfl (q_mn1 3 rfl (q_mn1 1 rfl q_mn0))) rfl) (dzt_M232_64_93 c n (q_sA (q_sA s 10 (upd (s.1 10) (a1.toNatClampNeg) (x814 - x814 / 65536 * 65536))) 13 (upd (s.1 13) (a1.toNatClampNeg) ((((s.1 13) (a1.toNatClampNeg)) / 2) + 0))) a1 ((32 : Int32) + (4 * a1)))
    | false =>
      refine q_RP_cF ?_
      refine q_RP_rsT (g2 := (88, [(3, .int x814), (2, .int ((32 : Int32) + (4 * a1))), (0, .ref 64), (1, .int a1)], [.int (((s.1 13) (a1.toNatClampNeg)) / 2), .int a1, .ref 77], (q_kM (q_sA s 10 (upd (s.1 10) (a1.toNatClampNeg) (x814 - x814 / 65536 * 65536))) c n))) rfl rfl (q_d_neF h1107) ?_
      refine q_RP_seg (g2 := (92, [(3, .int x814), (2, .int ((32 : Int32) + (4 * a1))), (0, .ref 64), (1, .int a1)], [.int ((((s.1 13) (a1.toNatClampNeg)) / 2) + 16384), .int a1, .ref 77], (q_kM (q_sA s 10 (upd (s.1 10) (a1.toNatClampNeg) (x814 - x814 / 65536 * 65536))) c n))) 2 (fun _ _ => rfl) ?_
      refine q_RP_rsT (g2 := (93, [(3, .int x814), (2, .int ((32 : Int32) + (4 * a1))), (0, .ref 64), (1, .int a1)], [], (q_kM (q_sA (q_sA s 10 (upd (s.1 10) (a1.toNatClampNeg) (x814 - x814 / 65536 * 65536))) 13 (upd (s.1 13) (a1.toNatClampNeg) ((((s.1 13) (a1.toNatClampNeg)) / 2) + 16384))) c n))) rfl q_wM13 i1103 ?_
      exact q_RP_xt (q_xt_mk (q_mn1 2 rfl (q_mn1 3 rfl (q_mn1 1 rfl q_mn0))) rfl) (dzt_M232_64_93 c n (q_sA (q_sA s 10 (upd (s.1 10) (a1.toNatClampNeg) (x814 - x814 / 65536 * 65536))) 13 (upd (s.1 13) (a1.toNatClampNeg) ((((s.1 13) (a1.toNatClampNeg)) / 2) + 16384))) a1 ((32 : Int32) + (4 * a1)))
  | false =>
    refine q_RP_cF ?_
    refine q_RP_rsT (g2 := (93, [(3, .int x814), (2, .int ((32 : Int32) + (4 * a1))), (0, .ref 64), (1, .int a1)], [], (q_kM (q_sA s 10 (upd (s.1 10) (a1.toNatClampNeg) (x814 - x814 / 65536 * 65536))) c n))) rfl rfl (q_d_geF h1106) ?_
    exact q_RP_xt (q_xt_mk (q_mn1 2 rfl (q_mn1 3 rfl (q_mn1 1 rfl q_mn0))) rfl) (dzt_M232_64_93 c n (q_sA s 10 (upd (s.1 10) (a1.toNatClampNeg) (x814 - x814 / 65536 * 65536))) a1 ((32 : Int32) + (4 * a1)))
def dz_M233_64 (s : q_S) (a1 : Int32) : Option (Int32) :=
  cond (q_in ((34 : Int32) + (4 * a1)) 48) (q_let ((((s.1 4) (((34 : Int32) + (4 * a1)).toNatClampNeg)) / 2) - (((s.1 4) (((34 : Int32) + (4 * a1)).toNatClampNeg)) / 2) / 4 * 4) fun x818 => cond (decide (x818 = 0)) (cond (q_in a1 3) (q_let (dz_M206 s ((s.1 4) (((34 : Int32) + (4 * a1)).toNatClampNeg)) 3) fun r819 => cond r819 (cond (q_in ((a1 + 2) - (a1 + 2) / 3 * 3) 3) (cond (decide ((s.1 10) (((a1 + 2) - (a1 + 2) / 3 * 3).toNatClampNeg) < 32768)) (some (((s.1 10) (a1.toNatClampNeg)) / 4096)) (some ((15 : Int32) - (((s.1 10) (a1.toNatClampNeg)) / 4096)))) none) (some (((s.1 10) (a1.toNatClampNeg)) / 4096))) none) (cond (decide (x818 = 1)) (cond (q_in a1 3) (cond (decide ((s.1 10) (a1.toNatClampNeg) < 32768)) (q_let (dz_M206 s ((s.1 4) (((34 : Int32) + (4 * a1)).toNatClampNeg)) 3) fun r820 => cond r820 (cond (q_in ((a1 + 2) - (a1 + 2) / 3 * 3) 3) (cond (decide ((s.1 10) (((a1 + 2) - (a1 + 2) / 3 * 3).toNatClampNeg) < 32768)) (some 0) (some 15)) none) (some 0)) (q_let (dz_M206 s ((s.1 4) (((34 : Int32) + (4 * a1)).toNatClampNeg)) 3) fun r821 => cond r821 (cond (q_in ((a1 + 2) - (a1 + 2) / 3 * 3) 3) (cond (decide ((s.1 10) (((a1 + 2) - (a1 + 2) / 3 * 3).toNatClampNeg) < 32768)) (some 15) (some 0)) none) (some 15))) none) (cond (decide (x818 = 2)) (cond (q_in a1 3) (q_let (((s.1 13) (a1.toNatClampNeg)) - ((s.1 13) (a1.toNatClampNeg)) / 16 * 16) fun x822 => q_let (dz_M206 s ((s.1 4) (((34 : Int32) + (4 * a1)).toNatClampNeg)) 3) fun r823 => cond r823 (cond (q_in ((a1 + 2) - (a1 + 2) / 3 * 3) 3) (cond (decide ((s.1 10) (((a1 + 2) - (a1 + 2) / 3 * 3).toNatClampNeg) < 32768)) (some x822) (some ((15 : Int32) - x822))) none) (some x822)) none) (q_let (dz_M206 s ((s.1 4) (((34 : Int32) + (4 * a1)).toNatClampNeg)) 3) fun r824 => cond r824 (cond (q_in ((a1 + 2) - (a1 + 2) / 3 * 3) 3) (cond (decide ((s.1 10) (((a1 + 2) - (a1 + 2) / 3 * 3).toNatClampNeg) < 32768)) (some 0) (some 15)) none) (some 0))))) none
set_option maxHeartbeats 4000000 in
theorem dzt_M233_64 (s : q_S) (c n : Nat) (a1 : Int32) (x : Int32) (h : dz_M233_64 s a1 = some x) : q_Ca q_TB0 2 232 [.ref 64, .int a1] (q_kM s c n) ((q_oP (q_kM s c n)) x) := by
  refine q_CaP_of (φ := (q_oP (q_kM s c n))) (Nat.le_of_ble_eq_true rfl) ?_ h
  clear h
  unfold dz_M233_64
  refine q_RP_seg (g2 := (10, [(0, .ref 64), (1, .int a1)], [.int ((34 : Int32) + (4 * a1)), .ref 68], (q_kM s c n))) 7 (fun _ _ => rfl) ?_
  refine q_RP_as fun i1116 => ?_
  refine q_RP_rsT (g2 := (11, [(0, .ref 64), (1, .int a1)], [.int ((s.1 4) (((34 : Int32) + (4 * a1)).toNatClampNeg))], (q_kM s c n))) rfl rfl i1116 ?_
  refine q_RP_seg (g2 := (15, [(0, .ref 64), (1, .int a1)], [.int ((((s.1 4) (((34 : Int32) + (4 * a1)).toNatClampNeg)) / 2) - (((s.1 4) (((34 : Int32) + (4 * a1)).toNatClampNeg)) / 2) / 4 * 4)], (q_kM s c n))) 4 (fun _ _ => rfl) ?_
  generalize ((((s.1 4) (((34 : Int32) + (4 * a1)).toNatClampNeg)) / 2) - (((s.1 4) (((34 : Int32) + (4 * a1)).toNatClampNeg)) / 2) / 4 * 4) = x818
  refine q_RP_let ?_
  show q_RP _ _ _ (15, [(0, .ref 64), (1, .int a1)], [.int x818], (q_kM s c n)) _ _
  refine q_RP_seg (g2 := (17, [(2, .int x818), (0, .ref 64), (1, .int a1)], [.int x818], (q_kM s c n))) 2 (fun _ _ => rfl) ?_
  cases h1117 : decide (x818 = 0) with
  | true =>
    refine q_RP_cT ?_
    refine q_RP_rsF (g2 := (20, [(2, .int x818), (0, .ref 64), (1, .int a1)], [], (q_kM s c n))) rfl rfl (q_d_neT h1117) ?_
    refine q_RP_seg (g2 := (25, [(2, .int x818), (0, .ref 64), (1, .int a1)], [.int a1, .ref 74], (q_kM s c n))) 3 (fun _ _ => rfl) ?_
    refine q_RP_as fun i1118 => ?_
    refine q_RP_rsT (g2 := (26, [(2, .int x818), (0, .ref 64), (1, .int a1)], [.int ((s.1 10) (a1.toNatClampNeg))], (q_kM s c n))) rfl rfl i1118 ?_
    refine q_RP_seg (g2 := (87, [(3, .int (((s.1 10) (a1.toNatClampNeg)) / 4096)), (2, .int x818), (0, .ref 64), (1, .int a1)], [.int ((34 : Int32) + (4 * a1)), .ref 68], (q_kM s c n))) 11 (fun _ _ => rfl) ?_
    refine q_RP_rsT (g2 := (88, [(3, .int (((s.1 10) (a1.toNatClampNeg)) / 4096)), (2, .int x818), (0, .ref 64), (1, .int a1)], [.int ((s.1 4) (((34 : Int32) + (4 * a1)).toNatClampNeg))], (q_kM s c n))) rfl rfl i1116 ?_
    refine q_RP_seg (g2 := (89, [(3, .int (((s.1 10) (a1.toNatClampNeg)) / 4096)), (2, .int x818), (0, .ref 64), (1, .int a1)], [.int 3, .int ((s.1 4) (((34 : Int32) + (4 * a1)).toNatClampNeg))], (q_kM s c n))) 1 (fun _ _ => rfl) ?_
    refine q_RP_call (v := (some (.int (q_b (dz_M206 s ((s.1 4) (((34 : Int32) + (4 * a1)).toNatClampNeg)) 3))))) (h2 := (q_kM s c n)) rfl rfl ((dzt_M206 s c n ((s.1 4) (((34 : Int32) + (4 * a1)).toNatClampNeg)) 3).le (Nat.le_of_ble_eq_true rfl)) ?_
    generalize dz_M206 s ((s.1 4) (((34 : Int32) + (4 * a1)).toNatClampNeg)) 3 = r819
    refine q_RP_let ?_
    show q_RP _ _ _ (92, [(3, .int (((s.1 10) (a1.toNatClampNeg)) / 4096)), (2, .int x818), (0, .ref 64), (1, .int a1)], [.int (q_b r819)], (q_kM s c n)) _ _
    cases h1119 : r819 with
    | true =>
      refine q_RP_cT ?_
      show q_RP _ _ _ (92, [(3, .int (((s.1 10) (a1.toNatClampNeg)) / 4096)), (2, .int x818), (0, .ref 64), (1, .int a1)], [.int 1], (q_kM s c n)) _ _
      refine q_RP_seg (g2 := (104, [(3, .int (((s.1 10) (a1.toNatClampNeg)) / 4096)), (2, .int x818), (0, .ref 64), (1, .int a1)], [.int ((a1 + 2) - (a1 + 2) / 3 * 3), .ref 74], (q_kM s c n))) 8 (fun _ _ => rfl) ?_
      refine q_RP_as fun i1120 => ?_
      refine q_RP_rsT (g2 := (105, [(3, .int (((s.1 10) (a1.toNatClampNeg)) / 4096)), (2, .int x818), (0, .ref 64), (1, .int a1)], [.int ((s.1 10) (((a1 + 2) - (a1 + 2) / 3 * 3).toNatClampNeg))], (q_kM s c n))) rfl rfl i1120 ?_
      refine q_RP_seg (g2 := (107, [(3, .int (((s.1 10) (a1.toNatClampNeg)) / 4096)), (2, .int x818), (0, .ref 64), (1, .int a1)], [.int 32768, .int ((s.1 10) (((a1 + 2) - (a1 + 2) / 3 * 3).toNatClampNeg))], (q_kM s c n))) 1 (fun _ _ => rfl) ?_
      cases h1121 : decide ((s.1 10) (((a1 + 2) - (a1 + 2) / 3 * 3).toNatClampNeg) < 32768) with
      | true =>
        refine q_RP_cT ?_
        refine q_RP_rsT (g2 := (117, [(3, .int (((s.1 10) (a1.toNatClampNeg)) / 4096)), (2, .int x818), (0, .ref 64), (1, .int a1)], [], (q_kM s c n))) rfl rfl h1121 ?_
        refine q_RP_seg (g2 := (118, [(3, .int (((s.1 10) (a1.toNatClampNeg)) / 4096)), (2, .int x818), (0, .ref 64), (1, .int a1)], [.int (((s.1 10) (a1.toNatClampNeg)) / 4096)], (q_kM s c n))) 1 (fun _ _ => rfl) ?_
        exact q_RP_ret rfl rfl rfl
      | false =>
        refine q_RP_cF ?_
        refine q_RP_rsF (g2 := (110, [(3, .int (((s.1 10) (a1.toNatClampNeg)) / 4096)), (2, .int x818), (0, .ref 64), (1, .int a1)], [], (q_kM s c n))) rfl rfl h1121 ?_
        refine q_RP_seg (g2 := (118, [(3, .int (((s.1 10) (a1.toNatClampNeg)) / 4096)), (2, .int x818), (0, .ref 64), (1, .int a1)], [.int ((15 : Int32) - (((s.1 10) (a1.toNatClampNeg)) / 4096))], (q_kM s c n))) 4 (fun _ _ => rfl) ?_
        exact q_RP_ret rfl rfl rfl
    | false =>
      refine q_RP_cF ?_
      show q_RP _ _ _ (92, [(3, .int (((s.1 10) (a1.toNatClampNeg)) / 4096)), (2, .int x818), (0, .ref 64), (1, .int a1)], [.int 0], (q_kM s c n)) _ _
      refine q_RP_seg (g2 := (118, [(3, .int (((s.1 10) (a1.toNatClampNeg)) / 4096)), (2, .int x818), (0, .ref 64), (1, .int a1)], [.int (((s.1 10) (a1.toNatClampNeg)) / 4096)], (q_kM s c n))) 2 (fun _ _ => rfl) ?_
      exact q_RP_ret rfl rfl rfl
  | false =>
    refine q_RP_cF ?_
    refine q_RP_rsT (g2 := (33, [(2, .int x818), (0, .ref 64), (1, .int a1)], [], (q_kM s c n))) rfl rfl (q_d_neF h1117) ?_
    refine q_RP_seg (g2 := (35, [(2, .int x818), (0, .ref 64), (1, .int a1)], [.int 1, .int x818], (q_kM s c n))) 2 (fun _ _ => rfl) ?_
    cases h1122 : decide (x818 = 1) with
    | true =>
      refine q_RP_cT ?_
      refine q_RP_rsF (g2 := (38, [(2, .int x818), (0, .ref 64), (1, .int a1)], [], (q_kM s c n))) rfl rfl (q_d_neT h1122) ?_
      refine q_RP_seg (g2 := (43, [(2, .int x818), (0, .ref 64), (1, .int a1)], [.int a1, .ref 74], (q_kM s c n))) 3 (fun _ _ => rfl) ?_
      refine q_RP_as fun i1123 => ?_
      refine q_RP_rsT (g2 := (44, [(2, .int x818), (0, .ref 64), (1, .int a1)], [.int ((s.1 10) (a1.toNatClampNeg))], (q_kM s c n))) rfl rfl i1123 ?_
      refine q_RP_seg (g2 := (46, [(2, .int x818), (0, .ref 64), (1, .int a1)], [.int 32768, .int ((s.1 10) (a1.toNatClampNeg))], (q_kM s c n))) 1 (fun _ _ => rfl) ?_
      cases h1124 : decide ((s.1 10) (a1.toNatClampNeg) < 32768) with
      | true =>
        refine q_RP_cT ?_
        refine q_RP_rsT (g2 := (54, [(2, .int x818), (0, .ref 64), (1, .int a1)], [], (q_kM s c n))) rfl rfl h1124 ?_
        refine q_RP_seg (g2 := (87, [(3, .int 0), (2, .int x818), (0, .ref 64), (1, .int a1)], [.int ((34 : Int32) + (4 * a1)), .ref 68], (q_kM s c n))) 10 (fun _ _ => rfl) ?_
        refine q_RP_rsT (g2 := (88, [(3, .int 0), (2, .int x818), (0, .ref 64), (1, .int a1)], [.int ((s.1 4) (((34 : Int32) + (4 * a1)).toNatClampNeg))], (q_kM s c n))) rfl rfl i1116 ?_
        refine q_RP_seg (g2 := (89, [(3, .int 0), (2, .int x818), (0, .ref 64), (1, .int a1)], [.int 3, .int ((s.1 4) (((34 : Int32) + (4 * a1)).toNatClampNeg))], (q_kM s c n))) 1 (fun _ _ => rfl) ?_
        refine q_RP_call (v := (some (.int (q_b (dz_M206 s ((s.1 4) (((34 : Int32) + (4 * a1)).toNatClampNeg)) 3))))) (h2 := (q_kM s c n)) rfl rfl ((dzt_M206 s c n ((s.1 4) (((34 : Int32) + (4 * a1)).toNatClampNeg)) 3).le (Nat.le_of_ble_eq_true rfl)) ?_
        generalize dz_M206 s ((s.1 4) (((34 : Int32) + (4 * a1)).toNatClampNeg)) 3 = r820
        refine q_RP_let ?_
        show q_RP _ _ _ (92, [(3, .int 0), (2, .int x818), (0, .ref 64), (1, .int a1)], [.int (q_b r820)], (q_kM s c n)) _ _
        cases h1125 : r820 with
        | true =>
          refine q_RP_cT ?_
          show q_RP _ _ _ (92, [(3, .int 0), (2, .int x818), (0, .ref 64), (1, .int a1)], [.int 1], (q_kM s c n)) _ _
          refine q_RP_seg (g2 := (104, [(3, .int 0), (2, .int x818), (0, .ref 64), (1, .int a1)], [.int ((a1 + 2) - (a1 + 2) / 3 * 3), .ref 74], (q_kM s c n))) 8 (fun _ _ => rfl) ?_
          refine q_RP_as fun i1126 => ?_
          refine q_RP_rsT (g2 := (105, [(3, .int 0), (2, .int x818), (0, .ref 64), (1, .int a1)], [.int ((s.1 10) (((a1 + 2) - (a1 + 2) / 3 * 3).toNatClampNeg))], (q_kM s c n))) rfl rfl i1126 ?_
          refine q_RP_seg (g2 := (107, [(3, .int 0), (2, .int x818), (0, .ref 64), (1, .int a1)], [.int 32768, .int ((s.1 10) (((a1 + 2) - (a1 + 2) / 3 * 3).toNatClampNeg))], (q_kM s c n))) 1 (fun _ _ => rfl) ?_
          cases h1127 : decide ((s.1 10) (((a1 + 2) - (a1 + 2) / 3 * 3).toNatClampNeg) < 32768) with
          | true =>
            refine q_RP_cT ?_
            refine q_RP_rsT (g2 := (117, [(3, .int 0), (2, .int x818), (0, .ref 64), (1, .int a1)], [], (q_kM s c n))) rfl rfl h1127 ?_
            refine q_RP_seg (g2 := (118, [(3, .int 0), (2, .int x818), (0, .ref 64), (1, .int a1)], [.int 0], (q_kM s c n))) 1 (fun _ _ => rfl) ?_
            exact q_RP_ret rfl rfl rfl
          | false =>
            refine q_RP_cF ?_
            refine q_RP_rsF (g2 := (110, [(3, .int 0), (2, .int x818), (0, .ref 64), (1, .int a1)], [], (q_kM s c n))) rfl rfl h1127 ?_
            refine q_RP_seg (g2 := (118, [(3, .int 0), (2, .int x818), (0, .ref 64), (1, .int a1)], [.int 15], (q_kM s c n))) 4 (fun _ _ => rfl) ?_
            exact q_RP_ret rfl rfl rfl
        | false =>
          refine q_RP_cF ?_
          show q_RP _ _ _ (92, [(3, .int 0), (2, .int x818), (0, .ref 64), (1, .int a1)], [.int 0], (q_kM s c n)) _ _
          refine q_RP_seg (g2 := (118, [(3, .int 0), (2, .int x818), (0, .ref 64), (1, .int a1)], [.int 0], (q_kM s c n))) 2 (fun _ _ => rfl) ?_
          exact q_RP_ret rfl rfl rfl
      | false =>
        refine q_RP_cF ?_
        refine q_RP_rsF (g2 := (49, [(2, .int x818), (0, .ref 64), (1, .int a1)], [], (q_kM s c n))) rfl rfl h1124 ?_
        refine q_RP_seg (g2 := (87, [(3, .int 15), (2, .int x818), (0, .ref 64), (1, .int a1)], [.int ((34 : Int32) + (4 * a1)), .ref 68], (q_kM s c n))) 10 (fun _ _ => rfl) ?_
        refine q_RP_rsT (g2 := (88, [(3, .int 15), (2, .int x818), (0, .ref 64), (1, .int a1)], [.int ((s.1 4) (((34 : Int32) + (4 * a1)).toNatClampNeg))], (q_kM s c n))) rfl rfl i1116 ?_
        refine q_RP_seg (g2 := (89, [(3, .int 15), (2, .int x818), (0, .ref 64), (1, .int a1)], [.int 3, .int ((s.1 4) (((34 : Int32) + (4 * a1)).toNatClampNeg))], (q_kM s c n))) 1 (fun _ _ => rfl) ?_
        refine q_RP_call (v := (some (.int (q_b (dz_M206 s ((s.1 4) (((34 : Int32) + (4 * a1)).toNatClampNeg)) 3))))) (h2 := (q_kM s c n)) rfl rfl ((dzt_M206 s c n ((s.1 4) (((34 : Int32) + (4 * a1)).toNatClampNeg)) 3).le (Nat.le_of_ble_eq_true rfl)) ?_
        generalize dz_M206 s ((s.1 4) (((34 : Int32) + (4 * a1)).toNatClampNeg)) 3 = r821
        refine q_RP_let ?_
        show q_RP _ _ _ (92, [(3, .int 15), (2, .int x818), (0, .ref 64), (1, .int a1)], [.int (q_b r821)], (q_kM s c n)) _ _
        cases h1128 : r821 with
        | true =>
          refine q_RP_cT ?_
          show q_RP _ _ _ (92, [(3, .int 15), (2, .int x818), (0, .ref 64), (1, .int a1)], [.int 1], (q_kM s c n)) _ _
          refine q_RP_seg (g2 := (104, [(3, .int 15), (2, .int x818), (0, .ref 64), (1, .int a1)], [.int ((a1 + 2) - (a1 + 2) / 3 * 3), .ref 74], (q_kM s c n))) 8 (fun _ _ => rfl) ?_
          refine q_RP_as fun i1129 => ?_
          refine q_RP_rsT (g2 := (105, [(3, .int 15), (2, .int x818), (0, .ref 64), (1, .int a1)], [.int ((s.1 10) (((a1 + 2) - (a1 + 2) / 3 * 3).toNatClampNeg))], (q_kM s c n))) rfl rfl i1129 ?_
          refine q_RP_seg (g2 := (107, [(3, .int 15), (2, .int x818), (0, .ref 64), (1, .int a1)], [.int 32768, .int ((s.1 10) (((a1 + 2) - (a1 + 2) / 3 * 3).toNatClampNeg))], (q_kM s c n))) 1 (fun _ _ => rfl) ?_
          cases h1130 : decide ((s.1 10) (((a1 + 2) - (a1 + 2) / 3 * 3).toNatClampNeg) < 32768) with
          | true =>
            refine q_RP_cT ?_
            refine q_RP_rsT (g2 := (117, [(3, .int 15), (2, .int x818), (0, .ref 64), (1, .int a1)], [], (q_kM s c n))) rfl rfl h1130 ?_
            refine q_RP_seg (g2 := (118, [(3, .int 15), (2, .int x818), (0, .ref 64), (1, .int a1)], [.int 15], (q_kM s c n))) 1 (fun _ _ => rfl) ?_
            exact q_RP_ret rfl rfl rfl
          | false =>
            refine q_RP_cF ?_
            refine q_RP_rsF (g2 := (110, [(3, .int 15), (2, .int x818), (0, .ref 64), (1, .int a1)], [], (q_kM s c n))) rfl rfl h1130 ?_
            refine q_RP_seg (g2 := (118, [(3, .int 15), (2, .int x818), (0, .ref 64), (1, .int a1)], [.int 0], (q_kM s c n))) 4 (fun _ _ => rfl) ?_
            exact q_RP_ret rfl rfl rfl
        | false =>
          refine q_RP_cF ?_
          show q_RP _ _ _ (92, [(3, .int 15), (2, .int x818), (0, .ref 64), (1, .int a1)], [.int 0], (q_kM s c n)) _ _
          refine q_RP_seg (g2 := (118, [(3, .int 15), (2, .int x818), (0, .ref 64), (1, .int a1)], [.int 15], (q_kM s c n))) 2 (fun _ _ => rfl) ?_
          exact q_RP_ret rfl rfl rfl
    | false =>
      refine q_RP_cF ?_
      refine q_RP_rsT (g2 := (58, [(2, .int x818), (0, .ref 64), (1, .int a1)], [], (q_kM s c n))) rfl rfl (q_d_neF h1122) ?_
      refine q_RP_seg (g2 := (60, [(2, .int x818), (0, .ref 64), (1, .int a1)], [.int 2, .int x818], (q_kM s c n))) 2 (fun _ _ => rfl) ?_
      cases h1131 : decide (x818 = 2) with
      | true =>
        refine q_RP_cT ?_
        refine q_RP_rsF (g2 := (63, [(2, .int x818), (0, .ref 64), (1, .int a1)], [], (q_kM s c n))) rfl rfl (q_d_neT h1131) ?_
        refine q_RP_seg (g2 := (68, [(2, .int x818), (0, .ref 64), (1, .int a1)], [.int a1, .ref 77], (q_kM s c n))) 3 (fun _ _ => rfl) ?_
        refine q_RP_as fun i1132 => ?_
        refine q_RP_rsT (g2 := (69, [(2, .int x818), (0, .ref 64), (1, .int a1)], [.int ((s.1 13) (a1.toNatClampNeg))], (q_kM s c n))) rfl rfl i1132 ?_
        refine q_RP_seg (g2 := (76, [(2, .int x818), (0, .ref 64), (1, .int a1)], [.int (((s.1 13) (a1.toNatClampNeg)) - ((s.1 13) (a1.toNatClampNeg)) / 16 * 16)], (q_kM s c n))) 3 (fun _ _ => rfl) ?_
        generalize (((s.1 13) (a1.toNatClampNeg)) - ((s.1 13) (a1.toNatClampNeg)) / 16 * 16) = x822
        refine q_RP_let ?_
        show q_RP _ _ _ (76, [(2, .int x818), (0, .ref 64), (1, .int a1)], [.int x822], (q_kM s c n)) _ _
        refine q_RP_seg (g2 := (87, [(3, .int x822), (2, .int x818), (0, .ref 64), (1, .int a1)], [.int ((34 : Int32) + (4 * a1)), .ref 68], (q_kM s c n))) 8 (fun _ _ => rfl) ?_
        refine q_RP_rsT (g2 := (88, [(3, .int x822), (2, .int x818), (0, .ref 64), (1, .int a1)], [.int ((s.1 4) (((34 : Int32) + (4 * a1)).toNatClampNeg))], (q_kM s c n))) rfl rfl i1116 ?_
        refine q_RP_seg (g2 := (89, [(3, .int x822), (2, .int x818), (0, .ref 64), (1, .int a1)], [.int 3, .int ((s.1 4) (((34 : Int32) + (4 * a1)).toNatClampNeg))], (q_kM s c n))) 1 (fun _ _ => rfl) ?_
        refine q_RP_call (v := (some (.int (q_b (dz_M206 s ((s.1 4) (((34 : Int32) + (4 * a1)).toNatClampNeg)) 3))))) (h2 := (q_kM s c n)) rfl rfl ((dzt_M206 s c n ((s.1 4) (((34 : Int32) + (4 * a1)).toNatClampNeg)) 3).le (Nat.le_of_ble_eq_true rfl)) ?_
        generalize dz_M206 s ((s.1 4) (((34 : Int32) + (4 * a1)).toNatClampNeg)) 3 = r823
        refine q_RP_let ?_
        show q_RP _ _ _ (92, [(3, .int x822), (2, .int x818), (0, .ref 64), (1, .int a1)], [.int (q_b r823)], (q_kM s c n)) _ _
        cases h1133 : r823 with
        | true =>
          refine q_RP_cT ?_
          show q_RP _ _ _ (92, [(3, .int x822), (2, .int x818), (0, .ref 64), (1, .int a1)], [.int 1], (q_kM s c n)) _ _
          refine q_RP_seg (g2 := (104, [(3, .int x822), (2, .int x818), (0, .ref 64), (1, .int a1)], [.int ((a1 + 2) - (a1 + 2) / 3 * 3), .ref 74], (q_kM s c n))) 8 (fun _ _ => rfl) ?_
          refine q_RP_as fun i1134 => ?_
          refine q_RP_rsT (g2 := (105, [(3, .int x822), (2, .int x818), (0, .ref 64), (1, .int a1)], [.int ((s.1 10) (((a1 + 2) - (a1 + 2) / 3 * 3).toNatClampNeg))], (q_kM s c n))) rfl rfl i1134 ?_
          refine q_RP_seg (g2 := (107, [(3, .int x822), (2, .int x818), (0, .ref 64), (1, .int a1)], [.int 32768, .int ((s.1 10) (((a1 + 2) - (a1 + 2) / 3 * 3).toNatClampNeg))], (q_kM s c n))) 1 (fun _ _ => rfl) ?_
          cases h1135 : decide ((s.1 10) (((a1 + 2) - (a1 + 2) / 3 * 3).toNatClampNeg) < 32768) with
          | true =>
            refine q_RP_cT ?_
            refine q_RP_rsT (g2 := (117, [(3, .int x822), (2, .int x818), (0, .ref 64), (1, .int a1)], [], (q_kM s c n))) rfl rfl h1135 ?_
            refine q_RP_seg (g2 := (118, [(3, .int x822), (2, .int x818), (0, .ref 64), (1, .int a1)], [.int x822], (q_kM s c n))) 1 (fun _ _ => rfl) ?_
            exact q_RP_ret rfl rfl rfl
          | false =>
            refine q_RP_cF ?_
            refine q_RP_rsF (g2 := (110, [(3, .int x822), (2, .int x818), (0, .ref 64), (1, .int a1)], [], (q_kM s c n))) rfl rfl h1135 ?_
            refine q_RP_seg (g2 := (118, [(3, .int x822), (2, .int x818), (0, .ref 64), (1, .int a1)], [.int ((15 : Int32) - x822)], (q_kM s c n))) 4 (fun _ _ => rfl) ?_
            exact q_RP_ret rfl rfl rfl
        | false =>
          refine q_RP_cF ?_
          show q_RP _ _ _ (92, [(3, .int x822), (2, .int x818), (0, .ref 64), (1, .int a1)], [.int 0], (q_kM s c n)) _ _
          refine q_RP_seg (g2 := (118, [(3, .int x822), (2, .int x818), (0, .ref 64), (1, .int a1)], [.int x822], (q_kM s c n))) 2 (fun _ _ => rfl) ?_
          exact q_RP_ret rfl rfl rfl
      | false =>
        refine q_RP_cF ?_
        refine q_RP_rsT (g2 := (75, [(2, .int x818), (0, .ref 64), (1, .int a1)], [], (q_kM s c n))) rfl rfl (q_d_neF h1131) ?_
        refine q_RP_seg (g2 := (87, [(3, .int 0), (2, .int x818), (0, .ref 64), (1, .int a1)], [.int ((34 : Int32) + (4 * a1)), .ref 68], (q_kM s c n))) 9 (fun _ _ => rfl) ?_
        refine q_RP_rsT (g2 := (88, [(3, .int 0), (2, .int x818), (0, .ref 64), (1, .int a1)], [.int ((s.1 4) (((34 : Int32) + (4 * a1)).toNatClampNeg))], (q_kM s c n))) rfl rfl i1116 ?_
        refine q_RP_seg (g2 := (89, [(3, .int 0), (2, .int x818), (0, .ref 64), (1, .int a1)], [.int 3, .int ((s.1 4) (((34 : Int32) + (4 * a1)).toNatClampNeg))], (q_kM s c n))) 1 (fun _ _ => rfl) ?_
        refine q_RP_call (v := (some (.int (q_b (dz_M206 s ((s.1 4) (((34 : Int32) + (4 * a1)).toNatClampNeg)) 3))))) (h2 := (q_kM s c n)) rfl rfl ((dzt_M206 s c n ((s.1 4) (((34 : Int32) + (4 * a1)).toNatClampNeg)) 3).le (Nat.le_of_ble_eq_true rfl)) ?_
        generalize dz_M206 s ((s.1 4) (((34 : Int32) + (4 * a1)).toNatClampNeg)) 3 = r824
        refine q_RP_let ?_
        show q_RP _ _ _ (92, [(3, .int 0), (2, .int x818), (0, .ref 64), (1, .int a1)], [.int (q_b r824)], (q_kM s c n)) _ _
        cases h1136 : r824 with
        | true =>
          refine q_RP_cT ?_
          show q_RP _ _ _ (92, [(3, .int 0), (2, .int x818), (0, .ref 64), (1, .int a1)], [.int 1], (q_kM s c n)) _ _
          refine q_RP_seg (g2 := (104, [(3, .int 0), (2, .int x818), (0, .ref 64), (1, .int a1)], [.int ((a1 + 2) - (a1 + 2) / 3 * 3), .ref 74], (q_kM s c n))) 8 (fun _ _ => rfl) ?_
          refine q_RP_as fun i1137 => ?_
          refine q_RP_rsT (g2 := (105, [(3, .int 0), (2, .int x818), (0, .ref 64), (1, .int a1)], [.int ((s.1 10) (((a1 + 2) - (a1 + 2) / 3 * 3).toNatClampNeg))], (q_kM s c n))) rfl rfl i1137 ?_
          refine q_RP_seg (g2 := (107, [(3, .int 0), (2, .int x818), (0, .ref 64), (1, .int a1)], [.int 32768, .int ((s.1 10) (((a1 + 2) - (a1 + 2) / 3 * 3).toNatClampNeg))], (q_kM s c n))) 1 (fun _ _ => rfl) ?_
          cases h1138 : decide ((s.1 10) (((a1 + 2) - (a1 + 2) / 3 * 3).toNatClampNeg) < 32768) with
          | true =>
            refine q_RP_cT ?_
            refine q_RP_rsT (g2 := (117, [(3, .int 0), (2, .int x818), (0, .ref 64), (1, .int a1)], [], (q_kM s c n))) rfl rfl h1138 ?_
            refine q_RP_seg (g2 := (118, [(3, .int 0), (2, .int x818), (0, .ref 64), (1, .int a1)], [.int 0], (q_kM s c n))) 1 (fun _ _ => rfl) ?_
            exact q_RP_ret rfl rfl rfl
          | false =>
            refine q_RP_cF ?_
            refine q_RP_rsF (g2 := (110, [(3, .int 0), (2, .int x818), (0, .ref 64), (1, .int a1)], [], (q_kM s c n))) rfl rfl h1138 ?_
            refine q_RP_seg (g2 := (118, [(3, .int 0), (2, .int x818), (0, .ref 64), (1, .int a1)], [.int 15], (q_kM s c n))) 4 (fun _ _ => rfl) ?_
            exact q_RP_ret rfl rfl rfl
        | false =>
          refine q_RP_cF ?_
          show q_RP _ _ _ (92, [(3, .int 0), (2, .int x818), (0, .ref 64), (1, .int a1)], [.int 0], (q_kM s c n)) _ _
          refine q_RP_seg (g2 := (118, [(3, .int 0), (2, .int x818), (0, .ref 64), (1, .int a1)], [.int 0], (q_kM s c n))) 2 (fun _ _ => rfl) ?_
          exact q_RP_ret rfl rfl rfl
def dz_M234_64_22 (m : Nat) : q_S → Int32 → Int32 → Option (q_S) := Nat.rec (motive := fun _ => q_S → Int32 → Int32 → Option (q_S)) (fun _ _ _ => none) (fun _ k22 s v1 v2 =>
  cond (decide (v2 < 3)) ((dz_M233_64 s v2).bind fun r826 => cond (q_in v2 3) (k22 s (v1 + (r826 * ((s.1 11) (v2.toNatClampNeg)))) (v2 + 1)) none) (q_let (dz_M207_64 s) fun r827 => cond (q_in r827 40) (some (q_sA s 6 (upd (s.1 6) (r827.toNatClampNeg) (v1 / 15)))) none)) m
theorem dzs_M234_64_22 (m : Nat) (s : q_S) (v1 : Int32) (v2 : Int32) : dz_M234_64_22 (m + 1) s v1 v2 = (fun k22 : q_S → Int32 → Int32 → Option (q_S) =>
  cond (decide (v2 < 3)) ((dz_M233_64 s v2).bind fun r826 => cond (q_in v2 3) (k22 s (v1 + (r826 * ((s.1 11) (v2.toNatClampNeg)))) (v2 + 1)) none) (q_let (dz_M207_64 s) fun r827 => cond (q_in r827 40) (some (q_sA s 6 (upd (s.1 6) (r827.toNatClampNeg) (v1 / 15)))) none)) (dz_M234_64_22 m) := rfl
set_option maxHeartbeats 4000000 in
theorem dzt_M234_64_22 (c n : Nat) : ∀ (m : Nat) (s : q_S) (v1 : Int32) (v2 : Int32), q_RP q_TB0 2 233 (22, [(0, .ref 64), (1, .int v1), (2, .int v2)], [], (q_kM s c n)) (q_oSM c n) (dz_M234_64_22 m s v1 v2) := by
  intro m
  induction m with
  | zero => intro s v1 v2; exact q_RP_no
  | succ m ih =>
    intro s v1 v2
    have hk22 := ih
    clear ih
    rw [dzs_M234_64_22]
    generalize dz_M234_64_22 m = k22 at hk22 ⊢
    dsimp only
    refine q_RP_seg (g2 := (24, [(0, .ref 64), (1, .int v1), (2, .int v2)], [.int 3, .int v2], (q_kM s c n))) 2 (fun _ _ => rfl) ?_
    cases h1140 : decide (v2 < 3) with
    | true =>
      refine q_RP_cT ?_
      refine q_RP_rsF (g2 := (27, [(0, .ref 64), (1, .int v1), (2, .int v2)], [], (q_kM s c n))) rfl rfl (q_d_geT h1140) ?_
      refine q_RP_seg (g2 := (30, [(0, .ref 64), (1, .int v1), (2, .int v2)], [.int v2, .ref 64, .int v1], (q_kM s c n))) 3 (fun _ _ => rfl) ?_
      refine q_RP_bd fun r826 er826 => ?_
      refine q_RP_call (v := (some (.int r826))) (h2 := (q_kM s c n)) rfl rfl ((dzt_M233_64 s c n v2 r826 er826).le (Nat.le_of_ble_eq_true rfl)) ?_
      show q_RP _ _ _ (33, [(0, .ref 64), (1, .int v1), (2, .int v2)], [.int r826, .int v1], (q_kM s c n)) _ _
      refine q_RP_seg (g2 := (38, [(0, .ref 64), (1, .int v1), (2, .int v2)], [.int v2, .ref 75, .int r826, .int v1], (q_kM s c n))) 3 (fun _ _ => rfl) ?_
      refine q_RP_as fun i1141 => ?_
      refine q_RP_rsT (g2 := (39, [(0, .ref 64), (1, .int v1), (2, .int v2)], [.int ((s.1 11) (v2.toNatClampNeg)), .int r826, .int v1], (q_kM s c n))) rfl rfl i1141 ?_
      refine q_RP_seg (g2 := (22, [(2, .int (v2 + 1)), (1, .int (v1 + (r826 * ((s.1 11) (v2.toNatClampNeg))))), (0, .ref 64)], [], (q_kM s c n))) 5 (fun _ _ => rfl) ?_
      exact q_RP_xt (q_xt_mk (q_mn1 2 rfl (q_mn1 1 rfl (q_mn1 0 rfl q_mn0))) rfl) (hk22 s (v1 + (r826 * ((s.1 11) (v2.toNatClampNeg)))) (v2 + 1))
    | false =>
      refine q_RP_cF ?_
      refine q_RP_rsT (g2 := (48, [(0, .ref 64), (1, .int v1), (2, .int v2)], [], (q_kM s c n))) rfl rfl (q_d_geF h1140) ?_
      refine q_RP_seg (g2 := (53, [(0, .ref 64), (1, .int v1), (2, .int v2)], [.ref 64, .ref 70], (q_kM s c n))) 3 (fun _ _ => rfl) ?_
      refine q_RP_call (v := (some (.int (dz_M207_64 s)))) (h2 := (q_kM s c n)) rfl rfl ((dzt_M207_64 s c n).le (Nat.le_of_ble_eq_true rfl)) ?_
      generalize dz_M207_64 s = r827
      refine q_RP_let ?_
      show q_RP _ _ _ (56, [(0, .ref 64), (1, .int v1), (2, .int v2)], [.int r827, .ref 70], (q_kM s c n)) _ _
      refine q_RP_seg (g2 := (60, [(0, .ref 64), (1, .int v1), (2, .int v2)], [.int (v1 / 15), .int r827, .ref 70], (q_kM s c n))) 3 (fun _ _ => rfl) ?_
      refine q_RP_as fun i1142 => ?_
      refine q_RP_rsT (g2 := (61, [(0, .ref 64), (1, .int v1), (2, .int v2)], [], (q_kM (q_sA s 6 (upd (s.1 6) (r827.toNatClampNeg) (v1 / 15))) c n))) rfl q_wM6 i1142 ?_
      exact q_RP_ret rfl rfl rfl
def dz_M234_64_2 (m : Nat) : q_S → Int32 → Option (q_S) := Nat.rec (motive := fun _ => q_S → Int32 → Option (q_S)) (fun _ _ => none) (fun _ k2 s v1 =>
  cond (decide (v1 < 3)) ((dz_M232_64 s v1).bind fun r825 => k2 r825 (v1 + 1)) (dz_M234_64_22 5000 s 0 0)) m
theorem dzs_M234_64_2 (m : Nat) (s : q_S) (v1 : Int32) : dz_M234_64_2 (m + 1) s v1 = (fun k2 : q_S → Int32 → Option (q_S) =>
  cond (decide (v1 < 3)) ((dz_M232_64 s v1).bind fun r825 => k2 r825 (v1 + 1)) (dz_M234_64_22 5000 s 0 0)) (dz_M234_64_2 m) := rfl
set_option maxHeartbeats 4000000 in
theorem dzt_M234_64_2 (c n : Nat) : ∀ (m : Nat) (s : q_S) (v1 : Int32), q_RP q_TB0 2 233 (2, [(0, .ref 64), (1, .int v1)], [], (q_kM s c n)) (q_oSM c n) (dz_M234_64_2 m s v1) := by
  intro m
  induction m with
  | zero => intro s v1; exact q_RP_no
  | succ m ih =>
    intro s v1
    have hk2 := ih
    clear ih
    rw [dzs_M234_64_2]
    generalize dz_M234_64_2 m = k2 at hk2 ⊢
    dsimp only
    refine q_RP_seg (g2 := (4, [(0, .ref 64), (1, .int v1)], [.int 3, .int v1], (q_kM s c n))) 2 (fun _ _ => rfl) ?_
    cases h1139 : decide (v1 < 3) with
    | true =>
      refine q_RP_cT ?_
      refine q_RP_rsF (g2 := (7, [(0, .ref 64), (1, .int v1)], [], (q_kM s c n))) rfl rfl (q_d_geT h1139) ?_
      refine q_RP_seg (g2 := (9, [(0, .ref 64), (1, .int v1)], [.int v1, .ref 64], (q_kM s c n))) 2 (fun _ _ => rfl) ?_
      refine q_RP_bd fun r825 er825 => ?_
      refine q_RP_call (v := none) (h2 := (q_kM r825 c n)) rfl rfl ((dzt_M232_64 s c n v1 r825 er825).le (Nat.le_of_ble_eq_true rfl)) ?_
      show q_RP _ _ _ (12, [(0, .ref 64), (1, .int v1)], [], (q_kM r825 c n)) _ _
      refine q_RP_seg (g2 := (2, [(1, .int (v1 + 1)), (0, .ref 64)], [], (q_kM r825 c n))) 2 (fun _ _ => rfl) ?_
      exact q_RP_xt (q_xt_mk (q_mn1 1 rfl (q_mn1 0 rfl q_mn0)) rfl) (hk2 r825 (v1 + 1))
    | false =>
      refine q_RP_cF ?_
      refine q_RP_rsT (g2 := (18, [(0, .ref 64), (1, .int v1)], [], (q_kM s c n))) rfl rfl (q_d_geF h1139) ?_
      refine q_RP_seg (g2 := (22, [(2, .int 0), (1, .int 0), (0, .ref 64)], [], (q_kM s c n))) 4 (fun _ _ => rfl) ?_
      exact q_RP_xt (q_xt_mk (q_mn1 2 rfl (q_mn1 1 rfl (q_mn1 0 rfl q_mn0))) rfl) (dzt_M234_64_22 c n 5000 s 0 0)
def dz_M234_64 (s : q_S) : Option (q_S) :=
  dz_M234_64_2 5000 s 0
set_option maxHeartbeats 4000000 in
theorem dzt_M234_64 (s : q_S) (c n : Nat) (x : q_S) (h : dz_M234_64 s = some x) : q_Ca q_TB0 3 233 [.ref 64] (q_kM s c n) ((q_oSM c n) x) := by
  refine q_CaP_of (φ := (q_oSM c n)) (Nat.le_of_ble_eq_true rfl) ?_ h
  clear h
  unfold dz_M234_64
  refine q_RP_seg (g2 := (2, [(1, .int 0), (0, .ref 64)], [], (q_kM s c n))) 2 (fun _ _ => rfl) ?_
  exact q_RP_xt (q_xt_mk (q_mn1 1 rfl (q_mn1 0 rfl q_mn0)) rfl) (dzt_M234_64_2 c n 5000 s 0)
def dz_M247_64 (s : q_S) (a1 : Int32) : Option (q_S × Int32) :=
  q_let (dz_M213 s a1) fun r842 => (dz_M214_64 s r842).bind fun r843 => some (r843.1, r843.2)
set_option maxHeartbeats 4000000 in
theorem dzt_M247_64 (s : q_S) (c n : Nat) (a1 : Int32) (x : q_S × Int32) (h : dz_M247_64 s a1 = some x) : q_Ca q_TB0 5 246 [.ref 64, .int a1] (q_kM s c n) ((q_oIM c n) x) := by
  refine q_CaP_of (φ := (q_oIM c n)) (Nat.le_of_ble_eq_true rfl) ?_ h
  clear h
  unfold dz_M247_64
  refine q_RP_seg (g2 := (2, [(0, .ref 64), (1, .int a1)], [.int a1, .ref 64], (q_kM s c n))) 2 (fun _ _ => rfl) ?_
  refine q_RP_call (v := (some (.int (dz_M213 s a1)))) (h2 := (q_kM s c n)) rfl rfl ((dzt_M213 s c n a1).le (Nat.le_of_ble_eq_true rfl)) ?_
  generalize dz_M213 s a1 = r842
  refine q_RP_let ?_
  show q_RP _ _ _ (5, [(0, .ref 64), (1, .int a1)], [.int r842, .ref 64], (q_kM s c n)) _ _
  refine q_RP_bd fun r843 er843 => ?_
  refine q_RP_call (v := (some (.int r843.2))) (h2 := (q_kM r843.1 c n)) rfl rfl ((dzt_M214_64 s c n r842 r843 er843).le (Nat.le_of_ble_eq_true rfl)) ?_
  show q_RP _ _ _ (8, [(0, .ref 64), (1, .int a1)], [.int r843.2], (q_kM r843.1 c n)) _ _
  exact q_RP_ret rfl rfl rfl
def dz_M244 (s : q_S) (a0 : Int32) : Int32 :=
  cond (decide (a0 < 128)) ((a0 / 8)) (q_let (dz_M202 s a0 192 231) fun r846 => cond r846 (((16 : Int32) + ((a0 - 192) / 8))) ((-1)))
set_option maxHeartbeats 4000000 in
theorem dzt_M244 (s : q_S) (c n : Nat) (a0 : Int32) : q_Ca q_TB0 2 243 [.int a0] (q_kM s c n) ((q_oP (q_kM s c n)) (dz_M244 s a0)) := by
  refine q_CaT_of (φ := (q_oP (q_kM s c n))) (Nat.le_of_ble_eq_true rfl) ?_
  unfold dz_M244
  refine q_RT_seg (g2 := (4, [(0, .int a0)], [.int 128, .int a0], (q_kM s c n))) 2 (fun _ _ => rfl) ?_
  cases h1157 : decide (a0 < 128) with
  | true =>
    refine q_RT_cT ?_
    refine q_RT_rsF (g2 := (7, [(0, .int a0)], [], (q_kM s c n))) rfl rfl (q_d_geT h1157) ?_
    refine q_RT_seg (g2 := (42, [(0, .int a0)], [.int (a0 / 8)], (q_kM s c n))) 4 (fun _ _ => rfl) ?_
    exact q_RT_ret rfl rfl rfl
  | false =>
    refine q_RT_cF ?_
    refine q_RT_rsT (g2 := (14, [(0, .int a0)], [], (q_kM s c n))) rfl rfl (q_d_geF h1157) ?_
    refine q_RT_seg (g2 := (21, [(0, .int a0)], [.int 231, .int 192, .int a0], (q_kM s c n))) 3 (fun _ _ => rfl) ?_
    refine q_RT_call (v := (some (.int (q_b (dz_M202 s a0 192 231))))) (h2 := (q_kM s c n)) rfl rfl ((dzt_M202 s c n a0 192 231).le (Nat.le_of_ble_eq_true rfl)) ?_
    generalize dz_M202 s a0 192 231 = r846
    refine q_RT_let ?_
    show q_RT _ _ _ (24, [(0, .int a0)], [.int (q_b r846)], (q_kM s c n)) _ _
    cases h1158 : r846 with
    | true =>
      refine q_RT_cT ?_
      show q_RT _ _ _ (24, [(0, .int a0)], [.int 1], (q_kM s c n)) _ _
      refine q_RT_seg (g2 := (42, [(0, .int a0)], [.int ((16 : Int32) + ((a0 - 192) / 8))], (q_kM s c n))) 9 (fun _ _ => rfl) ?_
      exact q_RT_ret rfl rfl rfl
    | false =>
      refine q_RT_cF ?_
      show q_RT _ _ _ (24, [(0, .int a0)], [.int 0], (q_kM s c n)) _ _
      refine q_RT_seg (g2 := (42, [(0, .int a0)], [.int (-1)], (q_kM s c n))) 2 (fun _ _ => rfl) ?_
      exact q_RT_ret rfl rfl rfl
def dz_M252_64 (s : q_S) (a1 : Int32) : Bool :=
  cond (decide (a1 < 162)) (cond (decide (a1 = 161)) (cond (decide ((s.1 15) 4 = 1)) (true) (false)) (cond (decide (a1 = 163)) (cond (decide ((s.1 15) 4 = 1)) (true) (false)) (cond (decide (a1 = 165)) (cond (decide ((s.1 15) 4 = 1)) (true) (false)) (cond (decide (a1 = 167)) (cond (decide ((s.1 15) 4 = 1)) (true) (false)) (cond (decide ((s.1 15) 4 = 0)) (true) (false)))))) (cond (decide (a1 < 164)) (cond (decide (a1 = 161)) (cond (decide ((s.1 15) 5 = 1)) (true) (false)) (cond (decide (a1 = 163)) (cond (decide ((s.1 15) 5 = 1)) (true) (false)) (cond (decide (a1 = 165)) (cond (decide ((s.1 15) 5 = 1)) (true) (false)) (cond (decide (a1 = 167)) (cond (decide ((s.1 15) 5 = 1)) (true) (false)) (cond (decide ((s.1 15) 5 = 0)) (true) (false)))))) (cond (decide (a1 < 166)) (cond (decide (a1 = 161)) (cond (decide ((s.1 15) 0 = 1)) (true) (false)) (cond (decide (a1 = 163)) (cond (decide ((s.1 15) 0 = 1)) (true) (false)) (cond (decide (a1 = 165)) (cond (decide ((s.1 15) 0 = 1)) (true) (false)) (cond (decide (a1 = 167)) (cond (decide ((s.1 15) 0 = 1)) (true) (false)) (cond (decide ((s.1 15) 0 = 0)) (true) (false)))))) (cond (decide (a1 = 161)) (cond (decide ((s.1 15) 1 = 1)) (true) (false)) (cond (decide (a1 = 163)) (cond (decide ((s.1 15) 1 = 1)) (true) (false)) (cond (decide (a1 = 165)) (cond (decide ((s.1 15) 1 = 1)) (true) (false)) (cond (decide (a1 = 167)) (cond (decide ((s.1 15) 1 = 1)) (true) (false)) (cond (decide ((s.1 15) 1 = 0)) (true) (false))))))))
set_option maxHeartbeats 4000000 in
theorem dzt_M252_64 (s : q_S) (c n : Nat) (a1 : Int32) : q_Ca q_TB0 1 251 [.ref 64, .int a1] (q_kM s c n) ((q_oB (q_kM s c n)) (dz_M252_64 s a1)) := by
  refine q_CaT_of (φ := (q_oB (q_kM s c n))) (Nat.le_of_ble_eq_true rfl) ?_
  unfold dz_M252_64
  refine q_RT_seg (g2 := (4, [(0, .ref 64), (1, .int a1)], [.int 162, .int a1], (q_kM s c n))) 2 (fun _ _ => rfl) ?_
  cases h1161 : decide (a1 < 162) with
  | true =>
    refine q_RT_cT ?_
    refine q_RT_rsF (g2 := (7, [(0, .ref 64), (1, .int a1)], [], (q_kM s c n))) rfl rfl (q_d_geT h1161) ?_
    refine q_RT_seg (g2 := (13, [(0, .ref 64), (1, .int a1)], [.int ((s.1 15) 4)], (q_kM s c n))) 4 (fun _ _ => rfl) ?_
    refine q_RT_seg (g2 := (60, [(2, .int ((s.1 15) 4)), (0, .ref 64), (1, .int a1)], [.int 161, .int a1, .int ((s.1 15) 4)], (q_kM s c n))) 5 (fun _ _ => rfl) ?_
    cases h1162 : decide (a1 = 161) with
    | true =>
      refine q_RT_cT ?_
      refine q_RT_rsT (g2 := (84, [(2, .int ((s.1 15) 4)), (0, .ref 64), (1, .int a1)], [.int ((s.1 15) 4)], (q_kM s c n))) rfl rfl h1162 ?_
      refine q_RT_seg (g2 := (89, [(2, .int ((s.1 15) 4)), (0, .ref 64), (1, .int a1)], [.int 1, .int ((s.1 15) 4)], (q_kM s c n))) 2 (fun _ _ => rfl) ?_
      cases h1163 : decide ((s.1 15) 4 = 1) with
      | true =>
        refine q_RT_cT ?_
        refine q_RT_rsF (g2 := (92, [(2, .int ((s.1 15) 4)), (0, .ref 64), (1, .int a1)], [], (q_kM s c n))) rfl rfl (q_d_neT h1163) ?_
        refine q_RT_seg (g2 := (97, [(2, .int ((s.1 15) 4)), (0, .ref 64), (1, .int a1)], [.int 1], (q_kM s c n))) 2 (fun _ _ => rfl) ?_
        exact q_RT_ret rfl rfl rfl
      | false =>
        refine q_RT_cF ?_
        refine q_RT_rsT (g2 := (96, [(2, .int ((s.1 15) 4)), (0, .ref 64), (1, .int a1)], [], (q_kM s c n))) rfl rfl (q_d_neF h1163) ?_
        refine q_RT_seg (g2 := (97, [(2, .int ((s.1 15) 4)), (0, .ref 64), (1, .int a1)], [.int 0], (q_kM s c n))) 1 (fun _ _ => rfl) ?_
        exact q_RT_ret rfl rfl rfl
    | false =>
      refine q_RT_cF ?_
      refine q_RT_rsF (g2 := (63, [(2, .int ((s.1 15) 4)), (0, .ref 64), (1, .int a1)], [.int ((s.1 15) 4)], (q_kM s c n))) rfl rfl h1162 ?_
      refine q_RT_seg (g2 := (67, [(2, .int ((s.1 15) 4)), (0, .ref 64), (1, .int a1)], [.int 163, .int a1, .int ((s.1 15) 4)], (q_kM s c n))) 2 (fun _ _ => rfl) ?_
      cases h1164 : decide (a1 = 163) with
      | true =>
        refine q_RT_cT ?_
        refine q_RT_rsT (g2 := (84, [(2, .int ((s.1 15) 4)), (0, .ref 64), (1, .int a1)], [.int ((s.1 15) 4)], (q_kM s c n))) rfl rfl h1164 ?_
        refine q_RT_seg (g2 := (89, [(2, .int ((s.1 15) 4)), (0, .ref 64), (1, .int a1)], [.int 1, .int ((s.1 15) 4)], (q_kM s c n))) 2 (fun _ _ => rfl) ?_
        cases h1165 : decide ((s.1 15) 4 = 1) with
        | true =>
          refine q_RT_cT ?_
          refine q_RT_rsF (g2 := (92, [(2, .int ((s.1 15) 4)), (0, .ref 64), (1, .int a1)], [], (q_kM s c n))) rfl rfl (q_d_neT h1165) ?_
          refine q_RT_seg (g2 := (97, [(2, .int ((s.1 15) 4)), (0, .ref 64), (1, .int a1)], [.int 1], (q_kM s c n))) 2 (fun _ _ => rfl) ?_
          exact q_RT_ret rfl rfl rfl
        | false =>
          refine q_RT_cF ?_
          refine q_RT_rsT (g2 := (96, [(2, .int ((s.1 15) 4)), (0, .ref 64), (1, .int a1)], [], (q_kM s c n))) rfl rfl (q_d_neF h1165) ?_
          refine q_RT_seg (g2 := (97, [(2, .int ((s.1 15) 4)), (0, .ref 64), (1, .int a1)], [.int 0], (q_kM s c n))) 1 (fun _ _ => rfl) ?_
          exact q_RT_ret rfl rfl rfl
      | false =>
        refine q_RT_cF ?_
        refine q_RT_rsF (g2 := (70, [(2, .int ((s.1 15) 4)), (0, .ref 64), (1, .int a1)], [.int ((s.1 15) 4)], (q_kM s c n))) rfl rfl h1164 ?_
        refine q_RT_seg (g2 := (74, [(2, .int ((s.1 15) 4)), (0, .ref 64), (1, .int a1)], [.int 165, .int a1, .int ((s.1 15) 4)], (q_kM s c n))) 2 (fun _ _ => rfl) ?_
        cases h1166 : decide (a1 = 165) with
        | true =>
          refine q_RT_cT ?_
          refine q_RT_rsT (g2 := (84, [(2, .int ((s.1 15) 4)), (0, .ref 64), (1, .int a1)], [.int ((s.1 15) 4)], (q_kM s c n))) rfl rfl h1166 ?_
          refine q_RT_seg (g2 := (89, [(2, .int ((s.1 15) 4)), (0, .ref 64), (1, .int a1)], [.int 1, .int ((s.1 15) 4)], (q_kM s c n))) 2 (fun _ _ => rfl) ?_
          cases h1167 : decide ((s.1 15) 4 = 1) with
          | true =>
            refine q_RT_cT ?_
            refine q_RT_rsF (g2 := (92, [(2, .int ((s.1 15) 4)), (0, .ref 64), (1, .int a1)], [], (q_kM s c n))) rfl rfl (q_d_neT h1167) ?_
            refine q_RT_seg (g2 := (97, [(2, .int ((s.1 15) 4)), (0, .ref 64), (1, .int a1)], [.int 1], (q_kM s c n))) 2 (fun _ _ => rfl) ?_
            exact q_RT_ret rfl rfl rfl
          | false =>
            refine q_RT_cF ?_
            refine q_RT_rsT (g2 := (96, [(2, .int ((s.1 15) 4)), (0, .ref 64), (1, .int a1)], [], (q_kM s c n))) rfl rfl (q_d_neF h1167) ?_
            refine q_RT_seg (g2 := (97, [(2, .int ((s.1 15) 4)), (0, .ref 64), (1, .int a1)], [.int 0], (q_kM s c n))) 1 (fun _ _ => rfl) ?_
            exact q_RT_ret rfl rfl rfl
        | false =>
          refine q_RT_cF ?_
          refine q_RT_rsF (g2 := (77, [(2, .int ((s.1 15) 4)), (0, .ref 64), (1, .int a1)], [.int ((s.1 15) 4)], (q_kM s c n))) rfl rfl h1166 ?_
          refine q_RT_seg (g2 := (81, [(2, .int ((s.1 15) 4)), (0, .ref 64), (1, .int a1)], [.int 167, .int a1, .int ((s.1 15) 4)], (q_kM s c n))) 2 (fun _ _ => rfl) ?_
          cases h1168 : decide (a1 = 167) with
          | true =>
            refine q_RT_cT ?_
            refine q_RT_rsF (g2 := (84, [(2, .int ((s.1 15) 4)), (0, .ref 64), (1, .int a1)], [.int ((s.1 15) 4)], (q_kM s c n))) rfl rfl (q_d_neT h1168) ?_
            refine q_RT_seg (g2 := (89, [(2, .int ((s.1 15) 4)), (0, .ref 64), (1, .int a1)], [.int 1, .int ((s.1 15) 4)], (q_kM s c n))) 2 (fun _ _ => rfl) ?_
            cases h1169 : decide ((s.1 15) 4 = 1) with
            | true =>
              refine q_RT_cT ?_
              refine q_RT_rsF (g2 := (92, [(2, .int ((s.1 15) 4)), (0, .ref 64), (1, .int a1)], [], (q_kM s c n))) rfl rfl (q_d_neT h1169) ?_
              refine q_RT_seg (g2 := (97, [(2, .int ((s.1 15) 4)), (0, .ref 64), (1, .int a1)], [.int 1], (q_kM s c n))) 2 (fun _ _ => rfl) ?_
              exact q_RT_ret rfl rfl rfl
            | false =>
              refine q_RT_cF ?_
              refine q_RT_rsT (g2 := (96, [(2, .int ((s.1 15) 4)), (0, .ref 64), (1, .int a1)], [], (q_kM s c n))) rfl rfl (q_d_neF h1169) ?_
              refine q_RT_seg (g2 := (97, [(2, .int ((s.1 15) 4)), (0, .ref 64), (1, .int a1)], [.int 0], (q_kM s c n))) 1 (fun _ _ => rfl) ?_
              exact q_RT_ret rfl rfl rfl
          | false =>
            refine q_RT_cF ?_
            refine q_RT_rsT (g2 := (88, [(2, .int ((s.1 15) 4)), (0, .ref 64), (1, .int a1)], [.int ((s.1 15) 4)], (q_kM s c n))) rfl rfl (q_d_neF h1168) ?_
            refine q_RT_seg (g2 := (89, [(2, .int ((s.1 15) 4)), (0, .ref 64), (1, .int a1)], [.int 0, .int ((s.1 15) 4)], (q_kM s c n))) 1 (fun _ _ => rfl) ?_
            cases h1170 : decide ((s.1 15) 4 = 0) with
            | true =>
              refine q_RT_cT ?_
              refine q_RT_rsF (g2 := (92, [(2, .int ((s.1 15) 4)), (0, .ref 64), (1, .int a1)], [], (q_kM s c n))) rfl rfl (q_d_neT h1170) ?_
              refine q_RT_seg (g2 := (97, [(2, .int ((s.1 15) 4)), (0, .ref 64), (1, .int a1)], [.int 1], (q_kM s c n))) 2 (fun _ _ => rfl) ?_
              exact q_RT_ret rfl rfl rfl
            | false =>
              refine q_RT_cF ?_
              refine q_RT_rsT (g2 := (96, [(2, .int ((s.1 15) 4)), (0, .ref 64), (1, .int a1)], [], (q_kM s c n))) rfl rfl (q_d_neF h1170) ?_
              refine q_RT_seg (g2 := (97, [(2, .int ((s.1 15) 4)), (0, .ref 64), (1, .int a1)], [.int 0], (q_kM s c n))) 1 (fun _ _ => rfl) ?_
              exact q_RT_ret rfl rfl rfl
  | false =>
    refine q_RT_cF ?_
    refine q_RT_rsT (g2 := (16, [(0, .ref 64), (1, .int a1)], [], (q_kM s c n))) rfl rfl (q_d_geF h1161) ?_
    refine q_RT_seg (g2 := (20, [(0, .ref 64), (1, .int a1)], [.int 164, .int a1], (q_kM s c n))) 2 (fun _ _ => rfl) ?_
    cases h1171 : decide (a1 < 164) with
    | true =>
      refine q_RT_cT ?_
      refine q_RT_rsF (g2 := (23, [(0, .ref 64), (1, .int a1)], [], (q_kM s c n))) rfl rfl (q_d_geT h1171) ?_
      refine q_RT_seg (g2 := (29, [(0, .ref 64), (1, .int a1)], [.int ((s.1 15) 5)], (q_kM s c n))) 4 (fun _ _ => rfl) ?_
      refine q_RT_seg (g2 := (60, [(2, .int ((s.1 15) 5)), (0, .ref 64), (1, .int a1)], [.int 161, .int a1, .int ((s.1 15) 5)], (q_kM s c n))) 5 (fun _ _ => rfl) ?_
      cases h1172 : decide (a1 = 161) with
      | true =>
        refine q_RT_cT ?_
        refine q_RT_rsT (g2 := (84, [(2, .int ((s.1 15) 5)), (0, .ref 64), (1, .int a1)], [.int ((s.1 15) 5)], (q_kM s c n))) rfl rfl h1172 ?_
        refine q_RT_seg (g2 := (89, [(2, .int ((s.1 15) 5)), (0, .ref 64), (1, .int a1)], [.int 1, .int ((s.1 15) 5)], (q_kM s c n))) 2 (fun _ _ => rfl) ?_
        cases h1173 : decide ((s.1 15) 5 = 1) with
        | true =>
          refine q_RT_cT ?_
          refine q_RT_rsF (g2 := (92, [(2, .int ((s.1 15) 5)), (0, .ref 64), (1, .int a1)], [], (q_kM s c n))) rfl rfl (q_d_neT h1173) ?_
          refine q_RT_seg (g2 := (97, [(2, .int ((s.1 15) 5)), (0, .ref 64), (1, .int a1)], [.int 1], (q_kM s c n))) 2 (fun _ _ => rfl) ?_
          exact q_RT_ret rfl rfl rfl
        | false =>
          refine q_RT_cF ?_
          refine q_RT_rsT (g2 := (96, [(2, .int ((s.1 15) 5)), (0, .ref 64), (1, .int a1)], [], (q_kM s c n))) rfl rfl (q_d_neF h1173) ?_
          refine q_RT_seg (g2 := (97, [(2, .int ((s.1 15) 5)), (0, .ref 64), (1, .int a1)], [.int 0], (q_kM s c n))) 1 (fun _ _ => rfl) ?_
          exact q_RT_ret rfl rfl rfl
      | false =>
        refine q_RT_cF ?_
        refine q_RT_rsF (g2 := (63, [(2, .int ((s.1 15) 5)), (0, .ref 64), (1, .int a1)], [.int ((s.1 15) 5)], (q_kM s c n))) rfl rfl h1172 ?_
        refine q_RT_seg (g2 := (67, [(2, .int ((s.1 15) 5)), (0, .ref 64), (1, .int a1)], [.int 163, .int a1, .int ((s.1 15) 5)], (q_kM s c n))) 2 (fun _ _ => rfl) ?_
        cases h1174 : decide (a1 = 163) with
        | true =>
          refine q_RT_cT ?_
          refine q_RT_rsT (g2 := (84, [(2, .int ((s.1 15) 5)), (0, .ref 64), (1, .int a1)], [.int ((s.1 15) 5)], (q_kM s c n))) rfl rfl h1174 ?_
          refine q_RT_seg (g2 := (89, [(2, .int ((s.1 15) 5)), (0, .ref 64), (1, .int a1)], [.int 1, .int ((s.1 15) 5)], (q_kM s c n))) 2 (fun _ _ => rfl) ?_
          cases h1175 : decide ((s.1 15) 5 = 1) with
          | true =>
            refine q_RT_cT ?_
            refine q_RT_rsF (g2 := (92, [(2, .int ((s.1 15) 5)), (0, .ref 64), (1, .int a1)], [], (q_kM s c n))) rfl rfl (q_d_neT h1175) ?_
            refine q_RT_seg (g2 := (97, [(2, .int ((s.1 15) 5)), (0, .ref 64), (1, .int a1)], [.int 1], (q_kM s c n))) 2 (fun _ _ => rfl) ?_
            exact q_RT_ret rfl rfl rfl
          | false =>
            refine q_RT_cF ?_
            refine q_RT_rsT (g2 := (96, [(2, .int ((s.1 15) 5)), (0, .ref 64), (1, .int a1)], [], (q_kM s c n))) rfl rfl (q_d_neF h1175) ?_
            refine q_RT_seg (g2 := (97, [(2, .int ((s.1 15) 5)), (0, .ref 64), (1, .int a1)], [.int 0], (q_kM s c n))) 1 (fun _ _ => rfl) ?_
            exact q_RT_ret rfl rfl rfl
        | false =>
          refine q_RT_cF ?_
          refine q_RT_rsF (g2 := (70, [(2, .int ((s.1 15) 5)), (0, .ref 64), (1, .int a1)], [.int ((s.1 15) 5)], (q_kM s c n))) rfl rfl h1174 ?_
          refine q_RT_seg (g2 := (74, [(2, .int ((s.1 15) 5)), (0, .ref 64), (1, .int a1)], [.int 165, .int a1, .int ((s.1 15) 5)], (q_kM s c n))) 2 (fun _ _ => rfl) ?_
          cases h1176 : decide (a1 = 165) with
          | true =>
            refine q_RT_cT ?_
            refine q_RT_rsT (g2 := (84, [(2, .int ((s.1 15) 5)), (0, .ref 64), (1, .int a1)], [.int ((s.1 15) 5)], (q_kM s c n))) rfl rfl h1176 ?_
            refine q_RT_seg (g2 := (89, [(2, .int ((s.1 15) 5)), (0, .ref 64), (1, .int a1)], [.int 1, .int ((s.1 15) 5)], (q_kM s c n))) 2 (fun _ _ => rfl) ?_
            cases h1177 : decide ((s.1 15) 5 = 1) with
            | true =>
              refine q_RT_cT ?_
              refine q_RT_rsF (g2 := (92, [(2, .int ((s.1 15) 5)), (0, .ref 64), (1, .int a1)], [], (q_kM s c n))) rfl rfl (q_d_neT h1177) ?_
              refine q_RT_seg (g2 := (97, [(2, .int ((s.1 15) 5)), (0, .ref 64), (1, .int a1)], [.int 1], (q_kM s c n))) 2 (fun _ _ => rfl) ?_
              exact q_RT_ret rfl rfl rfl
            | false =>
              refine q_RT_cF ?_
              refine q_RT_rsT (g2 := (96, [(2, .int ((s.1 15) 5)), (0, .ref 64), (1, .int a1)], [], (q_kM s c n))) rfl rfl (q_d_neF h1177) ?_
              refine q_RT_seg (g2 := (97, [(2, .int ((s.1 15) 5)), (0, .ref 64), (1, .int a1)], [.int 0], (q_kM s c n))) 1 (fun _ _ => rfl) ?_
              exact q_RT_ret rfl rfl rfl
          | false =>
            refine q_RT_cF ?_
            refine q_RT_rsF (g2 := (77, [(2, .int ((s.1 15) 5)), (0, .ref 64), (1, .int a1)], [.int ((s.1 15) 5)], (q_kM s c n))) rfl rfl h1176 ?_
            refine q_RT_seg (g2 := (81, [(2, .int ((s.1 15) 5)), (0, .ref 64), (1, .int a1)], [.int 167, .int a1, .int ((s.1 15) 5)], (q_kM s c n))) 2 (fun _ _ => rfl) ?_
            cases h1178 : decide (a1 = 167) with
            | true =>
              refine q_RT_cT ?_
              refine q_RT_rsF (g2 := (84, [(2, .int ((s.1 15) 5)), (0, .ref 64), (1, .int a1)], [.int ((s.1 15) 5)], (q_kM s c n))) rfl rfl (q_d_neT h1178) ?_
              refine q_RT_seg (g2 := (89, [(2, .int ((s.1 15) 5)), (0, .ref 64), (1, .int a1)], [.int 1, .int ((s.1 15) 5)], (q_kM s c n))) 2 (fun _ _ => rfl) ?_
              cases h1179 : decide ((s.1 15) 5 = 1) with
              | true =>
                refine q_RT_cT ?_
                refine q_RT_rsF (g2 := (92, [(2, .int ((s.1 15) 5)), (0, .ref 64), (1, .int a1)], [], (q_kM s c n))) rfl rfl (q_d_neT h1179) ?_
                refine q_RT_seg (g2 := (97, [(2, .int ((s.1 15) 5)), (0, .ref 64), (1, .int a1)], [.int 1], (q_kM s c n))) 2 (fun _ _ => rfl) ?_
                exact q_RT_ret rfl rfl rfl
              | false =>
                refine q_RT_cF ?_
                refine q_RT_rsT (g2 := (96, [(2, .int ((s.1 15) 5)), (0, .ref 64), (1, .int a1)], [], (q_kM s c n))) rfl rfl (q_d_neF h1179) ?_
                refine q_RT_seg (g2 := (97, [(2, .int ((s.1 15) 5)), (0, .ref 64), (1, .int a1)], [.int 0], (q_kM s c n))) 1 (fun _ _ => rfl) ?_
                exact q_RT_ret rfl rfl rfl
            | false =>
              refine q_RT_cF ?_
              refine q_RT_rsT (g2 := (88, [(2, .int ((s.1 15) 5)), (0, .ref 64), (1, .int a1)], [.int ((s.1 15) 5)], (q_kM s c n))) rfl rfl (q_d_neF h1178) ?_
              refine q_RT_seg (g2 := (89, [(2, .int ((s.1 15) 5)), (0, .ref 64), (1, .int a1)], [.int 0, .int ((s.1 15) 5)], (q_kM s c n))) 1 (fun _ _ => rfl) ?_
              cases h1180 : decide ((s.1 15) 5 = 0) with
              | true =>
                refine q_RT_cT ?_
                refine q_RT_rsF (g2 := (92, [(2, .int ((s.1 15) 5)), (0, .ref 64), (1, .int a1)], [], (q_kM s c n))) rfl rfl (q_d_neT h1180) ?_
                refine q_RT_seg (g2 := (97, [(2, .int ((s.1 15) 5)), (0, .ref 64), (1, .int a1)], [.int 1], (q_kM s c n))) 2 (fun _ _ => rfl) ?_
                exact q_RT_ret rfl rfl rfl
              | false =>
                refine q_RT_cF ?_
                refine q_RT_rsT (g2 := (96, [(2, .int ((s.1 15) 5)), (0, .ref 64), (1, .int a1)], [], (q_kM s c n))) rfl rfl (q_d_neF h1180) ?_
                refine q_RT_seg (g2 := (97, [(2, .int ((s.1 15) 5)), (0, .ref 64), (1, .int a1)], [.int 0], (q_kM s c n))) 1 (fun _ _ => rfl) ?_
                exact q_RT_ret rfl rfl rfl
    | false =>
      refine q_RT_cF ?_
      refine q_RT_rsT (g2 := (32, [(0, .ref 64), (1, .int a1)], [], (q_kM s c n))) rfl rfl (q_d_geF h1171) ?_
      refine q_RT_seg (g2 := (36, [(0, .ref 64), (1, .int a1)], [.int 166, .int a1], (q_kM s c n))) 2 (fun _ _ => rfl) ?_
      cases h1181 : decide (a1 < 166) with
      | true =>
        refine q_RT_cT ?_
        refine q_RT_rsF (g2 := (39, [(0, .ref 64), (1, .int a1)], [], (q_kM s c n))) rfl rfl (q_d_geT h1181) ?_
        refine q_RT_seg (g2 := (45, [(0, .ref 64), (1, .int a1)], [.int ((s.1 15) 0)], (q_kM s c n))) 4 (fun _ _ => rfl) ?_
        refine q_RT_seg (g2 := (60, [(2, .int ((s.1 15) 0)), (0, .ref 64), (1, .int a1)], [.int 161, .int a1, .int ((s.1 15) 0)], (q_kM s c n))) 5 (fun _ _ => rfl) ?_
        cases h1182 : decide (a1 = 161) with
        | true =>
          refine q_RT_cT ?_
          refine q_RT_rsT (g2 := (84, [(2, .int ((s.1 15) 0)), (0, .ref 64), (1, .int a1)], [.int ((s.1 15) 0)], (q_kM s c n))) rfl rfl h1182 ?_
          refine q_RT_seg (g2 := (89, [(2, .int ((s.1 15) 0)), (0, .ref 64), (1, .int a1)], [.int 1, .int ((s.1 15) 0)], (q_kM s c n))) 2 (fun _ _ => rfl) ?_
          cases h1183 : decide ((s.1 15) 0 = 1) with
          | true =>
            refine q_RT_cT ?_
            refine q_RT_rsF (g2 := (92, [(2, .int ((s.1 15) 0)), (0, .ref 64), (1, .int a1)], [], (q_kM s c n))) rfl rfl (q_d_neT h1183) ?_
            refine q_RT_seg (g2 := (97, [(2, .int ((s.1 15) 0)), (0, .ref 64), (1, .int a1)], [.int 1], (q_kM s c n))) 2 (fun _ _ => rfl) ?_
            exact q_RT_ret rfl rfl rfl
          | false =>
            refine q_RT_cF ?_
            refine q_RT_rsT (g2 := (96, [(2, .int ((s.1 15) 0)), (0, .ref 64), (1, .int a1)], [], (q_kM s c n))) rfl rfl (q_d_neF h1183) ?_
            refine q_RT_seg (g2 := (97, [(2, .int ((s.1 15) 0)), (0, .ref 64), (1, .int a1)], [.int 0], (q_kM s c n))) 1 (fun _ _ => rfl) ?_
            exact q_RT_ret rfl rfl rfl
        | false =>
          refine q_RT_cF ?_
          refine q_RT_rsF (g2 := (63, [(2, .int ((s.1 15) 0)), (0, .ref 64), (1, .int a1)], [.int ((s.1 15) 0)], (q_kM s c n))) rfl rfl h1182 ?_
          refine q_RT_seg (g2 := (67, [(2, .int ((s.1 15) 0)), (0, .ref 64), (1, .int a1)], [.int 163, .int a1, .int ((s.1 15) 0)], (q_kM s c n))) 2 (fun _ _ => rfl) ?_
          cases h1184 : decide (a1 = 163) with
          | true =>
            refine q_RT_cT ?_
            refine q_RT_rsT (g2 := (84, [(2, .int ((s.1 15) 0)), (0, .ref 64), (1, .int a1)], [.int ((s.1 15) 0)], (q_kM s c n))) rfl rfl h1184 ?_
            refine q_RT_seg (g2 := (89, [(2, .int ((s.1 15) 0)), (0, .ref 64), (1, .int a1)], [.int 1, .int ((s.1 15) 0)], (q_kM s c n))) 2 (fun _ _ => rfl) ?_
            cases h1185 : decide ((s.1 15) 0 = 1) with
            | true =>
              refine q_RT_cT ?_
              refine q_RT_rsF (g2 := (92, [(2, .int ((s.1 15) 0)), (0, .ref 64), (1, .int a1)], [], (q_kM s c n))) rfl rfl (q_d_neT h1185) ?_
              refine q_RT_seg (g2 := (97, [(2, .int ((s.1 15) 0)), (0, .ref 64), (1, .int a1)], [.int 1], (q_kM s c n))) 2 (fun _ _ => rfl) ?_
              exact q_RT_ret rfl rfl rfl
            | false =>
              refine q_RT_cF ?_
              refine q_RT_rsT (g2 := (96, [(2, .int ((s.1 15) 0)), (0, .ref 64), (1, .int a1)], [], (q_kM s c n))) rfl rfl (q_d_neF h1185) ?_
              refine q_RT_seg (g2 := (97, [(2, .int ((s.1 15) 0)), (0, .ref 64), (1, .int a1)], [.int 0], (q_kM s c n))) 1 (fun _ _ => rfl) ?_
              exact q_RT_ret rfl rfl rfl
          | false =>
            refine q_RT_cF ?_
            refine q_RT_rsF (g2 := (70, [(2, .int ((s.1 15) 0)), (0, .ref 64), (1, .int a1)], [.int ((s.1 15) 0)], (q_kM s c n))) rfl rfl h1184 ?_
            refine q_RT_seg (g2 := (74, [(2, .int ((s.1 15) 0)), (0, .ref 64), (1, .int a1)], [.int 165, .int a1, .int ((s.1 15) 0)], (q_kM s c n))) 2 (fun _ _ => rfl) ?_
            cases h1186 : decide (a1 = 165) with
            | true =>
              refine q_RT_cT ?_
              refine q_RT_rsT (g2 := (84, [(2, .int ((s.1 15) 0)), (0, .ref 64), (1, .int a1)], [.int ((s.1 15) 0)], (q_kM s c n))) rfl rfl h1186 ?_
              refine q_RT_seg (g2 := (89, [(2, .int ((s.1 15) 0)), (0, .ref 64), (1, .int a1)], [.int 1, .int ((s.1 15) 0)], (q_kM s c n))) 2 (fun _ _ => rfl) ?_
              cases h1187 : decide ((s.1 15) 0 = 1) with
              | true =>
                refine q_RT_cT ?_
                refine q_RT_rsF (g2 := (92, [(2, .int ((s.1 15) 0)), (0, .ref 64), (1, .int a1)], [], (q_kM s c n))) rfl rfl (q_d_neT h1187) ?_
                refine q_RT_seg (g2 := (97, [(2, .int ((s.1 15) 0)), (0, .ref 64), (1, .int a1)], [.int 1], (q_kM s c n))) 2 (fun _ _ => rfl) ?_
                exact q_RT_ret rfl rfl rfl
              | false =>
                refine q_RT_cF ?_
                refine q_RT_rsT (g2 := (96, [(2, .int ((s.1 15) 0)), (0, .ref 64), (1, .int a1)], [], (q_kM s c n))) rfl rfl (q_d_neF h1187) ?_
                refine q_RT_seg (g2 := (97, [(2, .int ((s.1 15) 0)), (0, .ref 64), (1, .int a1)], [.int 0], (q_kM s c n))) 1 (fun _ _ => rfl) ?_
                exact q_RT_ret rfl rfl rfl
            | false =>
              refine q_RT_cF ?_
              refine q_RT_rsF (g2 := (77, [(2, .int ((s.1 15) 0)), (0, .ref 64), (1, .int a1)], [.int ((s.1 15) 0)], (q_kM s c n))) rfl rfl h1186 ?_
              refine q_RT_seg (g2 := (81, [(2, .int ((s.1 15) 0)), (0, .ref 64), (1, .int a1)], [.int 167, .int a1, .int ((s.1 15) 0)], (q_kM s c n))) 2 (fun _ _ => rfl) ?_
              cases h1188 : decide (a1 = 167) with
              | true =>
                refine q_RT_cT ?_
                refine q_RT_rsF (g2 := (84, [(2, .int ((s.1 15) 0)), (0, .ref 64), (1, .int a1)], [.int ((s.1 15) 0)], (q_kM s c n))) rfl rfl (q_d_neT h1188) ?_
                refine q_RT_seg (g2 := (89, [(2, .int ((s.1 15) 0)), (0, .ref 64), (1, .int a1)], [.int 1, .int ((s.1 15) 0)], (q_kM s c n))) 2 (fun _ _ => rfl) ?_
                cases h1189 : decide ((s.1 15) 0 = 1) with
                | true =>
                  refine q_RT_cT ?_
                  refine q_RT_rsF (g2 := (92, [(2, .int ((s.1 15) 0)), (0, .ref 64), (1, .int a1)], [], (q_kM s c n))) rfl rfl (q_d_neT h1189) ?_
                  refine q_RT_seg (g2 := (97, [(2, .int ((s.1 15) 0)), (0, .ref 64), (1, .int a1)], [.int 1], (q_kM s c n))) 2 (fun _ _ => rfl) ?_
                  exact q_RT_ret rfl rfl rfl
                | false =>
                  refine q_RT_cF ?_
                  refine q_RT_rsT (g2 := (96, [(2, .int ((s.1 15) 0)), (0, .ref 64), (1, .int a1)], [], (q_kM s c n))) rfl rfl (q_d_neF h1189) ?_
                  refine q_RT_seg (g2 := (97, [(2, .int ((s.1 15) 0)), (0, .ref 64), (1, .int a1)], [.int 0], (q_kM s c n))) 1 (fun _ _ => rfl) ?_
                  exact q_RT_ret rfl rfl rfl
              | false =>
                refine q_RT_cF ?_
                refine q_RT_rsT (g2 := (88, [(2, .int ((s.1 15) 0)), (0, .ref 64), (1, .int a1)], [.int ((s.1 15) 0)], (q_kM s c n))) rfl rfl (q_d_neF h1188) ?_
                refine q_RT_seg (g2 := (89, [(2, .int ((s.1 15) 0)), (0, .ref 64), (1, .int a1)], [.int 0, .int ((s.1 15) 0)], (q_kM s c n))) 1 (fun _ _ => rfl) ?_
                cases h1190 : decide ((s.1 15) 0 = 0) with
                | true =>
                  refine q_RT_cT ?_
                  refine q_RT_rsF (g2 := (92, [(2, .int ((s.1 15) 0)), (0, .ref 64), (1, .int a1)], [], (q_kM s c n))) rfl rfl (q_d_neT h1190) ?_
                  refine q_RT_seg (g2 := (97, [(2, .int ((s.1 15) 0)), (0, .ref 64), (1, .int a1)], [.int 1], (q_kM s c n))) 2 (fun _ _ => rfl) ?_
                  exact q_RT_ret rfl rfl rfl
                | false =>
                  refine q_RT_cF ?_
                  refine q_RT_rsT (g2 := (96, [(2, .int ((s.1 15) 0)), (0, .ref 64), (1, .int a1)], [], (q_kM s c n))) rfl rfl (q_d_neF h1190) ?_
                  refine q_RT_seg (g2 := (97, [(2, .int ((s.1 15) 0)), (0, .ref 64), (1, .int a1)], [.int 0], (q_kM s c n))) 1 (fun _ _ => rfl) ?_
                  exact q_RT_ret rfl rfl rfl
      | false =>
        refine q_RT_cF ?_
        refine q_RT_rsT (g2 := (48, [(0, .ref 64), (1, .int a1)], [], (q_kM s c n))) rfl rfl (q_d_geF h1181) ?_
        refine q_RT_seg (g2 := (54, [(0, .ref 64), (1, .int a1)], [.int ((s.1 15) 1)], (q_kM s c n))) 4 (fun _ _ => rfl) ?_
        refine q_RT_seg (g2 := (60, [(2, .int ((s.1 15) 1)), (0, .ref 64), (1, .int a1)], [.int 161, .int a1, .int ((s.1 15) 1)], (q_kM s c n))) 4 (fun _ _ => rfl) ?_
        cases h1191 : decide (a1 = 161) with
        | true =>
          refine q_RT_cT ?_
          refine q_RT_rsT (g2 := (84, [(2, .int ((s.1 15) 1)), (0, .ref 64), (1, .int a1)], [.int ((s.1 15) 1)], (q_kM s c n))) rfl rfl h1191 ?_
          refine q_RT_seg (g2 := (89, [(2, .int ((s.1 15) 1)), (0, .ref 64), (1, .int a1)], [.int 1, .int ((s.1 15) 1)], (q_kM s c n))) 2 (fun _ _ => rfl) ?_
          cases h1192 : decide ((s.1 15) 1 = 1) with
          | true =>
            refine q_RT_cT ?_
            refine q_RT_rsF (g2 := (92, [(2, .int ((s.1 15) 1)), (0, .ref 64), (1, .int a1)], [], (q_kM s c n))) rfl rfl (q_d_neT h1192) ?_
            refine q_RT_seg (g2 := (97, [(2, .int ((s.1 15) 1)), (0, .ref 64), (1, .int a1)], [.int 1], (q_kM s c n))) 2 (fun _ _ => rfl) ?_
            exact q_RT_ret rfl rfl rfl
          | false =>
            refine q_RT_cF ?_
            refine q_RT_rsT (g2 := (96, [(2, .int ((s.1 15) 1)), (0, .ref 64), (1, .int a1)], [], (q_kM s c n))) rfl rfl (q_d_neF h1192) ?_
            refine q_RT_seg (g2 := (97, [(2, .int ((s.1 15) 1)), (0, .ref 64), (1, .int a1)], [.int 0], (q_kM s c n))) 1 (fun _ _ => rfl) ?_
            exact q_RT_ret rfl rfl rfl
        | false =>
          refine q_RT_cF ?_
          refine q_RT_rsF (g2 := (63, [(2, .int ((s.1 15) 1)), (0, .ref 64), (1, .int a1)], [.int ((s.1 15) 1)], (q_kM s c n))) rfl rfl h1191 ?_
          refine q_RT_seg (g2 := (67, [(2, .int ((s.1 15) 1)), (0, .ref 64), (1, .int a1)], [.int 163, .int a1, .int ((s.1 15) 1)], (q_kM s c n))) 2 (fun _ _ => rfl) ?_
          cases h1193 : decide (a1 = 163) with
          | true =>
            refine q_RT_cT ?_
            refine q_RT_rsT (g2 := (84, [(2, .int ((s.1 15) 1)), (0, .ref 64), (1, .int a1)], [.int ((s.1 15) 1)], (q_kM s c n))) rfl rfl h1193 ?_
            refine q_RT_seg (g2 := (89, [(2, .int ((s.1 15) 1)), (0, .ref 64), (1, .int a1)], [.int 1, .int ((s.1 15) 1)], (q_kM s c n))) 2 (fun _ _ => rfl) ?_
            cases h1194 : decide ((s.1 15) 1 = 1) with
            | true =>
              refine q_RT_cT ?_
              refine q_RT_rsF (g2 := (92, [(2, .int ((s.1 15) 1)), (0, .ref 64), (1, .int a1)], [], (q_kM s c n))) rfl rfl (q_d_neT h1194) ?_
              refine q_RT_seg (g2 := (97, [(2, .int ((s.1 15) 1)), (0, .ref 64), (1, .int a1)], [.int 1], (q_kM s c n))) 2 (fun _ _ => rfl) ?_
              exact q_RT_ret rfl rfl rfl
            | false =>
              refine q_RT_cF ?_
              refine q_RT_rsT (g2 := (96, [(2, .int ((s.1 15) 1)), (0, .ref 64), (1, .int a1)], [], (q_kM s c n))) rfl rfl (q_d_neF h1194) ?_
              refine q_RT_seg (g2 := (97, [(2, .int ((s.1 15) 1)), (0, .ref 64), (1, .int a1)], [.int 0], (q_kM s c n))) 1 (fun _ _ => rfl) ?_
              exact q_RT_ret rfl rfl rfl
          | false =>
            refine q_RT_cF ?_
            refine q_RT_rsF (g2 := (70, [(2, .int ((s.1 15) 1)), (0, .ref 64), (1, .int a1)], [.int ((s.1 15) 1)], (q_kM s c n))) rfl rfl h1193 ?_
            refine q_RT_seg (g2 := (74, [(2, .int ((s.1 15) 1)), (0, .ref 64), (1, .int a1)], [.int 165, .int a1, .int ((s.1 15) 1)], (q_kM s c n))) 2 (fun _ _ => rfl) ?_
            cases h1195 : decide (a1 = 165) with
            | true =>
              refine q_RT_cT ?_
              refine q_RT_rsT (g2 := (84, [(2, .int ((s.1 15) 1)), (0, .ref 64), (1, .int a1)], [.int ((s.1 15) 1)], (q_kM s c n))) rfl rfl h1195 ?_
              refine q_RT_seg (g2 := (89, [(2, .int ((s.1 15) 1)), (0, .ref 64), (1, .int a1)], [.int 1, .int ((s.1 15) 1)], (q_kM s c n))) 2 (fun _ _ => rfl) ?_
              cases h1196 : decide ((s.1 15) 1 = 1) with
              | true =>
                refine q_RT_cT ?_
                refine q_RT_rsF (g2 := (92, [(2, .int ((s.1 15) 1)), (0, .ref 64), (1, .int a1)], [], (q_kM s c n))) rfl rfl (q_d_neT h1196) ?_
                refine q_RT_seg (g2 := (97, [(2, .int ((s.1 15) 1)), (0, .ref 64), (1, .int a1)], [.int 1], (q_kM s c n))) 2 (fun _ _ => rfl) ?_
                exact q_RT_ret rfl rfl rfl
              | false =>
                refine q_RT_cF ?_
                refine q_RT_rsT (g2 := (96, [(2, .int ((s.1 15) 1)), (0, .ref 64), (1, .int a1)], [], (q_kM s c n))) rfl rfl (q_d_neF h1196) ?_
                refine q_RT_seg (g2 := (97, [(2, .int ((s.1 15) 1)), (0, .ref 64), (1, .int a1)], [.int 0], (q_kM s c n))) 1 (fun _ _ => rfl) ?_
                exact q_RT_ret rfl rfl rfl
            | false =>
              refine q_RT_cF ?_
              refine q_RT_rsF (g2 := (77, [(2, .int ((s.1 15) 1)), (0, .ref 64), (1, .int a1)], [.int ((s.1 15) 1)], (q_kM s c n))) rfl rfl h1195 ?_
              refine q_RT_seg (g2 := (81, [(2, .int ((s.1 15) 1)), (0, .ref 64), (1, .int a1)], [.int 167, .int a1, .int ((s.1 15) 1)], (q_kM s c n))) 2 (fun _ _ => rfl) ?_
              cases h1197 : decide (a1 = 167) with
              | true =>
                refine q_RT_cT ?_
                refine q_RT_rsF (g2 := (84, [(2, .int ((s.1 15) 1)), (0, .ref 64), (1, .int a1)], [.int ((s.1 15) 1)], (q_kM s c n))) rfl rfl (q_d_neT h1197) ?_
                refine q_RT_seg (g2 := (89, [(2, .int ((s.1 15) 1)), (0, .ref 64), (1, .int a1)], [.int 1, .int ((s.1 15) 1)], (q_kM s c n))) 2 (fun _ _ => rfl) ?_
                cases h1198 : decide ((s.1 15) 1 = 1) with
                | true =>
                  refine q_RT_cT ?_
                  refine q_RT_rsF (g2 := (92, [(2, .int ((s.1 15) 1)), (0, .ref 64), (1, .int a1)], [], (q_kM s c n))) rfl rfl (q_d_neT h1198) ?_
                  refine q_RT_seg (g2 := (97, [(2, .int ((s.1 15) 1)), (0, .ref 64), (1, .int a1)], [.int 1], (q_kM s c n))) 2 (fun _ _ => rfl) ?_
                  exact q_RT_ret rfl rfl rfl
                | false =>
                  refine q_RT_cF ?_
                  refine q_RT_rsT (g2 := (96, [(2, .int ((s.1 15) 1)), (0, .ref 64), (1, .int a1)], [], (q_kM s c n))) rfl rfl (q_d_neF h1198) ?_
                  refine q_RT_seg (g2 := (97, [(2, .int ((s.1 15) 1)), (0, .ref 64), (1, .int a1)], [.int 0], (q_kM s c n))) 1 (fun _ _ => rfl) ?_
                  exact q_RT_ret rfl rfl rfl
              | false =>
                refine q_RT_cF ?_
                refine q_RT_rsT (g2 := (88, [(2, .int ((s.1 15) 1)), (0, .ref 64), (1, .int a1)], [.int ((s.1 15) 1)], (q_kM s c n))) rfl rfl (q_d_neF h1197) ?_
                refine q_RT_seg (g2 := (89, [(2, .int ((s.1 15) 1)), (0, .ref 64), (1, .int a1)], [.int 0, .int ((s.1 15) 1)], (q_kM s c n))) 1 (fun _ _ => rfl) ?_
                cases h1199 : decide ((s.1 15) 1 = 0) with
                | true =>
                  refine q_RT_cT ?_
                  refine q_RT_rsF (g2 := (92, [(2, .int ((s.1 15) 1)), (0, .ref 64), (1, .int a1)], [], (q_kM s c n))) rfl rfl (q_d_neT h1199) ?_
                  refine q_RT_seg (g2 := (97, [(2, .int ((s.1 15) 1)), (0, .ref 64), (1, .int a1)], [.int 1], (q_kM s c n))) 2 (fun _ _ => rfl) ?_
                  exact q_RT_ret rfl rfl rfl
                | false =>
                  refine q_RT_cF ?_
                  refine q_RT_rsT (g2 := (96, [(2, .int ((s.1 15) 1)), (0, .ref 64), (1, .int a1)], [], (q_kM s c n))) rfl rfl (q_d_neF h1199) ?_
                  refine q_RT_seg (g2 := (97, [(2, .int ((s.1 15) 1)), (0, .ref 64), (1, .int a1)], [.int 0], (q_kM s c n))) 1 (fun _ _ => rfl) ?_
                  exact q_RT_ret rfl rfl rfl
def dz_M253_64 (s : q_S) (a1 : Int32) : Option (q_S × Int32) :=
  (dz_M247_64 s (a1 + 1)).bind fun r852 => cond (decide (127 < r852.2)) (q_let (dz_M213 r852.1 ((a1 + 2) + (r852.2 - 256))) fun r853 => some (r852.1, r853)) (q_let (dz_M213 r852.1 ((a1 + 2) + r852.2)) fun r854 => some (r852.1, r854))
set_option maxHeartbeats 4000000 in
theorem dzt_M253_64 (s : q_S) (c n : Nat) (a1 : Int32) (x : q_S × Int32) (h : dz_M253_64 s a1 = some x) : q_Ca q_TB0 6 252 [.ref 64, .int a1] (q_kM s c n) ((q_oIM c n) x) := by
  refine q_CaP_of (φ := (q_oIM c n)) (Nat.le_of_ble_eq_true rfl) ?_ h
  clear h
  unfold dz_M253_64
  refine q_RP_seg (g2 := (4, [(0, .ref 64), (1, .int a1)], [.int (a1 + 1), .ref 64], (q_kM s c n))) 4 (fun _ _ => rfl) ?_
  refine q_RP_bd fun r852 er852 => ?_
  refine q_RP_call (v := (some (.int r852.2))) (h2 := (q_kM r852.1 c n)) rfl rfl ((dzt_M247_64 s c n (a1 + 1) r852 er852).le (Nat.le_of_ble_eq_true rfl)) ?_
  show q_RP _ _ _ (7, [(0, .ref 64), (1, .int a1)], [.int r852.2], (q_kM r852.1 c n)) _ _
  refine q_RP_seg (g2 := (14, [(2, .int r852.2), (0, .ref 64), (1, .int a1)], [.int 127, .int r852.2, .int (a1 + 2)], (q_kM r852.1 c n))) 6 (fun _ _ => rfl) ?_
  cases h1201 : decide (127 < r852.2) with
  | true =>
    refine q_RP_cT ?_
    refine q_RP_rsF (g2 := (17, [(2, .int r852.2), (0, .ref 64), (1, .int a1)], [.int (a1 + 2)], (q_kM r852.1 c n))) rfl rfl (q_d_geT h1201) ?_
    refine q_RP_seg (g2 := (27, [(2, .int r852.2), (0, .ref 64), (1, .int a1)], [.int ((a1 + 2) + (r852.2 - 256))], (q_kM r852.1 c n))) 5 (fun _ _ => rfl) ?_
    refine q_RP_call (v := (some (.int (dz_M213 r852.1 ((a1 + 2) + (r852.2 - 256)))))) (h2 := (q_kM r852.1 c n)) rfl rfl ((dzt_M213 r852.1 c n ((a1 + 2) + (r852.2 - 256))).le (Nat.le_of_ble_eq_true rfl)) ?_
    generalize dz_M213 r852.1 ((a1 + 2) + (r852.2 - 256)) = r853
    refine q_RP_let ?_
    show q_RP _ _ _ (30, [(2, .int r852.2), (0, .ref 64), (1, .int a1)], [.int r853], (q_kM r852.1 c n)) _ _
    exact q_RP_ret rfl rfl rfl
  | false =>
    refine q_RP_cF ?_
    refine q_RP_rsT (g2 := (25, [(2, .int r852.2), (0, .ref 64), (1, .int a1)], [.int (a1 + 2)], (q_kM r852.1 c n))) rfl rfl (q_d_geF h1201) ?_
    refine q_RP_seg (g2 := (27, [(2, .int r852.2), (0, .ref 64), (1, .int a1)], [.int ((a1 + 2) + r852.2)], (q_kM r852.1 c n))) 2 (fun _ _ => rfl) ?_
    refine q_RP_call (v := (some (.int (dz_M213 r852.1 ((a1 + 2) + r852.2))))) (h2 := (q_kM r852.1 c n)) rfl rfl ((dzt_M213 r852.1 c n ((a1 + 2) + r852.2)).le (Nat.le_of_ble_eq_true rfl)) ?_
    generalize dz_M213 r852.1 ((a1 + 2) + r852.2) = r854
    refine q_RP_let ?_
    show q_RP _ _ _ (30, [(2, .int r852.2), (0, .ref 64), (1, .int a1)], [.int r854], (q_kM r852.1 c n)) _ _
    exact q_RP_ret rfl rfl rfl
def dz_M248_64 (s : q_S) (a1 : Int32) : Option (q_S × Int32) :=
  (dz_M247_64 s a1).bind fun r859 => (dz_M247_64 r859.1 (a1 + 1)).bind fun r860 => q_let (dz_M213 r860.1 (r859.2 + (256 * r860.2))) fun r861 => some (r860.1, r861)
set_option maxHeartbeats 4000000 in
theorem dzt_M248_64 (s : q_S) (c n : Nat) (a1 : Int32) (x : q_S × Int32) (h : dz_M248_64 s a1 = some x) : q_Ca q_TB0 6 247 [.ref 64, .int a1] (q_kM s c n) ((q_oIM c n) x) := by
  refine q_CaP_of (φ := (q_oIM c n)) (Nat.le_of_ble_eq_true rfl) ?_ h
  clear h
  unfold dz_M248_64
  refine q_RP_seg (g2 := (2, [(0, .ref 64), (1, .int a1)], [.int a1, .ref 64], (q_kM s c n))) 2 (fun _ _ => rfl) ?_
  refine q_RP_bd fun r859 er859 => ?_
  refine q_RP_call (v := (some (.int r859.2))) (h2 := (q_kM r859.1 c n)) rfl rfl ((dzt_M247_64 s c n a1 r859 er859).le (Nat.le_of_ble_eq_true rfl)) ?_
  show q_RP _ _ _ (5, [(0, .ref 64), (1, .int a1)], [.int r859.2], (q_kM r859.1 c n)) _ _
  refine q_RP_seg (g2 := (12, [(0, .ref 64), (1, .int a1)], [.int (a1 + 1), .ref 64, .int 256, .int r859.2], (q_kM r859.1 c n))) 5 (fun _ _ => rfl) ?_
  refine q_RP_bd fun r860 er860 => ?_
  refine q_RP_call (v := (some (.int r860.2))) (h2 := (q_kM r860.1 c n)) rfl rfl ((dzt_M247_64 r859.1 c n (a1 + 1) r860 er860).le (Nat.le_of_ble_eq_true rfl)) ?_
  show q_RP _ _ _ (15, [(0, .ref 64), (1, .int a1)], [.int r860.2, .int 256, .int r859.2], (q_kM r860.1 c n)) _ _
  refine q_RP_seg (g2 := (17, [(0, .ref 64), (1, .int a1)], [.int (r859.2 + (256 * r860.2))], (q_kM r860.1 c n))) 2 (fun _ _ => rfl) ?_
  refine q_RP_call (v := (some (.int (dz_M213 r860.1 (r859.2 + (256 * r860.2)))))) (h2 := (q_kM r860.1 c n)) rfl rfl ((dzt_M213 r860.1 c n (r859.2 + (256 * r860.2))).le (Nat.le_of_ble_eq_true rfl)) ?_
  generalize dz_M213 r860.1 (r859.2 + (256 * r860.2)) = r861
  refine q_RP_let ?_
  show q_RP _ _ _ (20, [(0, .ref 64), (1, .int a1)], [.int r861], (q_kM r860.1 c n)) _ _
  exact q_RP_ret rfl rfl rfl
def dz_M249_64 (s : q_S) (a1 : Int32) (a2 : Int32) : Option (q_S × Int32) :=
  cond (decide (a1 < 6)) ((dz_M248_64 s (a2 + 1)).bind fun r863 => some (r863.1, r863.2)) ((dz_M247_64 s (a2 + 1)).bind fun r864 => (dz_M247_64 r864.1 r864.2).bind fun r865 => (dz_M247_64 r865.1 ((r864.2 + 1) - (r864.2 + 1) / 256 * 256)).bind fun r866 => q_let (dz_M213 r866.1 (r865.2 + (256 * r866.2))) fun r867 => some (r866.1, r867))
set_option maxHeartbeats 4000000 in
theorem dzt_M249_64 (s : q_S) (c n : Nat) (a1 : Int32) (a2 : Int32) (x : q_S × Int32) (h : dz_M249_64 s a1 a2 = some x) : q_Ca q_TB0 7 248 [.ref 64, .int a1, .int a2] (q_kM s c n) ((q_oIM c n) x) := by
  refine q_CaP_of (φ := (q_oIM c n)) (Nat.le_of_ble_eq_true rfl) ?_ h
  clear h
  unfold dz_M249_64
  refine q_RP_seg (g2 := (3, [(0, .ref 64), (1, .int a1), (2, .int a2)], [.int 6, .int a1], (q_kM s c n))) 2 (fun _ _ => rfl) ?_
  cases h1218 : decide (a1 < 6) with
  | true =>
    refine q_RP_cT ?_
    refine q_RP_rsF (g2 := (6, [(0, .ref 64), (1, .int a1), (2, .int a2)], [], (q_kM s c n))) rfl rfl (q_d_geT h1218) ?_
    refine q_RP_seg (g2 := (10, [(0, .ref 64), (1, .int a1), (2, .int a2)], [.int (a2 + 1), .ref 64], (q_kM s c n))) 4 (fun _ _ => rfl) ?_
    refine q_RP_bd fun r863 er863 => ?_
    refine q_RP_call (v := (some (.int r863.2))) (h2 := (q_kM r863.1 c n)) rfl rfl ((dzt_M248_64 s c n (a2 + 1) r863 er863).le (Nat.le_of_ble_eq_true rfl)) ?_
    show q_RP _ _ _ (13, [(0, .ref 64), (1, .int a1), (2, .int a2)], [.int r863.2], (q_kM r863.1 c n)) _ _
    exact q_RP_ret rfl rfl rfl
  | false =>
    refine q_RP_cF ?_
    refine q_RP_rsT (g2 := (14, [(0, .ref 64), (1, .int a1), (2, .int a2)], [], (q_kM s c n))) rfl rfl (q_d_geF h1218) ?_
    refine q_RP_seg (g2 := (18, [(0, .ref 64), (1, .int a1), (2, .int a2)], [.int (a2 + 1), .ref 64], (q_kM s c n))) 4 (fun _ _ => rfl) ?_
    refine q_RP_bd fun r864 er864 => ?_
    refine q_RP_call (v := (some (.int r864.2))) (h2 := (q_kM r864.1 c n)) rfl rfl ((dzt_M247_64 s c n (a2 + 1) r864 er864).le (Nat.le_of_ble_eq_true rfl)) ?_
    show q_RP _ _ _ (21, [(0, .ref 64), (1, .int a1), (2, .int a2)], [.int r864.2], (q_kM r864.1 c n)) _ _
    refine q_RP_seg (g2 := (24, [(3, .int r864.2), (0, .ref 64), (1, .int a1), (2, .int a2)], [.int r864.2, .ref 64], (q_kM r864.1 c n))) 3 (fun _ _ => rfl) ?_
    refine q_RP_bd fun r865 er865 => ?_
    refine q_RP_call (v := (some (.int r865.2))) (h2 := (q_kM r865.1 c n)) rfl rfl ((dzt_M247_64 r864.1 c n r864.2 r865 er865).le (Nat.le_of_ble_eq_true rfl)) ?_
    show q_RP _ _ _ (27, [(3, .int r864.2), (0, .ref 64), (1, .int a1), (2, .int a2)], [.int r865.2], (q_kM r865.1 c n)) _ _
    refine q_RP_seg (g2 := (38, [(3, .int r864.2), (0, .ref 64), (1, .int a1), (2, .int a2)], [.int ((r864.2 + 1) - (r864.2 + 1) / 256 * 256), .ref 64, .int 256, .int r865.2], (q_kM r865.1 c n))) 7 (fun _ _ => rfl) ?_
    refine q_RP_bd fun r866 er866 => ?_
    refine q_RP_call (v := (some (.int r866.2))) (h2 := (q_kM r866.1 c n)) rfl rfl ((dzt_M247_64 r865.1 c n ((r864.2 + 1) - (r864.2 + 1) / 256 * 256) r866 er866).le (Nat.le_of_ble_eq_true rfl)) ?_
    show q_RP _ _ _ (41, [(3, .int r864.2), (0, .ref 64), (1, .int a1), (2, .int a2)], [.int r866.2, .int 256, .int r865.2], (q_kM r866.1 c n)) _ _
    refine q_RP_seg (g2 := (43, [(3, .int r864.2), (0, .ref 64), (1, .int a1), (2, .int a2)], [.int (r865.2 + (256 * r866.2))], (q_kM r866.1 c n))) 2 (fun _ _ => rfl) ?_
    refine q_RP_call (v := (some (.int (dz_M213 r866.1 (r865.2 + (256 * r866.2)))))) (h2 := (q_kM r866.1 c n)) rfl rfl ((dzt_M213 r866.1 c n (r865.2 + (256 * r866.2))).le (Nat.le_of_ble_eq_true rfl)) ?_
    generalize dz_M213 r866.1 (r865.2 + (256 * r866.2)) = r867
    refine q_RP_let ?_
    show q_RP _ _ _ (46, [(3, .int r864.2), (0, .ref 64), (1, .int a1), (2, .int a2)], [.int r867], (q_kM r866.1 c n)) _ _
    exact q_RP_ret rfl rfl rfl
def dz_M250_64 (s : q_S) (a1 : Int32) (a2 : Int32) : Option (q_S × Int32) :=
  cond (decide (a1 = 1)) ((dz_M247_64 s (a2 + 1)).bind fun r873 => some (r873.1, r873.2)) (cond (decide (a1 = 2)) ((dz_M247_64 s (a2 + 1)).bind fun r874 => some (r874.1, ((r874.2 + ((r874.1.1 14) 1)) - (r874.2 + ((r874.1.1 14) 1)) / 256 * 256))) (cond (decide (a1 = 3)) ((dz_M248_64 s (a2 + 1)).bind fun r875 => some (r875.1, r875.2)) (cond (decide (a1 = 4)) ((dz_M249_64 s a1 a2).bind fun r876 => q_let (dz_M213 r876.1 (r876.2 + ((r876.1.1 14) 1))) fun r877 => some (r876.1, r877)) (cond (decide (a1 < 7)) ((dz_M249_64 s a1 a2).bind fun r878 => q_let (dz_M213 r878.1 (r878.2 + ((r878.1.1 14) 2))) fun r879 => some (r878.1, r879)) ((dz_M247_64 s (a2 + 1)).bind fun r880 => q_let ((r880.2 + ((r880.1.1 14) 1)) - (r880.2 + ((r880.1.1 14) 1)) / 256 * 256) fun x881 => (dz_M247_64 r880.1 x881).bind fun r882 => (dz_M247_64 r882.1 ((x881 + 1) - (x881 + 1) / 256 * 256)).bind fun r883 => q_let (dz_M213 r883.1 (r882.2 + (256 * r883.2))) fun r884 => some (r883.1, r884))))))
set_option maxHeartbeats 4000000 in
theorem dzt_M250_64 (s : q_S) (c n : Nat) (a1 : Int32) (a2 : Int32) (x : q_S × Int32) (h : dz_M250_64 s a1 a2 = some x) : q_Ca q_TB0 8 249 [.ref 64, .int a1, .int a2] (q_kM s c n) ((q_oIM c n) x) := by
  refine q_CaP_of (φ := (q_oIM c n)) (Nat.le_of_ble_eq_true rfl) ?_ h
  clear h
  unfold dz_M250_64
  refine q_RP_seg (g2 := (2, [(0, .ref 64), (1, .int a1), (2, .int a2)], [.int 1, .int a1], (q_kM s c n))) 2 (fun _ _ => rfl) ?_
  cases h1224 : decide (a1 = 1) with
  | true =>
    refine q_RP_cT ?_
    refine q_RP_rsF (g2 := (5, [(0, .ref 64), (1, .int a1), (2, .int a2)], [], (q_kM s c n))) rfl rfl (q_d_neT h1224) ?_
    refine q_RP_seg (g2 := (9, [(0, .ref 64), (1, .int a1), (2, .int a2)], [.int (a2 + 1), .ref 64], (q_kM s c n))) 4 (fun _ _ => rfl) ?_
    refine q_RP_bd fun r873 er873 => ?_
    refine q_RP_call (v := (some (.int r873.2))) (h2 := (q_kM r873.1 c n)) rfl rfl ((dzt_M247_64 s c n (a2 + 1) r873 er873).le (Nat.le_of_ble_eq_true rfl)) ?_
    show q_RP _ _ _ (12, [(0, .ref 64), (1, .int a1), (2, .int a2)], [.int r873.2], (q_kM r873.1 c n)) _ _
    exact q_RP_ret rfl rfl rfl
  | false =>
    refine q_RP_cF ?_
    refine q_RP_rsT (g2 := (13, [(0, .ref 64), (1, .int a1), (2, .int a2)], [], (q_kM s c n))) rfl rfl (q_d_neF h1224) ?_
    refine q_RP_seg (g2 := (15, [(0, .ref 64), (1, .int a1), (2, .int a2)], [.int 2, .int a1], (q_kM s c n))) 2 (fun _ _ => rfl) ?_
    cases h1225 : decide (a1 = 2) with
    | true =>
      refine q_RP_cT ?_
      refine q_RP_rsF (g2 := (18, [(0, .ref 64), (1, .int a1), (2, .int a2)], [], (q_kM s c n))) rfl rfl (q_d_neT h1225) ?_
      refine q_RP_seg (g2 := (22, [(0, .ref 64), (1, .int a1), (2, .int a2)], [.int (a2 + 1), .ref 64], (q_kM s c n))) 4 (fun _ _ => rfl) ?_
      refine q_RP_bd fun r874 er874 => ?_
      refine q_RP_call (v := (some (.int r874.2))) (h2 := (q_kM r874.1 c n)) rfl rfl ((dzt_M247_64 s c n (a2 + 1) r874 er874).le (Nat.le_of_ble_eq_true rfl)) ?_
      show q_RP _ _ _ (25, [(0, .ref 64), (1, .int a1), (2, .int a2)], [.int r874.2], (q_kM r874.1 c n)) _ _
      refine q_RP_seg (g2 := (31, [(0, .ref 64), (1, .int a1), (2, .int a2)], [.int ((r874.1.1 14) 1), .int r874.2], (q_kM r874.1 c n))) 4 (fun _ _ => rfl) ?_
      refine q_RP_seg (g2 := (36, [(0, .ref 64), (1, .int a1), (2, .int a2)], [.int ((r874.2 + ((r874.1.1 14) 1)) - (r874.2 + ((r874.1.1 14) 1)) / 256 * 256)], (q_kM r874.1 c n))) 3 (fun _ _ => rfl) ?_
      exact q_RP_ret rfl rfl rfl
    | false =>
      refine q_RP_cF ?_
      refine q_RP_rsT (g2 := (37, [(0, .ref 64), (1, .int a1), (2, .int a2)], [], (q_kM s c n))) rfl rfl (q_d_neF h1225) ?_
      refine q_RP_seg (g2 := (39, [(0, .ref 64), (1, .int a1), (2, .int a2)], [.int 3, .int a1], (q_kM s c n))) 2 (fun _ _ => rfl) ?_
      cases h1226 : decide (a1 = 3) with
      | true =>
        refine q_RP_cT ?_
        refine q_RP_rsF (g2 := (42, [(0, .ref 64), (1, .int a1), (2, .int a2)], [], (q_kM s c n))) rfl rfl (q_d_neT h1226) ?_
        refine q_RP_seg (g2 := (46, [(0, .ref 64), (1, .int a1), (2, .int a2)], [.int (a2 + 1), .ref 64], (q_kM s c n))) 4 (fun _ _ => rfl) ?_
        refine q_RP_bd fun r875 er875 => ?_
        refine q_RP_call (v := (some (.int r875.2))) (h2 := (q_kM r875.1 c n)) rfl rfl ((dzt_M248_64 s c n (a2 + 1) r875 er875).le (Nat.le_of_ble_eq_true rfl)) ?_
        show q_RP _ _ _ (49, [(0, .ref 64), (1, .int a1), (2, .int a2)], [.int r875.2], (q_kM r875.1 c n)) _ _
        exact q_RP_ret rfl rfl rfl
      | false =>
        refine q_RP_cF ?_
        refine q_RP_rsT (g2 := (50, [(0, .ref 64), (1, .int a1), (2, .int a2)], [], (q_kM s c n))) rfl rfl (q_d_neF h1226) ?_
        refine q_RP_seg (g2 := (52, [(0, .ref 64), (1, .int a1), (2, .int a2)], [.int 4, .int a1], (q_kM s c n))) 2 (fun _ _ => rfl) ?_
        cases h1227 : decide (a1 = 4) with
        | true =>
          refine q_RP_cT ?_
          refine q_RP_rsF (g2 := (55, [(0, .ref 64), (1, .int a1), (2, .int a2)], [], (q_kM s c n))) rfl rfl (q_d_neT h1227) ?_
          refine q_RP_seg (g2 := (58, [(0, .ref 64), (1, .int a1), (2, .int a2)], [.int a2, .int a1, .ref 64], (q_kM s c n))) 3 (fun _ _ => rfl) ?_
          refine q_RP_bd fun r876 er876 => ?_
          refine q_RP_call (v := (some (.int r876.2))) (h2 := (q_kM r876.1 c n)) rfl rfl ((dzt_M249_64 s c n a1 a2 r876 er876).le (Nat.le_of_ble_eq_true rfl)) ?_
          show q_RP _ _ _ (61, [(0, .ref 64), (1, .int a1), (2, .int a2)], [.int r876.2], (q_kM r876.1 c n)) _ _
          refine q_RP_seg (g2 := (67, [(0, .ref 64), (1, .int a1), (2, .int a2)], [.int ((r876.1.1 14) 1), .int r876.2], (q_kM r876.1 c n))) 4 (fun _ _ => rfl) ?_
          refine q_RP_seg (g2 := (68, [(0, .ref 64), (1, .int a1), (2, .int a2)], [.int (r876.2 + ((r876.1.1 14) 1))], (q_kM r876.1 c n))) 1 (fun _ _ => rfl) ?_
          refine q_RP_call (v := (some (.int (dz_M213 r876.1 (r876.2 + ((r876.1.1 14) 1)))))) (h2 := (q_kM r876.1 c n)) rfl rfl ((dzt_M213 r876.1 c n (r876.2 + ((r876.1.1 14) 1))).le (Nat.le_of_ble_eq_true rfl)) ?_
          generalize dz_M213 r876.1 (r876.2 + ((r876.1.1 14) 1)) = r877
          refine q_RP_let ?_
          show q_RP _ _ _ (71, [(0, .ref 64), (1, .int a1), (2, .int a2)], [.int r877], (q_kM r876.1 c n)) _ _
          exact q_RP_ret rfl rfl rfl
        | false =>
          refine q_RP_cF ?_
          refine q_RP_rsT (g2 := (72, [(0, .ref 64), (1, .int a1), (2, .int a2)], [], (q_kM s c n))) rfl rfl (q_d_neF h1227) ?_
          refine q_RP_seg (g2 := (75, [(0, .ref 64), (1, .int a1), (2, .int a2)], [.int 7, .int a1], (q_kM s c n))) 2 (fun _ _ => rfl) ?_
          cases h1228 : decide (a1 < 7) with
          | true =>
            refine q_RP_cT ?_
            refine q_RP_rsF (g2 := (78, [(0, .ref 64), (1, .int a1), (2, .int a2)], [], (q_kM s c n))) rfl rfl (q_d_geT h1228) ?_
            refine q_RP_seg (g2 := (81, [(0, .ref 64), (1, .int a1), (2, .int a2)], [.int a2, .int a1, .ref 64], (q_kM s c n))) 3 (fun _ _ => rfl) ?_
            refine q_RP_bd fun r878 er878 => ?_
            refine q_RP_call (v := (some (.int r878.2))) (h2 := (q_kM r878.1 c n)) rfl rfl ((dzt_M249_64 s c n a1 a2 r878 er878).le (Nat.le_of_ble_eq_true rfl)) ?_
            show q_RP _ _ _ (84, [(0, .ref 64), (1, .int a1), (2, .int a2)], [.int r878.2], (q_kM r878.1 c n)) _ _
            refine q_RP_seg (g2 := (90, [(0, .ref 64), (1, .int a1), (2, .int a2)], [.int ((r878.1.1 14) 2), .int r878.2], (q_kM r878.1 c n))) 4 (fun _ _ => rfl) ?_
            refine q_RP_seg (g2 := (91, [(0, .ref 64), (1, .int a1), (2, .int a2)], [.int (r878.2 + ((r878.1.1 14) 2))], (q_kM r878.1 c n))) 1 (fun _ _ => rfl) ?_
            refine q_RP_call (v := (some (.int (dz_M213 r878.1 (r878.2 + ((r878.1.1 14) 2)))))) (h2 := (q_kM r878.1 c n)) rfl rfl ((dzt_M213 r878.1 c n (r878.2 + ((r878.1.1 14) 2))).le (Nat.le_of_ble_eq_true rfl)) ?_
            generalize dz_M213 r878.1 (r878.2 + ((r878.1.1 14) 2)) = r879
            refine q_RP_let ?_
            show q_RP _ _ _ (94, [(0, .ref 64), (1, .int a1), (2, .int a2)], [.int r879], (q_kM r878.1 c n)) _ _
            exact q_RP_ret rfl rfl rfl
          | false =>
            refine q_RP_cF ?_
            refine q_RP_rsT (g2 := (95, [(0, .ref 64), (1, .int a1), (2, .int a2)], [], (q_kM s c n))) rfl rfl (q_d_geF h1228) ?_
            refine q_RP_seg (g2 := (99, [(0, .ref 64), (1, .int a1), (2, .int a2)], [.int (a2 + 1), .ref 64], (q_kM s c n))) 4 (fun _ _ => rfl) ?_
            refine q_RP_bd fun r880 er880 => ?_
            refine q_RP_call (v := (some (.int r880.2))) (h2 := (q_kM r880.1 c n)) rfl rfl ((dzt_M247_64 s c n (a2 + 1) r880 er880).le (Nat.le_of_ble_eq_true rfl)) ?_
            show q_RP _ _ _ (102, [(0, .ref 64), (1, .int a1), (2, .int a2)], [.int r880.2], (q_kM r880.1 c n)) _ _
            refine q_RP_seg (g2 := (108, [(0, .ref 64), (1, .int a1), (2, .int a2)], [.int ((r880.1.1 14) 1), .int r880.2], (q_kM r880.1 c n))) 4 (fun _ _ => rfl) ?_
            refine q_RP_seg (g2 := (113, [(0, .ref 64), (1, .int a1), (2, .int a2)], [.int ((r880.2 + ((r880.1.1 14) 1)) - (r880.2 + ((r880.1.1 14) 1)) / 256 * 256)], (q_kM r880.1 c n))) 3 (fun _ _ => rfl) ?_
            generalize ((r880.2 + ((r880.1.1 14) 1)) - (r880.2 + ((r880.1.1 14) 1)) / 256 * 256) = x881
            refine q_RP_let ?_
            show q_RP _ _ _ (113, [(0, .ref 64), (1, .int a1), (2, .int a2)], [.int x881], (q_kM r880.1 c n)) _ _
            refine q_RP_seg (g2 := (116, [(3, .int x881), (0, .ref 64), (1, .int a1), (2, .int a2)], [.int x881, .ref 64], (q_kM r880.1 c n))) 3 (fun _ _ => rfl) ?_
            refine q_RP_bd fun r882 er882 => ?_
            refine q_RP_call (v := (some (.int r882.2))) (h2 := (q_kM r882.1 c n)) rfl rfl ((dzt_M247_64 r880.1 c n x881 r882 er882).le (Nat.le_of_ble_eq_true rfl)) ?_
            show q_RP _ _ _ (119, [(3, .int x881), (0, .ref 64), (1, .int a1), (2, .int a2)], [.int r882.2], (q_kM r882.1 c n)) _ _
            refine q_RP_seg (g2 := (130, [(3, .int x881), (0, .ref 64), (1, .int a1), (2, .int a2)], [.int ((x881 + 1) - (x881 + 1) / 256 * 256), .ref 64, .int 256, .int r882.2], (q_kM r882.1 c n))) 7 (fun _ _ => rfl) ?_
            refine q_RP_bd fun r883 er883 => ?_
            refine q_RP_call (v := (some (.int r883.2))) (h2 := (q_kM r883.1 c n)) rfl rfl ((dzt_M247_64 r882.1 c n ((x881 + 1) - (x881 + 1) / 256 * 256) r883 er883).le (Nat.le_of_ble_eq_true rfl)) ?_
            show q_RP _ _ _ (133, [(3, .int x881), (0, .ref 64), (1, .int a1), (2, .int a2)], [.int r883.2, .int 256, .int r882.2], (q_kM r883.1 c n)) _ _
            refine q_RP_seg (g2 := (135, [(3, .int x881), (0, .ref 64), (1, .int a1), (2, .int a2)], [.int (r882.2 + (256 * r883.2))], (q_kM r883.1 c n))) 2 (fun _ _ => rfl) ?_
            refine q_RP_call (v := (some (.int (dz_M213 r883.1 (r882.2 + (256 * r883.2)))))) (h2 := (q_kM r883.1 c n)) rfl rfl ((dzt_M213 r883.1 c n (r882.2 + (256 * r883.2))).le (Nat.le_of_ble_eq_true rfl)) ?_
            generalize dz_M213 r883.1 (r882.2 + (256 * r883.2)) = r884
            refine q_RP_let ?_
            show q_RP _ _ _ (138, [(3, .int x881), (0, .ref 64), (1, .int a1), (2, .int a2)], [.int r884], (q_kM r883.1 c n)) _ _
            exact q_RP_ret rfl rfl rfl
def dz_M245 (s : q_S) (a0 : Int32) : Bool :=
  q_let (dz_M202 s a0 3 5) fun r886 => cond r886 (true) (q_let (dz_M202 s a0 14 15) fun r887 => cond r887 (true) (q_let (dz_M202 s a0 17 19) fun r888 => cond r888 (true) (false)))
set_option maxHeartbeats 4000000 in
theorem dzt_M245 (s : q_S) (c n : Nat) (a0 : Int32) : q_Ca q_TB0 2 244 [.int a0] (q_kM s c n) ((q_oB (q_kM s c n)) (dz_M245 s a0)) := by
  refine q_CaT_of (φ := (q_oB (q_kM s c n))) (Nat.le_of_ble_eq_true rfl) ?_
  unfold dz_M245
  refine q_RT_seg (g2 := (3, [(0, .int a0)], [.int 5, .int 3, .int a0], (q_kM s c n))) 3 (fun _ _ => rfl) ?_
  refine q_RT_call (v := (some (.int (q_b (dz_M202 s a0 3 5))))) (h2 := (q_kM s c n)) rfl rfl ((dzt_M202 s c n a0 3 5).le (Nat.le_of_ble_eq_true rfl)) ?_
  generalize dz_M202 s a0 3 5 = r886
  refine q_RT_let ?_
  show q_RT _ _ _ (6, [(0, .int a0)], [.int (q_b r886)], (q_kM s c n)) _ _
  cases h1230 : r886 with
  | true =>
    refine q_RT_cT ?_
    show q_RT _ _ _ (6, [(0, .int a0)], [.int 1], (q_kM s c n)) _ _
    refine q_RT_seg (g2 := (36, [(0, .int a0)], [.int 1], (q_kM s c n))) 3 (fun _ _ => rfl) ?_
    exact q_RT_ret rfl rfl rfl
  | false =>
    refine q_RT_cF ?_
    show q_RT _ _ _ (6, [(0, .int a0)], [.int 0], (q_kM s c n)) _ _
    refine q_RT_seg (g2 := (14, [(0, .int a0)], [.int 15, .int 14, .int a0], (q_kM s c n))) 4 (fun _ _ => rfl) ?_
    refine q_RT_call (v := (some (.int (q_b (dz_M202 s a0 14 15))))) (h2 := (q_kM s c n)) rfl rfl ((dzt_M202 s c n a0 14 15).le (Nat.le_of_ble_eq_true rfl)) ?_
    generalize dz_M202 s a0 14 15 = r887
    refine q_RT_let ?_
    show q_RT _ _ _ (17, [(0, .int a0)], [.int (q_b r887)], (q_kM s c n)) _ _
    cases h1231 : r887 with
    | true =>
      refine q_RT_cT ?_
      show q_RT _ _ _ (17, [(0, .int a0)], [.int 1], (q_kM s c n)) _ _
      refine q_RT_seg (g2 := (36, [(0, .int a0)], [.int 1], (q_kM s c n))) 3 (fun _ _ => rfl) ?_
      exact q_RT_ret rfl rfl rfl
    | false =>
      refine q_RT_cF ?_
      show q_RT _ _ _ (17, [(0, .int a0)], [.int 0], (q_kM s c n)) _ _
      refine q_RT_seg (g2 := (25, [(0, .int a0)], [.int 19, .int 17, .int a0], (q_kM s c n))) 4 (fun _ _ => rfl) ?_
      refine q_RT_call (v := (some (.int (q_b (dz_M202 s a0 17 19))))) (h2 := (q_kM s c n)) rfl rfl ((dzt_M202 s c n a0 17 19).le (Nat.le_of_ble_eq_true rfl)) ?_
      generalize dz_M202 s a0 17 19 = r888
      refine q_RT_let ?_
      show q_RT _ _ _ (28, [(0, .int a0)], [.int (q_b r888)], (q_kM s c n)) _ _
      cases h1232 : r888 with
      | true =>
        refine q_RT_cT ?_
        show q_RT _ _ _ (28, [(0, .int a0)], [.int 1], (q_kM s c n)) _ _
        refine q_RT_seg (g2 := (36, [(0, .int a0)], [.int 1], (q_kM s c n))) 3 (fun _ _ => rfl) ?_
        exact q_RT_ret rfl rfl rfl
      | false =>
        refine q_RT_cF ?_
        show q_RT _ _ _ (28, [(0, .int a0)], [.int 0], (q_kM s c n)) _ _
        refine q_RT_seg (g2 := (36, [(0, .int a0)], [.int 0], (q_kM s c n))) 2 (fun _ _ => rfl) ?_
        exact q_RT_ret rfl rfl rfl
def dz_M251_64_28 (s : q_S) (v1 : Int32) (v2 : Int32) (v3 : Int32) : Option (q_S × Int32) :=
  cond (decide (v2 = 1)) (q_let (dz_M202 s v2 4 6) fun r870 => cond r870 ((dz_M249_64 s v2 v3).bind fun r871 => (dz_M250_64 r871.1 v2 v3).bind fun r885 => cond (decide (r871.2 / 256 = r885.2 / 256)) (q_let (dz_M245 r885.1 v1) fun r889 => cond r889 (some (r885.1, 6)) (some (r885.1, 5))) (some (r885.1, 6))) (some (s, 5))) (cond (decide (v2 < 6)) (q_let (dz_M202 s v2 4 6) fun r890 => cond r890 ((dz_M249_64 s v2 v3).bind fun r891 => (dz_M250_64 r891.1 v2 v3).bind fun r892 => cond (decide (r891.2 / 256 = r892.2 / 256)) (q_let (dz_M245 r892.1 v1) fun r893 => cond r893 (some (r892.1, 7)) (some (r892.1, 6))) (some (r892.1, 7))) (some (s, 6))) (q_let (dz_M202 s v2 4 6) fun r894 => cond r894 ((dz_M249_64 s v2 v3).bind fun r895 => (dz_M250_64 r895.1 v2 v3).bind fun r896 => cond (decide (r895.2 / 256 = r896.2 / 256)) (q_let (dz_M245 r896.1 v1) fun r897 => cond r897 (some (r896.1, (((v2 - 1) + 2) + 1))) (some (r896.1, (((v2 - 1) + 2) + 0)))) (some (r896.1, (((v2 - 1) + 2) + 1)))) (some (s, ((v2 - 1) + 2)))))
set_option maxHeartbeats 4000000 in
theorem dzt_M251_64_28 (c n : Nat) (s : q_S) (v1 : Int32) (v2 : Int32) (v3 : Int32) : q_RP q_TB0 8 250 (28, [(0, .ref 64), (1, .int v1), (2, .int v2), (3, .int v3)], [], (q_kM s c n)) (q_oIM c n) (dz_M251_64_28 s v1 v2 v3) := by
  unfold dz_M251_64_28
  refine q_RP_seg (g2 := (37, [(4, .int 2), (0, .ref 64), (1, .int v1), (2, .int v2), (3, .int v3)], [.int 1, .int v2], (q_kM s c n))) 5 (fun _ _ => rfl) ?_
  cases h1221 : decide (v2 = 1) with
  | true =>
    refine q_RP_cT ?_
    refine q_RP_rsF (g2 := (40, [(4, .int 2), (0, .ref 64), (1, .int v1), (2, .int v2), (3, .int v3)], [], (q_kM s c n))) rfl rfl (q_d_neT h1221) ?_
    refine q_RP_seg (g2 := (63, [(5, .int 3), (4, .int 2), (0, .ref 64), (1, .int v1), (2, .int v2), (3, .int v3)], [.int 6, .int 4, .int v2], (q_kM s c n))) 6 (fun _ _ => rfl) ?_
    refine q_RP_call (v := (some (.int (q_b (dz_M202 s v2 4 6))))) (h2 := (q_kM s c n)) rfl rfl ((dzt_M202 s c n v2 4 6).le (Nat.le_of_ble_eq_true rfl)) ?_
    generalize dz_M202 s v2 4 6 = r870
    refine q_RP_let ?_
    show q_RP _ _ _ (66, [(5, .int 3), (4, .int 2), (0, .ref 64), (1, .int v1), (2, .int v2), (3, .int v3)], [.int (q_b r870)], (q_kM s c n)) _ _
    cases h1222 : r870 with
    | true =>
      refine q_RP_cT ?_
      show q_RP _ _ _ (66, [(5, .int 3), (4, .int 2), (0, .ref 64), (1, .int v1), (2, .int v2), (3, .int v3)], [.int 1], (q_kM s c n)) _ _
      refine q_RP_seg (g2 := (78, [(5, .int 3), (4, .int 2), (0, .ref 64), (1, .int v1), (2, .int v2), (3, .int v3)], [.int v3, .int v2, .ref 64], (q_kM s c n))) 4 (fun _ _ => rfl) ?_
      refine q_RP_bd fun r871 er871 => ?_
      refine q_RP_call (v := (some (.int r871.2))) (h2 := (q_kM r871.1 c n)) rfl rfl ((dzt_M249_64 s c n v2 v3 r871 er871).le (Nat.le_of_ble_eq_true rfl)) ?_
      show q_RP _ _ _ (81, [(5, .int 3), (4, .int 2), (0, .ref 64), (1, .int v1), (2, .int v2), (3, .int v3)], [.int r871.2], (q_kM r871.1 c n)) _ _
      refine q_RP_seg (g2 := (88, [(5, .int 3), (4, .int 2), (0, .ref 64), (1, .int v1), (2, .int v2), (3, .int v3)], [.int v3, .int v2, .ref 64, .int (r871.2 / 256)], (q_kM r871.1 c n))) 5 (fun _ _ => rfl) ?_
      refine q_RP_bd fun r885 er885 => ?_
      refine q_RP_call (v := (some (.int r885.2))) (h2 := (q_kM r885.1 c n)) rfl rfl ((dzt_M250_64 r871.1 c n v2 v3 r885 er885).le (Nat.le_of_ble_eq_true rfl)) ?_
      show q_RP _ _ _ (91, [(5, .int 3), (4, .int 2), (0, .ref 64), (1, .int v1), (2, .int v2), (3, .int v3)], [.int r885.2, .int (r871.2 / 256)], (q_kM r885.1 c n)) _ _
      refine q_RP_seg (g2 := (95, [(5, .int 3), (4, .int 2), (0, .ref 64), (1, .int v1), (2, .int v2), (3, .int v3)], [.int (r885.2 / 256), .int (r871.2 / 256)], (q_kM r885.1 c n))) 2 (fun _ _ => rfl) ?_
      cases h1229 : decide (r871.2 / 256 = r885.2 / 256) with
      | true =>
        refine q_RP_cT ?_
        refine q_RP_rsT (g2 := (102, [(5, .int 3), (4, .int 2), (0, .ref 64), (1, .int v1), (2, .int v2), (3, .int v3)], [], (q_kM r885.1 c n))) rfl rfl h1229 ?_
        refine q_RP_seg (g2 := (116, [(6, .int 0), (5, .int 3), (4, .int 2), (0, .ref 64), (1, .int v1), (2, .int v2), (3, .int v3)], [.int v1, .int 5], (q_kM r885.1 c n))) 8 (fun _ _ => rfl) ?_
        refine q_RP_call (v := (some (.int (q_b (dz_M245 r885.1 v1))))) (h2 := (q_kM r885.1 c n)) rfl rfl ((dzt_M245 r885.1 c n v1).le (Nat.le_of_ble_eq_true rfl)) ?_
        generalize dz_M245 r885.1 v1 = r889
        refine q_RP_let ?_
        show q_RP _ _ _ (119, [(6, .int 0), (5, .int 3), (4, .int 2), (0, .ref 64), (1, .int v1), (2, .int v2), (3, .int v3)], [.int (q_b r889), .int 5], (q_kM r885.1 c n)) _ _
        cases h1233 : r889 with
        | true =>
          refine q_RP_cT ?_
          show q_RP _ _ _ (119, [(6, .int 0), (5, .int 3), (4, .int 2), (0, .ref 64), (1, .int v1), (2, .int v2), (3, .int v3)], [.int 1, .int 5], (q_kM r885.1 c n)) _ _
          refine q_RP_seg (g2 := (128, [(6, .int 0), (5, .int 3), (4, .int 2), (0, .ref 64), (1, .int v1), (2, .int v2), (3, .int v3)], [.int 6], (q_kM r885.1 c n))) 4 (fun _ _ => rfl) ?_
          exact q_RP_ret rfl rfl rfl
        | false =>
          refine q_RP_cF ?_
          show q_RP _ _ _ (119, [(6, .int 0), (5, .int 3), (4, .int 2), (0, .ref 64), (1, .int v1), (2, .int v2), (3, .int v3)], [.int 0, .int 5], (q_kM r885.1 c n)) _ _
          refine q_RP_seg (g2 := (128, [(6, .int 0), (5, .int 3), (4, .int 2), (0, .ref 64), (1, .int v1), (2, .int v2), (3, .int v3)], [.int 5], (q_kM r885.1 c n))) 3 (fun _ _ => rfl) ?_
          exact q_RP_ret rfl rfl rfl
      | false =>
        refine q_RP_cF ?_
        refine q_RP_rsF (g2 := (98, [(5, .int 3), (4, .int 2), (0, .ref 64), (1, .int v1), (2, .int v2), (3, .int v3)], [], (q_kM r885.1 c n))) rfl rfl h1229 ?_
        refine q_RP_seg (g2 := (128, [(6, .int 1), (5, .int 3), (4, .int 2), (0, .ref 64), (1, .int v1), (2, .int v2), (3, .int v3)], [.int 6], (q_kM r885.1 c n))) 11 (fun _ _ => rfl) ?_
        exact q_RP_ret rfl rfl rfl
    | false =>
      refine q_RP_cF ?_
      show q_RP _ _ _ (66, [(5, .int 3), (4, .int 2), (0, .ref 64), (1, .int v1), (2, .int v2), (3, .int v3)], [.int 0], (q_kM s c n)) _ _
      refine q_RP_seg (g2 := (74, [(5, .int 3), (4, .int 2), (0, .ref 64), (1, .int v1), (2, .int v2), (3, .int v3)], [.int 5], (q_kM s c n))) 4 (fun _ _ => rfl) ?_
      exact q_RP_ret rfl rfl rfl
  | false =>
    refine q_RP_cF ?_
    refine q_RP_rsT (g2 := (44, [(4, .int 2), (0, .ref 64), (1, .int v1), (2, .int v2), (3, .int v3)], [], (q_kM s c n))) rfl rfl (q_d_neF h1221) ?_
    refine q_RP_seg (g2 := (47, [(4, .int 2), (0, .ref 64), (1, .int v1), (2, .int v2), (3, .int v3)], [.int 6, .int v2], (q_kM s c n))) 2 (fun _ _ => rfl) ?_
    cases h1234 : decide (v2 < 6) with
    | true =>
      refine q_RP_cT ?_
      refine q_RP_rsF (g2 := (50, [(4, .int 2), (0, .ref 64), (1, .int v1), (2, .int v2), (3, .int v3)], [], (q_kM s c n))) rfl rfl (q_d_geT h1234) ?_
      refine q_RP_seg (g2 := (63, [(5, .int 4), (4, .int 2), (0, .ref 64), (1, .int v1), (2, .int v2), (3, .int v3)], [.int 6, .int 4, .int v2], (q_kM s c n))) 6 (fun _ _ => rfl) ?_
      refine q_RP_call (v := (some (.int (q_b (dz_M202 s v2 4 6))))) (h2 := (q_kM s c n)) rfl rfl ((dzt_M202 s c n v2 4 6).le (Nat.le_of_ble_eq_true rfl)) ?_
      generalize dz_M202 s v2 4 6 = r890
      refine q_RP_let ?_
      show q_RP _ _ _ (66, [(5, .int 4), (4, .int 2), (0, .ref 64), (1, .int v1), (2, .int v2), (3, .int v3)], [.int (q_b r890)], (q_kM s c n)) _ _
      cases h1235 : r890 with
      | true =>
        refine q_RP_cT ?_
        show q_RP _ _ _ (66, [(5, .int 4), (4, .int 2), (0, .ref 64), (1, .int v1), (2, .int v2), (3, .int v3)], [.int 1], (q_kM s c n)) _ _
        refine q_RP_seg (g2 := (78, [(5, .int 4), (4, .int 2), (0, .ref 64), (1, .int v1), (2, .int v2), (3, .int v3)], [.int v3, .int v2, .ref 64], (q_kM s c n))) 4 (fun _ _ => rfl) ?_
        refine q_RP_bd fun r891 er891 => ?_
        refine q_RP_call (v := (some (.int r891.2))) (h2 := (q_kM r891.1 c n)) rfl rfl ((dzt_M249_64 s c n v2 v3 r891 er891).le (Nat.le_of_ble_eq_true rfl)) ?_
        show q_RP _ _ _ (81, [(5, .int 4), (4, .int 2), (0, .ref 64), (1, .int v1), (2, .int v2), (3, .int v3)], [.int r891.2], (q_kM r891.1 c n)) _ _
        refine q_RP_seg (g2 := (88, [(5, .int 4), (4, .int 2), (0, .ref 64), (1, .int v1), (2, .int v2), (3, .int v3)], [.int v3, .int v2, .ref 64, .int (r891.2 / 256)], (q_kM r891.1 c n))) 5 (fun _ _ => rfl) ?_
        refine q_RP_bd fun r892 er892 => ?_
        refine q_RP_call (v := (some (.int r892.2))) (h2 := (q_kM r892.1 c n)) rfl rfl ((dzt_M250_64 r891.1 c n v2 v3 r892 er892).le (Nat.le_of_ble_eq_true rfl)) ?_
        show q_RP _ _ _ (91, [(5, .int 4), (4, .int 2), (0, .ref 64), (1, .int v1), (2, .int v2), (3, .int v3)], [.int r892.2, .int (r891.2 / 256)], (q_kM r892.1 c n)) _ _
        refine q_RP_seg (g2 := (95, [(5, .int 4), (4, .int 2), (0, .ref 64), (1, .int v1), (2, .int v2), (3, .int v3)], [.int (r892.2 / 256), .int (r891.2 / 256)], (q_kM r892.1 c n))) 2 (fun _ _ => rfl) ?_
        cases h1236 : decide (r891.2 / 256 = r892.2 / 256) with
        | true =>
          refine q_RP_cT ?_
          refine q_RP_rsT (g2 := (102, [(5, .int 4), (4, .int 2), (0, .ref 64), (1, .int v1), (2, .int v2), (3, .int v3)], [], (q_kM r892.1 c n))) rfl rfl h1236 ?_
          refine q_RP_seg (g2 := (116, [(6, .int 0), (5, .int 4), (4, .int 2), (0, .ref 64), (1, .int v1), (2, .int v2), (3, .int v3)], [.int v1, .int 6], (q_kM r892.1 c n))) 8 (fun _ _ => rfl) ?_
          refine q_RP_call (v := (some (.int (q_b (dz_M245 r892.1 v1))))) (h2 := (q_kM r892.1 c n)) rfl rfl ((dzt_M245 r892.1 c n v1).le (Nat.le_of_ble_eq_true rfl)) ?_
          generalize dz_M245 r892.1 v1 = r893
          refine q_RP_let ?_
          show q_RP _ _ _ (119, [(6, .int 0), (5, .int 4), (4, .int 2), (0, .ref 64), (1, .int v1), (2, .int v2), (3, .int v3)], [.int (q_b r893), .int 6], (q_kM r892.1 c n)) _ _
          cases h1237 : r893 with
          | true =>
            refine q_RP_cT ?_
            show q_RP _ _ _ (119, [(6, .int 0), (5, .int 4), (4, .int 2), (0, .ref 64), (1, .int v1), (2, .int v2), (3, .int v3)], [.int 1, .int 6], (q_kM r892.1 c n)) _ _
            refine q_RP_seg (g2 := (128, [(6, .int 0), (5, .int 4), (4, .int 2), (0, .ref 64), (1, .int v1), (2, .int v2), (3, .int v3)], [.int 7], (q_kM r892.1 c n))) 4 (fun _ _ => rfl) ?_
            exact q_RP_ret rfl rfl rfl
          | false =>
            refine q_RP_cF ?_
            show q_RP _ _ _ (119, [(6, .int 0), (5, .int 4), (4, .int 2), (0, .ref 64), (1, .int v1), (2, .int v2), (3, .int v3)], [.int 0, .int 6], (q_kM r892.1 c n)) _ _
            refine q_RP_seg (g2 := (128, [(6, .int 0), (5, .int 4), (4, .int 2), (0, .ref 64), (1, .int v1), (2, .int v2), (3, .int v3)], [.int 6], (q_kM r892.1 c n))) 3 (fun _ _ => rfl) ?_
            exact q_RP_ret rfl rfl rfl
        | false =>
          refine q_RP_cF ?_
          refine q_RP_rsF (g2 := (98, [(5, .int 4), (4, .int 2), (0, .ref 64), (1, .int v1), (2, .int v2), (3, .int v3)], [], (q_kM r892.1 c n))) rfl rfl h1236 ?_
          refine q_RP_seg (g2 := (128, [(6, .int 1), (5, .int 4), (4, .int 2), (0, .ref 64), (1, .int v1), (2, .int v2), (3, .int v3)], [.int 7], (q_kM r892.1 c n))) 11 (fun _ _ => rfl) ?_
          exact q_RP_ret rfl rfl rfl
      | false =>
        refine q_RP_cF ?_
        show q_RP _ _ _ (66, [(5, .int 4), (4, .int 2), (0, .ref 64), (1, .int v1), (2, .int v2), (3, .int v3)], [.int 0], (q_kM s c n)) _ _
        refine q_RP_seg (g2 := (74, [(5, .int 4), (4, .int 2), (0, .ref 64), (1, .int v1), (2, .int v2), (3, .int v3)], [.int 6], (q_kM s c n))) 4 (fun _ _ => rfl) ?_
        exact q_RP_ret rfl rfl rfl
    | false =>
      refine q_RP_cF ?_
      refine q_RP_rsT (g2 := (54, [(4, .int 2), (0, .ref 64), (1, .int v1), (2, .int v2), (3, .int v3)], [], (q_kM s c n))) rfl rfl (q_d_geF h1234) ?_
      refine q_RP_seg (g2 := (63, [(5, .int (v2 - 1)), (4, .int 2), (0, .ref 64), (1, .int v1), (2, .int v2), (3, .int v3)], [.int 6, .int 4, .int v2], (q_kM s c n))) 7 (fun _ _ => rfl) ?_
      refine q_RP_call (v := (some (.int (q_b (dz_M202 s v2 4 6))))) (h2 := (q_kM s c n)) rfl rfl ((dzt_M202 s c n v2 4 6).le (Nat.le_of_ble_eq_true rfl)) ?_
      generalize dz_M202 s v2 4 6 = r894
      refine q_RP_let ?_
      show q_RP _ _ _ (66, [(5, .int (v2 - 1)), (4, .int 2), (0, .ref 64), (1, .int v1), (2, .int v2), (3, .int v3)], [.int (q_b r894)], (q_kM s c n)) _ _
      cases h1238 : r894 with
      | true =>
        refine q_RP_cT ?_
        show q_RP _ _ _ (66, [(5, .int (v2 - 1)), (4, .int 2), (0, .ref 64), (1, .int v1), (2, .int v2), (3, .int v3)], [.int 1], (q_kM s c n)) _ _
        refine q_RP_seg (g2 := (78, [(5, .int (v2 - 1)), (4, .int 2), (0, .ref 64), (1, .int v1), (2, .int v2), (3, .int v3)], [.int v3, .int v2, .ref 64], (q_kM s c n))) 4 (fun _ _ => rfl) ?_
        refine q_RP_bd fun r895 er895 => ?_
        refine q_RP_call (v := (some (.int r895.2))) (h2 := (q_kM r895.1 c n)) rfl rfl ((dzt_M249_64 s c n v2 v3 r895 er895).le (Nat.le_of_ble_eq_true rfl)) ?_
        show q_RP _ _ _ (81, [(5, .int (v2 - 1)), (4, .int 2), (0, .ref 64), (1, .int v1), (2, .int v2), (3, .int v3)], [.int r895.2], (q_kM r895.1 c n)) _ _
        refine q_RP_seg (g2 := (88, [(5, .int (v2 - 1)), (4, .int 2), (0, .ref 64), (1, .int v1), (2, .int v2), (3, .int v3)], [.int v3, .int v2, .ref 64, .int (r895.2 / 256)], (q_kM r895.1 c n))) 5 (fun _ _ => rfl) ?_
        refine q_RP_bd fun r896 er896 => ?_
        refine q_RP_call (v := (some (.int r896.2))) (h2 := (q_kM r896.1 c n)) rfl rfl ((dzt_M250_64 r895.1 c n v2 v3 r896 er896).le (Nat.le_of_ble_eq_true rfl)) ?_
        show q_RP _ _ _ (91, [(5, .int (v2 - 1)), (4, .int 2), (0, .ref 64), (1, .int v1), (2, .int v2), (3, .int v3)], [.int r896.2, .int (r895.2 / 256)], (q_kM r896.1 c n)) _ _
        refine q_RP_seg (g2 := (95, [(5, .int (v2 - 1)), (4, .int 2), (0, .ref 64), (1, .int v1), (2, .int v2), (3, .int v3)], [.int (r896.2 / 256), .int (r895.2 / 256)], (q_kM r896.1 c n))) 2 (fun _ _ => rfl) ?_
        cases h1239 : decide (r895.2 / 256 = r896.2 / 256) with
        | true =>
          refine q_RP_cT ?_
          refine q_RP_rsT (g2 := (102, [(5, .int (v2 - 1)), (4, .int 2), (0, .ref 64), (1, .int v1), (2, .int v2), (3, .int v3)], [], (q_kM r896.1 c n))) rfl rfl h1239 ?_
          refine q_RP_seg (g2 := (116, [(6, .int 0), (5, .int (v2 - 1)), (4, .int 2), (0, .ref 64), (1, .int v1), (2, .int v2), (3, .int v3)], [.int v1, .int ((v2 - 1) + 2)], (q_kM r896.1 c n))) 8 (fun _ _ => rfl) ?_
          refine q_RP_call (v := (some (.int (q_b (dz_M245 r896.1 v1))))) (h2 := (q_kM r896.1 c n)) rfl rfl ((dzt_M245 r896.1 c n v1).le (Nat.le_of_ble_eq_true rfl)) ?_
          generalize dz_M245 r896.1 v1 = r897
          refine q_RP_let ?_
          show q_RP _ _ _ (119, [(6, .int 0), (5, .int (v2 - 1)), (4, .int 2), (0, .ref 64), (1, .int v1), (2, .int v2), (3, .int v3)], [.int (q_b r897), .int ((v2 - 1) + 2)], (q_kM r896.1 c n)) _ _
          cases h1240 : r897 with
          | true =>
            refine q_RP_cT ?_
            show q_RP _ _ _ (119, [(6, .int 0), (5, .int (v2 - 1)), (4, .int 2), (0, .ref 64), (1, .int v1), (2, .int v2), (3, .int v3)], [.int 1, .int ((v2 - 1) + 2)], (q_kM r896.1 c n)) _ _
            refine q_RP_seg (g2 := (128, [(6, .int 0), (5, .int (v2 - 1)), (4, .int 2), (0, .ref 64), (1, .int v1), (2, .int v2), (3, .int v3)], [.int (((v2 - 1) + 2) + 1)], (q_kM r896.1 c n))) 4 (fun _ _ => rfl) ?_
            exact q_RP_ret rfl rfl rfl
          | false =>
            refine q_RP_cF ?_
            show q_RP _ _ _ (119, [(6, .int 0), (5, .int (v2 - 1)), (4, .int 2), (0, .ref 64), (1, .int v1), (2, .int v2), (3, .int v3)], [.int 0, .int ((v2 - 1) + 2)], (q_kM r896.1 c n)) _ _
            refine q_RP_seg (g2 := (128, [(6, .int 0), (5, .int (v2 - 1)), (4, .int 2), (0, .ref 64), (1, .int v1), (2, .int v2), (3, .int v3)], [.int (((v2 - 1) + 2) + 0)], (q_kM r896.1 c n))) 3 (fun _ _ => rfl) ?_
            exact q_RP_ret rfl rfl rfl
        | false =>
          refine q_RP_cF ?_
          refine q_RP_rsF (g2 := (98, [(5, .int (v2 - 1)), (4, .int 2), (0, .ref 64), (1, .int v1), (2, .int v2), (3, .int v3)], [], (q_kM r896.1 c n))) rfl rfl h1239 ?_
          refine q_RP_seg (g2 := (128, [(6, .int 1), (5, .int (v2 - 1)), (4, .int 2), (0, .ref 64), (1, .int v1), (2, .int v2), (3, .int v3)], [.int (((v2 - 1) + 2) + 1)], (q_kM r896.1 c n))) 11 (fun _ _ => rfl) ?_
          exact q_RP_ret rfl rfl rfl
      | false =>
        refine q_RP_cF ?_
        show q_RP _ _ _ (66, [(5, .int (v2 - 1)), (4, .int 2), (0, .ref 64), (1, .int v1), (2, .int v2), (3, .int v3)], [.int 0], (q_kM s c n)) _ _
        refine q_RP_seg (g2 := (74, [(5, .int (v2 - 1)), (4, .int 2), (0, .ref 64), (1, .int v1), (2, .int v2), (3, .int v3)], [.int ((v2 - 1) + 2)], (q_kM s c n))) 4 (fun _ _ => rfl) ?_
        exact q_RP_ret rfl rfl rfl
def dz_M251_64 (s : q_S) (a1 : Int32) (a2 : Int32) (a3 : Int32) : Option (q_S × Int32) :=
  cond (decide (a2 = 0)) (some (s, 2)) (q_let (dz_M202 s a1 14 15) fun r869 => cond r869 (dz_M251_64_28 s a1 a2 a3) (q_let (dz_M202 s a1 18 19) fun r898 => cond r898 (dz_M251_64_28 s a1 a2 a3) (cond (decide (a2 = 1)) (q_let (dz_M202 s a2 4 6) fun r899 => cond r899 ((dz_M249_64 s a2 a3).bind fun r900 => (dz_M250_64 r900.1 a2 a3).bind fun r901 => cond (decide (r900.2 / 256 = r901.2 / 256)) (q_let (dz_M245 r901.1 a1) fun r902 => cond r902 (some (r901.1, 4)) (some (r901.1, 3))) (some (r901.1, 4))) (some (s, 3))) (cond (decide (a2 < 6)) (q_let (dz_M202 s a2 4 6) fun r903 => cond r903 ((dz_M249_64 s a2 a3).bind fun r904 => (dz_M250_64 r904.1 a2 a3).bind fun r905 => cond (decide (r904.2 / 256 = r905.2 / 256)) (q_let (dz_M245 r905.1 a1) fun r906 => cond r906 (some (r905.1, 5)) (some (r905.1, 4))) (some (r905.1, 5))) (some (s, 4))) (q_let (dz_M202 s a2 4 6) fun r907 => cond r907 ((dz_M249_64 s a2 a3).bind fun r908 => (dz_M250_64 r908.1 a2 a3).bind fun r909 => cond (decide (r908.2 / 256 = r909.2 / 256)) (q_let (dz_M245 r909.1 a1) fun r910 => cond r910 (some (r909.1, (((a2 - 1) + 0) + 1))) (some (r909.1, (((a2 - 1) + 0) + 0)))) (some (r909.1, (((a2 - 1) + 0) + 1)))) (some (s, ((a2 - 1) + 0))))))))
set_option maxHeartbeats 4000000 in
theorem dzt_M251_64 (s : q_S) (c n : Nat) (a1 : Int32) (a2 : Int32) (a3 : Int32) (x : q_S × Int32) (h : dz_M251_64 s a1 a2 a3 = some x) : q_Ca q_TB0 9 250 [.ref 64, .int a1, .int a2, .int a3] (q_kM s c n) ((q_oIM c n) x) := by
  refine q_CaP_of (φ := (q_oIM c n)) (Nat.le_of_ble_eq_true rfl) ?_ h
  clear h
  unfold dz_M251_64
  refine q_RP_seg (g2 := (1, [(0, .ref 64), (1, .int a1), (2, .int a2), (3, .int a3)], [.int a2], (q_kM s c n))) 1 (fun _ _ => rfl) ?_
  cases h1219 : decide (a2 = 0) with
  | true =>
    refine q_RP_cT ?_
    refine q_RP_rsF (g2 := (4, [(0, .ref 64), (1, .int a1), (2, .int a2), (3, .int a3)], [], (q_kM s c n))) rfl rfl (q_d_neT h1219) ?_
    refine q_RP_seg (g2 := (5, [(0, .ref 64), (1, .int a1), (2, .int a2), (3, .int a3)], [.int 2], (q_kM s c n))) 1 (fun _ _ => rfl) ?_
    exact q_RP_ret rfl rfl rfl
  | false =>
    refine q_RP_cF ?_
    refine q_RP_rsT (g2 := (6, [(0, .ref 64), (1, .int a1), (2, .int a2), (3, .int a3)], [], (q_kM s c n))) rfl rfl (q_d_neF h1219) ?_
    refine q_RP_seg (g2 := (11, [(0, .ref 64), (1, .int a1), (2, .int a2), (3, .int a3)], [.int 15, .int 14, .int a1], (q_kM s c n))) 3 (fun _ _ => rfl) ?_
    refine q_RP_call (v := (some (.int (q_b (dz_M202 s a1 14 15))))) (h2 := (q_kM s c n)) rfl rfl ((dzt_M202 s c n a1 14 15).le (Nat.le_of_ble_eq_true rfl)) ?_
    generalize dz_M202 s a1 14 15 = r869
    refine q_RP_let ?_
    show q_RP _ _ _ (14, [(0, .ref 64), (1, .int a1), (2, .int a2), (3, .int a3)], [.int (q_b r869)], (q_kM s c n)) _ _
    cases h1220 : r869 with
    | true =>
      refine q_RP_cT ?_
      show q_RP _ _ _ (14, [(0, .ref 64), (1, .int a1), (2, .int a2), (3, .int a3)], [.int 1], (q_kM s c n)) _ _
      refine q_RP_seg (g2 := (28, [(0, .ref 64), (1, .int a1), (2, .int a2), (3, .int a3)], [], (q_kM s c n))) 1 (fun _ _ => rfl) ?_
      exact (dzt_M251_64_28 c n s a1 a2 a3)
    | false =>
      refine q_RP_cF ?_
      show q_RP _ _ _ (14, [(0, .ref 64), (1, .int a1), (2, .int a2), (3, .int a3)], [.int 0], (q_kM s c n)) _ _
      refine q_RP_seg (g2 := (22, [(0, .ref 64), (1, .int a1), (2, .int a2), (3, .int a3)], [.int 19, .int 18, .int a1], (q_kM s c n))) 4 (fun _ _ => rfl) ?_
      refine q_RP_call (v := (some (.int (q_b (dz_M202 s a1 18 19))))) (h2 := (q_kM s c n)) rfl rfl ((dzt_M202 s c n a1 18 19).le (Nat.le_of_ble_eq_true rfl)) ?_
      generalize dz_M202 s a1 18 19 = r898
      refine q_RP_let ?_
      show q_RP _ _ _ (25, [(0, .ref 64), (1, .int a1), (2, .int a2), (3, .int a3)], [.int (q_b r898)], (q_kM s c n)) _ _
      cases h1241 : r898 with
      | true =>
        refine q_RP_cT ?_
        show q_RP _ _ _ (25, [(0, .ref 64), (1, .int a1), (2, .int a2), (3, .int a3)], [.int 1], (q_kM s c n)) _ _
        refine q_RP_seg (g2 := (28, [(0, .ref 64), (1, .int a1), (2, .int a2), (3, .int a3)], [], (q_kM s c n))) 1 (fun _ _ => rfl) ?_
        exact (dzt_M251_64_28 c n s a1 a2 a3)
      | false =>
        refine q_RP_cF ?_
        show q_RP _ _ _ (25, [(0, .ref 64), (1, .int a1), (2, .int a2), (3, .int a3)], [.int 0], (q_kM s c n)) _ _
        refine q_RP_seg (g2 := (37, [(4, .int 0), (0, .ref 64), (1, .int a1), (2, .int a2), (3, .int a3)], [.int 1, .int a2], (q_kM s c n))) 5 (fun _ _ => rfl) ?_
        cases h1242 : decide (a2 = 1) with
        | true =>
          refine q_RP_cT ?_
          refine q_RP_rsF (g2 := (40, [(4, .int 0), (0, .ref 64), (1, .int a1), (2, .int a2), (3, .int a3)], [], (q_kM s c n))) rfl rfl (q_d_neT h1242) ?_
          refine q_RP_seg (g2 := (63, [(5, .int 3), (4, .int 0), (0, .ref 64), (1, .int a1), (2, .int a2), (3, .int a3)], [.int 6, .int 4, .int a2], (q_kM s c n))) 6 (fun _ _ => rfl) ?_
          refine q_RP_call (v := (some (.int (q_b (dz_M202 s a2 4 6))))) (h2 := (q_kM s c n)) rfl rfl ((dzt_M202 s c n a2 4 6).le (Nat.le_of_ble_eq_true rfl)) ?_
          generalize dz_M202 s a2 4 6 = r899
          refine q_RP_let ?_
          show q_RP _ _ _ (66, [(5, .int 3), (4, .int 0), (0, .ref 64), (1, .int a1), (2, .int a2), (3, .int a3)], [.int (q_b r899)], (q_kM s c n)) _ _
          cases h1243 : r899 with
          | true =>
            refine q_RP_cT ?_
            show q_RP _ _ _ (66, [(5, .int 3), (4, .int 0), (0, .ref 64), (1, .int a1), (2, .int a2), (3, .int a3)], [.int 1], (q_kM s c n)) _ _
            refine q_RP_seg (g2 := (78, [(5, .int 3), (4, .int 0), (0, .ref 64), (1, .int a1), (2, .int a2), (3, .int a3)], [.int a3, .int a2, .ref 64], (q_kM s c n))) 4 (fun _ _ => rfl) ?_
            refine q_RP_bd fun r900 er900 => ?_
            refine q_RP_call (v := (some (.int r900.2))) (h2 := (q_kM r900.1 c n)) rfl rfl ((dzt_M249_64 s c n a2 a3 r900 er900).le (Nat.le_of_ble_eq_true rfl)) ?_
            show q_RP _ _ _ (81, [(5, .int 3), (4, .int 0), (0, .ref 64), (1, .int a1), (2, .int a2), (3, .int a3)], [.int r900.2], (q_kM r900.1 c n)) _ _
            refine q_RP_seg (g2 := (88, [(5, .int 3), (4, .int 0), (0, .ref 64), (1, .int a1), (2, .int a2), (3, .int a3)], [.int a3, .int a2, .ref 64, .int (r900.2 / 256)], (q_kM r900.1 c n))) 5 (fun _ _ => rfl) ?_
            refine q_RP_bd fun r901 er901 => ?_
            refine q_RP_call (v := (some (.int r901.2))) (h2 := (q_kM r901.1 c n)) rfl rfl ((dzt_M250_64 r900.1 c n a2 a3 r901 er901).le (Nat.le_of_ble_eq_true rfl)) ?_
            show q_RP _ _ _ (91, [(5, .int 3), (4, .int 0), (0, .ref 64), (1, .int a1), (2, .int a2), (3, .int a3)], [.int r901.2, .int (r900.2 / 256)], (q_kM r901.1 c n)) _ _
            refine q_RP_seg (g2 := (95, [(5, .int 3), (4, .int 0), (0, .ref 64), (1, .int a1), (2, .int a2), (3, .int a3)], [.int (r901.2 / 256), .int (r900.2 / 256)], (q_kM r901.1 c n))) 2 (fun _ _ => rfl) ?_
            cases h1244 : decide (r900.2 / 256 = r901.2 / 256) with
            | true =>
              refine q_RP_cT ?_
              refine q_RP_rsT (g2 := (102, [(5, .int 3), (4, .int 0), (0, .ref 64), (1, .int a1), (2, .int a2), (3, .int a3)], [], (q_kM r901.1 c n))) rfl rfl h1244 ?_
              refine q_RP_seg (g2 := (116, [(6, .int 0), (5, .int 3), (4, .int 0), (0, .ref 64), (1, .int a1), (2, .int a2), (3, .int a3)], [.int a1, .int 3], (q_kM r901.1 c n))) 8 (fun _ _ => rfl) ?_
              refine q_RP_call (v := (some (.int (q_b (dz_M245 r901.1 a1))))) (h2 := (q_kM r901.1 c n)) rfl rfl ((dzt_M245 r901.1 c n a1).le (Nat.le_of_ble_eq_true rfl)) ?_
              generalize dz_M245 r901.1 a1 = r902
              refine q_RP_let ?_
              show q_RP _ _ _ (119, [(6, .int 0), (5, .int 3), (4, .int 0), (0, .ref 64), (1, .int a1), (2, .int a2), (3, .int a3)], [.int (q_b r902), .int 3], (q_kM r901.1 c n)) _ _
              cases h1245 : r902 with
              | true =>
                refine q_RP_cT ?_
                show q_RP _ _ _ (119, [(6, .int 0), (5, .int 3), (4, .int 0), (0, .ref 64), (1, .int a1), (2, .int a2), (3, .int a3)], [.int 1, .int 3], (q_kM r901.1 c n)) _ _
                refine q_RP_seg (g2 := (128, [(6, .int 0), (5, .int 3), (4, .int 0), (0, .ref 64), (1, .int a1), (2, .int a2), (3, .int a3)], [.int 4], (q_kM r901.1 c n))) 4 (fun _ _ => rfl) ?_
                exact q_RP_ret rfl rfl rfl
              | false =>
                refine q_RP_cF ?_
                show q_RP _ _ _ (119, [(6, .int 0), (5, .int 3), (4, .int 0), (0, .ref 64), (1, .int a1), (2, .int a2), (3, .int a3)], [.int 0, .int 3], (q_kM r901.1 c n)) _ _
                refine q_RP_seg (g2 := (128, [(6, .int 0), (5, .int 3), (4, .int 0), (0, .ref 64), (1, .int a1), (2, .int a2), (3, .int a3)], [.int 3], (q_kM r901.1 c n))) 3 (fun _ _ => rfl) ?_
                exact q_RP_ret rfl rfl rfl
            | false =>
              refine q_RP_cF ?_
              refine q_RP_rsF (g2 := (98, [(5, .int 3), (4, .int 0), (0, .ref 64), (1, .int a1), (2, .int a2), (3, .int a3)], [], (q_kM r901.1 c n))) rfl rfl h1244 ?_
              refine q_RP_seg (g2 := (128, [(6, .int 1), (5, .int 3), (4, .int 0), (0, .ref 64), (1, .int a1), (2, .int a2), (3, .int a3)], [.int 4], (q_kM r901.1 c n))) 11 (fun _ _ => rfl) ?_
              exact q_RP_ret rfl rfl rfl
          | false =>
            refine q_RP_cF ?_
            show q_RP _ _ _ (66, [(5, .int 3), (4, .int 0), (0, .ref 64), (1, .int a1), (2, .int a2), (3, .int a3)], [.int 0], (q_kM s c n)) _ _
            refine q_RP_seg (g2 := (74, [(5, .int 3), (4, .int 0), (0, .ref 64), (1, .int a1), (2, .int a2), (3, .int a3)], [.int 3], (q_kM s c n))) 4 (fun _ _ => rfl) ?_
            exact q_RP_ret rfl rfl rfl
        | false =>
          refine q_RP_cF ?_
          refine q_RP_rsT (g2 := (44, [(4, .int 0), (0, .ref 64), (1, .int a1), (2, .int a2), (3, .int a3)], [], (q_kM s c n))) rfl rfl (q_d_neF h1242) ?_
          refine q_RP_seg (g2 := (47, [(4, .int 0), (0, .ref 64), (1, .int a1), (2, .int a2), (3, .int a3)], [.int 6, .int a2], (q_kM s c n))) 2 (fun _ _ => rfl) ?_
          cases h1246 : decide (a2 < 6) with
          | true =>
            refine q_RP_cT ?_
            refine q_RP_rsF (g2 := (50, [(4, .int 0), (0, .ref 64), (1, .int a1), (2, .int a2), (3, .int a3)], [], (q_kM s c n))) rfl rfl (q_d_geT h1246) ?_
            refine q_RP_seg (g2 := (63, [(5, .int 4), (4, .int 0), (0, .ref 64), (1, .int a1), (2, .int a2), (3, .int a3)], [.int 6, .int 4, .int a2], (q_kM s c n))) 6 (fun _ _ => rfl) ?_
            refine q_RP_call (v := (some (.int (q_b (dz_M202 s a2 4 6))))) (h2 := (q_kM s c n)) rfl rfl ((dzt_M202 s c n a2 4 6).le (Nat.le_of_ble_eq_true rfl)) ?_
            generalize dz_M202 s a2 4 6 = r903
            refine q_RP_let ?_
            show q_RP _ _ _ (66, [(5, .int 4), (4, .int 0), (0, .ref 64), (1, .int a1), (2, .int a2), (3, .int a3)], [.int (q_b r903)], (q_kM s c n)) _ _
            cases h1247 : r903 with
            | true =>
              refine q_RP_cT ?_
              show q_RP _ _ _ (66, [(5, .int 4), (4, .int 0), (0, .ref 64), (1, .int a1), (2, .int a2), (3, .int a3)], [.int 1], (q_kM s c n)) _ _
              refine q_RP_seg (g2 := (78, [(5, .int 4), (4, .int 0), (0, .ref 64), (1, .int a1), (2, .int a2), (3, .int a3)], [.int a3, .int a2, .ref 64], (q_kM s c n))) 4 (fun _ _ => rfl) ?_
              refine q_RP_bd fun r904 er904 => ?_
              refine q_RP_call (v := (some (.int r904.2))) (h2 := (q_kM r904.1 c n)) rfl rfl ((dzt_M249_64 s c n a2 a3 r904 er904).le (Nat.le_of_ble_eq_true rfl)) ?_
              show q_RP _ _ _ (81, [(5, .int 4), (4, .int 0), (0, .ref 64), (1, .int a1), (2, .int a2), (3, .int a3)], [.int r904.2], (q_kM r904.1 c n)) _ _
              refine q_RP_seg (g2 := (88, [(5, .int 4), (4, .int 0), (0, .ref 64), (1, .int a1), (2, .int a2), (3, .int a3)], [.int a3, .int a2, .ref 64, .int (r904.2 / 256)], (q_kM r904.1 c n))) 5 (fun _ _ => rfl) ?_
              refine q_RP_bd fun r905 er905 => ?_
              refine q_RP_call (v := (some (.int r905.2))) (h2 := (q_kM r905.1 c n)) rfl rfl ((dzt_M250_64 r904.1 c n a2 a3 r905 er905).le (Nat.le_of_ble_eq_true rfl)) ?_
              show q_RP _ _ _ (91, [(5, .int 4), (4, .int 0), (0, .ref 64), (1, .int a1), (2, .int a2), (3, .int a3)], [.int r905.2, .int (r904.2 / 256)], (q_kM r905.1 c n)) _ _
              refine q_RP_seg (g2 := (95, [(5, .int 4), (4, .int 0), (0, .ref 64), (1, .int a1), (2, .int a2), (3, .int a3)], [.int (r905.2 / 256), .int (r904.2 / 256)], (q_kM r905.1 c n))) 2 (fun _ _ => rfl) ?_
              cases h1248 : decide (r904.2 / 256 = r905.2 / 256) with
              | true =>
                refine q_RP_cT ?_
                refine q_RP_rsT (g2 := (102, [(5, .int 4), (4, .int 0), (0, .ref 64), (1, .int a1), (2, .int a2), (3, .int a3)], [], (q_kM r905.1 c n))) rfl rfl h1248 ?_
                refine q_RP_seg (g2 := (116, [(6, .int 0), (5, .int 4), (4, .int 0), (0, .ref 64), (1, .int a1), (2, .int a2), (3, .int a3)], [.int a1, .int 4], (q_kM r905.1 c n))) 8 (fun _ _ => rfl) ?_
                refine q_RP_call (v := (some (.int (q_b (dz_M245 r905.1 a1))))) (h2 := (q_kM r905.1 c n)) rfl rfl ((dzt_M245 r905.1 c n a1).le (Nat.le_of_ble_eq_true rfl)) ?_
                generalize dz_M245 r905.1 a1 = r906
                refine q_RP_let ?_
                show q_RP _ _ _ (119, [(6, .int 0), (5, .int 4), (4, .int 0), (0, .ref 64), (1, .int a1), (2, .int a2), (3, .int a3)], [.int (q_b r906), .int 4], (q_kM r905.1 c n)) _ _
                cases h1249 : r906 with
                | true =>
                  refine q_RP_cT ?_
                  show q_RP _ _ _ (119, [(6, .int 0), (5, .int 4), (4, .int 0), (0, .ref 64), (1, .int a1), (2, .int a2), (3, .int a3)], [.int 1, .int 4], (q_kM r905.1 c n)) _ _
                  refine q_RP_seg (g2 := (128, [(6, .int 0), (5, .int 4), (4, .int 0), (0, .ref 64), (1, .int a1), (2, .int a2), (3, .int a3)], [.int 5], (q_kM r905.1 c n))) 4 (fun _ _ => rfl) ?_
                  exact q_RP_ret rfl rfl rfl
                | false =>
                  refine q_RP_cF ?_
                  show q_RP _ _ _ (119, [(6, .int 0), (5, .int 4), (4, .int 0), (0, .ref 64), (1, .int a1), (2, .int a2), (3, .int a3)], [.int 0, .int 4], (q_kM r905.1 c n)) _ _
                  refine q_RP_seg (g2 := (128, [(6, .int 0), (5, .int 4), (4, .int 0), (0, .ref 64), (1, .int a1), (2, .int a2), (3, .int a3)], [.int 4], (q_kM r905.1 c n))) 3 (fun _ _ => rfl) ?_
                  exact q_RP_ret rfl rfl rfl
              | false =>
                refine q_RP_cF ?_
                refine q_RP_rsF (g2 := (98, [(5, .int 4), (4, .int 0), (0, .ref 64), (1, .int a1), (2, .int a2), (3, .int a3)], [], (q_kM r905.1 c n))) rfl rfl h1248 ?_
                refine q_RP_seg (g2 := (128, [(6, .int 1), (5, .int 4), (4, .int 0), (0, .ref 64), (1, .int a1), (2, .int a2), (3, .int a3)], [.int 5], (q_kM r905.1 c n))) 11 (fun _ _ => rfl) ?_
                exact q_RP_ret rfl rfl rfl
            | false =>
              refine q_RP_cF ?_
              show q_RP _ _ _ (66, [(5, .int 4), (4, .int 0), (0, .ref 64), (1, .int a1), (2, .int a2), (3, .int a3)], [.int 0], (q_kM s c n)) _ _
              refine q_RP_seg (g2 := (74, [(5, .int 4), (4, .int 0), (0, .ref 64), (1, .int a1), (2, .int a2), (3, .int a3)], [.int 4], (q_kM s c n))) 4 (fun _ _ => rfl) ?_
              exact q_RP_ret rfl rfl rfl
          | false =>
            refine q_RP_cF ?_
            refine q_RP_rsT (g2 := (54, [(4, .int 0), (0, .ref 64), (1, .int a1), (2, .int a2), (3, .int a3)], [], (q_kM s c n))) rfl rfl (q_d_geF h1246) ?_
            refine q_RP_seg (g2 := (63, [(5, .int (a2 - 1)), (4, .int 0), (0, .ref 64), (1, .int a1), (2, .int a2), (3, .int a3)], [.int 6, .int 4, .int a2], (q_kM s c n))) 7 (fun _ _ => rfl) ?_
            refine q_RP_call (v := (some (.int (q_b (dz_M202 s a2 4 6))))) (h2 := (q_kM s c n)) rfl rfl ((dzt_M202 s c n a2 4 6).le (Nat.le_of_ble_eq_true rfl)) ?_
            generalize dz_M202 s a2 4 6 = r907
            refine q_RP_let ?_
            show q_RP _ _ _ (66, [(5, .int (a2 - 1)), (4, .int 0), (0, .ref 64), (1, .int a1), (2, .int a2), (3, .int a3)], [.int (q_b r907)], (q_kM s c n)) _ _
            cases h1250 : r907 with
            | true =>
              refine q_RP_cT ?_
              show q_RP _ _ _ (66, [(5, .int (a2 - 1)), (4, .int 0), (0, .ref 64), (1, .int a1), (2, .int a2), (3, .int a3)], [.int 1], (q_kM s c n)) _ _
              refine q_RP_seg (g2 := (78, [(5, .int (a2 - 1)), (4, .int 0), (0, .ref 64), (1, .int a1), (2, .int a2), (3, .int a3)], [.int a3, .int a2, .ref 64], (q_kM s c n))) 4 (fun _ _ => rfl) ?_
              refine q_RP_bd fun r908 er908 => ?_
              refine q_RP_call (v := (some (.int r908.2))) (h2 := (q_kM r908.1 c n)) rfl rfl ((dzt_M249_64 s c n a2 a3 r908 er908).le (Nat.le_of_ble_eq_true rfl)) ?_
              show q_RP _ _ _ (81, [(5, .int (a2 - 1)), (4, .int 0), (0, .ref 64), (1, .int a1), (2, .int a2), (3, .int a3)], [.int r908.2], (q_kM r908.1 c n)) _ _
              refine q_RP_seg (g2 := (88, [(5, .int (a2 - 1)), (4, .int 0), (0, .ref 64), (1, .int a1), (2, .int a2), (3, .int a3)], [.int a3, .int a2, .ref 64, .int (r908.2 / 256)], (q_kM r908.1 c n))) 5 (fun _ _ => rfl) ?_
              refine q_RP_bd fun r909 er909 => ?_
              refine q_RP_call (v := (some (.int r909.2))) (h2 := (q_kM r909.1 c n)) rfl rfl ((dzt_M250_64 r908.1 c n a2 a3 r909 er909).le (Nat.le_of_ble_eq_true rfl)) ?_
              show q_RP _ _ _ (91, [(5, .int (a2 - 1)), (4, .int 0), (0, .ref 64), (1, .int a1), (2, .int a2), (3, .int a3)], [.int r909.2, .int (r908.2 / 256)], (q_kM r909.1 c n)) _ _
              refine q_RP_seg (g2 := (95, [(5, .int (a2 - 1)), (4, .int 0), (0, .ref 64), (1, .int a1), (2, .int a2), (3, .int a3)], [.int (r909.2 / 256), .int (r908.2 / 256)], (q_kM r909.1 c n))) 2 (fun _ _ => rfl) ?_
              cases h1251 : decide (r908.2 / 256 = r909.2 / 256) with
              | true =>
                refine q_RP_cT ?_
                refine q_RP_rsT (g2 := (102, [(5, .int (a2 - 1)), (4, .int 0), (0, .ref 64), (1, .int a1), (2, .int a2), (3, .int a3)], [], (q_kM r909.1 c n))) rfl rfl h1251 ?_
                refine q_RP_seg (g2 := (116, [(6, .int 0), (5, .int (a2 - 1)), (4, .int 0), (0, .ref 64), (1, .int a1), (2, .int a2), (3, .int a3)], [.int a1, .int ((a2 - 1) + 0)], (q_kM r909.1 c n))) 8 (fun _ _ => rfl) ?_
                refine q_RP_call (v := (some (.int (q_b (dz_M245 r909.1 a1))))) (h2 := (q_kM r909.1 c n)) rfl rfl ((dzt_M245 r909.1 c n a1).le (Nat.le_of_ble_eq_true rfl)) ?_
                generalize dz_M245 r909.1 a1 = r910
                refine q_RP_let ?_
                show q_RP _ _ _ (119, [(6, .int 0), (5, .int (a2 - 1)), (4, .int 0), (0, .ref 64), (1, .int a1), (2, .int a2), (3, .int a3)], [.int (q_b r910), .int ((a2 - 1) + 0)], (q_kM r909.1 c n)) _ _
                cases h1252 : r910 with
                | true =>
                  refine q_RP_cT ?_
                  show q_RP _ _ _ (119, [(6, .int 0), (5, .int (a2 - 1)), (4, .int 0), (0, .ref 64), (1, .int a1), (2, .int a2), (3, .int a3)], [.int 1, .int ((a2 - 1) + 0)], (q_kM r909.1 c n)) _ _
                  refine q_RP_seg (g2 := (128, [(6, .int 0), (5, .int (a2 - 1)), (4, .int 0), (0, .ref 64), (1, .int a1), (2, .int a2), (3, .int a3)], [.int (((a2 - 1) + 0) + 1)], (q_kM r909.1 c n))) 4 (fun _ _ => rfl) ?_
                  exact q_RP_ret rfl rfl rfl
                | false =>
                  refine q_RP_cF ?_
                  show q_RP _ _ _ (119, [(6, .int 0), (5, .int (a2 - 1)), (4, .int 0), (0, .ref 64), (1, .int a1), (2, .int a2), (3, .int a3)], [.int 0, .int ((a2 - 1) + 0)], (q_kM r909.1 c n)) _ _
                  refine q_RP_seg (g2 := (128, [(6, .int 0), (5, .int (a2 - 1)), (4, .int 0), (0, .ref 64), (1, .int a1), (2, .int a2), (3, .int a3)], [.int (((a2 - 1) + 0) + 0)], (q_kM r909.1 c n))) 3 (fun _ _ => rfl) ?_
                  exact q_RP_ret rfl rfl rfl
              | false =>
                refine q_RP_cF ?_
                refine q_RP_rsF (g2 := (98, [(5, .int (a2 - 1)), (4, .int 0), (0, .ref 64), (1, .int a1), (2, .int a2), (3, .int a3)], [], (q_kM r909.1 c n))) rfl rfl h1251 ?_
                refine q_RP_seg (g2 := (128, [(6, .int 1), (5, .int (a2 - 1)), (4, .int 0), (0, .ref 64), (1, .int a1), (2, .int a2), (3, .int a3)], [.int (((a2 - 1) + 0) + 1)], (q_kM r909.1 c n))) 11 (fun _ _ => rfl) ?_
                exact q_RP_ret rfl rfl rfl
            | false =>
              refine q_RP_cF ?_
              show q_RP _ _ _ (66, [(5, .int (a2 - 1)), (4, .int 0), (0, .ref 64), (1, .int a1), (2, .int a2), (3, .int a3)], [.int 0], (q_kM s c n)) _ _
              refine q_RP_seg (g2 := (74, [(5, .int (a2 - 1)), (4, .int 0), (0, .ref 64), (1, .int a1), (2, .int a2), (3, .int a3)], [.int ((a2 - 1) + 0)], (q_kM s c n))) 4 (fun _ _ => rfl) ?_
              exact q_RP_ret rfl rfl rfl
def dz_M254_64 (s : q_S) (a1 : Int32) : Option (q_S × Int32) :=
  (dz_M247_64 s a1).bind fun r845 => q_let (dz_M244 r845.1 r845.2) fun r847 => cond (decide (r847 < 0)) (q_let (dz_M202 r845.1 r845.2 160 167) fun r848 => cond r848 (q_let (dz_M252_64 r845.1 r845.2) fun r849 => cond r849 (q_let (dz_M213 r845.1 (a1 + 2)) fun r850 => (dz_M253_64 r845.1 a1).bind fun r855 => cond (decide (r850 / 256 = r855.2 / 256)) (some (r855.1, 3)) (some (r855.1, 4))) (some (r845.1, 2))) (cond (decide (r845.2 = 138)) (some (r845.1, 3)) (cond (decide (r845.2 = 140)) (some (r845.1, 3)) (cond (decide (r845.2 = 157)) (some (r845.1, 3)) (cond (decide (r845.2 = 139)) (some (r845.1, 4)) (cond (decide (r845.2 = 141)) (some (r845.1, 4)) (cond (decide (r845.2 = 159)) (some (r845.1, 5)) (cond (decide (r845.2 = 155)) (some (r845.1, 6)) (cond (decide (r845.2 = 156)) (some (r845.1, 6)) (cond (decide (r845.2 = 158)) (some (r845.1, 6)) (cond (decide (r845.2 = 154)) (some (r845.1, 7)) (some (r845.1, 2))))))))))))) ((dz_M251_64 r845.1 r847 (r845.2 - r845.2 / 8 * 8) a1).bind fun r911 => some (r911.1, r911.2))
set_option maxHeartbeats 4000000 in
theorem dzt_M254_64 (s : q_S) (c n : Nat) (a1 : Int32) (x : q_S × Int32) (h : dz_M254_64 s a1 = some x) : q_Ca q_TB0 10 253 [.ref 64, .int a1] (q_kM s c n) ((q_oIM c n) x) := by
  refine q_CaP_of (φ := (q_oIM c n)) (Nat.le_of_ble_eq_true rfl) ?_ h
  clear h
  unfold dz_M254_64
  refine q_RP_seg (g2 := (2, [(0, .ref 64), (1, .int a1)], [.int a1, .ref 64], (q_kM s c n))) 2 (fun _ _ => rfl) ?_
  refine q_RP_bd fun r845 er845 => ?_
  refine q_RP_call (v := (some (.int r845.2))) (h2 := (q_kM r845.1 c n)) rfl rfl ((dzt_M247_64 s c n a1 r845 er845).le (Nat.le_of_ble_eq_true rfl)) ?_
  show q_RP _ _ _ (5, [(0, .ref 64), (1, .int a1)], [.int r845.2], (q_kM r845.1 c n)) _ _
  refine q_RP_seg (g2 := (7, [(2, .int r845.2), (0, .ref 64), (1, .int a1)], [.int r845.2], (q_kM r845.1 c n))) 2 (fun _ _ => rfl) ?_
  refine q_RP_call (v := (some (.int (dz_M244 r845.1 r845.2)))) (h2 := (q_kM r845.1 c n)) rfl rfl ((dzt_M244 r845.1 c n r845.2).le (Nat.le_of_ble_eq_true rfl)) ?_
  generalize dz_M244 r845.1 r845.2 = r847
  refine q_RP_let ?_
  show q_RP _ _ _ (10, [(2, .int r845.2), (0, .ref 64), (1, .int a1)], [.int r847], (q_kM r845.1 c n)) _ _
  refine q_RP_seg (g2 := (12, [(3, .int r847), (2, .int r845.2), (0, .ref 64), (1, .int a1)], [.int r847], (q_kM r845.1 c n))) 2 (fun _ _ => rfl) ?_
  cases h1159 : decide (r847 < 0) with
  | true =>
    refine q_RP_cT ?_
    refine q_RP_rsT (g2 := (26, [(3, .int r847), (2, .int r845.2), (0, .ref 64), (1, .int a1)], [], (q_kM r845.1 c n))) rfl rfl h1159 ?_
    refine q_RP_seg (g2 := (33, [(3, .int r847), (2, .int r845.2), (0, .ref 64), (1, .int a1)], [.int 167, .int 160, .int r845.2], (q_kM r845.1 c n))) 3 (fun _ _ => rfl) ?_
    refine q_RP_call (v := (some (.int (q_b (dz_M202 r845.1 r845.2 160 167))))) (h2 := (q_kM r845.1 c n)) rfl rfl ((dzt_M202 r845.1 c n r845.2 160 167).le (Nat.le_of_ble_eq_true rfl)) ?_
    generalize dz_M202 r845.1 r845.2 160 167 = r848
    refine q_RP_let ?_
    show q_RP _ _ _ (36, [(3, .int r847), (2, .int r845.2), (0, .ref 64), (1, .int a1)], [.int (q_b r848)], (q_kM r845.1 c n)) _ _
    cases h1160 : r848 with
    | true =>
      refine q_RP_cT ?_
      show q_RP _ _ _ (36, [(3, .int r847), (2, .int r845.2), (0, .ref 64), (1, .int a1)], [.int 1], (q_kM r845.1 c n)) _ _
      refine q_RP_seg (g2 := (41, [(3, .int r847), (2, .int r845.2), (0, .ref 64), (1, .int a1)], [.int r845.2, .ref 64], (q_kM r845.1 c n))) 3 (fun _ _ => rfl) ?_
      refine q_RP_call (v := (some (.int (q_b (dz_M252_64 r845.1 r845.2))))) (h2 := (q_kM r845.1 c n)) rfl rfl ((dzt_M252_64 r845.1 c n r845.2).le (Nat.le_of_ble_eq_true rfl)) ?_
      generalize dz_M252_64 r845.1 r845.2 = r849
      refine q_RP_let ?_
      show q_RP _ _ _ (44, [(3, .int r847), (2, .int r845.2), (0, .ref 64), (1, .int a1)], [.int (q_b r849)], (q_kM r845.1 c n)) _ _
      cases h1200 : r849 with
      | true =>
        refine q_RP_cT ?_
        show q_RP _ _ _ (44, [(3, .int r847), (2, .int r845.2), (0, .ref 64), (1, .int a1)], [.int 1], (q_kM r845.1 c n)) _ _
        refine q_RP_seg (g2 := (54, [(3, .int r847), (2, .int r845.2), (0, .ref 64), (1, .int a1)], [.int (a1 + 2)], (q_kM r845.1 c n))) 4 (fun _ _ => rfl) ?_
        refine q_RP_call (v := (some (.int (dz_M213 r845.1 (a1 + 2))))) (h2 := (q_kM r845.1 c n)) rfl rfl ((dzt_M213 r845.1 c n (a1 + 2)).le (Nat.le_of_ble_eq_true rfl)) ?_
        generalize dz_M213 r845.1 (a1 + 2) = r850
        refine q_RP_let ?_
        show q_RP _ _ _ (57, [(3, .int r847), (2, .int r845.2), (0, .ref 64), (1, .int a1)], [.int r850], (q_kM r845.1 c n)) _ _
        refine q_RP_seg (g2 := (63, [(3, .int r847), (2, .int r845.2), (0, .ref 64), (1, .int a1)], [.int a1, .ref 64, .int (r850 / 256)], (q_kM r845.1 c n))) 4 (fun _ _ => rfl) ?_
        refine q_RP_bd fun r855 er855 => ?_
        refine q_RP_call (v := (some (.int r855.2))) (h2 := (q_kM r855.1 c n)) rfl rfl ((dzt_M253_64 r845.1 c n a1 r855 er855).le (Nat.le_of_ble_eq_true rfl)) ?_
        show q_RP _ _ _ (66, [(3, .int r847), (2, .int r845.2), (0, .ref 64), (1, .int a1)], [.int r855.2, .int (r850 / 256)], (q_kM r855.1 c n)) _ _
        refine q_RP_seg (g2 := (70, [(3, .int r847), (2, .int r845.2), (0, .ref 64), (1, .int a1)], [.int (r855.2 / 256), .int (r850 / 256)], (q_kM r855.1 c n))) 2 (fun _ _ => rfl) ?_
        cases h1202 : decide (r850 / 256 = r855.2 / 256) with
        | true =>
          refine q_RP_cT ?_
          refine q_RP_rsF (g2 := (73, [(3, .int r847), (2, .int r845.2), (0, .ref 64), (1, .int a1)], [], (q_kM r855.1 c n))) rfl rfl (q_d_neT h1202) ?_
          refine q_RP_seg (g2 := (78, [(3, .int r847), (2, .int r845.2), (0, .ref 64), (1, .int a1)], [.int 3], (q_kM r855.1 c n))) 2 (fun _ _ => rfl) ?_
          exact q_RP_ret rfl rfl rfl
        | false =>
          refine q_RP_cF ?_
          refine q_RP_rsT (g2 := (77, [(3, .int r847), (2, .int r845.2), (0, .ref 64), (1, .int a1)], [], (q_kM r855.1 c n))) rfl rfl (q_d_neF h1202) ?_
          refine q_RP_seg (g2 := (78, [(3, .int r847), (2, .int r845.2), (0, .ref 64), (1, .int a1)], [.int 4], (q_kM r855.1 c n))) 1 (fun _ _ => rfl) ?_
          exact q_RP_ret rfl rfl rfl
      | false =>
        refine q_RP_cF ?_
        show q_RP _ _ _ (44, [(3, .int r847), (2, .int r845.2), (0, .ref 64), (1, .int a1)], [.int 0], (q_kM r845.1 c n)) _ _
        refine q_RP_seg (g2 := (78, [(3, .int r847), (2, .int r845.2), (0, .ref 64), (1, .int a1)], [.int 2], (q_kM r845.1 c n))) 3 (fun _ _ => rfl) ?_
        exact q_RP_ret rfl rfl rfl
    | false =>
      refine q_RP_cF ?_
      show q_RP _ _ _ (36, [(3, .int r847), (2, .int r845.2), (0, .ref 64), (1, .int a1)], [.int 0], (q_kM r845.1 c n)) _ _
      refine q_RP_seg (g2 := (83, [(3, .int r847), (2, .int r845.2), (0, .ref 64), (1, .int a1)], [.int 138, .int r845.2], (q_kM r845.1 c n))) 3 (fun _ _ => rfl) ?_
      cases h1203 : decide (r845.2 = 138) with
      | true =>
        refine q_RP_cT ?_
        refine q_RP_rsT (g2 := (100, [(3, .int r847), (2, .int r845.2), (0, .ref 64), (1, .int a1)], [], (q_kM r845.1 c n))) rfl rfl h1203 ?_
        refine q_RP_seg (g2 := (101, [(3, .int r847), (2, .int r845.2), (0, .ref 64), (1, .int a1)], [.int 3], (q_kM r845.1 c n))) 1 (fun _ _ => rfl) ?_
        exact q_RP_ret rfl rfl rfl
      | false =>
        refine q_RP_cF ?_
        refine q_RP_rsF (g2 := (86, [(3, .int r847), (2, .int r845.2), (0, .ref 64), (1, .int a1)], [], (q_kM r845.1 c n))) rfl rfl h1203 ?_
        refine q_RP_seg (g2 := (90, [(3, .int r847), (2, .int r845.2), (0, .ref 64), (1, .int a1)], [.int 140, .int r845.2], (q_kM r845.1 c n))) 2 (fun _ _ => rfl) ?_
        cases h1204 : decide (r845.2 = 140) with
        | true =>
          refine q_RP_cT ?_
          refine q_RP_rsT (g2 := (100, [(3, .int r847), (2, .int r845.2), (0, .ref 64), (1, .int a1)], [], (q_kM r845.1 c n))) rfl rfl h1204 ?_
          refine q_RP_seg (g2 := (101, [(3, .int r847), (2, .int r845.2), (0, .ref 64), (1, .int a1)], [.int 3], (q_kM r845.1 c n))) 1 (fun _ _ => rfl) ?_
          exact q_RP_ret rfl rfl rfl
        | false =>
          refine q_RP_cF ?_
          refine q_RP_rsF (g2 := (93, [(3, .int r847), (2, .int r845.2), (0, .ref 64), (1, .int a1)], [], (q_kM r845.1 c n))) rfl rfl h1204 ?_
          refine q_RP_seg (g2 := (97, [(3, .int r847), (2, .int r845.2), (0, .ref 64), (1, .int a1)], [.int 157, .int r845.2], (q_kM r845.1 c n))) 2 (fun _ _ => rfl) ?_
          cases h1205 : decide (r845.2 = 157) with
          | true =>
            refine q_RP_cT ?_
            refine q_RP_rsF (g2 := (100, [(3, .int r847), (2, .int r845.2), (0, .ref 64), (1, .int a1)], [], (q_kM r845.1 c n))) rfl rfl (q_d_neT h1205) ?_
            refine q_RP_seg (g2 := (101, [(3, .int r847), (2, .int r845.2), (0, .ref 64), (1, .int a1)], [.int 3], (q_kM r845.1 c n))) 1 (fun _ _ => rfl) ?_
            exact q_RP_ret rfl rfl rfl
          | false =>
            refine q_RP_cF ?_
            refine q_RP_rsT (g2 := (102, [(3, .int r847), (2, .int r845.2), (0, .ref 64), (1, .int a1)], [], (q_kM r845.1 c n))) rfl rfl (q_d_neF h1205) ?_
            refine q_RP_seg (g2 := (106, [(3, .int r847), (2, .int r845.2), (0, .ref 64), (1, .int a1)], [.int 139, .int r845.2], (q_kM r845.1 c n))) 2 (fun _ _ => rfl) ?_
            cases h1206 : decide (r845.2 = 139) with
            | true =>
              refine q_RP_cT ?_
              refine q_RP_rsT (g2 := (116, [(3, .int r847), (2, .int r845.2), (0, .ref 64), (1, .int a1)], [], (q_kM r845.1 c n))) rfl rfl h1206 ?_
              refine q_RP_seg (g2 := (117, [(3, .int r847), (2, .int r845.2), (0, .ref 64), (1, .int a1)], [.int 4], (q_kM r845.1 c n))) 1 (fun _ _ => rfl) ?_
              exact q_RP_ret rfl rfl rfl
            | false =>
              refine q_RP_cF ?_
              refine q_RP_rsF (g2 := (109, [(3, .int r847), (2, .int r845.2), (0, .ref 64), (1, .int a1)], [], (q_kM r845.1 c n))) rfl rfl h1206 ?_
              refine q_RP_seg (g2 := (113, [(3, .int r847), (2, .int r845.2), (0, .ref 64), (1, .int a1)], [.int 141, .int r845.2], (q_kM r845.1 c n))) 2 (fun _ _ => rfl) ?_
              cases h1207 : decide (r845.2 = 141) with
              | true =>
                refine q_RP_cT ?_
                refine q_RP_rsF (g2 := (116, [(3, .int r847), (2, .int r845.2), (0, .ref 64), (1, .int a1)], [], (q_kM r845.1 c n))) rfl rfl (q_d_neT h1207) ?_
                refine q_RP_seg (g2 := (117, [(3, .int r847), (2, .int r845.2), (0, .ref 64), (1, .int a1)], [.int 4], (q_kM r845.1 c n))) 1 (fun _ _ => rfl) ?_
                exact q_RP_ret rfl rfl rfl
              | false =>
                refine q_RP_cF ?_
                refine q_RP_rsT (g2 := (118, [(3, .int r847), (2, .int r845.2), (0, .ref 64), (1, .int a1)], [], (q_kM r845.1 c n))) rfl rfl (q_d_neF h1207) ?_
                refine q_RP_seg (g2 := (122, [(3, .int r847), (2, .int r845.2), (0, .ref 64), (1, .int a1)], [.int 159, .int r845.2], (q_kM r845.1 c n))) 2 (fun _ _ => rfl) ?_
                cases h1208 : decide (r845.2 = 159) with
                | true =>
                  refine q_RP_cT ?_
                  refine q_RP_rsF (g2 := (125, [(3, .int r847), (2, .int r845.2), (0, .ref 64), (1, .int a1)], [], (q_kM r845.1 c n))) rfl rfl (q_d_neT h1208) ?_
                  refine q_RP_seg (g2 := (126, [(3, .int r847), (2, .int r845.2), (0, .ref 64), (1, .int a1)], [.int 5], (q_kM r845.1 c n))) 1 (fun _ _ => rfl) ?_
                  exact q_RP_ret rfl rfl rfl
                | false =>
                  refine q_RP_cF ?_
                  refine q_RP_rsT (g2 := (127, [(3, .int r847), (2, .int r845.2), (0, .ref 64), (1, .int a1)], [], (q_kM r845.1 c n))) rfl rfl (q_d_neF h1208) ?_
                  refine q_RP_seg (g2 := (131, [(3, .int r847), (2, .int r845.2), (0, .ref 64), (1, .int a1)], [.int 155, .int r845.2], (q_kM r845.1 c n))) 2 (fun _ _ => rfl) ?_
                  cases h1209 : decide (r845.2 = 155) with
                  | true =>
                    refine q_RP_cT ?_
                    refine q_RP_rsT (g2 := (148, [(3, .int r847), (2, .int r845.2), (0, .ref 64), (1, .int a1)], [], (q_kM r845.1 c n))) rfl rfl h1209 ?_
                    refine q_RP_seg (g2 := (150, [(3, .int r847), (2, .int r845.2), (0, .ref 64), (1, .int a1)], [.int 6], (q_kM r845.1 c n))) 1 (fun _ _ => rfl) ?_
                    exact q_RP_ret rfl rfl rfl
                  | false =>
                    refine q_RP_cF ?_
                    refine q_RP_rsF (g2 := (134, [(3, .int r847), (2, .int r845.2), (0, .ref 64), (1, .int a1)], [], (q_kM r845.1 c n))) rfl rfl h1209 ?_
                    refine q_RP_seg (g2 := (138, [(3, .int r847), (2, .int r845.2), (0, .ref 64), (1, .int a1)], [.int 156, .int r845.2], (q_kM r845.1 c n))) 2 (fun _ _ => rfl) ?_
                    cases h1210 : decide (r845.2 = 156) with
                    | true =>
                      refine q_RP_cT ?_
                      refine q_RP_rsT (g2 := (148, [(3, .int r847), (2, .int r845.2), (0, .ref 64), (1, .int a1)], [], (q_kM r845.1 c n))) rfl rfl h1210 ?_
                      refine q_RP_seg (g2 := (150, [(3, .int r847), (2, .int r845.2), (0, .ref 64), (1, .int a1)], [.int 6], (q_kM r845.1 c n))) 1 (fun _ _ => rfl) ?_
                      exact q_RP_ret rfl rfl rfl
                    | false =>
                      refine q_RP_cF ?_
                      refine q_RP_rsF (g2 := (141, [(3, .int r847), (2, .int r845.2), (0, .ref 64), (1, .int a1)], [], (q_kM r845.1 c n))) rfl rfl h1210 ?_
                      refine q_RP_seg (g2 := (145, [(3, .int r847), (2, .int r845.2), (0, .ref 64), (1, .int a1)], [.int 158, .int r845.2], (q_kM r845.1 c n))) 2 (fun _ _ => rfl) ?_
                      cases h1211 : decide (r845.2 = 158) with
                      | true =>
                        refine q_RP_cT ?_
                        refine q_RP_rsF (g2 := (148, [(3, .int r847), (2, .int r845.2), (0, .ref 64), (1, .int a1)], [], (q_kM r845.1 c n))) rfl rfl (q_d_neT h1211) ?_
                        refine q_RP_seg (g2 := (150, [(3, .int r847), (2, .int r845.2), (0, .ref 64), (1, .int a1)], [.int 6], (q_kM r845.1 c n))) 1 (fun _ _ => rfl) ?_
                        exact q_RP_ret rfl rfl rfl
                      | false =>
                        refine q_RP_cF ?_
                        refine q_RP_rsT (g2 := (151, [(3, .int r847), (2, .int r845.2), (0, .ref 64), (1, .int a1)], [], (q_kM r845.1 c n))) rfl rfl (q_d_neF h1211) ?_
                        refine q_RP_seg (g2 := (155, [(3, .int r847), (2, .int r845.2), (0, .ref 64), (1, .int a1)], [.int 154, .int r845.2], (q_kM r845.1 c n))) 2 (fun _ _ => rfl) ?_
                        cases h1212 : decide (r845.2 = 154) with
                        | true =>
                          refine q_RP_cT ?_
                          refine q_RP_rsF (g2 := (158, [(3, .int r847), (2, .int r845.2), (0, .ref 64), (1, .int a1)], [], (q_kM r845.1 c n))) rfl rfl (q_d_neT h1212) ?_
                          refine q_RP_seg (g2 := (164, [(3, .int r847), (2, .int r845.2), (0, .ref 64), (1, .int a1)], [.int 7], (q_kM r845.1 c n))) 2 (fun _ _ => rfl) ?_
                          exact q_RP_ret rfl rfl rfl
                        | false =>
                          refine q_RP_cF ?_
                          refine q_RP_rsT (g2 := (163, [(3, .int r847), (2, .int r845.2), (0, .ref 64), (1, .int a1)], [], (q_kM r845.1 c n))) rfl rfl (q_d_neF h1212) ?_
                          refine q_RP_seg (g2 := (164, [(3, .int r847), (2, .int r845.2), (0, .ref 64), (1, .int a1)], [.int 2], (q_kM r845.1 c n))) 1 (fun _ _ => rfl) ?_
                          exact q_RP_ret rfl rfl rfl
  | false =>
    refine q_RP_cF ?_
    refine q_RP_rsF (g2 := (15, [(3, .int r847), (2, .int r845.2), (0, .ref 64), (1, .int a1)], [], (q_kM r845.1 c n))) rfl rfl h1159 ?_
    refine q_RP_seg (g2 := (22, [(3, .int r847), (2, .int r845.2), (0, .ref 64), (1, .int a1)], [.int a1, .int (r845.2 - r845.2 / 8 * 8), .int r847, .ref 64], (q_kM r845.1 c n))) 6 (fun _ _ => rfl) ?_
    refine q_RP_bd fun r911 er911 => ?_
    refine q_RP_call (v := (some (.int r911.2))) (h2 := (q_kM r911.1 c n)) rfl rfl ((dzt_M251_64 r845.1 c n r847 (r845.2 - r845.2 / 8 * 8) a1 r911 er911).le (Nat.le_of_ble_eq_true rfl)) ?_
    show q_RP _ _ _ (25, [(3, .int r847), (2, .int r845.2), (0, .ref 64), (1, .int a1)], [.int r911.2], (q_kM r911.1 c n)) _ _
    exact q_RP_ret rfl rfl rfl
def dz_M277_64_75 (s : q_S) : Option (q_S) :=
  cond (decide (0 < (s.1 14) 18)) (some (q_sA s 14 (upd (s.1 14) 17 7))) ((dz_M254_64 s ((s.1 14) 4)).bind fun r913 => some (q_sA r913.1 14 (upd (r913.1.1 14) 17 r913.2)))
set_option maxHeartbeats 4000000 in
theorem dzt_M277_64_75 (c n : Nat) (s : q_S) : q_RP q_TB0 10 276 (75, [(0, .ref 64)], [], (q_kM s c n)) (q_oSM c n) (dz_M277_64_75 s) := by
  unfold dz_M277_64_75
  refine q_RP_seg (g2 := (88, [(0, .ref 64)], [.int ((s.1 14) 18), .int 17, .ref 78], (q_kM s c n))) 7 (fun _ _ => rfl) ?_
  cases h1255 : decide (0 < (s.1 14) 18) with
  | true =>
    refine q_RP_cT ?_
    refine q_RP_rsF (g2 := (91, [(0, .ref 64)], [.int 17, .ref 78], (q_kM s c n))) rfl rfl (q_d_geT h1255) ?_
    refine q_RP_seg (g2 := (107, [(0, .ref 64)], [], (q_kM (q_sA s 14 (upd (s.1 14) 17 7)) c n))) 3 (fun _ _ => rfl) ?_
    exact q_RP_ret rfl rfl rfl
  | false =>
    refine q_RP_cF ?_
    refine q_RP_rsT (g2 := (96, [(0, .ref 64)], [.int 17, .ref 78], (q_kM s c n))) rfl rfl (q_d_geF h1255) ?_
    refine q_RP_seg (g2 := (103, [(0, .ref 64)], [.int ((s.1 14) 4), .ref 64, .int 17, .ref 78], (q_kM s c n))) 5 (fun _ _ => rfl) ?_
    refine q_RP_bd fun r913 er913 => ?_
    refine q_RP_call (v := (some (.int r913.2))) (h2 := (q_kM r913.1 c n)) rfl rfl ((dzt_M254_64 s c n ((s.1 14) 4) r913 er913).le (Nat.le_of_ble_eq_true rfl)) ?_
    show q_RP _ _ _ (106, [(0, .ref 64)], [.int r913.2, .int 17, .ref 78], (q_kM r913.1 c n)) _ _
    refine q_RP_seg (g2 := (107, [(0, .ref 64)], [], (q_kM (q_sA r913.1 14 (upd (r913.1.1 14) 17 r913.2)) c n))) 1 (fun _ _ => rfl) ?_
    exact q_RP_ret rfl rfl rfl
def dz_M277_64 (s : q_S) : Option (q_S) :=
  cond (decide ((s.1 15) 6 = 0)) (cond (decide (((s.1 14) 9) &&& ((s.1 4) 11) = 0)) (dz_M277_64_75 (q_sA s 14 (upd (s.1 14) 18 0))) (cond (decide ((s.1 15) 3 = 0)) (dz_M277_64_75 (q_sA s 14 (upd (s.1 14) 18 3838))) (dz_M277_64_75 (q_sA s 14 (upd (s.1 14) 18 0))))) (dz_M277_64_75 (q_sA (q_sA s 14 (upd (s.1 14) 18 3834)) 15 (upd (s.1 15) 6 (vp_nar .boolean 0))))
set_option maxHeartbeats 4000000 in
theorem dzt_M277_64 (s : q_S) (c n : Nat) (x : q_S) (h : dz_M277_64 s = some x) : q_Ca q_TB0 11 276 [.ref 64] (q_kM s c n) ((q_oSM c n) x) := by
  refine q_CaP_of (φ := (q_oSM c n)) (Nat.le_of_ble_eq_true rfl) ?_ h
  clear h
  unfold dz_M277_64
  refine q_RP_seg (g2 := (13, [(0, .ref 64)], [.int ((s.1 15) 6), .int 18, .ref 78], (q_kM s c n))) 7 (fun _ _ => rfl) ?_
  cases h1253 : decide ((s.1 15) 6 = 0) with
  | true =>
    refine q_RP_cT ?_
    refine q_RP_rsT (g2 := (22, [(0, .ref 64)], [.int 18, .ref 78], (q_kM s c n))) rfl rfl h1253 ?_
    refine q_RP_seg (g2 := (29, [(0, .ref 64)], [.int ((s.1 14) 9), .int 18, .ref 78], (q_kM s c n))) 4 (fun _ _ => rfl) ?_
    refine q_RP_seg (g2 := (36, [(0, .ref 64)], [.int ((s.1 4) 11), .int ((s.1 14) 9), .int 18, .ref 78], (q_kM s c n))) 4 (fun _ _ => rfl) ?_
    refine q_RP_seg (g2 := (37, [(0, .ref 64)], [.int (((s.1 14) 9) &&& ((s.1 4) 11)), .int 18, .ref 78], (q_kM s c n))) 1 (fun _ _ => rfl) ?_
    cases h1254 : decide (((s.1 14) 9) &&& ((s.1 4) 11) = 0) with
    | true =>
      refine q_RP_cT ?_
      refine q_RP_rsT (g2 := (55, [(0, .ref 64)], [.int 18, .ref 78], (q_kM s c n))) rfl rfl h1254 ?_
      refine q_RP_seg (g2 := (64, [(0, .ref 64)], [.int ((s.1 15) 6)], (q_kM (q_sA s 14 (upd (s.1 14) 18 0)) c n))) 6 (fun _ _ => rfl) ?_
      refine q_RP_rsT (g2 := (75, [(0, .ref 64)], [], (q_kM (q_sA s 14 (upd (s.1 14) 18 0)) c n))) rfl rfl h1253 ?_
      exact (dzt_M277_64_75 c n (q_sA s 14 (upd (s.1 14) 18 0)))
    | false =>
      refine q_RP_cF ?_
      refine q_RP_rsF (g2 := (40, [(0, .ref 64)], [.int 18, .ref 78], (q_kM s c n))) rfl rfl h1254 ?_
      refine q_RP_seg (g2 := (46, [(0, .ref 64)], [.int ((s.1 15) 3), .int 18, .ref 78], (q_kM s c n))) 4 (fun _ _ => rfl) ?_
      cases h1256 : decide ((s.1 15) 3 = 0) with
      | true =>
        refine q_RP_cT ?_
        refine q_RP_rsF (g2 := (49, [(0, .ref 64)], [.int 18, .ref 78], (q_kM s c n))) rfl rfl (q_d_neT h1256) ?_
        refine q_RP_seg (g2 := (64, [(0, .ref 64)], [.int ((s.1 15) 6)], (q_kM (q_sA s 14 (upd (s.1 14) 18 3838)) c n))) 7 (fun _ _ => rfl) ?_
        refine q_RP_rsT (g2 := (75, [(0, .ref 64)], [], (q_kM (q_sA s 14 (upd (s.1 14) 18 3838)) c n))) rfl rfl h1253 ?_
        exact (dzt_M277_64_75 c n (q_sA s 14 (upd (s.1 14) 18 3838)))
      | false =>
        refine q_RP_cF ?_
        refine q_RP_rsT (g2 := (55, [(0, .ref 64)], [.int 18, .ref 78], (q_kM s c n))) rfl rfl (q_d_neF h1256) ?_
        refine q_RP_seg (g2 := (64, [(0, .ref 64)], [.int ((s.1 15) 6)], (q_kM (q_sA s 14 (upd (s.1 14) 18 0)) c n))) 6 (fun _ _ => rfl) ?_
        refine q_RP_rsT (g2 := (75, [(0, .ref 64)], [], (q_kM (q_sA s 14 (upd (s.1 14) 18 0)) c n))) rfl rfl h1253 ?_
        exact (dzt_M277_64_75 c n (q_sA s 14 (upd (s.1 14) 18 0)))
  | false =>
    refine q_RP_cF ?_
    refine q_RP_rsF (g2 := (16, [(0, .ref 64)], [.int 18, .ref 78], (q_kM s c n))) rfl rfl h1253 ?_
    refine q_RP_seg (g2 := (64, [(0, .ref 64)], [.int ((s.1 15) 6)], (q_kM (q_sA s 14 (upd (s.1 14) 18 3834)) c n))) 7 (fun _ _ => rfl) ?_
    refine q_RP_rsF (g2 := (67, [(0, .ref 64)], [], (q_kM (q_sA s 14 (upd (s.1 14) 18 3834)) c n))) rfl rfl h1253 ?_
    refine q_RP_seg (g2 := (75, [(0, .ref 64)], [], (q_kM (q_sA (q_sA s 14 (upd (s.1 14) 18 3834)) 15 (upd (s.1 15) 6 (vp_nar .boolean 0))) c n))) 5 (fun _ _ => rfl) ?_
    exact (dzt_M277_64_75 c n (q_sA (q_sA s 14 (upd (s.1 14) 18 3834)) 15 (upd (s.1 15) 6 (vp_nar .boolean 0))))
def dz_M255_64 (s : q_S) (a1 : Int32) : Option (q_S) :=
  cond (q_in ((256 : Int32) + ((s.1 14) 3)) 4096) (some (q_sA (q_sA s 1 (upd (s.1 1) (((256 : Int32) + ((s.1 14) 3)).toNatClampNeg) a1)) 14 (upd (s.1 14) 3 ((((s.1 14) 3) + 255) - (((s.1 14) 3) + 255) / 256 * 256)))) none
set_option maxHeartbeats 4000000 in
theorem dzt_M255_64 (s : q_S) (c n : Nat) (a1 : Int32) (x : q_S) (h : dz_M255_64 s a1 = some x) : q_Ca q_TB0 1 254 [.ref 64, .int a1] (q_kM s c n) ((q_oSM c n) x) := by
  refine q_CaP_of (φ := (q_oSM c n)) (Nat.le_of_ble_eq_true rfl) ?_ h
  clear h
  unfold dz_M255_64
  refine q_RP_seg (g2 := (13, [(0, .ref 64), (1, .int a1)], [.int ((s.1 14) 3), .int 256, .ref 65], (q_kM s c n))) 7 (fun _ _ => rfl) ?_
  refine q_RP_seg (g2 := (15, [(0, .ref 64), (1, .int a1)], [.int a1, .int ((256 : Int32) + ((s.1 14) 3)), .ref 65], (q_kM s c n))) 2 (fun _ _ => rfl) ?_
  refine q_RP_as fun i1261 => ?_
  refine q_RP_rsT (g2 := (16, [(0, .ref 64), (1, .int a1)], [], (q_kM (q_sA s 1 (upd (s.1 1) (((256 : Int32) + ((s.1 14) 3)).toNatClampNeg) a1)) c n))) rfl q_wM1 i1261 ?_
  refine q_RP_seg (g2 := (27, [(0, .ref 64), (1, .int a1)], [.int ((s.1 14) 3), .int 3, .ref 78], (q_kM (q_sA s 1 (upd (s.1 1) (((256 : Int32) + ((s.1 14) 3)).toNatClampNeg) a1)) c n))) 7 (fun _ _ => rfl) ?_
  refine q_RP_seg (g2 := (36, [(0, .ref 64), (1, .int a1)], [], (q_kM (q_sA (q_sA s 1 (upd (s.1 1) (((256 : Int32) + ((s.1 14) 3)).toNatClampNeg) a1)) 14 (upd (s.1 14) 3 ((((s.1 14) 3) + 255) - (((s.1 14) 3) + 255) / 256 * 256))) c n))) 5 (fun _ _ => rfl) ?_
  exact q_RP_ret rfl rfl rfl
def dz_M257_64 (s : q_S) (a1 : Int32) (a2 : Int32) : Option (Int32) :=
  cond (q_in a1 8) (cond (decide ((s.1 15) (a1.toNatClampNeg) = 0)) (some 0) (some a2)) none
set_option maxHeartbeats 4000000 in
theorem dzt_M257_64 (s : q_S) (c n : Nat) (a1 : Int32) (a2 : Int32) (x : Int32) (h : dz_M257_64 s a1 a2 = some x) : q_Ca q_TB0 1 256 [.ref 64, .int a1, .int a2] (q_kM s c n) ((q_oP (q_kM s c n)) x) := by
  refine q_CaP_of (φ := (q_oP (q_kM s c n))) (Nat.le_of_ble_eq_true rfl) ?_ h
  clear h
  unfold dz_M257_64
  refine q_RP_seg (g2 := (5, [(0, .ref 64), (1, .int a1), (2, .int a2)], [.int a1, .ref 79], (q_kM s c n))) 3 (fun _ _ => rfl) ?_
  refine q_RP_as fun i1262 => ?_
  refine q_RP_rsT (g2 := (6, [(0, .ref 64), (1, .int a1), (2, .int a2)], [.int ((s.1 15) (a1.toNatClampNeg))], (q_kM s c n))) rfl rfl i1262 ?_
  cases h1263 : decide ((s.1 15) (a1.toNatClampNeg) = 0) with
  | true =>
    refine q_RP_cT ?_
    refine q_RP_rsT (g2 := (13, [(0, .ref 64), (1, .int a1), (2, .int a2)], [], (q_kM s c n))) rfl rfl h1263 ?_
    refine q_RP_seg (g2 := (14, [(0, .ref 64), (1, .int a1), (2, .int a2)], [.int 0], (q_kM s c n))) 1 (fun _ _ => rfl) ?_
    exact q_RP_ret rfl rfl rfl
  | false =>
    refine q_RP_cF ?_
    refine q_RP_rsF (g2 := (9, [(0, .ref 64), (1, .int a1), (2, .int a2)], [], (q_kM s c n))) rfl rfl h1263 ?_
    refine q_RP_seg (g2 := (14, [(0, .ref 64), (1, .int a1), (2, .int a2)], [.int a2], (q_kM s c n))) 2 (fun _ _ => rfl) ?_
    exact q_RP_ret rfl rfl rfl
def dz_M258_64 (s : q_S) (a1 : Int32) : Option (Int32) :=
  (dz_M257_64 s 5 1).bind fun r921 => (dz_M257_64 s 4 2).bind fun r922 => (dz_M257_64 s 3 4).bind fun r923 => (dz_M257_64 s 2 8).bind fun r924 => (dz_M257_64 s 1 64).bind fun r925 => (dz_M257_64 s 0 128).bind fun r926 => some (((((((r921 + r922) + r923) + r924) + a1) + 32) + r925) + r926)
set_option maxHeartbeats 4000000 in
theorem dzt_M258_64 (s : q_S) (c n : Nat) (a1 : Int32) (x : Int32) (h : dz_M258_64 s a1 = some x) : q_Ca q_TB0 2 257 [.ref 64, .int a1] (q_kM s c n) ((q_oP (q_kM s c n)) x) := by
  refine q_CaP_of (φ := (q_oP (q_kM s c n))) (Nat.le_of_ble_eq_true rfl) ?_ h
  clear h
  unfold dz_M258_64
  refine q_RP_seg (g2 := (3, [(0, .ref 64), (1, .int a1)], [.int 1, .int 5, .ref 64], (q_kM s c n))) 3 (fun _ _ => rfl) ?_
  refine q_RP_bd fun r921 er921 => ?_
  refine q_RP_call (v := (some (.int r921))) (h2 := (q_kM s c n)) rfl rfl ((dzt_M257_64 s c n 5 1 r921 er921).le (Nat.le_of_ble_eq_true rfl)) ?_
  show q_RP _ _ _ (6, [(0, .ref 64), (1, .int a1)], [.int r921], (q_kM s c n)) _ _
  refine q_RP_seg (g2 := (9, [(0, .ref 64), (1, .int a1)], [.int 2, .int 4, .ref 64, .int r921], (q_kM s c n))) 3 (fun _ _ => rfl) ?_
  refine q_RP_bd fun r922 er922 => ?_
  refine q_RP_call (v := (some (.int r922))) (h2 := (q_kM s c n)) rfl rfl ((dzt_M257_64 s c n 4 2 r922 er922).le (Nat.le_of_ble_eq_true rfl)) ?_
  show q_RP _ _ _ (12, [(0, .ref 64), (1, .int a1)], [.int r922, .int r921], (q_kM s c n)) _ _
  refine q_RP_seg (g2 := (16, [(0, .ref 64), (1, .int a1)], [.int 4, .int 3, .ref 64, .int (r921 + r922)], (q_kM s c n))) 4 (fun _ _ => rfl) ?_
  refine q_RP_bd fun r923 er923 => ?_
  refine q_RP_call (v := (some (.int r923))) (h2 := (q_kM s c n)) rfl rfl ((dzt_M257_64 s c n 3 4 r923 er923).le (Nat.le_of_ble_eq_true rfl)) ?_
  show q_RP _ _ _ (19, [(0, .ref 64), (1, .int a1)], [.int r923, .int (r921 + r922)], (q_kM s c n)) _ _
  refine q_RP_seg (g2 := (24, [(0, .ref 64), (1, .int a1)], [.int 8, .int 2, .ref 64, .int ((r921 + r922) + r923)], (q_kM s c n))) 4 (fun _ _ => rfl) ?_
  refine q_RP_bd fun r924 er924 => ?_
  refine q_RP_call (v := (some (.int r924))) (h2 := (q_kM s c n)) rfl rfl ((dzt_M257_64 s c n 2 8 r924 er924).le (Nat.le_of_ble_eq_true rfl)) ?_
  show q_RP _ _ _ (27, [(0, .ref 64), (1, .int a1)], [.int r924, .int ((r921 + r922) + r923)], (q_kM s c n)) _ _
  refine q_RP_seg (g2 := (37, [(0, .ref 64), (1, .int a1)], [.int 64, .int 1, .ref 64, .int (((((r921 + r922) + r923) + r924) + a1) + 32)], (q_kM s c n))) 8 (fun _ _ => rfl) ?_
  refine q_RP_bd fun r925 er925 => ?_
  refine q_RP_call (v := (some (.int r925))) (h2 := (q_kM s c n)) rfl rfl ((dzt_M257_64 s c n 1 64 r925 er925).le (Nat.le_of_ble_eq_true rfl)) ?_
  show q_RP _ _ _ (40, [(0, .ref 64), (1, .int a1)], [.int r925, .int (((((r921 + r922) + r923) + r924) + a1) + 32)], (q_kM s c n)) _ _
  refine q_RP_seg (g2 := (46, [(0, .ref 64), (1, .int a1)], [.int 128, .int 0, .ref 64, .int ((((((r921 + r922) + r923) + r924) + a1) + 32) + r925)], (q_kM s c n))) 4 (fun _ _ => rfl) ?_
  refine q_RP_bd fun r926 er926 => ?_
  refine q_RP_call (v := (some (.int r926))) (h2 := (q_kM s c n)) rfl rfl ((dzt_M257_64 s c n 0 128 r926 er926).le (Nat.le_of_ble_eq_true rfl)) ?_
  show q_RP _ _ _ (49, [(0, .ref 64), (1, .int a1)], [.int r926, .int ((((((r921 + r922) + r923) + r924) + a1) + 32) + r925)], (q_kM s c n)) _ _
  refine q_RP_seg (g2 := (50, [(0, .ref 64), (1, .int a1)], [.int (((((((r921 + r922) + r923) + r924) + a1) + 32) + r925) + r926)], (q_kM s c n))) 1 (fun _ _ => rfl) ?_
  exact q_RP_ret rfl rfl rfl
def dz_M260_64 (s : q_S) (a1 : Int32) (a2 : Int32) (a3 : Int32) : Option (q_S) :=
  (dz_M255_64 s (a2 / 256)).bind fun r918 => (dz_M255_64 r918 (a2 - a2 / 256 * 256)).bind fun r919 => (dz_M258_64 r919 a3).bind fun r927 => (dz_M255_64 r919 r927).bind fun r928 => (dz_M248_64 (q_sA r928 15 (upd (r928.1 15) 3 (vp_nar .boolean 1))) a1).bind fun r929 => some (q_sA r929.1 14 (upd (r929.1.1 14) 4 r929.2))
set_option maxHeartbeats 4000000 in
theorem dzt_M260_64 (s : q_S) (c n : Nat) (a1 : Int32) (a2 : Int32) (a3 : Int32) (x : q_S) (h : dz_M260_64 s a1 a2 a3 = some x) : q_Ca q_TB0 7 259 [.ref 64, .int a1, .int a2, .int a3] (q_kM s c n) ((q_oSM c n) x) := by
  refine q_CaP_of (φ := (q_oSM c n)) (Nat.le_of_ble_eq_true rfl) ?_ h
  clear h
  unfold dz_M260_64
  refine q_RP_seg (g2 := (6, [(0, .ref 64), (1, .int a1), (2, .int a2), (3, .int a3)], [.int (a2 / 256), .ref 64], (q_kM s c n))) 4 (fun _ _ => rfl) ?_
  refine q_RP_bd fun r918 er918 => ?_
  refine q_RP_call (v := none) (h2 := (q_kM r918 c n)) rfl rfl ((dzt_M255_64 s c n (a2 / 256) r918 er918).le (Nat.le_of_ble_eq_true rfl)) ?_
  show q_RP _ _ _ (9, [(0, .ref 64), (1, .int a1), (2, .int a2), (3, .int a3)], [], (q_kM r918 c n)) _ _
  refine q_RP_seg (g2 := (15, [(0, .ref 64), (1, .int a1), (2, .int a2), (3, .int a3)], [.int (a2 - a2 / 256 * 256), .ref 64], (q_kM r918 c n))) 4 (fun _ _ => rfl) ?_
  refine q_RP_bd fun r919 er919 => ?_
  refine q_RP_call (v := none) (h2 := (q_kM r919 c n)) rfl rfl ((dzt_M255_64 r918 c n (a2 - a2 / 256 * 256) r919 er919).le (Nat.le_of_ble_eq_true rfl)) ?_
  show q_RP _ _ _ (18, [(0, .ref 64), (1, .int a1), (2, .int a2), (3, .int a3)], [], (q_kM r919 c n)) _ _
  refine q_RP_seg (g2 := (21, [(0, .ref 64), (1, .int a1), (2, .int a2), (3, .int a3)], [.int a3, .ref 64, .ref 64], (q_kM r919 c n))) 3 (fun _ _ => rfl) ?_
  refine q_RP_bd fun r927 er927 => ?_
  refine q_RP_call (v := (some (.int r927))) (h2 := (q_kM r919 c n)) rfl rfl ((dzt_M258_64 r919 c n a3 r927 er927).le (Nat.le_of_ble_eq_true rfl)) ?_
  show q_RP _ _ _ (24, [(0, .ref 64), (1, .int a1), (2, .int a2), (3, .int a3)], [.int r927, .ref 64], (q_kM r919 c n)) _ _
  refine q_RP_bd fun r928 er928 => ?_
  refine q_RP_call (v := none) (h2 := (q_kM r928 c n)) rfl rfl ((dzt_M255_64 r919 c n r927 r928 er928).le (Nat.le_of_ble_eq_true rfl)) ?_
  show q_RP _ _ _ (27, [(0, .ref 64), (1, .int a1), (2, .int a2), (3, .int a3)], [], (q_kM r928 c n)) _ _
  refine q_RP_seg (g2 := (41, [(0, .ref 64), (1, .int a1), (2, .int a2), (3, .int a3)], [.int a1, .ref 64, .int 4, .ref 78], (q_kM (q_sA r928 15 (upd (r928.1 15) 3 (vp_nar .boolean 1))) c n))) 10 (fun _ _ => rfl) ?_
  refine q_RP_bd fun r929 er929 => ?_
  refine q_RP_call (v := (some (.int r929.2))) (h2 := (q_kM r929.1 c n)) rfl rfl ((dzt_M248_64 (q_sA r928 15 (upd (r928.1 15) 3 (vp_nar .boolean 1))) c n a1 r929 er929).le (Nat.le_of_ble_eq_true rfl)) ?_
  show q_RP _ _ _ (44, [(0, .ref 64), (1, .int a1), (2, .int a2), (3, .int a3)], [.int r929.2, .int 4, .ref 78], (q_kM r929.1 c n)) _ _
  refine q_RP_seg (g2 := (45, [(0, .ref 64), (1, .int a1), (2, .int a2), (3, .int a3)], [], (q_kM (q_sA r929.1 14 (upd (r929.1.1 14) 4 r929.2)) c n))) 1 (fun _ _ => rfl) ?_
  exact q_RP_ret rfl rfl rfl
def dz_M256_64 (s : q_S) : Option (q_S × Int32) :=
  cond (q_in ((256 : Int32) + ((upd (s.1 14) 3 ((((s.1 14) 3) + 1) - (((s.1 14) 3) + 1) / 256 * 256)) 3)) 4096) (some ((q_sA s 14 (upd (s.1 14) 3 ((((s.1 14) 3) + 1) - (((s.1 14) 3) + 1) / 256 * 256))), ((s.1 1) (((256 : Int32) + ((upd (s.1 14) 3 ((((s.1 14) 3) + 1) - (((s.1 14) 3) + 1) / 256 * 256)) 3)).toNatClampNeg)))) none
set_option maxHeartbeats 4000000 in
theorem dzt_M256_64 (s : q_S) (c n : Nat) (x : q_S × Int32) (h : dz_M256_64 s = some x) : q_Ca q_TB0 1 255 [.ref 64] (q_kM s c n) ((q_oIM c n) x) := by
  refine q_CaP_of (φ := (q_oIM c n)) (Nat.le_of_ble_eq_true rfl) ?_ h
  clear h
  unfold dz_M256_64
  refine q_RP_seg (g2 := (11, [(0, .ref 64)], [.int ((s.1 14) 3), .int 3, .ref 78], (q_kM s c n))) 7 (fun _ _ => rfl) ?_
  refine q_RP_seg (g2 := (31, [(0, .ref 64)], [.int ((upd (s.1 14) 3 ((((s.1 14) 3) + 1) - (((s.1 14) 3) + 1) / 256 * 256)) 3), .int 256, .ref 65], (q_kM (q_sA s 14 (upd (s.1 14) 3 ((((s.1 14) 3) + 1) - (((s.1 14) 3) + 1) / 256 * 256))) c n))) 12 (fun _ _ => rfl) ?_
  refine q_RP_seg (g2 := (32, [(0, .ref 64)], [.int ((256 : Int32) + ((upd (s.1 14) 3 ((((s.1 14) 3) + 1) - (((s.1 14) 3) + 1) / 256 * 256)) 3)), .ref 65], (q_kM (q_sA s 14 (upd (s.1 14) 3 ((((s.1 14) 3) + 1) - (((s.1 14) 3) + 1) / 256 * 256))) c n))) 1 (fun _ _ => rfl) ?_
  refine q_RP_as fun i1268 => ?_
  refine q_RP_rsT (g2 := (33, [(0, .ref 64)], [.int ((s.1 1) (((256 : Int32) + ((upd (s.1 14) 3 ((((s.1 14) 3) + 1) - (((s.1 14) 3) + 1) / 256 * 256)) 3)).toNatClampNeg))], (q_kM (q_sA s 14 (upd (s.1 14) 3 ((((s.1 14) 3) + 1) - (((s.1 14) 3) + 1) / 256 * 256))) c n))) rfl rfl i1268 ?_
  exact q_RP_ret rfl rfl rfl
