section
-- 45.ydec
/-! ===== methods as functions of what the cells hold ===== -/
abbrev q_S : Type := (Nat → Nat → Int32) × (Nat → Nat → Int32) × (Nat → Nat → Int64)
def q_sA (s : q_S) (i : Nat) (f : Nat → Int32) : q_S := (q_uA s.1 i f, s.2.1, s.2.2)
def q_sI (s : q_S) (i k : Nat) (x : Int32) : q_S := (s.1, q_uI s.2.1 i k x, s.2.2)
def q_sJ (s : q_S) (i k : Nat) (x : Int64) : q_S := (s.1, s.2.1, q_uI s.2.2 i k x)
def q_sL (s : q_S) (i : Nat) (f : Nat → Int64) : q_S := (s.1, s.2.1, q_uA s.2.2 i f)
def q_cN (A : Nat → Nat → Int32) (I : Nat → Nat → Int32) (J : Nat → Nat → Int64) : List q_C := [.inr (7, [.ref 65, .ref 87, .ref 89, .ref 95, .long (J 0 4)]), .inr (4, [.ref 66, .ref 69, .ref 70, .ref 71, .ref 72, .ref 74, .ref 77, .ref 82, .long (J 1 8)]), .inr (10, [.ref 67, .ref 68]), .inl (0, 4096, .inl (A 3)), .inl (0, 48, .inl (A 4)), .inl (0, 512, .inl (A 5)), .inl (0, 2048, .inl (A 6)), .inl (0, 2, .inl (A 7)), .inr (11, [.ref 73, .int (I 8 1), .int (I 8 2), .int (I 8 3), .int (I 8 4)]), .inl (0, 40, .inl (A 9)), .inr (6, [.ref 75, .ref 76, .int (I 10 2)]), .inl (0, 4, .inl (A 11)), .inl (0, 16, .inl (A 12)), .inr (5, [.ref 78, .ref 81, .int (I 13 2), .int (I 13 3)]), .inr (10, [.ref 79, .ref 80]), .inl (0, 4096, .inl (A 15)), .inl (0, 48, .inl (A 16)), .inl (0, 3072, .inl (A 17)), .inr (5, [.ref 83, .ref 86, .int (I 18 2), .int (I 18 3)]), .inr (10, [.ref 84, .ref 85]), .inl (0, 4096, .inl (A 20)), .inl (0, 48, .inl (A 21)), .inl (0, 3072, .inl (A 22)), .inr (8, [.int (I 23 0), .int (I 23 1), .int (I 23 2), .int (I 23 3), .int (I 23 4), .int (I 23 5), .int (I 23 6), .int (I 23 7), .int (I 23 8), .int (I 23 9), .int (I 23 10), .int (I 23 11), .ref 88]), .inl (0, 16, .inl (A 24)), .inr (12, [.ref 90, .ref 91, .ref 92, .ref 93, .ref 94]), .inl (0, 3, .inl (A 26)), .inl (0, 3, .inl (A 27)), .inl (0, 3, .inl (A 28)), .inl (0, 3, .inl (A 29)), .inl (0, 40, .inl (A 30)), .inl (0, 1024, .inl (A 31)), .inr (10, [.ref 97, .ref 98]), .inl (0, 4096, .inl (A 33)), .inl (0, 48, .inl (A 34))]
def q_kN (s : q_S) (c n : Nat) : q_H := (q_cN s.1 s.2.1 s.2.2, c, n)
def q_cW (A : Nat → Nat → Int32) (I : Nat → Nat → Int32) (J : Nat → Nat → Int64) : List q_C := [.inr (7, [.ref 65, .ref 87, .ref 89, .ref 95, .long (J 0 4)]), .inr (4, [.ref 66, .ref 69, .ref 70, .ref 71, .ref 72, .ref 74, .ref 77, .ref 82, .long (J 1 8)]), .inr (10, [.ref 67, .ref 68]), .inl (0, 4096, .inl (A 3)), .inl (0, 48, .inl (A 4)), .inl (0, 512, .inl (A 5)), .inl (0, 2048, .inl (A 6)), .inl (0, 2, .inl (A 7)), .inr (11, [.ref 73, .int (I 8 1), .int (I 8 2), .int (I 8 3), .int (I 8 4)]), .inl (0, 40, .inl (A 9)), .inr (6, [.ref 75, .ref 76, .int (I 10 2)]), .inl (0, 4, .inl (A 11)), .inl (0, 16, .inl (A 12)), .inr (5, [.ref 78, .ref 81, .int (I 13 2), .int (I 13 3)]), .inr (10, [.ref 79, .ref 80]), .inl (0, 4096, .inl (A 15)), .inl (0, 48, .inl (A 16)), .inl (0, 3072, .inl (A 17)), .inr (5, [.ref 83, .ref 86, .int (I 18 2), .int (I 18 3)]), .inr (10, [.ref 84, .ref 85]), .inl (0, 4096, .inl (A 20)), .inl (0, 48, .inl (A 21)), .inl (0, 3072, .inl (A 22)), .inr (8, [.int (I 23 0), .int (I 23 1), .int (I 23 2), .int (I 23 3), .int (I 23 4), .int (I 23 5), .int (I 23 6), .int (I 23 7), .int (I 23 8), .int (I 23 9), .int (I 23 10), .int (I 23 11), .ref 88]), .inl (0, 16, .inl (A 24)), .inr (12, [.ref 90, .ref 91, .ref 92, .ref 93, .ref 94]), .inl (0, 3, .inl (A 26)), .inl (0, 3, .inl (A 27)), .inl (0, 3, .inl (A 28)), .inl (0, 3, .inl (A 29)), .inl (0, 40, .inl (A 30)), .inl (0, 1024, .inl (A 31)), .inr (7, [.ref 97, .ref 119, .ref 121, .ref 127, .long (J 32 4)]), .inr (4, [.ref 98, .ref 101, .ref 102, .ref 103, .ref 104, .ref 106, .ref 109, .ref 114, .long (J 33 8)]), .inr (10, [.ref 99, .ref 100]), .inl (0, 4096, .inl (A 35)), .inl (0, 48, .inl (A 36)), .inl (0, 512, .inl (A 37)), .inl (0, 2048, .inl (A 38)), .inl (0, 2, .inl (A 39)), .inr (11, [.ref 105, .int (I 40 1), .int (I 40 2), .int (I 40 3), .int (I 40 4)]), .inl (0, 40, .inl (A 41)), .inr (6, [.ref 107, .ref 108, .int (I 42 2)]), .inl (0, 4, .inl (A 43)), .inl (0, 16, .inl (A 44)), .inr (5, [.ref 110, .ref 113, .int (I 45 2), .int (I 45 3)]), .inr (10, [.ref 111, .ref 112]), .inl (0, 4096, .inl (A 47)), .inl (0, 48, .inl (A 48)), .inl (0, 3072, .inl (A 49)), .inr (5, [.ref 115, .ref 118, .int (I 50 2), .int (I 50 3)]), .inr (10, [.ref 116, .ref 117]), .inl (0, 4096, .inl (A 52)), .inl (0, 48, .inl (A 53)), .inl (0, 3072, .inl (A 54)), .inr (8, [.int (I 55 0), .int (I 55 1), .int (I 55 2), .int (I 55 3), .int (I 55 4), .int (I 55 5), .int (I 55 6), .int (I 55 7), .int (I 55 8), .int (I 55 9), .int (I 55 10), .int (I 55 11), .ref 120]), .inl (0, 16, .inl (A 56)), .inr (12, [.ref 122, .ref 123, .ref 124, .ref 125, .ref 126]), .inl (0, 3, .inl (A 58)), .inl (0, 3, .inl (A 59)), .inl (0, 3, .inl (A 60)), .inl (0, 3, .inl (A 61)), .inl (0, 40, .inl (A 62)), .inl (0, 1024, .inl (A 63))]
def q_kW (s : q_S) (c n : Nat) : q_H := (q_cW s.1 s.2.1 s.2.2, c, n)
def q_cB (A : Nat → Nat → Int32) (I : Nat → Nat → Int32) (J : Nat → Nat → Int64) : List q_C := [.inr (1, [.ref 65, .int 0, .int (I 0 2), .int (I 0 3)]), .inl (4, 16, .inl (A 1))]
def q_kB (s : q_S) (c n : Nat) : q_H := (q_cB s.1 s.2.1 s.2.2, c, n)
def q_kX (s : q_S) (c n : Nat) : q_H := (q_cX s.1 s.2.1 s.2.2, c, n)
def q_kM (s : q_S) (c n : Nat) : q_H := (q_cM s.1 s.2.1 s.2.2, c, n)
def q_cL (A : Nat → Nat → Int32) (I : Nat → Nat → Int32) (J : Nat → Nat → Int64) : List q_C := [.inr (13, [.ref 65, .ref 97, .int (I 0 2), .ref 98, .ref 135, .ref 137]), .inr (7, [.ref 66, .ref 88, .ref 90, .ref 96, .long (J 1 4)]), .inr (4, [.ref 67, .ref 70, .ref 71, .ref 72, .ref 73, .ref 75, .ref 78, .ref 83, .long (J 2 8)]), .inr (10, [.ref 68, .ref 69]), .inl (0, 4096, .inl (A 4)), .inl (0, 48, .inl (A 5)), .inl (0, 512, .inl (A 6)), .inl (0, 2048, .inl (A 7)), .inl (0, 2, .inl (A 8)), .inr (11, [.ref 74, .int (I 9 1), .int (I 9 2), .int (I 9 3), .int (I 9 4)]), .inl (0, 40, .inl (A 10)), .inr (6, [.ref 76, .ref 77, .int (I 11 2)]), .inl (0, 4, .inl (A 12)), .inl (0, 16, .inl (A 13)), .inr (5, [.ref 79, .ref 82, .int (I 14 2), .int (I 14 3)]), .inr (10, [.ref 80, .ref 81]), .inl (0, 4096, .inl (A 16)), .inl (0, 48, .inl (A 17)), .inl (0, 3072, .inl (A 18)), .inr (5, [.ref 84, .ref 87, .int (I 19 2), .int (I 19 3)]), .inr (10, [.ref 85, .ref 86]), .inl (0, 4096, .inl (A 21)), .inl (0, 48, .inl (A 22)), .inl (0, 3072, .inl (A 23)), .inr (8, [.int (I 24 0), .int (I 24 1), .int (I 24 2), .int (I 24 3), .int (I 24 4), .int (I 24 5), .int (I 24 6), .int (I 24 7), .int (I 24 8), .int (I 24 9), .int (I 24 10), .int (I 24 11), .ref 89]), .inl (0, 16, .inl (A 25)), .inr (12, [.ref 91, .ref 92, .ref 93, .ref 94, .ref 95]), .inl (0, 3, .inl (A 27)), .inl (0, 3, .inl (A 28)), .inl (0, 3, .inl (A 29)), .inl (0, 3, .inl (A 30)), .inl (0, 40, .inl (A 31)), .inl (0, 1024, .inl (A 32)), .inl (5, 3, .inr (.inr (.inr (.inr (va_up (va_up (va_up (fun _ => none) 0 (some 140)) 1 (some 172)) 2 (some 204)))))), .inr (9, [.ref 99, .ref 131, .ref 132, .ref 133, .ref 134, .int (I 34 5), .int (I 34 6), .int (I 34 7)]), .inr (7, [.ref 100, .ref 122, .ref 124, .ref 130, .long (J 35 4)]), .inr (4, [.ref 101, .ref 104, .ref 105, .ref 106, .ref 107, .ref 109, .ref 112, .ref 117, .long (J 36 8)]), .inr (10, [.ref 102, .ref 103]), .inl (0, 4096, .inl (A 38)), .inl (0, 48, .inl (A 39)), .inl (0, 512, .inl (A 40)), .inl (0, 2048, .inl (A 41)), .inl (0, 2, .inl (A 42)), .inr (11, [.ref 108, .int (I 43 1), .int (I 43 2), .int (I 43 3), .int (I 43 4)]), .inl (0, 40, .inl (A 44)), .inr (6, [.ref 110, .ref 111, .int (I 45 2)]), .inl (0, 4, .inl (A 46)), .inl (0, 16, .inl (A 47)), .inr (5, [.ref 113, .ref 116, .int (I 48 2), .int (I 48 3)]), .inr (10, [.ref 114, .ref 115]), .inl (0, 4096, .inl (A 50)), .inl (0, 48, .inl (A 51)), .inl (0, 3072, .inl (A 52)), .inr (5, [.ref 118, .ref 121, .int (I 53 2), .int (I 53 3)]), .inr (10, [.ref 119, .ref 120]), .inl (0, 4096, .inl (A 55)), .inl (0, 48, .inl (A 56)), .inl (0, 3072, .inl (A 57)), .inr (8, [.int (I 58 0), .int (I 58 1), .int (I 58 2), .int (I 58 3), .int (I 58 4), .int (I 58 5), .int (I 58 6), .int (I 58 7), .int (I 58 8), .int (I 58 9), .int (I 58 10), .int (I 58 11), .ref 123]), .inl (0, 16, .inl (A 59)), .inr (12, [.ref 125, .ref 126, .ref 127, .ref 128, .ref 129]), .inl (0, 3, .inl (A 61)), .inl (0, 3, .inl (A 62)), .inl (0, 3, .inl (A 63)), .inl (0, 3, .inl (A 64)), .inl (0, 40, .inl (A 65)), .inl (0, 1024, .inl (A 66)), .inl (0, 512, .inl (A 67)), .inl (0, 512, .inl (A 68)), .inl (0, 512, .inl (A 69)), .inl (0, 512, .inl (A 70)), .inr (1, [.ref 136, .int 0, .int (I 71 2), .int (I 71 3)]), .inl (4, 16, .inl (A 72)), .inr (10, [.ref 138, .ref 139]), .inl (0, 4096, .inl (A 74)), .inl (0, 48, .inl (A 75)), .inr (7, [.ref 141, .ref 163, .ref 165, .ref 171, .long (J 76 4)]), .inr (4, [.ref 142, .ref 145, .ref 146, .ref 147, .ref 148, .ref 150, .ref 153, .ref 158, .long (J 77 8)]), .inr (10, [.ref 143, .ref 144]), .inl (0, 4096, .inl (A 79)), .inl (0, 48, .inl (A 80)), .inl (0, 512, .inl (A 81)), .inl (0, 2048, .inl (A 82)), .inl (0, 2, .inl (A 83)), .inr (11, [.ref 149, .int (I 84 1), .int (I 84 2), .int (I 84 3), .int (I 84 4)]), .inl (0, 40, .inl (A 85)), .inr (6, [.ref 151, .ref 152, .int (I 86 2)]), .inl (0, 4, .inl (A 87)), .inl (0, 16, .inl (A 88)), .inr (5, [.ref 154, .ref 157, .int (I 89 2), .int (I 89 3)]), .inr (10, [.ref 155, .ref 156]), .inl (0, 4096, .inl (A 91)), .inl (0, 48, .inl (A 92)), .inl (0, 3072, .inl (A 93)), .inr (5, [.ref 159, .ref 162, .int (I 94 2), .int (I 94 3)]), .inr (10, [.ref 160, .ref 161]), .inl (0, 4096, .inl (A 96)), .inl (0, 48, .inl (A 97)), .inl (0, 3072, .inl (A 98)), .inr (8, [.int (I 99 0), .int (I 99 1), .int (I 99 2), .int (I 99 3), .int (I 99 4), .int (I 99 5), .int (I 99 6), .int (I 99 7), .int (I 99 8), .int (I 99 9), .int (I 99 10), .int (I 99 11), .ref 164]), .inl (0, 16, .inl (A 100)), .inr (12, [.ref 166, .ref 167, .ref 168, .ref 169, .ref 170]), .inl (0, 3, .inl (A 102)), .inl (0, 3, .inl (A 103)), .inl (0, 3, .inl (A 104)), .inl (0, 3, .inl (A 105)), .inl (0, 40, .inl (A 106)), .inl (0, 1024, .inl (A 107)), .inr (7, [.ref 173, .ref 195, .ref 197, .ref 203, .long (J 108 4)]), .inr (4, [.ref 174, .ref 177, .ref 178, .ref 179, .ref 180, .ref 182, .ref 185, .ref 190, .long (J 109 8)]), .inr (10, [.ref 175, .ref 176]), .inl (0, 4096, .inl (A 111)), .inl (0, 48, .inl (A 112)), .inl (0, 512, .inl (A 113)), .inl (0, 2048, .inl (A 114)), .inl (0, 2, .inl (A 115)), .inr (11, [.ref 181, .int (I 116 1), .int (I 116 2), .int (I 116 3), .int (I 116 4)]), .inl (0, 40, .inl (A 117)), .inr (6, [.ref 183, .ref 184, .int (I 118 2)]), .inl (0, 4, .inl (A 119)), .inl (0, 16, .inl (A 120)), .inr (5, [.ref 186, .ref 189, .int (I 121 2), .int (I 121 3)]), .inr (10, [.ref 187, .ref 188]), .inl (0, 4096, .inl (A 123)), .inl (0, 48, .inl (A 124)), .inl (0, 3072, .inl (A 125)), .inr (5, [.ref 191, .ref 194, .int (I 126 2), .int (I 126 3)]), .inr (10, [.ref 192, .ref 193]), .inl (0, 4096, .inl (A 128)), .inl (0, 48, .inl (A 129)), .inl (0, 3072, .inl (A 130)), .inr (8, [.int (I 131 0), .int (I 131 1), .int (I 131 2), .int (I 131 3), .int (I 131 4), .int (I 131 5), .int (I 131 6), .int (I 131 7), .int (I 131 8), .int (I 131 9), .int (I 131 10), .int (I 131 11), .ref 196]), .inl (0, 16, .inl (A 132)), .inr (12, [.ref 198, .ref 199, .ref 200, .ref 201, .ref 202]), .inl (0, 3, .inl (A 134)), .inl (0, 3, .inl (A 135)), .inl (0, 3, .inl (A 136)), .inl (0, 3, .inl (A 137)), .inl (0, 40, .inl (A 138)), .inl (0, 1024, .inl (A 139)), .inr (7, [.ref 205, .ref 227, .ref 229, .ref 235, .long (J 140 4)]), .inr (4, [.ref 206, .ref 209, .ref 210, .ref 211, .ref 212, .ref 214, .ref 217, .ref 222, .long (J 141 8)]), .inr (10, [.ref 207, .ref 208]), .inl (0, 4096, .inl (A 143)), .inl (0, 48, .inl (A 144)), .inl (0, 512, .inl (A 145)), .inl (0, 2048, .inl (A 146)), .inl (0, 2, .inl (A 147)), .inr (11, [.ref 213, .int (I 148 1), .int (I 148 2), .int (I 148 3), .int (I 148 4)]), .inl (0, 40, .inl (A 149)), .inr (6, [.ref 215, .ref 216, .int (I 150 2)]), .inl (0, 4, .inl (A 151)), .inl (0, 16, .inl (A 152)), .inr (5, [.ref 218, .ref 221, .int (I 153 2), .int (I 153 3)]), .inr (10, [.ref 219, .ref 220]), .inl (0, 4096, .inl (A 155)), .inl (0, 48, .inl (A 156)), .inl (0, 3072, .inl (A 157)), .inr (5, [.ref 223, .ref 226, .int (I 158 2), .int (I 158 3)]), .inr (10, [.ref 224, .ref 225]), .inl (0, 4096, .inl (A 160)), .inl (0, 48, .inl (A 161)), .inl (0, 3072, .inl (A 162)), .inr (8, [.int (I 163 0), .int (I 163 1), .int (I 163 2), .int (I 163 3), .int (I 163 4), .int (I 163 5), .int (I 163 6), .int (I 163 7), .int (I 163 8), .int (I 163 9), .int (I 163 10), .int (I 163 11), .ref 228]), .inl (0, 16, .inl (A 164)), .inr (12, [.ref 230, .ref 231, .ref 232, .ref 233, .ref 234]), .inl (0, 3, .inl (A 166)), .inl (0, 3, .inl (A 167)), .inl (0, 3, .inl (A 168)), .inl (0, 3, .inl (A 169)), .inl (0, 40, .inl (A 170)), .inl (0, 1024, .inl (A 171)), .inr (14, [.ref 237, .ref 238, .ref 239, .ref 240, .ref 241, .ref 242, .ref 243, .ref 244, .ref 245, .ref 246, .ref 247, .ref 248, .ref 249, .ref 250, .ref 251, .long (J 172 15), .long (J 172 16), .int (I 172 17), .ref 252, .ref 253, .ref 254, .ref 255, .ref 256, .ref 257, .ref 258, .ref 259, .ref 260, .ref 261, .ref 262, .ref 263, .ref 264, .ref 265, .ref 266, .ref 267, .int (I 172 34), .int (I 172 35), .ref 268, .ref 269, .int (I 172 38), .int (I 172 39)]), .inl (0, 4096, .inl (A 173)), .inl (0, 512, .inl (A 174)), .inl (0, 2048, .inl (A 175)), .inl (0, 48, .inl (A 176)), .inl (0, 1024, .inl (A 177)), .inl (0, 40, .inl (A 178)), .inl (1, 16, .inl (A 179)), .inl (0, 40, .inl (A 180)), .inl (0, 16, .inl (A 181)), .inl (0, 3, .inl (A 182)), .inl (0, 3, .inl (A 183)), .inl (0, 3, .inl (A 184)), .inl (0, 3, .inl (A 185)), .inl (0, 24, .inl (A 186)), .inl (1, 8, .inl (A 187)), .inl (0, 12288, .inl (A 188)), .inl (0, 1536, .inl (A 189)), .inl (0, 6144, .inl (A 190)), .inl (0, 144, .inl (A 191)), .inl (0, 3072, .inl (A 192)), .inl (0, 120, .inl (A 193)), .inl (1, 48, .inl (A 194)), .inl (0, 120, .inl (A 195)), .inl (0, 48, .inl (A 196)), .inl (0, 9, .inl (A 197)), .inl (0, 9, .inl (A 198)), .inl (0, 9, .inl (A 199)), .inl (0, 9, .inl (A 200)), .inl (0, 72, .inl (A 201)), .inl (1, 24, .inl (A 202)), .inl (2, 6, .inr (.inl (J 203))), .inl (3, 40, .inl (A 204)), .inl (1, 8, .inl (A 205)), .inl (2, 1, .inr (.inl (J 206)))]
def q_kL (s : q_S) (c n : Nat) : q_H := (q_cL s.1 s.2.1 s.2.2, c, n)
def q_let {T U : Type} (x : T) (f : T → U) : U := f x
def q_b (b : Bool) : Int32 := cond b 1 0
def q_oP (h : q_H) (r : Int32) : q_Out := (.inl (some (.int r)), h)
def q_oB (h : q_H) (r : Bool) : q_Out := (.inl (some (.int (q_b r))), h)
def q_oL (h : q_H) (r : Int64) : q_Out := (.inl (some (.long r)), h)
def q_oSN (c n : Nat) (s : q_S) : q_Out := (.inl none, q_kN s c n)
def q_oIN (c n : Nat) (x : q_S × Int32) : q_Out := (.inl (some (.int x.2)), q_kN x.1 c n)
def q_oJN (c n : Nat) (x : q_S × Bool) : q_Out := (.inl (some (.int (q_b x.2))), q_kN x.1 c n)
def q_oKN (c n : Nat) (x : q_S × Int64) : q_Out := (.inl (some (.long x.2)), q_kN x.1 c n)
def q_oFN (c n : Nat) (x : q_S × UInt32) : q_Out := (.inl (some (.float x.2)), q_kN x.1 c n)
def q_oDN (c n : Nat) (x : q_S × UInt64) : q_Out := (.inl (some (.double x.2)), q_kN x.1 c n)
def q_oSW (c n : Nat) (s : q_S) : q_Out := (.inl none, q_kW s c n)
def q_oIW (c n : Nat) (x : q_S × Int32) : q_Out := (.inl (some (.int x.2)), q_kW x.1 c n)
def q_oJW (c n : Nat) (x : q_S × Bool) : q_Out := (.inl (some (.int (q_b x.2))), q_kW x.1 c n)
def q_oKW (c n : Nat) (x : q_S × Int64) : q_Out := (.inl (some (.long x.2)), q_kW x.1 c n)
def q_oFW (c n : Nat) (x : q_S × UInt32) : q_Out := (.inl (some (.float x.2)), q_kW x.1 c n)
def q_oDW (c n : Nat) (x : q_S × UInt64) : q_Out := (.inl (some (.double x.2)), q_kW x.1 c n)
def q_oSB (c n : Nat) (s : q_S) : q_Out := (.inl none, q_kB s c n)
def q_oIB (c n : Nat) (x : q_S × Int32) : q_Out := (.inl (some (.int x.2)), q_kB x.1 c n)
def q_oJB (c n : Nat) (x : q_S × Bool) : q_Out := (.inl (some (.int (q_b x.2))), q_kB x.1 c n)
def q_oKB (c n : Nat) (x : q_S × Int64) : q_Out := (.inl (some (.long x.2)), q_kB x.1 c n)
def q_oFB (c n : Nat) (x : q_S × UInt32) : q_Out := (.inl (some (.float x.2)), q_kB x.1 c n)
def q_oDB (c n : Nat) (x : q_S × UInt64) : q_Out := (.inl (some (.double x.2)), q_kB x.1 c n)
def q_oSX (c n : Nat) (s : q_S) : q_Out := (.inl none, q_kX s c n)
def q_oIX (c n : Nat) (x : q_S × Int32) : q_Out := (.inl (some (.int x.2)), q_kX x.1 c n)
def q_oJX (c n : Nat) (x : q_S × Bool) : q_Out := (.inl (some (.int (q_b x.2))), q_kX x.1 c n)
def q_oKX (c n : Nat) (x : q_S × Int64) : q_Out := (.inl (some (.long x.2)), q_kX x.1 c n)
def q_oFX (c n : Nat) (x : q_S × UInt32) : q_Out := (.inl (some (.float x.2)), q_kX x.1 c n)
def q_oDX (c n : Nat) (x : q_S × UInt64) : q_Out := (.inl (some (.double x.2)), q_kX x.1 c n)
def q_oSM (c n : Nat) (s : q_S) : q_Out := (.inl none, q_kM s c n)
def q_oIM (c n : Nat) (x : q_S × Int32) : q_Out := (.inl (some (.int x.2)), q_kM x.1 c n)
def q_oJM (c n : Nat) (x : q_S × Bool) : q_Out := (.inl (some (.int (q_b x.2))), q_kM x.1 c n)
def q_oKM (c n : Nat) (x : q_S × Int64) : q_Out := (.inl (some (.long x.2)), q_kM x.1 c n)
def q_oFM (c n : Nat) (x : q_S × UInt32) : q_Out := (.inl (some (.float x.2)), q_kM x.1 c n)
def q_oDM (c n : Nat) (x : q_S × UInt64) : q_Out := (.inl (some (.double x.2)), q_kM x.1 c n)
def q_oSL (c n : Nat) (s : q_S) : q_Out := (.inl none, q_kL s c n)
def q_oIL (c n : Nat) (x : q_S × Int32) : q_Out := (.inl (some (.int x.2)), q_kL x.1 c n)
def q_oJL (c n : Nat) (x : q_S × Bool) : q_Out := (.inl (some (.int (q_b x.2))), q_kL x.1 c n)
def q_oKL (c n : Nat) (x : q_S × Int64) : q_Out := (.inl (some (.long x.2)), q_kL x.1 c n)
def q_oFL (c n : Nat) (x : q_S × UInt32) : q_Out := (.inl (some (.float x.2)), q_kL x.1 c n)
def q_oDL (c n : Nat) (x : q_S × UInt64) : q_Out := (.inl (some (.double x.2)), q_kL x.1 c n)
def q_oEX (c n : Nat) (x : q_S × Int32 × Nat) : q_Out := (.inl (some (.int x.2.1)), q_kX x.1 (c + x.2.2) (n + 6 * x.2.2))
def q_oF (h : q_H) (r : UInt32) : q_Out := (.inl (some (.float r)), h)
def q_oD (h : q_H) (r : UInt64) : q_Out := (.inl (some (.double r)), h)
def q_oU (h : q_H) (_ : Unit) : q_Out := (.inl none, h)
theorem q_wN3 {nx pc : Nat} {L : q_L} {v i : Int32} {r : List Value} {s : q_S} {c n : Nat} : q_ast nx 0 (fun x => x) (pc, L, .int v :: .int i :: .ref 67 :: r, q_kN s c n) = some (q_in i 4096, (nx, L, r, q_kN (q_sA s 3 (upd (s.1 3) i.toNatClampNeg v)) c n), none) := rfl
theorem q_wN4 {nx pc : Nat} {L : q_L} {v i : Int32} {r : List Value} {s : q_S} {c n : Nat} : q_ast nx 0 (fun x => x) (pc, L, .int v :: .int i :: .ref 68 :: r, q_kN s c n) = some (q_in i 48, (nx, L, r, q_kN (q_sA s 4 (upd (s.1 4) i.toNatClampNeg v)) c n), none) := rfl
theorem q_wN5 {nx pc : Nat} {L : q_L} {v i : Int32} {r : List Value} {s : q_S} {c n : Nat} : q_ast nx 0 (fun x => x) (pc, L, .int v :: .int i :: .ref 69 :: r, q_kN s c n) = some (q_in i 512, (nx, L, r, q_kN (q_sA s 5 (upd (s.1 5) i.toNatClampNeg v)) c n), none) := rfl
theorem q_wN6 {nx pc : Nat} {L : q_L} {v i : Int32} {r : List Value} {s : q_S} {c n : Nat} : q_ast nx 0 (fun x => x) (pc, L, .int v :: .int i :: .ref 70 :: r, q_kN s c n) = some (q_in i 2048, (nx, L, r, q_kN (q_sA s 6 (upd (s.1 6) i.toNatClampNeg v)) c n), none) := rfl
theorem q_wN7 {nx pc : Nat} {L : q_L} {v i : Int32} {r : List Value} {s : q_S} {c n : Nat} : q_ast nx 0 (fun x => x) (pc, L, .int v :: .int i :: .ref 71 :: r, q_kN s c n) = some (q_in i 2, (nx, L, r, q_kN (q_sA s 7 (upd (s.1 7) i.toNatClampNeg v)) c n), none) := rfl
theorem q_wN9 {nx pc : Nat} {L : q_L} {v i : Int32} {r : List Value} {s : q_S} {c n : Nat} : q_ast nx 0 (fun x => x) (pc, L, .int v :: .int i :: .ref 73 :: r, q_kN s c n) = some (q_in i 40, (nx, L, r, q_kN (q_sA s 9 (upd (s.1 9) i.toNatClampNeg v)) c n), none) := rfl
theorem q_wN11 {nx pc : Nat} {L : q_L} {v i : Int32} {r : List Value} {s : q_S} {c n : Nat} : q_ast nx 0 (fun x => x) (pc, L, .int v :: .int i :: .ref 75 :: r, q_kN s c n) = some (q_in i 4, (nx, L, r, q_kN (q_sA s 11 (upd (s.1 11) i.toNatClampNeg v)) c n), none) := rfl
theorem q_wN12 {nx pc : Nat} {L : q_L} {v i : Int32} {r : List Value} {s : q_S} {c n : Nat} : q_ast nx 0 (fun x => x) (pc, L, .int v :: .int i :: .ref 76 :: r, q_kN s c n) = some (q_in i 16, (nx, L, r, q_kN (q_sA s 12 (upd (s.1 12) i.toNatClampNeg v)) c n), none) := rfl
theorem q_wN15 {nx pc : Nat} {L : q_L} {v i : Int32} {r : List Value} {s : q_S} {c n : Nat} : q_ast nx 0 (fun x => x) (pc, L, .int v :: .int i :: .ref 79 :: r, q_kN s c n) = some (q_in i 4096, (nx, L, r, q_kN (q_sA s 15 (upd (s.1 15) i.toNatClampNeg v)) c n), none) := rfl
theorem q_wN16 {nx pc : Nat} {L : q_L} {v i : Int32} {r : List Value} {s : q_S} {c n : Nat} : q_ast nx 0 (fun x => x) (pc, L, .int v :: .int i :: .ref 80 :: r, q_kN s c n) = some (q_in i 48, (nx, L, r, q_kN (q_sA s 16 (upd (s.1 16) i.toNatClampNeg v)) c n), none) := rfl
theorem q_wN17 {nx pc : Nat} {L : q_L} {v i : Int32} {r : List Value} {s : q_S} {c n : Nat} : q_ast nx 0 (fun x => x) (pc, L, .int v :: .int i :: .ref 81 :: r, q_kN s c n) = some (q_in i 3072, (nx, L, r, q_kN (q_sA s 17 (upd (s.1 17) i.toNatClampNeg v)) c n), none) := rfl
theorem q_wN20 {nx pc : Nat} {L : q_L} {v i : Int32} {r : List Value} {s : q_S} {c n : Nat} : q_ast nx 0 (fun x => x) (pc, L, .int v :: .int i :: .ref 84 :: r, q_kN s c n) = some (q_in i 4096, (nx, L, r, q_kN (q_sA s 20 (upd (s.1 20) i.toNatClampNeg v)) c n), none) := rfl
theorem q_wN21 {nx pc : Nat} {L : q_L} {v i : Int32} {r : List Value} {s : q_S} {c n : Nat} : q_ast nx 0 (fun x => x) (pc, L, .int v :: .int i :: .ref 85 :: r, q_kN s c n) = some (q_in i 48, (nx, L, r, q_kN (q_sA s 21 (upd (s.1 21) i.toNatClampNeg v)) c n), none) := rfl
theorem q_wN22 {nx pc : Nat} {L : q_L} {v i : Int32} {r : List Value} {s : q_S} {c n : Nat} : q_ast nx 0 (fun x => x) (pc, L, .int v :: .int i :: .ref 86 :: r, q_kN s c n) = some (q_in i 3072, (nx, L, r, q_kN (q_sA s 22 (upd (s.1 22) i.toNatClampNeg v)) c n), none) := rfl
theorem q_wN24 {nx pc : Nat} {L : q_L} {v i : Int32} {r : List Value} {s : q_S} {c n : Nat} : q_ast nx 0 (fun x => x) (pc, L, .int v :: .int i :: .ref 88 :: r, q_kN s c n) = some (q_in i 16, (nx, L, r, q_kN (q_sA s 24 (upd (s.1 24) i.toNatClampNeg v)) c n), none) := rfl
theorem q_wN26 {nx pc : Nat} {L : q_L} {v i : Int32} {r : List Value} {s : q_S} {c n : Nat} : q_ast nx 0 (fun x => x) (pc, L, .int v :: .int i :: .ref 90 :: r, q_kN s c n) = some (q_in i 3, (nx, L, r, q_kN (q_sA s 26 (upd (s.1 26) i.toNatClampNeg v)) c n), none) := rfl
theorem q_wN27 {nx pc : Nat} {L : q_L} {v i : Int32} {r : List Value} {s : q_S} {c n : Nat} : q_ast nx 0 (fun x => x) (pc, L, .int v :: .int i :: .ref 91 :: r, q_kN s c n) = some (q_in i 3, (nx, L, r, q_kN (q_sA s 27 (upd (s.1 27) i.toNatClampNeg v)) c n), none) := rfl
theorem q_wN28 {nx pc : Nat} {L : q_L} {v i : Int32} {r : List Value} {s : q_S} {c n : Nat} : q_ast nx 0 (fun x => x) (pc, L, .int v :: .int i :: .ref 92 :: r, q_kN s c n) = some (q_in i 3, (nx, L, r, q_kN (q_sA s 28 (upd (s.1 28) i.toNatClampNeg v)) c n), none) := rfl
theorem q_wN29 {nx pc : Nat} {L : q_L} {v i : Int32} {r : List Value} {s : q_S} {c n : Nat} : q_ast nx 0 (fun x => x) (pc, L, .int v :: .int i :: .ref 93 :: r, q_kN s c n) = some (q_in i 3, (nx, L, r, q_kN (q_sA s 29 (upd (s.1 29) i.toNatClampNeg v)) c n), none) := rfl
theorem q_wN30 {nx pc : Nat} {L : q_L} {v i : Int32} {r : List Value} {s : q_S} {c n : Nat} : q_ast nx 0 (fun x => x) (pc, L, .int v :: .int i :: .ref 94 :: r, q_kN s c n) = some (q_in i 40, (nx, L, r, q_kN (q_sA s 30 (upd (s.1 30) i.toNatClampNeg v)) c n), none) := rfl
theorem q_wN31 {nx pc : Nat} {L : q_L} {v i : Int32} {r : List Value} {s : q_S} {c n : Nat} : q_ast nx 0 (fun x => x) (pc, L, .int v :: .int i :: .ref 95 :: r, q_kN s c n) = some (q_in i 1024, (nx, L, r, q_kN (q_sA s 31 (upd (s.1 31) i.toNatClampNeg v)) c n), none) := rfl
theorem q_wN33 {nx pc : Nat} {L : q_L} {v i : Int32} {r : List Value} {s : q_S} {c n : Nat} : q_ast nx 0 (fun x => x) (pc, L, .int v :: .int i :: .ref 97 :: r, q_kN s c n) = some (q_in i 4096, (nx, L, r, q_kN (q_sA s 33 (upd (s.1 33) i.toNatClampNeg v)) c n), none) := rfl
theorem q_wN34 {nx pc : Nat} {L : q_L} {v i : Int32} {r : List Value} {s : q_S} {c n : Nat} : q_ast nx 0 (fun x => x) (pc, L, .int v :: .int i :: .ref 98 :: r, q_kN s c n) = some (q_in i 48, (nx, L, r, q_kN (q_sA s 34 (upd (s.1 34) i.toNatClampNeg v)) c n), none) := rfl
theorem q_wW3 {nx pc : Nat} {L : q_L} {v i : Int32} {r : List Value} {s : q_S} {c n : Nat} : q_ast nx 0 (fun x => x) (pc, L, .int v :: .int i :: .ref 67 :: r, q_kW s c n) = some (q_in i 4096, (nx, L, r, q_kW (q_sA s 3 (upd (s.1 3) i.toNatClampNeg v)) c n), none) := rfl
theorem q_wW4 {nx pc : Nat} {L : q_L} {v i : Int32} {r : List Value} {s : q_S} {c n : Nat} : q_ast nx 0 (fun x => x) (pc, L, .int v :: .int i :: .ref 68 :: r, q_kW s c n) = some (q_in i 48, (nx, L, r, q_kW (q_sA s 4 (upd (s.1 4) i.toNatClampNeg v)) c n), none) := rfl
theorem q_wW5 {nx pc : Nat} {L : q_L} {v i : Int32} {r : List Value} {s : q_S} {c n : Nat} : q_ast nx 0 (fun x => x) (pc, L, .int v :: .int i :: .ref 69 :: r, q_kW s c n) = some (q_in i 512, (nx, L, r, q_kW (q_sA s 5 (upd (s.1 5) i.toNatClampNeg v)) c n), none) := rfl
theorem q_wW6 {nx pc : Nat} {L : q_L} {v i : Int32} {r : List Value} {s : q_S} {c n : Nat} : q_ast nx 0 (fun x => x) (pc, L, .int v :: .int i :: .ref 70 :: r, q_kW s c n) = some (q_in i 2048, (nx, L, r, q_kW (q_sA s 6 (upd (s.1 6) i.toNatClampNeg v)) c n), none) := rfl
theorem q_wW7 {nx pc : Nat} {L : q_L} {v i : Int32} {r : List Value} {s : q_S} {c n : Nat} : q_ast nx 0 (fun x => x) (pc, L, .int v :: .int i :: .ref 71 :: r, q_kW s c n) = some (q_in i 2, (nx, L, r, q_kW (q_sA s 7 (upd (s.1 7) i.toNatClampNeg v)) c n), none) := rfl
theorem q_wW9 {nx pc : Nat} {L : q_L} {v i : Int32} {r : List Value} {s : q_S} {c n : Nat} : q_ast nx 0 (fun x => x) (pc, L, .int v :: .int i :: .ref 73 :: r, q_kW s c n) = some (q_in i 40, (nx, L, r, q_kW (q_sA s 9 (upd (s.1 9) i.toNatClampNeg v)) c n), none) := rfl
theorem q_wW11 {nx pc : Nat} {L : q_L} {v i : Int32} {r : List Value} {s : q_S} {c n : Nat} : q_ast nx 0 (fun x => x) (pc, L, .int v :: .int i :: .ref 75 :: r, q_kW s c n) = some (q_in i 4, (nx, L, r, q_kW (q_sA s 11 (upd (s.1 11) i.toNatClampNeg v)) c n), none) := rfl
theorem q_wW12 {nx pc : Nat} {L : q_L} {v i : Int32} {r : List Value} {s : q_S} {c n : Nat} : q_ast nx 0 (fun x => x) (pc, L, .int v :: .int i :: .ref 76 :: r, q_kW s c n) = some (q_in i 16, (nx, L, r, q_kW (q_sA s 12 (upd (s.1 12) i.toNatClampNeg v)) c n), none) := rfl
theorem q_wW15 {nx pc : Nat} {L : q_L} {v i : Int32} {r : List Value} {s : q_S} {c n : Nat} : q_ast nx 0 (fun x => x) (pc, L, .int v :: .int i :: .ref 79 :: r, q_kW s c n) = some (q_in i 4096, (nx, L, r, q_kW (q_sA s 15 (upd (s.1 15) i.toNatClampNeg v)) c n), none) := rfl
theorem q_wW16 {nx pc : Nat} {L : q_L} {v i : Int32} {r : List Value} {s : q_S} {c n : Nat} : q_ast nx 0 (fun x => x) (pc, L, .int v :: .int i :: .ref 80 :: r, q_kW s c n) = some (q_in i 48, (nx, L, r, q_kW (q_sA s 16 (upd (s.1 16) i.toNatClampNeg v)) c n), none) := rfl
theorem q_wW17 {nx pc : Nat} {L : q_L} {v i : Int32} {r : List Value} {s : q_S} {c n : Nat} : q_ast nx 0 (fun x => x) (pc, L, .int v :: .int i :: .ref 81 :: r, q_kW s c n) = some (q_in i 3072, (nx, L, r, q_kW (q_sA s 17 (upd (s.1 17) i.toNatClampNeg v)) c n), none) := rfl
theorem q_wW20 {nx pc : Nat} {L : q_L} {v i : Int32} {r : List Value} {s : q_S} {c n : Nat} : q_ast nx 0 (fun x => x) (pc, L, .int v :: .int i :: .ref 84 :: r, q_kW s c n) = some (q_in i 4096, (nx, L, r, q_kW (q_sA s 20 (upd (s.1 20) i.toNatClampNeg v)) c n), none) := rfl
theorem q_wW21 {nx pc : Nat} {L : q_L} {v i : Int32} {r : List Value} {s : q_S} {c n : Nat} : q_ast nx 0 (fun x => x) (pc, L, .int v :: .int i :: .ref 85 :: r, q_kW s c n) = some (q_in i 48, (nx, L, r, q_kW (q_sA s 21 (upd (s.1 21) i.toNatClampNeg v)) c n), none) := rfl
theorem q_wW22 {nx pc : Nat} {L : q_L} {v i : Int32} {r : List Value} {s : q_S} {c n : Nat} : q_ast nx 0 (fun x => x) (pc, L, .int v :: .int i :: .ref 86 :: r, q_kW s c n) = some (q_in i 3072, (nx, L, r, q_kW (q_sA s 22 (upd (s.1 22) i.toNatClampNeg v)) c n), none) := rfl
theorem q_wW24 {nx pc : Nat} {L : q_L} {v i : Int32} {r : List Value} {s : q_S} {c n : Nat} : q_ast nx 0 (fun x => x) (pc, L, .int v :: .int i :: .ref 88 :: r, q_kW s c n) = some (q_in i 16, (nx, L, r, q_kW (q_sA s 24 (upd (s.1 24) i.toNatClampNeg v)) c n), none) := rfl
theorem q_wW26 {nx pc : Nat} {L : q_L} {v i : Int32} {r : List Value} {s : q_S} {c n : Nat} : q_ast nx 0 (fun x => x) (pc, L, .int v :: .int i :: .ref 90 :: r, q_kW s c n) = some (q_in i 3, (nx, L, r, q_kW (q_sA s 26 (upd (s.1 26) i.toNatClampNeg v)) c n), none) := rfl
theorem q_wW27 {nx pc : Nat} {L : q_L} {v i : Int32} {r : List Value} {s : q_S} {c n : Nat} : q_ast nx 0 (fun x => x) (pc, L, .int v :: .int i :: .ref 91 :: r, q_kW s c n) = some (q_in i 3, (nx, L, r, q_kW (q_sA s 27 (upd (s.1 27) i.toNatClampNeg v)) c n), none) := rfl
theorem q_wW28 {nx pc : Nat} {L : q_L} {v i : Int32} {r : List Value} {s : q_S} {c n : Nat} : q_ast nx 0 (fun x => x) (pc, L, .int v :: .int i :: .ref 92 :: r, q_kW s c n) = some (q_in i 3, (nx, L, r, q_kW (q_sA s 28 (upd (s.1 28) i.toNatClampNeg v)) c n), none) := rfl
theorem q_wW29 {nx pc : Nat} {L : q_L} {v i : Int32} {r : List Value} {s : q_S} {c n : Nat} : q_ast nx 0 (fun x => x) (pc, L, .int v :: .int i :: .ref 93 :: r, q_kW s c n) = some (q_in i 3, (nx, L, r, q_kW (q_sA s 29 (upd (s.1 29) i.toNatClampNeg v)) c n), none) := rfl
theorem q_wW30 {nx pc : Nat} {L : q_L} {v i : Int32} {r : List Value} {s : q_S} {c n : Nat} : q_ast nx 0 (fun x => x) (pc, L, .int v :: .int i :: .ref 94 :: r, q_kW s c n) = some (q_in i 40, (nx, L, r, q_kW (q_sA s 30 (upd (s.1 30) i.toNatClampNeg v)) c n), none) := rfl
theorem q_wW31 {nx pc : Nat} {L : q_L} {v i : Int32} {r : List Value} {s : q_S} {c n : Nat} : q_ast nx 0 (fun x => x) (pc, L, .int v :: .int i :: .ref 95 :: r, q_kW s c n) = some (q_in i 1024, (nx, L, r, q_kW (q_sA s 31 (upd (s.1 31) i.toNatClampNeg v)) c n), none) := rfl
theorem q_wW35 {nx pc : Nat} {L : q_L} {v i : Int32} {r : List Value} {s : q_S} {c n : Nat} : q_ast nx 0 (fun x => x) (pc, L, .int v :: .int i :: .ref 99 :: r, q_kW s c n) = some (q_in i 4096, (nx, L, r, q_kW (q_sA s 35 (upd (s.1 35) i.toNatClampNeg v)) c n), none) := rfl
theorem q_wW36 {nx pc : Nat} {L : q_L} {v i : Int32} {r : List Value} {s : q_S} {c n : Nat} : q_ast nx 0 (fun x => x) (pc, L, .int v :: .int i :: .ref 100 :: r, q_kW s c n) = some (q_in i 48, (nx, L, r, q_kW (q_sA s 36 (upd (s.1 36) i.toNatClampNeg v)) c n), none) := rfl
theorem q_wW37 {nx pc : Nat} {L : q_L} {v i : Int32} {r : List Value} {s : q_S} {c n : Nat} : q_ast nx 0 (fun x => x) (pc, L, .int v :: .int i :: .ref 101 :: r, q_kW s c n) = some (q_in i 512, (nx, L, r, q_kW (q_sA s 37 (upd (s.1 37) i.toNatClampNeg v)) c n), none) := rfl
theorem q_wW38 {nx pc : Nat} {L : q_L} {v i : Int32} {r : List Value} {s : q_S} {c n : Nat} : q_ast nx 0 (fun x => x) (pc, L, .int v :: .int i :: .ref 102 :: r, q_kW s c n) = some (q_in i 2048, (nx, L, r, q_kW (q_sA s 38 (upd (s.1 38) i.toNatClampNeg v)) c n), none) := rfl
theorem q_wW39 {nx pc : Nat} {L : q_L} {v i : Int32} {r : List Value} {s : q_S} {c n : Nat} : q_ast nx 0 (fun x => x) (pc, L, .int v :: .int i :: .ref 103 :: r, q_kW s c n) = some (q_in i 2, (nx, L, r, q_kW (q_sA s 39 (upd (s.1 39) i.toNatClampNeg v)) c n), none) := rfl
theorem q_wW41 {nx pc : Nat} {L : q_L} {v i : Int32} {r : List Value} {s : q_S} {c n : Nat} : q_ast nx 0 (fun x => x) (pc, L, .int v :: .int i :: .ref 105 :: r, q_kW s c n) = some (q_in i 40, (nx, L, r, q_kW (q_sA s 41 (upd (s.1 41) i.toNatClampNeg v)) c n), none) := rfl
theorem q_wW43 {nx pc : Nat} {L : q_L} {v i : Int32} {r : List Value} {s : q_S} {c n : Nat} : q_ast nx 0 (fun x => x) (pc, L, .int v :: .int i :: .ref 107 :: r, q_kW s c n) = some (q_in i 4, (nx, L, r, q_kW (q_sA s 43 (upd (s.1 43) i.toNatClampNeg v)) c n), none) := rfl
theorem q_wW44 {nx pc : Nat} {L : q_L} {v i : Int32} {r : List Value} {s : q_S} {c n : Nat} : q_ast nx 0 (fun x => x) (pc, L, .int v :: .int i :: .ref 108 :: r, q_kW s c n) = some (q_in i 16, (nx, L, r, q_kW (q_sA s 44 (upd (s.1 44) i.toNatClampNeg v)) c n), none) := rfl
theorem q_wW47 {nx pc : Nat} {L : q_L} {v i : Int32} {r : List Value} {s : q_S} {c n : Nat} : q_ast nx 0 (fun x => x) (pc, L, .int v :: .int i :: .ref 111 :: r, q_kW s c n) = some (q_in i 4096, (nx, L, r, q_kW (q_sA s 47 (upd (s.1 47) i.toNatClampNeg v)) c n), none) := rfl
theorem q_wW48 {nx pc : Nat} {L : q_L} {v i : Int32} {r : List Value} {s : q_S} {c n : Nat} : q_ast nx 0 (fun x => x) (pc, L, .int v :: .int i :: .ref 112 :: r, q_kW s c n) = some (q_in i 48, (nx, L, r, q_kW (q_sA s 48 (upd (s.1 48) i.toNatClampNeg v)) c n), none) := rfl
theorem q_wW49 {nx pc : Nat} {L : q_L} {v i : Int32} {r : List Value} {s : q_S} {c n : Nat} : q_ast nx 0 (fun x => x) (pc, L, .int v :: .int i :: .ref 113 :: r, q_kW s c n) = some (q_in i 3072, (nx, L, r, q_kW (q_sA s 49 (upd (s.1 49) i.toNatClampNeg v)) c n), none) := rfl
theorem q_wW52 {nx pc : Nat} {L : q_L} {v i : Int32} {r : List Value} {s : q_S} {c n : Nat} : q_ast nx 0 (fun x => x) (pc, L, .int v :: .int i :: .ref 116 :: r, q_kW s c n) = some (q_in i 4096, (nx, L, r, q_kW (q_sA s 52 (upd (s.1 52) i.toNatClampNeg v)) c n), none) := rfl
theorem q_wW53 {nx pc : Nat} {L : q_L} {v i : Int32} {r : List Value} {s : q_S} {c n : Nat} : q_ast nx 0 (fun x => x) (pc, L, .int v :: .int i :: .ref 117 :: r, q_kW s c n) = some (q_in i 48, (nx, L, r, q_kW (q_sA s 53 (upd (s.1 53) i.toNatClampNeg v)) c n), none) := rfl
theorem q_wW54 {nx pc : Nat} {L : q_L} {v i : Int32} {r : List Value} {s : q_S} {c n : Nat} : q_ast nx 0 (fun x => x) (pc, L, .int v :: .int i :: .ref 118 :: r, q_kW s c n) = some (q_in i 3072, (nx, L, r, q_kW (q_sA s 54 (upd (s.1 54) i.toNatClampNeg v)) c n), none) := rfl
theorem q_wW56 {nx pc : Nat} {L : q_L} {v i : Int32} {r : List Value} {s : q_S} {c n : Nat} : q_ast nx 0 (fun x => x) (pc, L, .int v :: .int i :: .ref 120 :: r, q_kW s c n) = some (q_in i 16, (nx, L, r, q_kW (q_sA s 56 (upd (s.1 56) i.toNatClampNeg v)) c n), none) := rfl
theorem q_wW58 {nx pc : Nat} {L : q_L} {v i : Int32} {r : List Value} {s : q_S} {c n : Nat} : q_ast nx 0 (fun x => x) (pc, L, .int v :: .int i :: .ref 122 :: r, q_kW s c n) = some (q_in i 3, (nx, L, r, q_kW (q_sA s 58 (upd (s.1 58) i.toNatClampNeg v)) c n), none) := rfl
theorem q_wW59 {nx pc : Nat} {L : q_L} {v i : Int32} {r : List Value} {s : q_S} {c n : Nat} : q_ast nx 0 (fun x => x) (pc, L, .int v :: .int i :: .ref 123 :: r, q_kW s c n) = some (q_in i 3, (nx, L, r, q_kW (q_sA s 59 (upd (s.1 59) i.toNatClampNeg v)) c n), none) := rfl
theorem q_wW60 {nx pc : Nat} {L : q_L} {v i : Int32} {r : List Value} {s : q_S} {c n : Nat} : q_ast nx 0 (fun x => x) (pc, L, .int v :: .int i :: .ref 124 :: r, q_kW s c n) = some (q_in i 3, (nx, L, r, q_kW (q_sA s 60 (upd (s.1 60) i.toNatClampNeg v)) c n), none) := rfl
theorem q_wW61 {nx pc : Nat} {L : q_L} {v i : Int32} {r : List Value} {s : q_S} {c n : Nat} : q_ast nx 0 (fun x => x) (pc, L, .int v :: .int i :: .ref 125 :: r, q_kW s c n) = some (q_in i 3, (nx, L, r, q_kW (q_sA s 61 (upd (s.1 61) i.toNatClampNeg v)) c n), none) := rfl
theorem q_wW62 {nx pc : Nat} {L : q_L} {v i : Int32} {r : List Value} {s : q_S} {c n : Nat} : q_ast nx 0 (fun x => x) (pc, L, .int v :: .int i :: .ref 126 :: r, q_kW s c n) = some (q_in i 40, (nx, L, r, q_kW (q_sA s 62 (upd (s.1 62) i.toNatClampNeg v)) c n), none) := rfl
theorem q_wW63 {nx pc : Nat} {L : q_L} {v i : Int32} {r : List Value} {s : q_S} {c n : Nat} : q_ast nx 0 (fun x => x) (pc, L, .int v :: .int i :: .ref 127 :: r, q_kW s c n) = some (q_in i 1024, (nx, L, r, q_kW (q_sA s 63 (upd (s.1 63) i.toNatClampNeg v)) c n), none) := rfl
theorem q_wB1 {nx pc : Nat} {L : q_L} {v i : Int32} {r : List Value} {s : q_S} {c n : Nat} : q_ast nx 4 (vp_nar .byte) (pc, L, .int v :: .int i :: .ref 65 :: r, q_kB s c n) = some (q_in i 16, (nx, L, r, q_kB (q_sA s 1 (upd (s.1 1) i.toNatClampNeg (vp_nar .byte v))) c n), none) := rfl
set_option maxRecDepth 100000 in
theorem q_wX67 {nx pc : Nat} {L : q_L} {v i : Int32} {r : List Value} {s : q_S} {c n : Nat} : q_ast nx 0 (fun x => x) (pc, L, .int v :: .int i :: .ref 131 :: r, q_kX s c n) = some (q_in i 512, (nx, L, r, q_kX (q_sA s 67 (upd (s.1 67) i.toNatClampNeg v)) c n), none) := rfl
set_option maxRecDepth 100000 in
theorem q_wX68 {nx pc : Nat} {L : q_L} {v i : Int32} {r : List Value} {s : q_S} {c n : Nat} : q_ast nx 0 (fun x => x) (pc, L, .int v :: .int i :: .ref 132 :: r, q_kX s c n) = some (q_in i 512, (nx, L, r, q_kX (q_sA s 68 (upd (s.1 68) i.toNatClampNeg v)) c n), none) := rfl
set_option maxRecDepth 100000 in
theorem q_wX69 {nx pc : Nat} {L : q_L} {v i : Int32} {r : List Value} {s : q_S} {c n : Nat} : q_ast nx 0 (fun x => x) (pc, L, .int v :: .int i :: .ref 133 :: r, q_kX s c n) = some (q_in i 512, (nx, L, r, q_kX (q_sA s 69 (upd (s.1 69) i.toNatClampNeg v)) c n), none) := rfl
set_option maxRecDepth 100000 in
theorem q_wX70 {nx pc : Nat} {L : q_L} {v i : Int32} {r : List Value} {s : q_S} {c n : Nat} : q_ast nx 0 (fun x => x) (pc, L, .int v :: .int i :: .ref 134 :: r, q_kX s c n) = some (q_in i 512, (nx, L, r, q_kX (q_sA s 70 (upd (s.1 70) i.toNatClampNeg v)) c n), none) := rfl
set_option maxRecDepth 100000 in
theorem q_wX172 {nx pc : Nat} {L : q_L} {v : Int64} {i : Int32} {r : List Value} {s : q_S} {c n : Nat} : q_lst nx 2 (pc, L, .long v :: .int i :: .ref 236 :: r, q_kX s c n) = some (q_in i 1, (nx, L, r, q_kX (q_sL s 172 (vp_updL (s.2.2 172) i.toNatClampNeg v)) c n), none) := rfl
theorem q_wM1 {nx pc : Nat} {L : q_L} {v i : Int32} {r : List Value} {s : q_S} {c n : Nat} : q_ast nx 0 (fun x => x) (pc, L, .int v :: .int i :: .ref 65 :: r, q_kM s c n) = some (q_in i 4096, (nx, L, r, q_kM (q_sA s 1 (upd (s.1 1) i.toNatClampNeg v)) c n), none) := rfl
theorem q_wM2 {nx pc : Nat} {L : q_L} {v i : Int32} {r : List Value} {s : q_S} {c n : Nat} : q_ast nx 0 (fun x => x) (pc, L, .int v :: .int i :: .ref 66 :: r, q_kM s c n) = some (q_in i 512, (nx, L, r, q_kM (q_sA s 2 (upd (s.1 2) i.toNatClampNeg v)) c n), none) := rfl
theorem q_wM3 {nx pc : Nat} {L : q_L} {v i : Int32} {r : List Value} {s : q_S} {c n : Nat} : q_ast nx 0 (fun x => x) (pc, L, .int v :: .int i :: .ref 67 :: r, q_kM s c n) = some (q_in i 2048, (nx, L, r, q_kM (q_sA s 3 (upd (s.1 3) i.toNatClampNeg v)) c n), none) := rfl
theorem q_wM4 {nx pc : Nat} {L : q_L} {v i : Int32} {r : List Value} {s : q_S} {c n : Nat} : q_ast nx 0 (fun x => x) (pc, L, .int v :: .int i :: .ref 68 :: r, q_kM s c n) = some (q_in i 48, (nx, L, r, q_kM (q_sA s 4 (upd (s.1 4) i.toNatClampNeg v)) c n), none) := rfl
theorem q_wM5 {nx pc : Nat} {L : q_L} {v i : Int32} {r : List Value} {s : q_S} {c n : Nat} : q_ast nx 0 (fun x => x) (pc, L, .int v :: .int i :: .ref 69 :: r, q_kM s c n) = some (q_in i 1024, (nx, L, r, q_kM (q_sA s 5 (upd (s.1 5) i.toNatClampNeg v)) c n), none) := rfl
theorem q_wM6 {nx pc : Nat} {L : q_L} {v i : Int32} {r : List Value} {s : q_S} {c n : Nat} : q_ast nx 0 (fun x => x) (pc, L, .int v :: .int i :: .ref 70 :: r, q_kM s c n) = some (q_in i 40, (nx, L, r, q_kM (q_sA s 6 (upd (s.1 6) i.toNatClampNeg v)) c n), none) := rfl
theorem q_wM7 {nx pc : Nat} {L : q_L} {v i : Int32} {r : List Value} {s : q_S} {c n : Nat} : q_ast nx 1 (vp_nar .boolean) (pc, L, .int v :: .int i :: .ref 71 :: r, q_kM s c n) = some (q_in i 16, (nx, L, r, q_kM (q_sA s 7 (upd (s.1 7) i.toNatClampNeg (vp_nar .boolean v))) c n), none) := rfl
theorem q_wM8 {nx pc : Nat} {L : q_L} {v i : Int32} {r : List Value} {s : q_S} {c n : Nat} : q_ast nx 0 (fun x => x) (pc, L, .int v :: .int i :: .ref 72 :: r, q_kM s c n) = some (q_in i 40, (nx, L, r, q_kM (q_sA s 8 (upd (s.1 8) i.toNatClampNeg v)) c n), none) := rfl
theorem q_wM9 {nx pc : Nat} {L : q_L} {v i : Int32} {r : List Value} {s : q_S} {c n : Nat} : q_ast nx 0 (fun x => x) (pc, L, .int v :: .int i :: .ref 73 :: r, q_kM s c n) = some (q_in i 16, (nx, L, r, q_kM (q_sA s 9 (upd (s.1 9) i.toNatClampNeg v)) c n), none) := rfl
theorem q_wM10 {nx pc : Nat} {L : q_L} {v i : Int32} {r : List Value} {s : q_S} {c n : Nat} : q_ast nx 0 (fun x => x) (pc, L, .int v :: .int i :: .ref 74 :: r, q_kM s c n) = some (q_in i 3, (nx, L, r, q_kM (q_sA s 10 (upd (s.1 10) i.toNatClampNeg v)) c n), none) := rfl
theorem q_wM11 {nx pc : Nat} {L : q_L} {v i : Int32} {r : List Value} {s : q_S} {c n : Nat} : q_ast nx 0 (fun x => x) (pc, L, .int v :: .int i :: .ref 75 :: r, q_kM s c n) = some (q_in i 3, (nx, L, r, q_kM (q_sA s 11 (upd (s.1 11) i.toNatClampNeg v)) c n), none) := rfl
theorem q_wM12 {nx pc : Nat} {L : q_L} {v i : Int32} {r : List Value} {s : q_S} {c n : Nat} : q_ast nx 0 (fun x => x) (pc, L, .int v :: .int i :: .ref 76 :: r, q_kM s c n) = some (q_in i 3, (nx, L, r, q_kM (q_sA s 12 (upd (s.1 12) i.toNatClampNeg v)) c n), none) := rfl
theorem q_wM13 {nx pc : Nat} {L : q_L} {v i : Int32} {r : List Value} {s : q_S} {c n : Nat} : q_ast nx 0 (fun x => x) (pc, L, .int v :: .int i :: .ref 77 :: r, q_kM s c n) = some (q_in i 3, (nx, L, r, q_kM (q_sA s 13 (upd (s.1 13) i.toNatClampNeg v)) c n), none) := rfl
theorem q_wM14 {nx pc : Nat} {L : q_L} {v i : Int32} {r : List Value} {s : q_S} {c n : Nat} : q_ast nx 0 (fun x => x) (pc, L, .int v :: .int i :: .ref 78 :: r, q_kM s c n) = some (q_in i 24, (nx, L, r, q_kM (q_sA s 14 (upd (s.1 14) i.toNatClampNeg v)) c n), none) := rfl
theorem q_wM15 {nx pc : Nat} {L : q_L} {v i : Int32} {r : List Value} {s : q_S} {c n : Nat} : q_ast nx 1 (vp_nar .boolean) (pc, L, .int v :: .int i :: .ref 79 :: r, q_kM s c n) = some (q_in i 8, (nx, L, r, q_kM (q_sA s 15 (upd (s.1 15) i.toNatClampNeg (vp_nar .boolean v))) c n), none) := rfl
theorem q_wM16 {nx pc : Nat} {L : q_L} {v i : Int32} {r : List Value} {s : q_S} {c n : Nat} : q_ast nx 0 (fun x => x) (pc, L, .int v :: .int i :: .ref 80 :: r, q_kM s c n) = some (q_in i 12288, (nx, L, r, q_kM (q_sA s 16 (upd (s.1 16) i.toNatClampNeg v)) c n), none) := rfl
theorem q_wM17 {nx pc : Nat} {L : q_L} {v i : Int32} {r : List Value} {s : q_S} {c n : Nat} : q_ast nx 0 (fun x => x) (pc, L, .int v :: .int i :: .ref 81 :: r, q_kM s c n) = some (q_in i 1536, (nx, L, r, q_kM (q_sA s 17 (upd (s.1 17) i.toNatClampNeg v)) c n), none) := rfl
theorem q_wM18 {nx pc : Nat} {L : q_L} {v i : Int32} {r : List Value} {s : q_S} {c n : Nat} : q_ast nx 0 (fun x => x) (pc, L, .int v :: .int i :: .ref 82 :: r, q_kM s c n) = some (q_in i 6144, (nx, L, r, q_kM (q_sA s 18 (upd (s.1 18) i.toNatClampNeg v)) c n), none) := rfl
theorem q_wM19 {nx pc : Nat} {L : q_L} {v i : Int32} {r : List Value} {s : q_S} {c n : Nat} : q_ast nx 0 (fun x => x) (pc, L, .int v :: .int i :: .ref 83 :: r, q_kM s c n) = some (q_in i 144, (nx, L, r, q_kM (q_sA s 19 (upd (s.1 19) i.toNatClampNeg v)) c n), none) := rfl
theorem q_wM20 {nx pc : Nat} {L : q_L} {v i : Int32} {r : List Value} {s : q_S} {c n : Nat} : q_ast nx 0 (fun x => x) (pc, L, .int v :: .int i :: .ref 84 :: r, q_kM s c n) = some (q_in i 3072, (nx, L, r, q_kM (q_sA s 20 (upd (s.1 20) i.toNatClampNeg v)) c n), none) := rfl
theorem q_wM21 {nx pc : Nat} {L : q_L} {v i : Int32} {r : List Value} {s : q_S} {c n : Nat} : q_ast nx 0 (fun x => x) (pc, L, .int v :: .int i :: .ref 85 :: r, q_kM s c n) = some (q_in i 120, (nx, L, r, q_kM (q_sA s 21 (upd (s.1 21) i.toNatClampNeg v)) c n), none) := rfl
theorem q_wM22 {nx pc : Nat} {L : q_L} {v i : Int32} {r : List Value} {s : q_S} {c n : Nat} : q_ast nx 1 (vp_nar .boolean) (pc, L, .int v :: .int i :: .ref 86 :: r, q_kM s c n) = some (q_in i 48, (nx, L, r, q_kM (q_sA s 22 (upd (s.1 22) i.toNatClampNeg (vp_nar .boolean v))) c n), none) := rfl
theorem q_wM23 {nx pc : Nat} {L : q_L} {v i : Int32} {r : List Value} {s : q_S} {c n : Nat} : q_ast nx 0 (fun x => x) (pc, L, .int v :: .int i :: .ref 87 :: r, q_kM s c n) = some (q_in i 120, (nx, L, r, q_kM (q_sA s 23 (upd (s.1 23) i.toNatClampNeg v)) c n), none) := rfl
theorem q_wM24 {nx pc : Nat} {L : q_L} {v i : Int32} {r : List Value} {s : q_S} {c n : Nat} : q_ast nx 0 (fun x => x) (pc, L, .int v :: .int i :: .ref 88 :: r, q_kM s c n) = some (q_in i 48, (nx, L, r, q_kM (q_sA s 24 (upd (s.1 24) i.toNatClampNeg v)) c n), none) := rfl
theorem q_wM25 {nx pc : Nat} {L : q_L} {v i : Int32} {r : List Value} {s : q_S} {c n : Nat} : q_ast nx 0 (fun x => x) (pc, L, .int v :: .int i :: .ref 89 :: r, q_kM s c n) = some (q_in i 9, (nx, L, r, q_kM (q_sA s 25 (upd (s.1 25) i.toNatClampNeg v)) c n), none) := rfl
theorem q_wM26 {nx pc : Nat} {L : q_L} {v i : Int32} {r : List Value} {s : q_S} {c n : Nat} : q_ast nx 0 (fun x => x) (pc, L, .int v :: .int i :: .ref 90 :: r, q_kM s c n) = some (q_in i 9, (nx, L, r, q_kM (q_sA s 26 (upd (s.1 26) i.toNatClampNeg v)) c n), none) := rfl
theorem q_wM27 {nx pc : Nat} {L : q_L} {v i : Int32} {r : List Value} {s : q_S} {c n : Nat} : q_ast nx 0 (fun x => x) (pc, L, .int v :: .int i :: .ref 91 :: r, q_kM s c n) = some (q_in i 9, (nx, L, r, q_kM (q_sA s 27 (upd (s.1 27) i.toNatClampNeg v)) c n), none) := rfl
theorem q_wM28 {nx pc : Nat} {L : q_L} {v i : Int32} {r : List Value} {s : q_S} {c n : Nat} : q_ast nx 0 (fun x => x) (pc, L, .int v :: .int i :: .ref 92 :: r, q_kM s c n) = some (q_in i 9, (nx, L, r, q_kM (q_sA s 28 (upd (s.1 28) i.toNatClampNeg v)) c n), none) := rfl
theorem q_wM29 {nx pc : Nat} {L : q_L} {v i : Int32} {r : List Value} {s : q_S} {c n : Nat} : q_ast nx 0 (fun x => x) (pc, L, .int v :: .int i :: .ref 93 :: r, q_kM s c n) = some (q_in i 72, (nx, L, r, q_kM (q_sA s 29 (upd (s.1 29) i.toNatClampNeg v)) c n), none) := rfl
theorem q_wM30 {nx pc : Nat} {L : q_L} {v i : Int32} {r : List Value} {s : q_S} {c n : Nat} : q_ast nx 1 (vp_nar .boolean) (pc, L, .int v :: .int i :: .ref 94 :: r, q_kM s c n) = some (q_in i 24, (nx, L, r, q_kM (q_sA s 30 (upd (s.1 30) i.toNatClampNeg (vp_nar .boolean v))) c n), none) := rfl
theorem q_wM31 {nx pc : Nat} {L : q_L} {v : Int64} {i : Int32} {r : List Value} {s : q_S} {c n : Nat} : q_lst nx 2 (pc, L, .long v :: .int i :: .ref 95 :: r, q_kM s c n) = some (q_in i 6, (nx, L, r, q_kM (q_sL s 31 (vp_updL (s.2.2 31) i.toNatClampNeg v)) c n), none) := rfl
theorem q_wM32 {nx pc : Nat} {L : q_L} {v i : Int32} {r : List Value} {s : q_S} {c n : Nat} : q_ast nx 3 (vp_nar .char) (pc, L, .int v :: .int i :: .ref 96 :: r, q_kM s c n) = some (q_in i 40, (nx, L, r, q_kM (q_sA s 32 (upd (s.1 32) i.toNatClampNeg (vp_nar .char v))) c n), none) := rfl
theorem q_wM33 {nx pc : Nat} {L : q_L} {v i : Int32} {r : List Value} {s : q_S} {c n : Nat} : q_ast nx 1 (vp_nar .boolean) (pc, L, .int v :: .int i :: .ref 97 :: r, q_kM s c n) = some (q_in i 8, (nx, L, r, q_kM (q_sA s 33 (upd (s.1 33) i.toNatClampNeg (vp_nar .boolean v))) c n), none) := rfl
set_option maxRecDepth 100000 in
theorem q_pX0_2 {nx pc : Nat} {L : q_L} {v : Int32} {r : List Value} {s : q_S} {c n : Nat} : q_pf nx 13 2 q_ck_i (pc, L, .int v :: .ref 64 :: r, q_kX s c n) = some (nx, L, r, q_kX (q_sI s 0 2 v) c n) := rfl
set_option maxRecDepth 100000 in
theorem q_pX34_5 {nx pc : Nat} {L : q_L} {v : Int32} {r : List Value} {s : q_S} {c n : Nat} : q_pf nx 9 5 q_ck_i (pc, L, .int v :: .ref 98 :: r, q_kX s c n) = some (nx, L, r, q_kX (q_sI s 34 5 v) c n) := rfl
set_option maxRecDepth 100000 in
theorem q_pX34_6 {nx pc : Nat} {L : q_L} {v : Int32} {r : List Value} {s : q_S} {c n : Nat} : q_pf nx 9 6 q_ck_i (pc, L, .int v :: .ref 98 :: r, q_kX s c n) = some (nx, L, r, q_kX (q_sI s 34 6 v) c n) := rfl
set_option maxRecDepth 100000 in
theorem q_pX34_7t {nx pc : Nat} {L : q_L} {r : List Value} {s : q_S} {c n : Nat} : q_pf nx 9 7 q_ck_z (pc, L, .int 1 :: .ref 98 :: r, q_kX s c n) = some (nx, L, r, q_kX (q_sI s 34 7 1) c n) := rfl
set_option maxRecDepth 100000 in
theorem q_pX34_7f {nx pc : Nat} {L : q_L} {r : List Value} {s : q_S} {c n : Nat} : q_pf nx 9 7 q_ck_z (pc, L, .int 0 :: .ref 98 :: r, q_kX s c n) = some (nx, L, r, q_kX (q_sI s 34 7 0) c n) := rfl
theorem q_pM0_15 {nx pc : Nat} {L : q_L} {v : Int64} {r : List Value} {s : q_S} {c n : Nat} : q_pf nx 14 15 q_ck_l (pc, L, .long v :: .ref 64 :: r, q_kM s c n) = some (nx, L, r, q_kM (q_sJ s 0 15 v) c n) := rfl
theorem q_pM0_16 {nx pc : Nat} {L : q_L} {v : Int64} {r : List Value} {s : q_S} {c n : Nat} : q_pf nx 14 16 q_ck_l (pc, L, .long v :: .ref 64 :: r, q_kM s c n) = some (nx, L, r, q_kM (q_sJ s 0 16 v) c n) := rfl
theorem q_pM0_34 {nx pc : Nat} {L : q_L} {v : Int32} {r : List Value} {s : q_S} {c n : Nat} : q_pf nx 14 34 q_ck_i (pc, L, .int v :: .ref 64 :: r, q_kM s c n) = some (nx, L, r, q_kM (q_sI s 0 34 v) c n) := rfl
def q_RT {T : Type} (TB : Nat → Option (Nat × Nat × (Nat → Int32))) (d k : Nat) (g : q_G) (φ : T → q_Out) (x : T) : Prop := q_Ru TB d k g (φ x)
def q_RP {T : Type} (TB : Nat → Option (Nat × Nat × (Nat → Int32))) (d k : Nat) (g : q_G) (φ : T → q_Out) (o : Option T) : Prop := ∀ x, o = some x → q_Ru TB d k g (φ x)
def q_nd9 : List Nat → Bool
  | [] => true
  | a :: r => !(r.any (Nat.beq a)) && q_nd9 r
theorem q_nd9_ok : ∀ {l : List Nat}, q_nd9 l = true → l.Nodup
  | [], _ => List.Pairwise.nil
  | a :: r, h => by
    unfold q_nd9 at h
    rw [Bool.and_eq_true] at h
    obtain ⟨h1, h2⟩ := h
    rw [List.nodup_cons]
    refine ⟨fun hm => ?_, q_nd9_ok h2⟩
    have h3 : r.any (Nat.beq a) = true := List.any_eq_true.mpr ⟨a, hm, Nat.beq_refl a⟩
    rw [h3] at h1
    cases h1
theorem q_xt_mk {L L' : q_L} (h1 : ∀ q ∈ L', q ∈ L) (h2 : q_nd9 (L.map fun q => q.1) = true) : q_xt L L' := ⟨h1, q_nd9_ok h2⟩
theorem q_mn0 {L : q_L} : ∀ q ∈ ([] : q_L), q ∈ L := fun _ h => by cases h
theorem q_mn1 {L L' : q_L} {q : Nat × Value} (i : Nat) (h : L[i]? = some q) (h2 : ∀ q ∈ L', q ∈ L) : ∀ r ∈ q :: L', r ∈ L := fun r hr => by
  rcases List.mem_cons.mp hr with rfl | e
  · exact List.mem_of_getElem? h
  · exact h2 r e
section
variable {T : Type} {TB : Nat → Option (Nat × Nat × (Nat → Int32))} {d k : Nat} {g g2 : q_G} {φ : T → q_Out} {x : T} {o : Option T}
theorem q_Ru_xt {pc : Nat} {L L' : q_L} {st : List Value} {hp : q_H} {o : q_Out} (hx : q_xt L L') (h : q_Ru TB d k (pc, L', st, hp) o) : q_Ru TB d k (pc, L, st, hp) o := by
  obtain ⟨n, h⟩ := h
  exact ⟨n, q_xt_loop (q_mtab_xt k) n hx h⟩
theorem q_RT_xt {pc : Nat} {L L' : q_L} {st : List Value} {hp : q_H} (hx : q_xt L L') (h : q_RT TB d k (pc, L', st, hp) φ x) : q_RT TB d k (pc, L, st, hp) φ x := q_Ru_xt hx h
theorem q_RP_xt {pc : Nat} {L L' : q_L} {st : List Value} {hp : q_H} (hx : q_xt L L') (h : q_RP TB d k (pc, L', st, hp) φ o) : q_RP TB d k (pc, L, st, hp) φ o := fun x e => q_Ru_xt hx (h x e)
theorem q_RT_seg (j : Nat) (e : ∀ ex n, q_loop ex (q_mtab TB k) (n + j) g = q_loop ex (q_mtab TB k) n g2) (h : q_RT TB d k g2 φ x) : q_RT TB d k g φ x := q_Ru_seg j e h
theorem q_RP_seg (j : Nat) (e : ∀ ex n, q_loop ex (q_mtab TB k) (n + j) g = q_loop ex (q_mtab TB k) n g2) (h : q_RP TB d k g2 φ o) : q_RP TB d k g φ o := fun x hx => q_Ru_seg j e (h x hx)
theorem q_RT_rsT {f : q_G → Option (Bool × q_G × Option q_G)} {b : Bool} {g3 : Option q_G} (ht : q_mtab TB k g.1 = some (.inr (.inl f))) (hf : f g = some (b, g2, g3)) (hb : b = true) (h : q_RT TB d k g2 φ x) : q_RT TB d k g φ x := q_Ru_rsT ht hf hb h
theorem q_RP_rsT {f : q_G → Option (Bool × q_G × Option q_G)} {b : Bool} {g3 : Option q_G} (ht : q_mtab TB k g.1 = some (.inr (.inl f))) (hf : f g = some (b, g2, g3)) (hb : b = true) (h : q_RP TB d k g2 φ o) : q_RP TB d k g φ o := fun x hx => q_Ru_rsT ht hf hb (h x hx)
theorem q_RT_rsF {f : q_G → Option (Bool × q_G × Option q_G)} {b : Bool} {g1 : q_G} (ht : q_mtab TB k g.1 = some (.inr (.inl f))) (hf : f g = some (b, g1, some g2)) (hb : b = false) (h : q_RT TB d k g2 φ x) : q_RT TB d k g φ x := q_Ru_rsF ht hf hb h
theorem q_RP_rsF {f : q_G → Option (Bool × q_G × Option q_G)} {b : Bool} {g1 : q_G} (ht : q_mtab TB k g.1 = some (.inr (.inl f))) (hf : f g = some (b, g1, some g2)) (hb : b = false) (h : q_RP TB d k g2 φ o) : q_RP TB d k g φ o := fun x hx => q_Ru_rsF ht hf hb (h x hx)
theorem q_Ru_st1 {f : q_G → Option q_G} {o : q_Out} (ht : q_mtab TB k g.1 = some (.inl f)) (hf : f g = some g2) (h : q_Ru TB d k g2 o) : q_Ru TB d k g o := q_Ru_step (fun ex => by
  unfold q_step
  rw [ht]
  dsimp only
  rw [hf]) h
theorem q_RT_st1 {f : q_G → Option q_G} (ht : q_mtab TB k g.1 = some (.inl f)) (hf : f g = some g2) (h : q_RT TB d k g2 φ x) : q_RT TB d k g φ x := q_Ru_st1 ht hf h
theorem q_RP_st1 {f : q_G → Option q_G} (ht : q_mtab TB k g.1 = some (.inl f)) (hf : f g = some g2) (h : q_RP TB d k g2 φ o) : q_RP TB d k g φ o := fun x hx => q_Ru_st1 ht hf (h x hx)
theorem q_RT_call {nx k2 : Nat} {f : q_G → Option (Nat × List Value × List Value)} {hd : Option (String → Option (Nat × Nat))} {as rest : List Value} {v : Option Value} {h2 : q_H} (ht : q_mtab TB k g.1 = some (.inr (.inr (.inr (.inr (nx, f, hd)))))) (hf : f g = some (k2, as, rest)) (hc : q_Ca TB d k2 as g.2.2.2 (.inl v, h2)) (h : q_RT TB d k (nx, g.2.1, v.toList ++ rest, h2) φ x) : q_RT TB d k g φ x := q_Ru_call ht hf hc h
theorem q_RP_call {nx k2 : Nat} {f : q_G → Option (Nat × List Value × List Value)} {hd : Option (String → Option (Nat × Nat))} {as rest : List Value} {v : Option Value} {h2 : q_H} (ht : q_mtab TB k g.1 = some (.inr (.inr (.inr (.inr (nx, f, hd)))))) (hf : f g = some (k2, as, rest)) (hc : q_Ca TB d k2 as g.2.2.2 (.inl v, h2)) (h : q_RP TB d k (nx, g.2.1, v.toList ++ rest, h2) φ o) : q_RP TB d k g φ o := fun x hx => q_Ru_call ht hf hc (h x hx)
theorem q_RT_ret {f : q_G → Option (Option Value)} {v : Option Value} (ht : q_mtab TB k g.1 = some (.inr (.inr (.inl f)))) (hf : f g = some v) (hφ : φ x = (.inl v, g.2.2.2)) : q_RT TB d k g φ x := by
  unfold q_RT
  rw [hφ]
  exact q_Ru_ret ht hf
theorem q_RP_ret {f : q_G → Option (Option Value)} {v : Option Value} (ht : q_mtab TB k g.1 = some (.inr (.inr (.inl f)))) (hf : f g = some v) (hφ : φ x = (.inl v, g.2.2.2)) : q_RP TB d k g φ (some x) := fun y hy => by
  cases hy
  rw [hφ]
  exact q_Ru_ret ht hf
theorem q_RT_cT {a b : T} (h : q_RT TB d k g φ a) : q_RT TB d k g φ (cond true a b) := h
theorem q_RT_cF {a b : T} (h : q_RT TB d k g φ b) : q_RT TB d k g φ (cond false a b) := h
theorem q_RP_cT {a b : Option T} (h : q_RP TB d k g φ a) : q_RP TB d k g φ (cond true a b) := h
theorem q_RP_cF {a b : Option T} (h : q_RP TB d k g φ b) : q_RP TB d k g φ (cond false a b) := h
theorem q_RT_let {U : Type} {u : U} {f : U → T} (h : q_RT TB d k g φ (f u)) : q_RT TB d k g φ (q_let u f) := h
theorem q_RP_let {U : Type} {u : U} {f : U → Option T} (h : q_RP TB d k g φ (f u)) : q_RP TB d k g φ (q_let u f) := h
theorem q_RP_bd {U : Type} {u : Option U} {f : U → Option T} (h : ∀ y, u = some y → q_RP TB d k g φ (f y)) : q_RP TB d k g φ (u.bind f) := fun x hx => by
  cases hu : u with
  | none => rw [hu] at hx; cases hx
  | some y => rw [hu] at hx; exact h y hu x hx
theorem q_RP_as {b : Bool} (h : b = true → q_RP TB d k g φ o) : q_RP TB d k g φ (cond b o none) := fun x hx => by
  cases hb : b with
  | false => rw [hb] at hx; cases hx
  | true => rw [hb] at hx; exact h hb x hx
theorem q_RP_no : q_RP TB d k g φ none := fun x hx => by cases hx
theorem q_CaT_of {as : List Value} {h : q_H} (hw : q_wd as ≤ (q_mt k).2.2.1) (e : q_RT TB d k (0, lv_args 0 as, [], h) φ x) : q_Ca TB (d + 1) k as h (φ x) := q_Ca_of hw e
theorem q_CaP_of {as : List Value} {h : q_H} (hw : q_wd as ≤ (q_mt k).2.2.1) (e : q_RP TB d k (0, lv_args 0 as, [], h) φ o) (hx : o = some x) : q_Ca TB (d + 1) k as h (φ x) := q_Ca_of hw (e x hx)
end
theorem q_neI {x : Int32} {c : Int32} {n : Int} (h : decide (x = c) = false) (hc : c.toInt = n := by rfl) : ¬ x.toInt = n := fun e => of_decide_eq_false h (Int32.toInt_inj.mp (by rw [e, hc]))
theorem q_neJ {x : Int32} {c : Int32} {n : Int} (h : decide (x = c) = false) (hc : c.toInt = n := by rfl) : ¬ n = x.toInt := fun e => q_neI h hc e.symm
def q_z1 (x : Int32) : Bool := decide (x = 0) || decide (x = 1)
theorem q_ck01 {x : Int32} (h : q_z1 x = true) : x = 0 ∨ x = 1 := by
  unfold q_z1 at h
  rw [Bool.or_eq_true] at h
  rcases h with h | h
  · exact Or.inl (of_decide_eq_true h)
  · exact Or.inr (of_decide_eq_true h)
theorem q_rz01 {pc : Nat} {L : q_L} {hp : q_H} {x : Int32} (h : q_z1 x = true) : q_rz (pc, L, [.int x], hp) = some (some (.int x)) := by
  unfold q_rz
  exact if_pos (q_ck01 h)
theorem q_b01 {x : Int32} (h : q_z1 x = true) : q_b (decide (x = 1)) = x := by
  rcases q_ck01 h with e | e <;> rw [e] <;> rfl
theorem q_exT {T : Type} {a b : Option T} (h : ∃ x, a = some x) : ∃ x, cond true a b = some x := h
theorem q_exF {T : Type} {a b : Option T} (h : ∃ x, b = some x) : ∃ x, cond false a b = some x := h
theorem q_exL {T U : Type} {u : U} {f : U → Option T} (h : ∃ x, f u = some x) : ∃ x, q_let u f = some x := h
theorem q_exB {T U : Type} {u : U} {f : U → Option T} (h : ∃ x, f u = some x) : ∃ x, (some u).bind f = some x := h
theorem q_exA {T : Type} {b : Bool} {o : Option T} (hb : b = true) (h : ∃ x, o = some x) : ∃ x, cond b o none = some x := by
  rw [hb]; exact h
theorem q_add9 {a c : Int32} (h1 : -2147483648 ≤ a.toInt + c.toInt) (h2 : a.toInt + c.toInt ≤ 2147483647) : (a + c).toInt = a.toInt + c.toInt := by
  rw [Int32.toInt_add]
  exact Int.bmod_eq_of_le (by omega) (by omega)
theorem q_in_om {x : Int32} {n : Nat} (h1 : 0 ≤ x.toInt) (h2 : x.toInt < (n : Int)) : q_in x n = true := q_in_bd (L := 0) (U := (n : Int) - 1) h1 (by omega) (Int.le_refl 0) (by omega)
theorem q_in_ca {c x m : Int32} {n : Nat} (hm : ¬ m < 0 := by decide) (h0 : 0 ≤ c.toInt := by decide) (h : c.toInt + m.toInt < (n : Int) := by decide) (hn : n < 1000000 := by decide) : q_in (c + (x &&& m)) n = true := by
  obtain ⟨h1, h2⟩ := q_and_bd x m hm
  have e : (c + (x &&& m)).toInt = c.toInt + (x &&& m).toInt := q_add9 (by omega) (by omega)
  exact q_in_om (by omega) (by omega)
theorem q_in_m1 {x : Int32} {n : Nat} (h1 : 1 ≤ x.toInt) (h2 : x.toInt ≤ (n : Int)) : q_in (x - 1) n = true := by
  have h9 := Int32.toInt_lt x
  have e : (x - 1).toInt = x.toInt - 1 := by
    rw [Int32.toInt_sub]
    show Int.bmod (x.toInt - 1) _ = _
    exact Int.bmod_eq_of_le (by omega) (by omega)
  exact q_in_om (by omega) (by omega)
theorem q_in_cart {x v : Int32} (h1 : 2048 ≤ v.toInt) (h2 : v.toInt < 2560) : q_in (((512 * (x &&& 3)) + v) - 2048) 2048 = true := by
  obtain ⟨a1, a2⟩ := q_and_bd x 3 (by decide)
  have a2 : (x &&& 3).toInt ≤ 3 := a2
  have e1 : (512 * (x &&& 3)).toInt = 512 * (x &&& 3).toInt := by
    rw [Int32.toInt_mul]
    show Int.bmod (512 * (x &&& 3).toInt) _ = _
    exact Int.bmod_eq_of_le (by omega) (by omega)
  have e2 : ((512 * (x &&& 3)) + v).toInt = 512 * (x &&& 3).toInt + v.toInt := by
    rw [q_add9 (by omega) (by omega), e1]
  have e3 : (((512 * (x &&& 3)) + v) - 2048).toInt = 512 * (x &&& 3).toInt + v.toInt - 2048 := by
    rw [Int32.toInt_sub, e2]
    show Int.bmod (512 * (x &&& 3).toInt + v.toInt - 2048) _ = _
    exact Int.bmod_eq_of_le (by omega) (by omega)
  exact q_in_om (by omega) (by omega)
theorem q_acb {a b c d e : Bool} {m : Nat} (h : (a && (b && (c && (d && e)))) = true) : (a && (b && (c && (d && (e && (List.range m).all fun _ => true))))) = true := by
  have h1 : ((List.range m).all fun _ => true) = true := List.all_eq_true.mpr fun _ _ => rfl
  rw [h1, Bool.and_true]
  exact h
section
variable {T : Type} {TB : Nat → Option (Nat × Nat × (Nat → Int32))} {d k : Nat} {g g2 : q_G} {φ : T → q_Out} {x : T} {o : Option T}
theorem q_Ru_le {o : q_Out} {d9 : Nat} (hd : d ≤ d9) (e : q_Ru TB d k g o) : q_Ru TB d9 k g o := by
  obtain ⟨n, e⟩ := e
  exact ⟨n, q_loop_le (q_up_x (Nat.le_refl n) hd) q_LeT_rf n n (Nat.le_refl n) _ _ e⟩
theorem q_RT_callH {nx k2 tg i : Nat} {f : q_G → Option (Nat × List Value × List Value)} {hd : String → Option (Nat × Nat)} {as rest : List Value} {E : String} {h2 : q_H} (ht : q_mtab TB k g.1 = some (.inr (.inr (.inr (.inr (nx, f, some hd)))))) (hf : f g = some (k2, as, rest)) (hc : q_Ca TB d k2 as g.2.2.2 (.inr E, h2)) (hh : hd E = some (tg, i)) (h : q_RT TB d k (tg, q_drop g.2.1 i, [], h2) φ x) : q_RT TB d k g φ x := q_Ru_callH ht hf hc hh h
theorem q_RP_callH {nx k2 tg i : Nat} {f : q_G → Option (Nat × List Value × List Value)} {hd : String → Option (Nat × Nat)} {as rest : List Value} {E : String} {h2 : q_H} (ht : q_mtab TB k g.1 = some (.inr (.inr (.inr (.inr (nx, f, some hd)))))) (hf : f g = some (k2, as, rest)) (hc : q_Ca TB d k2 as g.2.2.2 (.inr E, h2)) (hh : hd E = some (tg, i)) (h : q_RP TB d k (tg, q_drop g.2.1 i, [], h2) φ o) : q_RP TB d k g φ o := fun x hx => q_Ru_callH ht hf hc hh (h x hx)
end
/-- a copy of m to place x of a row of n -/
def q_cpk (x : Int32) (m n : Nat) : Bool := !(decide (x < 0)) && decide (x.toNatClampNeg + m ≤ n)
theorem q_acbB {x : Int32} {m n : Nat} {a b c e : Bool} (h : q_cpk x m n = true) (h2 : (a && (b && (c && e))) = true) : (a && (!(decide (x < 0)) && (b && (c && (decide (x.toNatClampNeg + m ≤ n) && e))))) = true := by
  unfold q_cpk at h
  simp only [Bool.and_eq_true] at h h2 ⊢
  exact ⟨h2.1, h.1, h2.2.1, h2.2.2.1, h.2, h2.2.2.2⟩
/-- not a NaN -/
def q_nnf (x : UInt32) : Bool := decide (x &&& 0x7fffffff ≤ 0x7f800000)
def q_nnd (x : UInt64) : Bool := decide (x &&& 0x7fffffffffffffff ≤ 0x7ff0000000000000)
theorem q_fdv {nx pc : Nat} {L : q_L} {x y : UInt32} {r : List Value} {hp : q_H} (h : q_nnf (FP.fdiv x y) = true) : q_st nx (q_f2 q_o_fdiv) (pc, L, .float y :: .float x :: r, hp) = some (nx, L, .float (FP.fdiv x y) :: r, hp) := by
  have e : q_o_fdiv (.float x) (.float y) = some (.float (FP.fdiv x y)) := if_pos (of_decide_eq_true h)
  unfold q_st q_f2
  dsimp only
  rw [e]
theorem q_ddv {nx pc : Nat} {L : q_L} {x y : UInt64} {r : List Value} {hp : q_H} (h : q_nnd (FP.ddiv x y) = true) : q_st nx (q_f2 q_o_ddiv) (pc, L, .double y :: .double x :: r, hp) = some (nx, L, .double (FP.ddiv x y) :: r, hp) := by
  have e : q_o_ddiv (.double x) (.double y) = some (.double (FP.ddiv x y)) := if_pos (of_decide_eq_true h)
  unfold q_st q_f2
  dsimp only
  rw [e]
theorem q_f2dv {nx pc : Nat} {L : q_L} {x : UInt32} {r : List Value} {hp : q_H} (h : q_nnd (FP.f2d x) = true) : q_st nx (q_f1 q_o_f2d) (pc, L, .float x :: r, hp) = some (nx, L, .double (FP.f2d x) :: r, hp) := by
  have e : q_o_f2d (.float x) = some (.double (FP.f2d x)) := if_pos (of_decide_eq_true h)
  unfold q_st q_f1
  dsimp only
  rw [e]
theorem q_cE {T : Type} {TB : Nat → Option (Nat × Nat × (Nat → Int32))} {d k : Nat} {as : List Value} {h : q_H} {φ : T → q_Out} {x y : T} (e : x = y) (c : q_Ca TB d k as h (φ x)) : q_Ca TB d k as h (φ y) := e ▸ c
theorem q_vS_wd (TB : Nat → Option (Nat × Nat × (Nat → Int32))) (r : List Value) : q_wd (q_vS TB :: r) = q_wd r + 1 := by
  unfold q_vS
  split
  · rfl
  · rename_i x _
    cases Nat.beq x.1 99 <;> rfl
end
section
-- 45.zemb
/-! ===== heaps by shapes; a run on a part of the cells is one on all of them ===== -/
abbrev q_Sh : Type := (Nat × Nat) ⊕ ((Nat × List Nat) ⊕ List Nat)
def q_evc (g : Nat → Int32) (h : Nat → Int64) (k c : Nat) : Value := match c with
  | 0 => .int (g k)
  | 1 => .long (h k)
  | 2 => .null
  | 3 => .int 0
  | c + 4 => .ref (c + 4)
def q_evf (g : Nat → Int32) (h : Nat → Int64) : Nat → List Nat → List Value
  | _, [] => []
  | k, c :: r => q_evc g h k c :: q_evf g h (k + 1) r
def q_rfs : List Nat → Nat → Option Nat
  | [] => fun _ => none
  | a :: r => va_up (q_rfs r) r.length (some a)
def q_ev1 (f g : Nat → Int32) (h : Nat → Int64) (c : q_Sh) : q_C := match c with
  | .inl (t, n) => cond (Nat.beq t 2) (.inl (2, n, .inr (.inl h))) (.inl (t, n, .inl f))
  | .inr (.inl (ci, fs)) => .inr (ci, q_evf g h 0 fs)
  | .inr (.inr l) => .inl (5, l.length, .inr (.inr (.inr (.inr (q_rfs l)))))
def q_evs (S : q_S) : Nat → List q_Sh → List q_C
  | _, [] => []
  | i, c :: r => q_ev1 (S.1 i) (S.2.1 i) (S.2.2 i) c :: q_evs S (i + 1) r
theorem q_evs_len (S : q_S) : ∀ (l : List q_Sh) (i : Nat), (q_evs S i l).length = l.length := by
  intro l
  induction l with
  | nil => intro i; rfl
  | cons c r ih =>
    intro i
    show (q_evs S (i + 1) r).length + 1 = r.length + 1
    rw [ih]
theorem q_evs_at (S : q_S) : ∀ (l : List q_Sh) (i j : Nat), (q_evs S i l)[j]? = (l[j]?).map (q_ev1 (S.1 (i + j)) (S.2.1 (i + j)) (S.2.2 (i + j))) := by
  intro l
  induction l with
  | nil => intro i j; rfl
  | cons c r ih =>
    intro i j
    cases j with
    | zero => rfl
    | succ j =>
      show (q_evs S (i + 1) r)[j]? = (r[j]?).map _
      rw [ih, show i + 1 + j = i + (j + 1) by omega]
theorem q_evs_at0 (S : q_S) (l : List q_Sh) (j : Nat) : (q_evs S 0 l)[j]? = (l[j]?).map (q_ev1 (S.1 j) (S.2.1 j) (S.2.2 j)) := by
  rw [q_evs_at, Nat.zero_add]
def q_eN (n b1 b2 j : Nat) : Nat := cond (Nat.blt j n) (b1 + j) (b2 + (j - n))
def q_eb (n b1 b2 a : Nat) : Nat := cond (Nat.blt a 64) a (64 + q_eN n b1 b2 (a - 64))
def q_vw (n b1 b2 : Nat) (S : q_S) : q_S := (fun j => S.1 (q_eN n b1 b2 j), fun j => S.2.1 (q_eN n b1 b2 j), fun j => S.2.2 (q_eN n b1 b2 j))
def q_ps {T : Type} (n n2 b1 b2 k : Nat) (f : Nat → T) (d : T) : T := cond (Nat.ble b1 k && Nat.blt k (b1 + n)) (f (k - b1)) (cond (Nat.ble b2 k && Nat.blt k (b2 + n2)) (f (n + (k - b2))) d)
def q_pt (n n2 b1 b2 : Nat) (S s : q_S) : q_S := (fun k => q_ps n n2 b1 b2 k s.1 (S.1 k), fun k => q_ps n n2 b1 b2 k s.2.1 (S.2.1 k), fun k => q_ps n n2 b1 b2 k s.2.2 (S.2.2 k))
theorem q_bleT {a b : Nat} (h : a ≤ b) : Nat.ble a b = true := Nat.ble_eq_true_of_le h
theorem q_bltT {a b : Nat} (h : a < b) : Nat.blt a b = true := Nat.ble_eq_true_of_le h
theorem q_bleF {a b : Nat} (h : b < a) : Nat.ble a b = false := by
  cases e : Nat.ble a b with
  | false => rfl
  | true => exact absurd (Nat.le_of_ble_eq_true e) (Nat.not_le.mpr h)
theorem q_bltF {a b : Nat} (h : b ≤ a) : Nat.blt a b = false := q_bleF (Nat.lt_succ_of_le h)
theorem q_eN1 {n b1 b2 j : Nat} (h : j < n) : q_eN n b1 b2 j = b1 + j := by
  unfold q_eN
  rw [q_bltT h]; rfl
theorem q_eN2 {n b1 b2 j : Nat} (h : n ≤ j) : q_eN n b1 b2 j = b2 + (j - n) := by
  unfold q_eN
  rw [q_bltF h]; rfl
theorem q_eb1 {n b1 b2 a : Nat} (h : a < 64) : q_eb n b1 b2 a = a := by
  unfold q_eb
  rw [q_bltT h]; rfl
theorem q_eb2 {n b1 b2 j : Nat} : q_eb n b1 b2 (64 + j) = 64 + q_eN n b1 b2 j := by
  unfold q_eb
  rw [q_bltF (Nat.le_add_right 64 j), Nat.add_sub_cancel_left]; rfl
theorem q_eN_inj {n n2 b1 b2 : Nat} (hd : b1 + n ≤ b2 ∨ b2 + n2 ≤ b1) {i j : Nat} (hi : i < n + n2) (hj : j < n + n2) (e : q_eN n b1 b2 i = q_eN n b1 b2 j) : i = j := by
  rcases Nat.lt_or_ge i n with a | a <;> rcases Nat.lt_or_ge j n with b | b
  · rw [q_eN1 a, q_eN1 b] at e; omega
  · rw [q_eN1 a, q_eN2 b] at e; omega
  · rw [q_eN2 a, q_eN1 b] at e; omega
  · rw [q_eN2 a, q_eN2 b] at e; omega
theorem q_ps_in {T : Type} {n n2 b1 b2 : Nat} (hd : b1 + n ≤ b2 ∨ b2 + n2 ≤ b1) {j : Nat} (hj : j < n + n2) (f : Nat → T) (d : T) : q_ps n n2 b1 b2 (q_eN n b1 b2 j) f d = f j := by
  unfold q_ps
  rcases Nat.lt_or_ge j n with a | a
  · rw [q_eN1 a, q_bleT (Nat.le_add_right b1 j), q_bltT (Nat.add_lt_add_left a b1)]
    show f (b1 + j - b1) = f j
    rw [Nat.add_sub_cancel_left]
  · rw [q_eN2 a]
    have e2 : (Nat.ble b2 (b2 + (j - n)) && Nat.blt (b2 + (j - n)) (b2 + n2)) = true := by
      rw [q_bleT (Nat.le_add_right _ _), q_bltT (by omega)]; rfl
    have e1 : (Nat.ble b1 (b2 + (j - n)) && Nat.blt (b2 + (j - n)) (b1 + n)) = false := by
      rcases hd with h | h
      · rw [q_bltF (by omega), Bool.and_false]
      · rw [q_bleF (by omega)]; rfl
    rw [e1, e2]
    show f (n + (b2 + (j - n) - b2)) = f j
    congr 1
    omega
theorem q_ps_out {T : Type} {n n2 b1 b2 k : Nat} (h : ∀ j, j < n + n2 → ¬ q_eN n b1 b2 j = k) (f : Nat → T) (d : T) : q_ps n n2 b1 b2 k f d = d := by
  unfold q_ps
  have e1 : (Nat.ble b1 k && Nat.blt k (b1 + n)) = false := by
    rcases Nat.lt_or_ge k b1 with a | a
    · rw [q_bleF a]; rfl
    · rcases Nat.lt_or_ge k (b1 + n) with b | b
      · refine absurd ?_ (h (k - b1) (by omega))
        rw [q_eN1 (by omega)]; omega
      · rw [q_bltF b, Bool.and_false]
  have e2 : (Nat.ble b2 k && Nat.blt k (b2 + n2)) = false := by
    rcases Nat.lt_or_ge k b2 with a | a
    · rw [q_bleF a]; rfl
    · rcases Nat.lt_or_ge k (b2 + n2) with b | b
      · refine absurd ?_ (h (n + (k - b2)) (by omega))
        rw [q_eN2 (by omega)]; omega
      · rw [q_bltF b, Bool.and_false]
  rw [e1, e2]; rfl
theorem q_ps_vw {T : Type} (n n2 b1 b2 k : Nat) (f : Nat → T) : q_ps n n2 b1 b2 k (fun j => f (q_eN n b1 b2 j)) (f k) = f k := by
  unfold q_ps
  cases e1 : (Nat.ble b1 k && Nat.blt k (b1 + n)) with
  | true =>
    rw [Bool.and_eq_true] at e1
    have h1 := Nat.le_of_ble_eq_true e1.1
    have h2 : k < b1 + n := Nat.le_of_ble_eq_true e1.2
    show f (q_eN n b1 b2 (k - b1)) = f k
    rw [q_eN1 (by omega)]
    congr 1
    omega
  | false =>
    cases e2 : (Nat.ble b2 k && Nat.blt k (b2 + n2)) with
    | false => rfl
    | true =>
      rw [Bool.and_eq_true] at e2
      have h1 := Nat.le_of_ble_eq_true e2.1
      show f (q_eN n b1 b2 (n + (k - b2))) = f k
      rw [q_eN2 (by omega)]
      congr 1
      omega
theorem q_pt_vw {n n2 b1 b2 : Nat} {S : q_S} : q_pt n n2 b1 b2 S (q_vw n b1 b2 S) = S := by
  obtain ⟨A, I, J⟩ := S
  have h1 : (fun k => q_ps n n2 b1 b2 k (fun j => A (q_eN n b1 b2 j)) (A k)) = A := funext fun k => q_ps_vw n n2 b1 b2 k A
  have h2 : (fun k => q_ps n n2 b1 b2 k (fun j => I (q_eN n b1 b2 j)) (I k)) = I := funext fun k => q_ps_vw n n2 b1 b2 k I
  have h3 : (fun k => q_ps n n2 b1 b2 k (fun j => J (q_eN n b1 b2 j)) (J k)) = J := funext fun k => q_ps_vw n n2 b1 b2 k J
  show ((fun k => q_ps n n2 b1 b2 k (fun j => A (q_eN n b1 b2 j)) (A k)), (fun k => q_ps n n2 b1 b2 k (fun j => I (q_eN n b1 b2 j)) (I k)), (fun k => q_ps n n2 b1 b2 k (fun j => J (q_eN n b1 b2 j)) (J k))) = (A, I, J)
  rw [h1, h2, h3]
def q_shf (e : Nat → Nat) (c : q_Sh) : q_Sh := match c with
  | .inl x => .inl x
  | .inr (.inl (ci, fs)) => .inr (.inl (ci, fs.map e))
  | .inr (.inr l) => .inr (.inr (l.map e))
theorem q_evc_mv {β : Nat → Nat} (h1 : ∀ a, a < 64 → β a = a) (h2 : ∀ a, 64 ≤ a → 64 ≤ β a) (g : Nat → Int32) (h : Nat → Int64) (k c : Nat) : q_v β (q_evc g h k c) = q_evc g h k (β c) := by
  match c with
  | 0 => rw [h1 0 (by omega)]; rfl
  | 1 => rw [h1 1 (by omega)]; rfl
  | 2 => rw [h1 2 (by omega)]; rfl
  | 3 => rw [h1 3 (by omega)]; rfl
  | c + 4 =>
    have hb : 4 ≤ β (c + 4) := by
      rcases Nat.lt_or_ge (c + 4) 64 with a | a
      · rw [h1 _ a]; omega
      · have := h2 _ a; omega
    obtain ⟨m, hm⟩ : ∃ m, β (c + 4) = m + 4 := ⟨β (c + 4) - 4, by omega⟩
    show Value.ref (β (c + 4)) = _
    rw [hm]; rfl
theorem q_evf_mv {β : Nat → Nat} (h1 : ∀ a, a < 64 → β a = a) (h2 : ∀ a, 64 ≤ a → 64 ≤ β a) (g : Nat → Int32) (h : Nat → Int64) : ∀ (fs : List Nat) (k : Nat), (q_evf g h k fs).map (q_v β) = q_evf g h k (fs.map β) := by
  intro fs
  induction fs with
  | nil => intro k; rfl
  | cons c r ih =>
    intro k
    show q_v β (q_evc g h k c) :: (q_evf g h (k + 1) r).map (q_v β) = q_evc g h k (β c) :: q_evf g h (k + 1) (r.map β)
    rw [q_evc_mv h1 h2, ih]
theorem q_rfs_mv (β : Nat → Nat) : ∀ (l : List Nat), (fun j => (q_rfs l j).map β) = q_rfs (l.map β) := by
  intro l
  induction l with
  | nil => rfl
  | cons a r ih =>
    funext j
    show ((va_up (q_rfs r) r.length (some a)) j).map β = va_up (q_rfs (r.map β)) (r.map β).length (some (β a)) j
    rw [List.length_map]
    unfold va_up
    split
    · rfl
    · exact congrFun ih j
theorem q_ev1_mv {β : Nat → Nat} (h1 : ∀ a, a < 64 → β a = a) (h2 : ∀ a, 64 ≤ a → 64 ≤ β a) (f g : Nat → Int32) (h : Nat → Int64) (c : q_Sh) : q_mc β (q_ev1 f g h c) = q_ev1 f g h (q_shf β c) := by
  obtain ⟨t, n⟩ | ⟨ci, fs⟩ | l := c
  · show q_mc β (cond (Nat.beq t 2) (.inl (2, n, .inr (.inl h))) (.inl (t, n, .inl f))) = cond (Nat.beq t 2) (.inl (2, n, .inr (.inl h))) (.inl (t, n, .inl f))
    cases Nat.beq t 2 <;> rfl
  · show Sum.inr (ci, (q_evf g h 0 fs).map (q_v β)) = Sum.inr (ci, q_evf g h 0 (fs.map β))
    rw [q_evf_mv h1 h2]
  · show Sum.inl (5, l.length, Sum.inr (Sum.inr (Sum.inr (Sum.inr (fun j => (q_rfs l j).map β))))) = Sum.inl (5, (l.map β).length, Sum.inr (Sum.inr (Sum.inr (Sum.inr (q_rfs (l.map β))))))
    rw [q_rfs_mv, List.length_map]
def q_shk (L : Nat) (c : q_Sh) : Bool := match c with
  | .inl _ => true
  | .inr (.inl (_, fs)) => fs.all fun c => Nat.blt c (64 + L)
  | .inr (.inr l) => l.all fun c => Nat.blt c (64 + L)
theorem q_evf_ok {L : Nat} (g : Nat → Int32) (h : Nat → Int64) : ∀ (fs : List Nat) (k : Nat), (fs.all fun c => Nat.blt c (64 + L)) = true → ∀ v ∈ q_evf g h k fs, q_ok L v := by
  intro fs
  induction fs with
  | nil => intro k _ v hv; cases hv
  | cons c r ih =>
    intro k hk v hv
    rw [List.all_cons, Bool.and_eq_true] at hk
    rcases List.mem_cons.mp hv with e | e
    · rw [e]
      intro a ha
      have hc : c < 64 + L := Nat.le_of_ble_eq_true hk.1
      match c, ha, hc with
      | 0, ha, _ => cases ha
      | 1, ha, _ => cases ha
      | 2, ha, _ => cases ha
      | 3, ha, _ => cases ha
      | c + 4, ha, hc => cases ha; exact hc
    · exact ih (k + 1) hk.2 v e
theorem q_rfs_ok {L : Nat} : ∀ (l : List Nat), (l.all fun c => Nat.blt c (64 + L)) = true → ∀ j a, q_rfs l j = some a → a < 64 + L := by
  intro l
  induction l with
  | nil => intro _ j a h; cases h
  | cons c r ih =>
    intro hk j a h
    rw [List.all_cons, Bool.and_eq_true] at hk
    have h : va_up (q_rfs r) r.length (some c) j = some a := h
    unfold va_up at h
    split at h
    · cases h; exact Nat.le_of_ble_eq_true hk.1
    · exact ih hk.2 j a h
theorem q_ev1_ok {L : Nat} (f g : Nat → Int32) (h : Nat → Int64) (c : q_Sh) (hk : q_shk L c = true) : q_okc L (q_ev1 f g h c) := by
  obtain ⟨t, n⟩ | ⟨ci, fs⟩ | l := c
  · show q_okc L (cond (Nat.beq t 2) (.inl (2, n, .inr (.inl h))) (.inl (t, n, .inl f)))
    cases Nat.beq t 2 <;> exact trivial
  · exact q_evf_ok g h fs 0 hk
  · exact q_rfs_ok l hk
theorem q_evs_ok {L : Nat} {l : List q_Sh} (hk : l.all (q_shk L) = true) (S : q_S) : ∀ c ∈ q_evs S 0 l, q_okc L c := by
  intro c hc
  obtain ⟨j, hj⟩ := List.mem_iff_getElem?.mp hc
  rw [q_evs_at0] at hj
  cases e : l[j]? with
  | none => rw [e] at hj; cases hj
  | some c1 =>
    rw [e] at hj
    cases hj
    exact q_ev1_ok _ _ _ c1 (List.all_eq_true.mp hk c1 (List.mem_of_getElem? e))
def q_okb (L : Nat) (v : Value) : Bool := match v with
  | .ref a => Nat.blt a (64 + L)
  | _ => true
theorem q_okb_ok {L : Nat} {as : List Value} (h : as.all (q_okb L) = true) : ∀ v ∈ as, q_ok L v := fun v hv a e => by
  subst e
  exact Nat.le_of_ble_eq_true (List.all_eq_true.mp h _ hv)
def q_eck (shX shN : List q_Sh) (n n2 b1 b2 : Nat) : Bool := decide (shN.length = n + n2) && ((decide (b1 + n ≤ b2) || decide (b2 + n2 ≤ b1)) && (((List.range (n + n2)).all fun j => decide (shX[q_eN n b1 b2 j]? = (shN[j]?).map (q_shf (q_eb n b1 b2)))) && shN.all (q_shk shN.length)))
theorem q_CaF {TB : Nat → Option (Nat × Nat × (Nat → Int32))} {d k : Nat} {as : List Value} {h : q_H} {o : q_Out} (e : q_Ca TB d k as h o) (ha : ∀ v ∈ as, q_ok h.1.length v) (hh : q_okh h.1) {β : Nat → Nat} {δ σ : Nat} {H : q_H} (hE : q_Em β δ σ h H) : q_oko h o ∧ ∃ β2 H2, q_Ca TB d k (as.map (q_v β)) H (q_om β2 o.1, H2) ∧ q_Em β2 δ σ o.2 H2 ∧ q_Rs β β2 h o.2 H H2 := by
  obtain ⟨n, e⟩ := e
  obtain ⟨h1, h2⟩ := q_frame (WU := q_WU) (cl := vwCl) (tyl := q_tyl) (GF := q_gF TB fun a => a) (τ := fun a => a) (mt := q_mt) (mtab := q_mtab TB) (fun k pc x h9 => q_mtab_ok k pc x h9) q_mtab_rn n d k as h o e ha hh
  refine ⟨h1, ?_⟩
  obtain ⟨β2, H2, e1, e2, e3⟩ := h2 β δ σ H hE
  exact ⟨β2, H2, ⟨n, e1⟩, e2, e3⟩
theorem q_emb {TB : Nat → Option (Nat × Nat × (Nat → Int32))} {d k : Nat} {as : List Value} {shX shN : List q_Sh} {n n2 b1 b2 : Nat} {S s' : q_S} {c m c' m' : Nat} {v : Option Value ⊕ String} (hck : q_eck shX shN n n2 b1 b2 = true) (ha : as.all (q_okb shN.length) = true) (hv : ∀ β, q_om β v = v)
    (e : q_Ca TB d k as (q_evs (q_vw n b1 b2 S) 0 shN, c, m) (v, (q_evs s' 0 shN, c', m'))) : q_Ca TB d k (as.map (q_v (q_eb n b1 b2))) (q_evs S 0 shX, c, m) (v, (q_evs (q_pt n n2 b1 b2 S s') 0 shX, c', m')) := by
  unfold q_eck at hck
  rw [Bool.and_eq_true, Bool.and_eq_true, Bool.and_eq_true, Bool.or_eq_true] at hck
  obtain ⟨hl, hd, hall, hk⟩ := hck
  have hl : shN.length = n + n2 := of_decide_eq_true hl
  have hd : b1 + n ≤ b2 ∨ b2 + n2 ≤ b1 := by
    rcases hd with h | h
    · exact Or.inl (of_decide_eq_true h)
    · exact Or.inr (of_decide_eq_true h)
  have hsh : ∀ j, j < n + n2 → shX[q_eN n b1 b2 j]? = (shN[j]?).map (q_shf (q_eb n b1 b2)) := fun j hj => of_decide_eq_true (List.all_eq_true.mp hall j (List.mem_range.mpr hj))
  have h1 : ∀ a, a < 64 → q_eb n b1 b2 a = a := fun a h => q_eb1 h
  have h2 : ∀ a, 64 ≤ a → 64 ≤ q_eb n b1 b2 a := fun a h => by
    obtain ⟨j, rfl⟩ : ∃ j, a = 64 + j := ⟨a - 64, by omega⟩
    rw [q_eb2]; omega
  have hok : q_okh (q_evs (q_vw n b1 b2 S) 0 shN) := fun c hc => by
    rw [q_evs_len]
    exact q_evs_ok hk _ c hc
  have hE : q_Em (q_eb n b1 b2) 0 0 (q_evs (q_vw n b1 b2 S) 0 shN, c, m) (q_evs S 0 shX, c, m) := by
    refine ⟨h1, fun i _ => h2 _ (Nat.le_add_right _ _), fun i j hi hj hij => ?_, fun i c0 hc => ?_, rfl, rfl⟩
    · have hi : i < (q_evs (q_vw n b1 b2 S) 0 shN).length := hi
      have hj : j < (q_evs (q_vw n b1 b2 S) 0 shN).length := hj
      rw [q_evs_len, hl] at hi hj
      rw [q_eb2, q_eb2] at hij
      exact q_eN_inj hd hi hj (by omega)
    · have hc : (q_evs (q_vw n b1 b2 S) 0 shN)[i]? = some c0 := hc
      have hi : i < n + n2 := by
        have := (List.getElem?_eq_some_iff.mp hc).1
        rw [q_evs_len, hl] at this; exact this
      rw [q_evs_at0] at hc
      rw [q_eb2, Nat.add_sub_cancel_left]
      show (q_evs S 0 shX)[q_eN n b1 b2 i]? = _
      rw [q_evs_at0, hsh i hi]
      cases e9 : shN[i]? with
      | none => rw [e9] at hc; cases hc
      | some c1 =>
        rw [e9] at hc
        cases hc
        exact congrArg some (q_ev1_mv h1 h2 _ _ _ c1).symm
  have ha9 : ∀ v ∈ as, q_ok (q_evs (q_vw n b1 b2 S) 0 shN).length v := by
    rw [q_evs_len]
    exact q_okb_ok ha
  obtain ⟨-, β2, H2, e1, e2, e3⟩ := q_CaF e ha9 hok hE
  have e5 : q_Ca TB d k (as.map (q_v (q_eb n b1 b2))) (q_evs S 0 shX, c, m) (v, H2) := by
    have e6 : q_Ca TB d k (as.map (q_v (q_eb n b1 b2))) (q_evs S 0 shX, c, m) (q_om β2 v, H2) := e1
    rw [hv] at e6
    exact e6
  clear e1
  obtain ⟨l2, c2, m2⟩ := H2
  have hc2 : c2 = c' := e2.2.2.2.2.1
  have hm2 : m2 = m' := e2.2.2.2.2.2
  subst hc2 hm2
  have hln : l2.length + (q_evs (q_vw n b1 b2 S) 0 shN).length = (q_evs S 0 shX).length + (q_evs s' 0 shN).length := e3.2.2.1
  rw [q_evs_len, q_evs_len, q_evs_len] at hln
  have hag : ∀ i, i < n + n2 → β2 (64 + i) = 64 + q_eN n b1 b2 i := fun i hi => by
    rw [← q_eb2]
    refine e3.1 (64 + i) ?_
    show 64 + i < 64 + (q_evs (q_vw n b1 b2 S) 0 shN).length
    rw [q_evs_len, hl]; omega
  have key : l2 = q_evs (q_pt n n2 b1 b2 S s') 0 shX := by
    apply List.ext_getElem?
    intro j
    rw [q_evs_at0]
    by_cases hj : ∃ i, i < n + n2 ∧ q_eN n b1 b2 i = j
    · obtain ⟨i, hi, rfl⟩ := hj
      rw [hsh i hi]
      have hi9 : i < shN.length := by omega
      have e9 : shN[i]? = some shN[i] := List.getElem?_eq_getElem hi9
      have q1 : (q_evs s' 0 shN)[i]? = some (q_ev1 (s'.1 i) (s'.2.1 i) (s'.2.2 i) shN[i]) := by rw [q_evs_at0, e9]; rfl
      have q2 : l2[β2 (64 + i) - 64]? = some (q_mc β2 (q_ev1 (s'.1 i) (s'.2.1 i) (s'.2.2 i) shN[i])) := e2.2.2.2.1 i _ q1
      rw [hag i hi, Nat.add_sub_cancel_left] at q2
      rw [q2, e9]
      have q3 : q_okc shN.length (q_ev1 (s'.1 i) (s'.2.1 i) (s'.2.2 i) shN[i]) := q_ev1_ok _ _ _ _ (List.all_eq_true.mp hk _ (List.getElem_mem hi9))
      have q4 : q_ag (q_eb n b1 b2) β2 shN.length := by
        have := e3.1
        have : q_ag (q_eb n b1 b2) β2 (q_evs (q_vw n b1 b2 S) 0 shN).length := this
        rw [q_evs_len] at this; exact this
      rw [q_mc_ag q4 q3, q_ev1_mv h1 h2]
      show some (q_ev1 (s'.1 i) (s'.2.1 i) (s'.2.2 i) (q_shf (q_eb n b1 b2) shN[i])) = some (q_ev1 (q_ps n n2 b1 b2 (q_eN n b1 b2 i) s'.1 (S.1 (q_eN n b1 b2 i))) (q_ps n n2 b1 b2 (q_eN n b1 b2 i) s'.2.1 (S.2.1 (q_eN n b1 b2 i))) (q_ps n n2 b1 b2 (q_eN n b1 b2 i) s'.2.2 (S.2.2 (q_eN n b1 b2 i))) (q_shf (q_eb n b1 b2) shN[i]))
      rw [q_ps_in hd hi, q_ps_in hd hi, q_ps_in hd hi]
    · have hn : ∀ i, i < n + n2 → ¬ q_eN n b1 b2 i = j := fun i hi h => hj ⟨i, hi, h⟩
      show l2[j]? = (shX[j]?).map (q_ev1 (q_ps n n2 b1 b2 j s'.1 (S.1 j)) (q_ps n n2 b1 b2 j s'.2.1 (S.2.1 j)) (q_ps n n2 b1 b2 j s'.2.2 (S.2.2 j)))
      rw [q_ps_out hn, q_ps_out hn, q_ps_out hn, ← q_evs_at0]
      rcases Nat.lt_or_ge j shX.length with q | q
      · refine e3.2.2.2.2 j ?_ (fun i hi h9 => ?_)
        · show j < (q_evs S 0 shX).length
          rw [q_evs_len]; exact q
        · have hi : i < (q_evs (q_vw n b1 b2 S) 0 shN).length := hi
          rw [q_evs_len, hl] at hi
          rw [q_eb2] at h9
          exact hn i hi (by omega)
      · rw [List.getElem?_eq_none (by omega), List.getElem?_eq_none (by rw [q_evs_len]; exact q)]
  subst key
  exact e5
def q_shN : List q_Sh := [.inr (.inl (7, [65, 87, 89, 95, 1])), .inr (.inl (4, [66, 69, 70, 71, 72, 74, 77, 82, 1])), .inr (.inl (10, [67, 68])), .inl (0, 4096), .inl (0, 48), .inl (0, 512), .inl (0, 2048), .inl (0, 2), .inr (.inl (11, [73, 0, 0, 0, 0])), .inl (0, 40), .inr (.inl (6, [75, 76, 0])), .inl (0, 4), .inl (0, 16), .inr (.inl (5, [78, 81, 0, 0])), .inr (.inl (10, [79, 80])), .inl (0, 4096), .inl (0, 48), .inl (0, 3072), .inr (.inl (5, [83, 86, 0, 0])), .inr (.inl (10, [84, 85])), .inl (0, 4096), .inl (0, 48), .inl (0, 3072), .inr (.inl (8, [0, 0, 0, 0, 0, 0, 0, 0, 0, 0, 0, 0, 88])), .inl (0, 16), .inr (.inl (12, [90, 91, 92, 93, 94])), .inl (0, 3), .inl (0, 3), .inl (0, 3), .inl (0, 3), .inl (0, 40), .inl (0, 1024), .inr (.inl (10, [97, 98])), .inl (0, 4096), .inl (0, 48)]
set_option maxRecDepth 100000 in
theorem q_kN_sh (s : q_S) (c n : Nat) : q_kN s c n = (q_evs s 0 q_shN, c, n) := rfl
def q_shW : List q_Sh := [.inr (.inl (7, [65, 87, 89, 95, 1])), .inr (.inl (4, [66, 69, 70, 71, 72, 74, 77, 82, 1])), .inr (.inl (10, [67, 68])), .inl (0, 4096), .inl (0, 48), .inl (0, 512), .inl (0, 2048), .inl (0, 2), .inr (.inl (11, [73, 0, 0, 0, 0])), .inl (0, 40), .inr (.inl (6, [75, 76, 0])), .inl (0, 4), .inl (0, 16), .inr (.inl (5, [78, 81, 0, 0])), .inr (.inl (10, [79, 80])), .inl (0, 4096), .inl (0, 48), .inl (0, 3072), .inr (.inl (5, [83, 86, 0, 0])), .inr (.inl (10, [84, 85])), .inl (0, 4096), .inl (0, 48), .inl (0, 3072), .inr (.inl (8, [0, 0, 0, 0, 0, 0, 0, 0, 0, 0, 0, 0, 88])), .inl (0, 16), .inr (.inl (12, [90, 91, 92, 93, 94])), .inl (0, 3), .inl (0, 3), .inl (0, 3), .inl (0, 3), .inl (0, 40), .inl (0, 1024), .inr (.inl (7, [97, 119, 121, 127, 1])), .inr (.inl (4, [98, 101, 102, 103, 104, 106, 109, 114, 1])), .inr (.inl (10, [99, 100])), .inl (0, 4096), .inl (0, 48), .inl (0, 512), .inl (0, 2048), .inl (0, 2), .inr (.inl (11, [105, 0, 0, 0, 0])), .inl (0, 40), .inr (.inl (6, [107, 108, 0])), .inl (0, 4), .inl (0, 16), .inr (.inl (5, [110, 113, 0, 0])), .inr (.inl (10, [111, 112])), .inl (0, 4096), .inl (0, 48), .inl (0, 3072), .inr (.inl (5, [115, 118, 0, 0])), .inr (.inl (10, [116, 117])), .inl (0, 4096), .inl (0, 48), .inl (0, 3072), .inr (.inl (8, [0, 0, 0, 0, 0, 0, 0, 0, 0, 0, 0, 0, 120])), .inl (0, 16), .inr (.inl (12, [122, 123, 124, 125, 126])), .inl (0, 3), .inl (0, 3), .inl (0, 3), .inl (0, 3), .inl (0, 40), .inl (0, 1024)]
set_option maxRecDepth 100000 in
theorem q_kW_sh (s : q_S) (c n : Nat) : q_kW s c n = (q_evs s 0 q_shW, c, n) := rfl
def q_shB : List q_Sh := [.inr (.inl (1, [65, 3, 0, 0])), .inl (4, 16)]
set_option maxRecDepth 100000 in
theorem q_kB_sh (s : q_S) (c n : Nat) : q_kB s c n = (q_evs s 0 q_shB, c, n) := rfl
def q_shX : List q_Sh := [.inr (.inl (13, [65, 97, 0, 98, 135, 137])), .inr (.inl (7, [66, 88, 90, 96, 1])), .inr (.inl (4, [67, 70, 71, 72, 73, 75, 78, 83, 1])), .inr (.inl (10, [68, 69])), .inl (0, 4096), .inl (0, 48), .inl (0, 512), .inl (0, 2048), .inl (0, 2), .inr (.inl (11, [74, 0, 0, 0, 0])), .inl (0, 40), .inr (.inl (6, [76, 77, 0])), .inl (0, 4), .inl (0, 16), .inr (.inl (5, [79, 82, 0, 0])), .inr (.inl (10, [80, 81])), .inl (0, 4096), .inl (0, 48), .inl (0, 3072), .inr (.inl (5, [84, 87, 0, 0])), .inr (.inl (10, [85, 86])), .inl (0, 4096), .inl (0, 48), .inl (0, 3072), .inr (.inl (8, [0, 0, 0, 0, 0, 0, 0, 0, 0, 0, 0, 0, 89])), .inl (0, 16), .inr (.inl (12, [91, 92, 93, 94, 95])), .inl (0, 3), .inl (0, 3), .inl (0, 3), .inl (0, 3), .inl (0, 40), .inl (0, 1024), .inr (.inr [204, 172, 140]), .inr (.inl (9, [99, 131, 132, 133, 134, 0, 0, 0])), .inr (.inl (7, [100, 122, 124, 130, 1])), .inr (.inl (4, [101, 104, 105, 106, 107, 109, 112, 117, 1])), .inr (.inl (10, [102, 103])), .inl (0, 4096), .inl (0, 48), .inl (0, 512), .inl (0, 2048), .inl (0, 2), .inr (.inl (11, [108, 0, 0, 0, 0])), .inl (0, 40), .inr (.inl (6, [110, 111, 0])), .inl (0, 4), .inl (0, 16), .inr (.inl (5, [113, 116, 0, 0])), .inr (.inl (10, [114, 115])), .inl (0, 4096), .inl (0, 48), .inl (0, 3072), .inr (.inl (5, [118, 121, 0, 0])), .inr (.inl (10, [119, 120])), .inl (0, 4096), .inl (0, 48), .inl (0, 3072), .inr (.inl (8, [0, 0, 0, 0, 0, 0, 0, 0, 0, 0, 0, 0, 123])), .inl (0, 16), .inr (.inl (12, [125, 126, 127, 128, 129])), .inl (0, 3), .inl (0, 3), .inl (0, 3), .inl (0, 3), .inl (0, 40), .inl (0, 1024), .inl (0, 512), .inl (0, 512), .inl (0, 512), .inl (0, 512), .inr (.inl (1, [136, 3, 0, 0])), .inl (4, 16), .inr (.inl (10, [138, 139])), .inl (0, 4096), .inl (0, 48), .inr (.inl (7, [141, 163, 165, 171, 1])), .inr (.inl (4, [142, 145, 146, 147, 148, 150, 153, 158, 1])), .inr (.inl (10, [143, 144])), .inl (0, 4096), .inl (0, 48), .inl (0, 512), .inl (0, 2048), .inl (0, 2), .inr (.inl (11, [149, 0, 0, 0, 0])), .inl (0, 40), .inr (.inl (6, [151, 152, 0])), .inl (0, 4), .inl (0, 16), .inr (.inl (5, [154, 157, 0, 0])), .inr (.inl (10, [155, 156])), .inl (0, 4096), .inl (0, 48), .inl (0, 3072), .inr (.inl (5, [159, 162, 0, 0])), .inr (.inl (10, [160, 161])), .inl (0, 4096), .inl (0, 48), .inl (0, 3072), .inr (.inl (8, [0, 0, 0, 0, 0, 0, 0, 0, 0, 0, 0, 0, 164])), .inl (0, 16), .inr (.inl (12, [166, 167, 168, 169, 170])), .inl (0, 3), .inl (0, 3), .inl (0, 3), .inl (0, 3), .inl (0, 40), .inl (0, 1024), .inr (.inl (7, [173, 195, 197, 203, 1])), .inr (.inl (4, [174, 177, 178, 179, 180, 182, 185, 190, 1])), .inr (.inl (10, [175, 176])), .inl (0, 4096), .inl (0, 48), .inl (0, 512), .inl (0, 2048), .inl (0, 2), .inr (.inl (11, [181, 0, 0, 0, 0])), .inl (0, 40), .inr (.inl (6, [183, 184, 0])), .inl (0, 4), .inl (0, 16), .inr (.inl (5, [186, 189, 0, 0])), .inr (.inl (10, [187, 188])), .inl (0, 4096), .inl (0, 48), .inl (0, 3072), .inr (.inl (5, [191, 194, 0, 0])), .inr (.inl (10, [192, 193])), .inl (0, 4096), .inl (0, 48), .inl (0, 3072), .inr (.inl (8, [0, 0, 0, 0, 0, 0, 0, 0, 0, 0, 0, 0, 196])), .inl (0, 16), .inr (.inl (12, [198, 199, 200, 201, 202])), .inl (0, 3), .inl (0, 3), .inl (0, 3), .inl (0, 3), .inl (0, 40), .inl (0, 1024), .inr (.inl (7, [205, 227, 229, 235, 1])), .inr (.inl (4, [206, 209, 210, 211, 212, 214, 217, 222, 1])), .inr (.inl (10, [207, 208])), .inl (0, 4096), .inl (0, 48), .inl (0, 512), .inl (0, 2048), .inl (0, 2), .inr (.inl (11, [213, 0, 0, 0, 0])), .inl (0, 40), .inr (.inl (6, [215, 216, 0])), .inl (0, 4), .inl (0, 16), .inr (.inl (5, [218, 221, 0, 0])), .inr (.inl (10, [219, 220])), .inl (0, 4096), .inl (0, 48), .inl (0, 3072), .inr (.inl (5, [223, 226, 0, 0])), .inr (.inl (10, [224, 225])), .inl (0, 4096), .inl (0, 48), .inl (0, 3072), .inr (.inl (8, [0, 0, 0, 0, 0, 0, 0, 0, 0, 0, 0, 0, 228])), .inl (0, 16), .inr (.inl (12, [230, 231, 232, 233, 234])), .inl (0, 3), .inl (0, 3), .inl (0, 3), .inl (0, 3), .inl (0, 40), .inl (0, 1024), .inl (2, 1)]
set_option maxRecDepth 100000 in
theorem q_kX_sh (s : q_S) (c n : Nat) : q_kX s c n = (q_evs s 0 q_shX, c, n) := rfl
def q_shM : List q_Sh := [.inr (.inl (14, [65, 66, 67, 68, 69, 70, 71, 72, 73, 74, 75, 76, 77, 78, 79, 1, 1, 0, 80, 81, 82, 83, 84, 85, 86, 87, 88, 89, 90, 91, 92, 93, 94, 95, 0, 0, 96, 97, 0, 0])), .inl (0, 4096), .inl (0, 512), .inl (0, 2048), .inl (0, 48), .inl (0, 1024), .inl (0, 40), .inl (1, 16), .inl (0, 40), .inl (0, 16), .inl (0, 3), .inl (0, 3), .inl (0, 3), .inl (0, 3), .inl (0, 24), .inl (1, 8), .inl (0, 12288), .inl (0, 1536), .inl (0, 6144), .inl (0, 144), .inl (0, 3072), .inl (0, 120), .inl (1, 48), .inl (0, 120), .inl (0, 48), .inl (0, 9), .inl (0, 9), .inl (0, 9), .inl (0, 9), .inl (0, 72), .inl (1, 24), .inl (2, 6), .inl (3, 40), .inl (1, 8)]
set_option maxRecDepth 100000 in
theorem q_kM_sh (s : q_S) (c n : Nat) : q_kM s c n = (q_evs s 0 q_shM, c, n) := rfl
def q_shL : List q_Sh := [.inr (.inl (13, [65, 97, 0, 98, 135, 137])), .inr (.inl (7, [66, 88, 90, 96, 1])), .inr (.inl (4, [67, 70, 71, 72, 73, 75, 78, 83, 1])), .inr (.inl (10, [68, 69])), .inl (0, 4096), .inl (0, 48), .inl (0, 512), .inl (0, 2048), .inl (0, 2), .inr (.inl (11, [74, 0, 0, 0, 0])), .inl (0, 40), .inr (.inl (6, [76, 77, 0])), .inl (0, 4), .inl (0, 16), .inr (.inl (5, [79, 82, 0, 0])), .inr (.inl (10, [80, 81])), .inl (0, 4096), .inl (0, 48), .inl (0, 3072), .inr (.inl (5, [84, 87, 0, 0])), .inr (.inl (10, [85, 86])), .inl (0, 4096), .inl (0, 48), .inl (0, 3072), .inr (.inl (8, [0, 0, 0, 0, 0, 0, 0, 0, 0, 0, 0, 0, 89])), .inl (0, 16), .inr (.inl (12, [91, 92, 93, 94, 95])), .inl (0, 3), .inl (0, 3), .inl (0, 3), .inl (0, 3), .inl (0, 40), .inl (0, 1024), .inr (.inr [204, 172, 140]), .inr (.inl (9, [99, 131, 132, 133, 134, 0, 0, 0])), .inr (.inl (7, [100, 122, 124, 130, 1])), .inr (.inl (4, [101, 104, 105, 106, 107, 109, 112, 117, 1])), .inr (.inl (10, [102, 103])), .inl (0, 4096), .inl (0, 48), .inl (0, 512), .inl (0, 2048), .inl (0, 2), .inr (.inl (11, [108, 0, 0, 0, 0])), .inl (0, 40), .inr (.inl (6, [110, 111, 0])), .inl (0, 4), .inl (0, 16), .inr (.inl (5, [113, 116, 0, 0])), .inr (.inl (10, [114, 115])), .inl (0, 4096), .inl (0, 48), .inl (0, 3072), .inr (.inl (5, [118, 121, 0, 0])), .inr (.inl (10, [119, 120])), .inl (0, 4096), .inl (0, 48), .inl (0, 3072), .inr (.inl (8, [0, 0, 0, 0, 0, 0, 0, 0, 0, 0, 0, 0, 123])), .inl (0, 16), .inr (.inl (12, [125, 126, 127, 128, 129])), .inl (0, 3), .inl (0, 3), .inl (0, 3), .inl (0, 3), .inl (0, 40), .inl (0, 1024), .inl (0, 512), .inl (0, 512), .inl (0, 512), .inl (0, 512), .inr (.inl (1, [136, 3, 0, 0])), .inl (4, 16), .inr (.inl (10, [138, 139])), .inl (0, 4096), .inl (0, 48), .inr (.inl (7, [141, 163, 165, 171, 1])), .inr (.inl (4, [142, 145, 146, 147, 148, 150, 153, 158, 1])), .inr (.inl (10, [143, 144])), .inl (0, 4096), .inl (0, 48), .inl (0, 512), .inl (0, 2048), .inl (0, 2), .inr (.inl (11, [149, 0, 0, 0, 0])), .inl (0, 40), .inr (.inl (6, [151, 152, 0])), .inl (0, 4), .inl (0, 16), .inr (.inl (5, [154, 157, 0, 0])), .inr (.inl (10, [155, 156])), .inl (0, 4096), .inl (0, 48), .inl (0, 3072), .inr (.inl (5, [159, 162, 0, 0])), .inr (.inl (10, [160, 161])), .inl (0, 4096), .inl (0, 48), .inl (0, 3072), .inr (.inl (8, [0, 0, 0, 0, 0, 0, 0, 0, 0, 0, 0, 0, 164])), .inl (0, 16), .inr (.inl (12, [166, 167, 168, 169, 170])), .inl (0, 3), .inl (0, 3), .inl (0, 3), .inl (0, 3), .inl (0, 40), .inl (0, 1024), .inr (.inl (7, [173, 195, 197, 203, 1])), .inr (.inl (4, [174, 177, 178, 179, 180, 182, 185, 190, 1])), .inr (.inl (10, [175, 176])), .inl (0, 4096), .inl (0, 48), .inl (0, 512), .inl (0, 2048), .inl (0, 2), .inr (.inl (11, [181, 0, 0, 0, 0])), .inl (0, 40), .inr (.inl (6, [183, 184, 0])), .inl (0, 4), .inl (0, 16), .inr (.inl (5, [186, 189, 0, 0])), .inr (.inl (10, [187, 188])), .inl (0, 4096), .inl (0, 48), .inl (0, 3072), .inr (.inl (5, [191, 194, 0, 0])), .inr (.inl (10, [192, 193])), .inl (0, 4096), .inl (0, 48), .inl (0, 3072), .inr (.inl (8, [0, 0, 0, 0, 0, 0, 0, 0, 0, 0, 0, 0, 196])), .inl (0, 16), .inr (.inl (12, [198, 199, 200, 201, 202])), .inl (0, 3), .inl (0, 3), .inl (0, 3), .inl (0, 3), .inl (0, 40), .inl (0, 1024), .inr (.inl (7, [205, 227, 229, 235, 1])), .inr (.inl (4, [206, 209, 210, 211, 212, 214, 217, 222, 1])), .inr (.inl (10, [207, 208])), .inl (0, 4096), .inl (0, 48), .inl (0, 512), .inl (0, 2048), .inl (0, 2), .inr (.inl (11, [213, 0, 0, 0, 0])), .inl (0, 40), .inr (.inl (6, [215, 216, 0])), .inl (0, 4), .inl (0, 16), .inr (.inl (5, [218, 221, 0, 0])), .inr (.inl (10, [219, 220])), .inl (0, 4096), .inl (0, 48), .inl (0, 3072), .inr (.inl (5, [223, 226, 0, 0])), .inr (.inl (10, [224, 225])), .inl (0, 4096), .inl (0, 48), .inl (0, 3072), .inr (.inl (8, [0, 0, 0, 0, 0, 0, 0, 0, 0, 0, 0, 0, 228])), .inl (0, 16), .inr (.inl (12, [230, 231, 232, 233, 234])), .inl (0, 3), .inl (0, 3), .inl (0, 3), .inl (0, 3), .inl (0, 40), .inl (0, 1024), .inr (.inl (14, [237, 238, 239, 240, 241, 242, 243, 244, 245, 246, 247, 248, 249, 250, 251, 1, 1, 0, 252, 253, 254, 255, 256, 257, 258, 259, 260, 261, 262, 263, 264, 265, 266, 267, 0, 0, 268, 269, 0, 0])), .inl (0, 4096), .inl (0, 512), .inl (0, 2048), .inl (0, 48), .inl (0, 1024), .inl (0, 40), .inl (1, 16), .inl (0, 40), .inl (0, 16), .inl (0, 3), .inl (0, 3), .inl (0, 3), .inl (0, 3), .inl (0, 24), .inl (1, 8), .inl (0, 12288), .inl (0, 1536), .inl (0, 6144), .inl (0, 144), .inl (0, 3072), .inl (0, 120), .inl (1, 48), .inl (0, 120), .inl (0, 48), .inl (0, 9), .inl (0, 9), .inl (0, 9), .inl (0, 9), .inl (0, 72), .inl (1, 24), .inl (2, 6), .inl (3, 40), .inl (1, 8), .inl (2, 1)]
set_option maxRecDepth 100000 in
theorem q_kL_sh (s : q_S) (c n : Nat) : q_kL s c n = (q_evs s 0 q_shL, c, n) := rfl
set_option maxRecDepth 100000 in
theorem q_eck_NX_1 : q_eck q_shX q_shN 32 3 1 73 = true := by decide +kernel
theorem q_emNX_1 {TB : Nat → Option (Nat × Nat × (Nat → Int32))} {d k : Nat} {as : List Value} {S s9 : q_S} {c n c9 n9 : Nat} {v : Option Value ⊕ String} (ha : as.all (q_okb 35) = true) (hv : ∀ β, q_om β v = v) (e : q_Ca TB d k as (q_kN (q_vw 32 1 73 S) c n) (v, q_kN s9 c9 n9)) : q_Ca TB d k (as.map (q_v (q_eb 32 1 73))) (q_kX S c n) (v, q_kX (q_pt 32 3 1 73 S s9) c9 n9) := by
  rw [q_kN_sh, q_kN_sh] at e
  rw [q_kX_sh, q_kX_sh]
  exact q_emb q_eck_NX_1 ha hv e
theorem q_emNX_1p {TB : Nat → Option (Nat × Nat × (Nat → Int32))} {d k : Nat} {as : List Value} {S : q_S} {c n c9 n9 : Nat} {v : Option Value ⊕ String} (ha : as.all (q_okb 35) = true) (hv : ∀ β, q_om β v = v) (e : q_Ca TB d k as (q_kN (q_vw 32 1 73 S) c n) (v, q_kN (q_vw 32 1 73 S) c9 n9)) : q_Ca TB d k (as.map (q_v (q_eb 32 1 73))) (q_kX S c n) (v, q_kX S c9 n9) := by
  have h := q_emNX_1 ha hv e
  rw [q_pt_vw] at h
  exact h
set_option maxRecDepth 100000 in
theorem q_eck_NX_35 : q_eck q_shX q_shN 32 3 35 73 = true := by decide +kernel
theorem q_emNX_35 {TB : Nat → Option (Nat × Nat × (Nat → Int32))} {d k : Nat} {as : List Value} {S s9 : q_S} {c n c9 n9 : Nat} {v : Option Value ⊕ String} (ha : as.all (q_okb 35) = true) (hv : ∀ β, q_om β v = v) (e : q_Ca TB d k as (q_kN (q_vw 32 35 73 S) c n) (v, q_kN s9 c9 n9)) : q_Ca TB d k (as.map (q_v (q_eb 32 35 73))) (q_kX S c n) (v, q_kX (q_pt 32 3 35 73 S s9) c9 n9) := by
  rw [q_kN_sh, q_kN_sh] at e
  rw [q_kX_sh, q_kX_sh]
  exact q_emb q_eck_NX_35 ha hv e
theorem q_emNX_35p {TB : Nat → Option (Nat × Nat × (Nat → Int32))} {d k : Nat} {as : List Value} {S : q_S} {c n c9 n9 : Nat} {v : Option Value ⊕ String} (ha : as.all (q_okb 35) = true) (hv : ∀ β, q_om β v = v) (e : q_Ca TB d k as (q_kN (q_vw 32 35 73 S) c n) (v, q_kN (q_vw 32 35 73 S) c9 n9)) : q_Ca TB d k (as.map (q_v (q_eb 32 35 73))) (q_kX S c n) (v, q_kX S c9 n9) := by
  have h := q_emNX_35 ha hv e
  rw [q_pt_vw] at h
  exact h
set_option maxRecDepth 100000 in
theorem q_eck_WX_76_1 : q_eck q_shX q_shW 32 32 76 1 = true := by decide +kernel
theorem q_emWX_76_1 {TB : Nat → Option (Nat × Nat × (Nat → Int32))} {d k : Nat} {as : List Value} {S s9 : q_S} {c n c9 n9 : Nat} {v : Option Value ⊕ String} (ha : as.all (q_okb 64) = true) (hv : ∀ β, q_om β v = v) (e : q_Ca TB d k as (q_kW (q_vw 32 76 1 S) c n) (v, q_kW s9 c9 n9)) : q_Ca TB d k (as.map (q_v (q_eb 32 76 1))) (q_kX S c n) (v, q_kX (q_pt 32 32 76 1 S s9) c9 n9) := by
  rw [q_kW_sh, q_kW_sh] at e
  rw [q_kX_sh, q_kX_sh]
  exact q_emb q_eck_WX_76_1 ha hv e
theorem q_emWX_76_1p {TB : Nat → Option (Nat × Nat × (Nat → Int32))} {d k : Nat} {as : List Value} {S : q_S} {c n c9 n9 : Nat} {v : Option Value ⊕ String} (ha : as.all (q_okb 64) = true) (hv : ∀ β, q_om β v = v) (e : q_Ca TB d k as (q_kW (q_vw 32 76 1 S) c n) (v, q_kW (q_vw 32 76 1 S) c9 n9)) : q_Ca TB d k (as.map (q_v (q_eb 32 76 1))) (q_kX S c n) (v, q_kX S c9 n9) := by
  have h := q_emWX_76_1 ha hv e
  rw [q_pt_vw] at h
  exact h
set_option maxRecDepth 100000 in
theorem q_eck_WX_1_76 : q_eck q_shX q_shW 32 32 1 76 = true := by decide +kernel
theorem q_emWX_1_76 {TB : Nat → Option (Nat × Nat × (Nat → Int32))} {d k : Nat} {as : List Value} {S s9 : q_S} {c n c9 n9 : Nat} {v : Option Value ⊕ String} (ha : as.all (q_okb 64) = true) (hv : ∀ β, q_om β v = v) (e : q_Ca TB d k as (q_kW (q_vw 32 1 76 S) c n) (v, q_kW s9 c9 n9)) : q_Ca TB d k (as.map (q_v (q_eb 32 1 76))) (q_kX S c n) (v, q_kX (q_pt 32 32 1 76 S s9) c9 n9) := by
  rw [q_kW_sh, q_kW_sh] at e
  rw [q_kX_sh, q_kX_sh]
  exact q_emb q_eck_WX_1_76 ha hv e
theorem q_emWX_1_76p {TB : Nat → Option (Nat × Nat × (Nat → Int32))} {d k : Nat} {as : List Value} {S : q_S} {c n c9 n9 : Nat} {v : Option Value ⊕ String} (ha : as.all (q_okb 64) = true) (hv : ∀ β, q_om β v = v) (e : q_Ca TB d k as (q_kW (q_vw 32 1 76 S) c n) (v, q_kW (q_vw 32 1 76 S) c9 n9)) : q_Ca TB d k (as.map (q_v (q_eb 32 1 76))) (q_kX S c n) (v, q_kX S c9 n9) := by
  have h := q_emWX_1_76 ha hv e
  rw [q_pt_vw] at h
  exact h
set_option maxRecDepth 100000 in
theorem q_eck_WX_108_1 : q_eck q_shX q_shW 32 32 108 1 = true := by decide +kernel
theorem q_emWX_108_1 {TB : Nat → Option (Nat × Nat × (Nat → Int32))} {d k : Nat} {as : List Value} {S s9 : q_S} {c n c9 n9 : Nat} {v : Option Value ⊕ String} (ha : as.all (q_okb 64) = true) (hv : ∀ β, q_om β v = v) (e : q_Ca TB d k as (q_kW (q_vw 32 108 1 S) c n) (v, q_kW s9 c9 n9)) : q_Ca TB d k (as.map (q_v (q_eb 32 108 1))) (q_kX S c n) (v, q_kX (q_pt 32 32 108 1 S s9) c9 n9) := by
  rw [q_kW_sh, q_kW_sh] at e
  rw [q_kX_sh, q_kX_sh]
  exact q_emb q_eck_WX_108_1 ha hv e
theorem q_emWX_108_1p {TB : Nat → Option (Nat × Nat × (Nat → Int32))} {d k : Nat} {as : List Value} {S : q_S} {c n c9 n9 : Nat} {v : Option Value ⊕ String} (ha : as.all (q_okb 64) = true) (hv : ∀ β, q_om β v = v) (e : q_Ca TB d k as (q_kW (q_vw 32 108 1 S) c n) (v, q_kW (q_vw 32 108 1 S) c9 n9)) : q_Ca TB d k (as.map (q_v (q_eb 32 108 1))) (q_kX S c n) (v, q_kX S c9 n9) := by
  have h := q_emWX_108_1 ha hv e
  rw [q_pt_vw] at h
  exact h
set_option maxRecDepth 100000 in
theorem q_eck_WX_1_108 : q_eck q_shX q_shW 32 32 1 108 = true := by decide +kernel
theorem q_emWX_1_108 {TB : Nat → Option (Nat × Nat × (Nat → Int32))} {d k : Nat} {as : List Value} {S s9 : q_S} {c n c9 n9 : Nat} {v : Option Value ⊕ String} (ha : as.all (q_okb 64) = true) (hv : ∀ β, q_om β v = v) (e : q_Ca TB d k as (q_kW (q_vw 32 1 108 S) c n) (v, q_kW s9 c9 n9)) : q_Ca TB d k (as.map (q_v (q_eb 32 1 108))) (q_kX S c n) (v, q_kX (q_pt 32 32 1 108 S s9) c9 n9) := by
  rw [q_kW_sh, q_kW_sh] at e
  rw [q_kX_sh, q_kX_sh]
  exact q_emb q_eck_WX_1_108 ha hv e
theorem q_emWX_1_108p {TB : Nat → Option (Nat × Nat × (Nat → Int32))} {d k : Nat} {as : List Value} {S : q_S} {c n c9 n9 : Nat} {v : Option Value ⊕ String} (ha : as.all (q_okb 64) = true) (hv : ∀ β, q_om β v = v) (e : q_Ca TB d k as (q_kW (q_vw 32 1 108 S) c n) (v, q_kW (q_vw 32 1 108 S) c9 n9)) : q_Ca TB d k (as.map (q_v (q_eb 32 1 108))) (q_kX S c n) (v, q_kX S c9 n9) := by
  have h := q_emWX_1_108 ha hv e
  rw [q_pt_vw] at h
  exact h
set_option maxRecDepth 100000 in
theorem q_eck_WX_140_1 : q_eck q_shX q_shW 32 32 140 1 = true := by decide +kernel
theorem q_emWX_140_1 {TB : Nat → Option (Nat × Nat × (Nat → Int32))} {d k : Nat} {as : List Value} {S s9 : q_S} {c n c9 n9 : Nat} {v : Option Value ⊕ String} (ha : as.all (q_okb 64) = true) (hv : ∀ β, q_om β v = v) (e : q_Ca TB d k as (q_kW (q_vw 32 140 1 S) c n) (v, q_kW s9 c9 n9)) : q_Ca TB d k (as.map (q_v (q_eb 32 140 1))) (q_kX S c n) (v, q_kX (q_pt 32 32 140 1 S s9) c9 n9) := by
  rw [q_kW_sh, q_kW_sh] at e
  rw [q_kX_sh, q_kX_sh]
  exact q_emb q_eck_WX_140_1 ha hv e
theorem q_emWX_140_1p {TB : Nat → Option (Nat × Nat × (Nat → Int32))} {d k : Nat} {as : List Value} {S : q_S} {c n c9 n9 : Nat} {v : Option Value ⊕ String} (ha : as.all (q_okb 64) = true) (hv : ∀ β, q_om β v = v) (e : q_Ca TB d k as (q_kW (q_vw 32 140 1 S) c n) (v, q_kW (q_vw 32 140 1 S) c9 n9)) : q_Ca TB d k (as.map (q_v (q_eb 32 140 1))) (q_kX S c n) (v, q_kX S c9 n9) := by
  have h := q_emWX_140_1 ha hv e
  rw [q_pt_vw] at h
  exact h
set_option maxRecDepth 100000 in
theorem q_eck_WX_1_140 : q_eck q_shX q_shW 32 32 1 140 = true := by decide +kernel
theorem q_emWX_1_140 {TB : Nat → Option (Nat × Nat × (Nat → Int32))} {d k : Nat} {as : List Value} {S s9 : q_S} {c n c9 n9 : Nat} {v : Option Value ⊕ String} (ha : as.all (q_okb 64) = true) (hv : ∀ β, q_om β v = v) (e : q_Ca TB d k as (q_kW (q_vw 32 1 140 S) c n) (v, q_kW s9 c9 n9)) : q_Ca TB d k (as.map (q_v (q_eb 32 1 140))) (q_kX S c n) (v, q_kX (q_pt 32 32 1 140 S s9) c9 n9) := by
  rw [q_kW_sh, q_kW_sh] at e
  rw [q_kX_sh, q_kX_sh]
  exact q_emb q_eck_WX_1_140 ha hv e
theorem q_emWX_1_140p {TB : Nat → Option (Nat × Nat × (Nat → Int32))} {d k : Nat} {as : List Value} {S : q_S} {c n c9 n9 : Nat} {v : Option Value ⊕ String} (ha : as.all (q_okb 64) = true) (hv : ∀ β, q_om β v = v) (e : q_Ca TB d k as (q_kW (q_vw 32 1 140 S) c n) (v, q_kW (q_vw 32 1 140 S) c9 n9)) : q_Ca TB d k (as.map (q_v (q_eb 32 1 140))) (q_kX S c n) (v, q_kX S c9 n9) := by
  have h := q_emWX_1_140 ha hv e
  rw [q_pt_vw] at h
  exact h
set_option maxRecDepth 100000 in
theorem q_eck_WX_35_1 : q_eck q_shX q_shW 32 32 35 1 = true := by decide +kernel
theorem q_emWX_35_1 {TB : Nat → Option (Nat × Nat × (Nat → Int32))} {d k : Nat} {as : List Value} {S s9 : q_S} {c n c9 n9 : Nat} {v : Option Value ⊕ String} (ha : as.all (q_okb 64) = true) (hv : ∀ β, q_om β v = v) (e : q_Ca TB d k as (q_kW (q_vw 32 35 1 S) c n) (v, q_kW s9 c9 n9)) : q_Ca TB d k (as.map (q_v (q_eb 32 35 1))) (q_kX S c n) (v, q_kX (q_pt 32 32 35 1 S s9) c9 n9) := by
  rw [q_kW_sh, q_kW_sh] at e
  rw [q_kX_sh, q_kX_sh]
  exact q_emb q_eck_WX_35_1 ha hv e
theorem q_emWX_35_1p {TB : Nat → Option (Nat × Nat × (Nat → Int32))} {d k : Nat} {as : List Value} {S : q_S} {c n c9 n9 : Nat} {v : Option Value ⊕ String} (ha : as.all (q_okb 64) = true) (hv : ∀ β, q_om β v = v) (e : q_Ca TB d k as (q_kW (q_vw 32 35 1 S) c n) (v, q_kW (q_vw 32 35 1 S) c9 n9)) : q_Ca TB d k (as.map (q_v (q_eb 32 35 1))) (q_kX S c n) (v, q_kX S c9 n9) := by
  have h := q_emWX_35_1 ha hv e
  rw [q_pt_vw] at h
  exact h
set_option maxRecDepth 100000 in
theorem q_eck_BX : q_eck q_shX q_shB 2 0 71 0 = true := by decide +kernel
theorem q_emBX {TB : Nat → Option (Nat × Nat × (Nat → Int32))} {d k : Nat} {as : List Value} {S s9 : q_S} {c n c9 n9 : Nat} {v : Option Value ⊕ String} (ha : as.all (q_okb 2) = true) (hv : ∀ β, q_om β v = v) (e : q_Ca TB d k as (q_kB (q_vw 2 71 0 S) c n) (v, q_kB s9 c9 n9)) : q_Ca TB d k (as.map (q_v (q_eb 2 71 0))) (q_kX S c n) (v, q_kX (q_pt 2 0 71 0 S s9) c9 n9) := by
  rw [q_kB_sh, q_kB_sh] at e
  rw [q_kX_sh, q_kX_sh]
  exact q_emb q_eck_BX ha hv e
theorem q_emBXp {TB : Nat → Option (Nat × Nat × (Nat → Int32))} {d k : Nat} {as : List Value} {S : q_S} {c n c9 n9 : Nat} {v : Option Value ⊕ String} (ha : as.all (q_okb 2) = true) (hv : ∀ β, q_om β v = v) (e : q_Ca TB d k as (q_kB (q_vw 2 71 0 S) c n) (v, q_kB (q_vw 2 71 0 S) c9 n9)) : q_Ca TB d k (as.map (q_v (q_eb 2 71 0))) (q_kX S c n) (v, q_kX S c9 n9) := by
  have h := q_emBX ha hv e
  rw [q_pt_vw] at h
  exact h
set_option maxRecDepth 100000 in
theorem q_eck_XL : q_eck q_shL q_shX 172 1 0 206 = true := by decide +kernel
theorem q_emXL {TB : Nat → Option (Nat × Nat × (Nat → Int32))} {d k : Nat} {as : List Value} {S s9 : q_S} {c n c9 n9 : Nat} {v : Option Value ⊕ String} (ha : as.all (q_okb 173) = true) (hv : ∀ β, q_om β v = v) (e : q_Ca TB d k as (q_kX (q_vw 172 0 206 S) c n) (v, q_kX s9 c9 n9)) : q_Ca TB d k (as.map (q_v (q_eb 172 0 206))) (q_kL S c n) (v, q_kL (q_pt 172 1 0 206 S s9) c9 n9) := by
  rw [q_kX_sh, q_kX_sh] at e
  rw [q_kL_sh, q_kL_sh]
  exact q_emb q_eck_XL ha hv e
theorem q_emXLp {TB : Nat → Option (Nat × Nat × (Nat → Int32))} {d k : Nat} {as : List Value} {S : q_S} {c n c9 n9 : Nat} {v : Option Value ⊕ String} (ha : as.all (q_okb 173) = true) (hv : ∀ β, q_om β v = v) (e : q_Ca TB d k as (q_kX (q_vw 172 0 206 S) c n) (v, q_kX (q_vw 172 0 206 S) c9 n9)) : q_Ca TB d k (as.map (q_v (q_eb 172 0 206))) (q_kL S c n) (v, q_kL S c9 n9) := by
  have h := q_emXL ha hv e
  rw [q_pt_vw] at h
  exact h
set_option maxRecDepth 100000 in
theorem q_eck_ML : q_eck q_shL q_shM 34 0 172 0 = true := by decide +kernel
theorem q_emML {TB : Nat → Option (Nat × Nat × (Nat → Int32))} {d k : Nat} {as : List Value} {S s9 : q_S} {c n c9 n9 : Nat} {v : Option Value ⊕ String} (ha : as.all (q_okb 34) = true) (hv : ∀ β, q_om β v = v) (e : q_Ca TB d k as (q_kM (q_vw 34 172 0 S) c n) (v, q_kM s9 c9 n9)) : q_Ca TB d k (as.map (q_v (q_eb 34 172 0))) (q_kL S c n) (v, q_kL (q_pt 34 0 172 0 S s9) c9 n9) := by
  rw [q_kM_sh, q_kM_sh] at e
  rw [q_kL_sh, q_kL_sh]
  exact q_emb q_eck_ML ha hv e
theorem q_emMLp {TB : Nat → Option (Nat × Nat × (Nat → Int32))} {d k : Nat} {as : List Value} {S : q_S} {c n c9 n9 : Nat} {v : Option Value ⊕ String} (ha : as.all (q_okb 34) = true) (hv : ∀ β, q_om β v = v) (e : q_Ca TB d k as (q_kM (q_vw 34 172 0 S) c n) (v, q_kM (q_vw 34 172 0 S) c9 n9)) : q_Ca TB d k (as.map (q_v (q_eb 34 172 0))) (q_kL S c n) (v, q_kL S c9 n9) := by
  have h := q_emML ha hv e
  rw [q_pt_vw] at h
  exact h
end
section
-- 46.na
def dz_N91_65 (s : q_S) (a1 : Int32) (a2 : Int32) : Int32 :=
  cond (decide (a1 = 9)) (((((s.2.2 1 8) - (s.2.2 1 8) / 960 * 960).toInt32) / 24)) (cond (decide (a1 = 12)) ((((s.1 7) 0) &&& 255)) (cond (decide (a1 = 13)) ((((s.1 7) 0) >>> ((8 &&& 31) : Int32))) (cond (decide (a1 = 14)) ((((s.1 7) 1) &&& 255)) (cond (decide (a1 = 15)) ((((s.1 7) 1) >>> ((8 &&& 31) : Int32))) (cond (decide (a1 = 31)) ((((s.1 12) ((a2 &&& 15).toNatClampNeg)) + (16 * (s.2.1 10 2)))) (cond (decide (a1 = 44)) (cond (decide (s.2.1 8 2 < s.2.1 8 1)) (((a2 + (2 * (s.2.1 8 4))) + 4)) (((a2 + (2 * (s.2.1 8 4))) + 0))) (a2)))))))
set_option maxHeartbeats 4000000 in
theorem dzt_N91_65 (s : q_S) (c n : Nat) (a1 : Int32) (a2 : Int32) : q_Ca q_TB0 1 90 [.ref 65, .int a1, .int a2] (q_kN s c n) ((q_oP (q_kN s c n)) (dz_N91_65 s a1 a2)) := by
  refine q_CaT_of (φ := (q_oP (q_kN s c n))) (Nat.le_of_ble_eq_true rfl) ?_
  unfold dz_N91_65
  refine q_RT_seg (g2 := (1, [(0, .ref 65), (1, .int a1), (2, .int a2)], [.int a1], (q_kN s c n))) 1 (fun _ _ => rfl) ?_
  cases h1 : decide (a1 = 9) with
  | true =>
    refine q_RT_cT ?_
    refine q_RT_st1 (g2 := (68, [(0, .ref 65), (1, .int a1), (2, .int a2)], [], (q_kN s c n))) rfl (by rw [of_decide_eq_true h1]; rfl) ?_
    refine q_RT_seg (g2 := (72, [(0, .ref 65), (1, .int a1), (2, .int a2)], [.long (s.2.2 1 8)], (q_kN s c n))) 2 (fun _ _ => rfl) ?_
    refine q_RT_seg (g2 := (80, [(0, .ref 65), (1, .int a1), (2, .int a2)], [.int ((((s.2.2 1 8) - (s.2.2 1 8) / 960 * 960).toInt32) / 24)], (q_kN s c n))) 5 (fun _ _ => rfl) ?_
    exact q_RT_ret rfl rfl rfl
  | false =>
    refine q_RT_cF ?_
    cases h2 : decide (a1 = 12) with
    | true =>
      refine q_RT_cT ?_
      refine q_RT_st1 (g2 := (81, [(0, .ref 65), (1, .int a1), (2, .int a2)], [], (q_kN s c n))) rfl (by rw [of_decide_eq_true h2]; rfl) ?_
      refine q_RT_seg (g2 := (87, [(0, .ref 65), (1, .int a1), (2, .int a2)], [.int ((s.1 7) 0)], (q_kN s c n))) 4 (fun _ _ => rfl) ?_
      refine q_RT_seg (g2 := (91, [(0, .ref 65), (1, .int a1), (2, .int a2)], [.int (((s.1 7) 0) &&& 255)], (q_kN s c n))) 2 (fun _ _ => rfl) ?_
      exact q_RT_ret rfl rfl rfl
    | false =>
      refine q_RT_cF ?_
      cases h3 : decide (a1 = 13) with
      | true =>
        refine q_RT_cT ?_
        refine q_RT_st1 (g2 := (92, [(0, .ref 65), (1, .int a1), (2, .int a2)], [], (q_kN s c n))) rfl (by rw [of_decide_eq_true h3]; rfl) ?_
        refine q_RT_seg (g2 := (98, [(0, .ref 65), (1, .int a1), (2, .int a2)], [.int ((s.1 7) 0)], (q_kN s c n))) 4 (fun _ _ => rfl) ?_
        refine q_RT_seg (g2 := (101, [(0, .ref 65), (1, .int a1), (2, .int a2)], [.int (((s.1 7) 0) >>> ((8 &&& 31) : Int32))], (q_kN s c n))) 2 (fun _ _ => rfl) ?_
        exact q_RT_ret rfl rfl rfl
      | false =>
        refine q_RT_cF ?_
        cases h4 : decide (a1 = 14) with
        | true =>
          refine q_RT_cT ?_
          refine q_RT_st1 (g2 := (102, [(0, .ref 65), (1, .int a1), (2, .int a2)], [], (q_kN s c n))) rfl (by rw [of_decide_eq_true h4]; rfl) ?_
          refine q_RT_seg (g2 := (108, [(0, .ref 65), (1, .int a1), (2, .int a2)], [.int ((s.1 7) 1)], (q_kN s c n))) 4 (fun _ _ => rfl) ?_
          refine q_RT_seg (g2 := (112, [(0, .ref 65), (1, .int a1), (2, .int a2)], [.int (((s.1 7) 1) &&& 255)], (q_kN s c n))) 2 (fun _ _ => rfl) ?_
          exact q_RT_ret rfl rfl rfl
        | false =>
          refine q_RT_cF ?_
          cases h5 : decide (a1 = 15) with
          | true =>
            refine q_RT_cT ?_
            refine q_RT_st1 (g2 := (113, [(0, .ref 65), (1, .int a1), (2, .int a2)], [], (q_kN s c n))) rfl (by rw [of_decide_eq_true h5]; rfl) ?_
            refine q_RT_seg (g2 := (119, [(0, .ref 65), (1, .int a1), (2, .int a2)], [.int ((s.1 7) 1)], (q_kN s c n))) 4 (fun _ _ => rfl) ?_
            refine q_RT_seg (g2 := (122, [(0, .ref 65), (1, .int a1), (2, .int a2)], [.int (((s.1 7) 1) >>> ((8 &&& 31) : Int32))], (q_kN s c n))) 2 (fun _ _ => rfl) ?_
            exact q_RT_ret rfl rfl rfl
          | false =>
            refine q_RT_cF ?_
            cases h6 : decide (a1 = 31) with
            | true =>
              refine q_RT_cT ?_
              refine q_RT_st1 (g2 := (123, [(0, .ref 65), (1, .int a1), (2, .int a2)], [], (q_kN s c n))) rfl (by rw [of_decide_eq_true h6]; rfl) ?_
              refine q_RT_seg (g2 := (134, [(0, .ref 65), (1, .int a1), (2, .int a2)], [.int (a2 &&& 15), .ref 76], (q_kN s c n))) 6 (fun _ _ => rfl) ?_
              refine q_RT_rsT (g2 := (135, [(0, .ref 65), (1, .int a1), (2, .int a2)], [.int ((s.1 12) ((a2 &&& 15).toNatClampNeg))], (q_kN s c n))) rfl rfl (q_in_bd (x := a2 &&& 15) (n := 16) (U := 15) (L := 0) (q_and_lo a2 15) (q_and_hi a2 15 15)) ?_
              refine q_RT_seg (g2 := (144, [(0, .ref 65), (1, .int a1), (2, .int a2)], [.int (s.2.1 10 2), .int 16, .int ((s.1 12) ((a2 &&& 15).toNatClampNeg))], (q_kN s c n))) 4 (fun _ _ => rfl) ?_
              refine q_RT_seg (g2 := (146, [(0, .ref 65), (1, .int a1), (2, .int a2)], [.int (((s.1 12) ((a2 &&& 15).toNatClampNeg)) + (16 * (s.2.1 10 2)))], (q_kN s c n))) 2 (fun _ _ => rfl) ?_
              exact q_RT_ret rfl rfl rfl
            | false =>
              refine q_RT_cF ?_
              cases h7 : decide (a1 = 44) with
              | true =>
                refine q_RT_cT ?_
                refine q_RT_st1 (g2 := (147, [(0, .ref 65), (1, .int a1), (2, .int a2)], [], (q_kN s c n))) rfl (by rw [of_decide_eq_true h7]; rfl) ?_
                refine q_RT_seg (g2 := (156, [(0, .ref 65), (1, .int a1), (2, .int a2)], [.int (s.2.1 8 4), .int 2, .int a2], (q_kN s c n))) 5 (fun _ _ => rfl) ?_
                refine q_RT_seg (g2 := (165, [(0, .ref 65), (1, .int a1), (2, .int a2)], [.int (s.2.1 8 2), .int (a2 + (2 * (s.2.1 8 4)))], (q_kN s c n))) 5 (fun _ _ => rfl) ?_
                refine q_RT_seg (g2 := (172, [(0, .ref 65), (1, .int a1), (2, .int a2)], [.int (s.2.1 8 1), .int (s.2.1 8 2), .int (a2 + (2 * (s.2.1 8 4)))], (q_kN s c n))) 3 (fun _ _ => rfl) ?_
                cases h8 : decide (s.2.1 8 2 < s.2.1 8 1) with
                | true =>
                  refine q_RT_cT ?_
                  refine q_RT_rsF (g2 := (175, [(0, .ref 65), (1, .int a1), (2, .int a2)], [.int (a2 + (2 * (s.2.1 8 4)))], (q_kN s c n))) rfl rfl (q_d_geT h8) ?_
                  refine q_RT_seg (g2 := (181, [(0, .ref 65), (1, .int a1), (2, .int a2)], [.int ((a2 + (2 * (s.2.1 8 4))) + 4)], (q_kN s c n))) 3 (fun _ _ => rfl) ?_
                  exact q_RT_ret rfl rfl rfl
                | false =>
                  refine q_RT_cF ?_
                  refine q_RT_rsT (g2 := (179, [(0, .ref 65), (1, .int a1), (2, .int a2)], [.int (a2 + (2 * (s.2.1 8 4)))], (q_kN s c n))) rfl rfl (q_d_geF h8) ?_
                  refine q_RT_seg (g2 := (181, [(0, .ref 65), (1, .int a1), (2, .int a2)], [.int ((a2 + (2 * (s.2.1 8 4))) + 0)], (q_kN s c n))) 2 (fun _ _ => rfl) ?_
                  exact q_RT_ret rfl rfl rfl
              | false =>
                refine q_RT_cF ?_
                refine q_RT_st1 (g2 := (182, [(0, .ref 65), (1, .int a1), (2, .int a2)], [], (q_kN s c n))) rfl (by unfold q_lsw; dsimp only; rw [Op.lookupswitch.offset_cons, if_neg (q_neJ h1 (n := 9)), Op.lookupswitch.offset_cons, if_neg (q_neJ h2 (n := 12)), Op.lookupswitch.offset_cons, if_neg (q_neJ h3 (n := 13)), Op.lookupswitch.offset_cons, if_neg (q_neJ h4 (n := 14)), Op.lookupswitch.offset_cons, if_neg (q_neJ h5 (n := 15)), Op.lookupswitch.offset_cons, if_neg (q_neJ h6 (n := 31)), Op.lookupswitch.offset_cons, if_neg (q_neJ h7 (n := 44))]; rfl) ?_
                refine q_RT_seg (g2 := (183, [(0, .ref 65), (1, .int a1), (2, .int a2)], [.int a2], (q_kN s c n))) 1 (fun _ _ => rfl) ?_
                exact q_RT_ret rfl rfl rfl
def dz_N90_65_73 (s : q_S) (v1 : Int32) (v3 : Int32) : Option (Int32) :=
  cond (decide (v3 &&& 2 = 2)) (cond (decide (v1 < 2048)) (some ((s.1 3) ((v1 &&& 4095).toNatClampNeg))) (cond (decide (v1 < 2560)) (cond (q_in (((512 * ((v3 >>> ((2 &&& 31) : Int32)) &&& 3)) + v1) - 2048) 2048) (some ((s.1 6) ((((512 * ((v3 >>> ((2 &&& 31) : Int32)) &&& 3)) + v1) - 2048).toNatClampNeg))) none) (some ((s.1 3) ((v1 &&& 4095).toNatClampNeg))))) (some ((s.1 3) ((v1 &&& 4095).toNatClampNeg)))
set_option maxHeartbeats 4000000 in
theorem dzt_N90_65_73 (c n : Nat) (s : q_S) (v1 : Int32) (v3 : Int32) : q_RP q_TB0 1 89 (73, [(0, .ref 65), (1, .int v1), (3, .int v3)], [], (q_kN s c n)) (q_oP (q_kN s c n)) (dz_N90_65_73 s v1 v3) := by
  unfold dz_N90_65_73
  refine q_RP_seg (g2 := (77, [(0, .ref 65), (1, .int v1), (3, .int v3)], [.int 2, .int (v3 &&& 2)], (q_kN s c n))) 4 (fun _ _ => rfl) ?_
  cases h10 : decide (v3 &&& 2 = 2) with
  | true =>
    refine q_RP_cT ?_
    refine q_RP_rsF (g2 := (80, [(0, .ref 65), (1, .int v1), (3, .int v3)], [], (q_kN s c n))) rfl rfl (q_d_neT h10) ?_
    refine q_RP_seg (g2 := (84, [(0, .ref 65), (1, .int v1), (3, .int v3)], [.int 2048, .int v1], (q_kN s c n))) 2 (fun _ _ => rfl) ?_
    cases h11 : decide (v1 < 2048) with
    | true =>
      refine q_RP_cT ?_
      refine q_RP_rsT (g2 := (115, [(0, .ref 65), (1, .int v1), (3, .int v3)], [], (q_kN s c n))) rfl rfl h11 ?_
      refine q_RP_seg (g2 := (127, [(0, .ref 65), (1, .int v1), (3, .int v3)], [.int (v1 &&& 4095), .ref 67], (q_kN s c n))) 6 (fun _ _ => rfl) ?_
      refine q_RP_rsT (g2 := (128, [(0, .ref 65), (1, .int v1), (3, .int v3)], [.int ((s.1 3) ((v1 &&& 4095).toNatClampNeg))], (q_kN s c n))) rfl rfl (q_in_bd (x := v1 &&& 4095) (n := 4096) (U := 4095) (L := 0) (q_and_lo v1 4095) (q_and_hi v1 4095 4095)) ?_
      exact q_RP_ret rfl rfl rfl
    | false =>
      refine q_RP_cF ?_
      refine q_RP_rsF (g2 := (87, [(0, .ref 65), (1, .int v1), (3, .int v3)], [], (q_kN s c n))) rfl rfl h11 ?_
      refine q_RP_seg (g2 := (91, [(0, .ref 65), (1, .int v1), (3, .int v3)], [.int 2560, .int v1], (q_kN s c n))) 2 (fun _ _ => rfl) ?_
      cases h12 : decide (v1 < 2560) with
      | true =>
        refine q_RP_cT ?_
        refine q_RP_rsF (g2 := (94, [(0, .ref 65), (1, .int v1), (3, .int v3)], [], (q_kN s c n))) rfl rfl (q_d_geT h12) ?_
        refine q_RP_seg (g2 := (113, [(0, .ref 65), (1, .int v1), (3, .int v3)], [.int (((512 * ((v3 >>> ((2 &&& 31) : Int32)) &&& 3)) + v1) - 2048), .ref 70], (q_kN s c n))) 13 (fun _ _ => rfl) ?_
        refine q_RP_as fun i13 => ?_
        refine q_RP_rsT (g2 := (114, [(0, .ref 65), (1, .int v1), (3, .int v3)], [.int ((s.1 6) ((((512 * ((v3 >>> ((2 &&& 31) : Int32)) &&& 3)) + v1) - 2048).toNatClampNeg))], (q_kN s c n))) rfl rfl i13 ?_
        exact q_RP_ret rfl rfl rfl
      | false =>
        refine q_RP_cF ?_
        refine q_RP_rsT (g2 := (115, [(0, .ref 65), (1, .int v1), (3, .int v3)], [], (q_kN s c n))) rfl rfl (q_d_geF h12) ?_
        refine q_RP_seg (g2 := (127, [(0, .ref 65), (1, .int v1), (3, .int v3)], [.int (v1 &&& 4095), .ref 67], (q_kN s c n))) 6 (fun _ _ => rfl) ?_
        refine q_RP_rsT (g2 := (128, [(0, .ref 65), (1, .int v1), (3, .int v3)], [.int ((s.1 3) ((v1 &&& 4095).toNatClampNeg))], (q_kN s c n))) rfl rfl (q_in_bd (x := v1 &&& 4095) (n := 4096) (U := 4095) (L := 0) (q_and_lo v1 4095) (q_and_hi v1 4095 4095)) ?_
        exact q_RP_ret rfl rfl rfl
  | false =>
    refine q_RP_cF ?_
    refine q_RP_rsT (g2 := (115, [(0, .ref 65), (1, .int v1), (3, .int v3)], [], (q_kN s c n))) rfl rfl (q_d_neF h10) ?_
    refine q_RP_seg (g2 := (127, [(0, .ref 65), (1, .int v1), (3, .int v3)], [.int (v1 &&& 4095), .ref 67], (q_kN s c n))) 6 (fun _ _ => rfl) ?_
    refine q_RP_rsT (g2 := (128, [(0, .ref 65), (1, .int v1), (3, .int v3)], [.int ((s.1 3) ((v1 &&& 4095).toNatClampNeg))], (q_kN s c n))) rfl rfl (q_in_bd (x := v1 &&& 4095) (n := 4096) (U := 4095) (L := 0) (q_and_lo v1 4095) (q_and_hi v1 4095 4095)) ?_
    exact q_RP_ret rfl rfl rfl
def dz_N90_65_31 (s : q_S) (v1 : Int32) : Option (Int32) :=
  cond (decide (((s.1 4) 0) &&& 1 = 1)) (cond (decide (v1 < 3072)) (dz_N90_65_73 s v1 ((s.1 4) 0)) (cond (decide (v1 < 3584)) (some ((s.1 5) ((v1 - 3072).toNatClampNeg))) (dz_N90_65_73 s v1 ((s.1 4) 0)))) (dz_N90_65_73 s v1 ((s.1 4) 0))
set_option maxHeartbeats 4000000 in
theorem dzt_N90_65_31 (c n : Nat) (s : q_S) (v1 : Int32) : q_RP q_TB0 1 89 (31, [(0, .ref 65), (1, .int v1)], [], (q_kN s c n)) (q_oP (q_kN s c n)) (dz_N90_65_31 s v1) := by
  unfold dz_N90_65_31
  refine q_RP_seg (g2 := (40, [(0, .ref 65), (1, .int v1)], [.int ((s.1 4) 0)], (q_kN s c n))) 5 (fun _ _ => rfl) ?_
  refine q_RP_seg (g2 := (45, [(3, .int ((s.1 4) 0)), (0, .ref 65), (1, .int v1)], [.int 1, .int (((s.1 4) 0) &&& 1)], (q_kN s c n))) 5 (fun _ _ => rfl) ?_
  cases h8 : decide (((s.1 4) 0) &&& 1 = 1) with
  | true =>
    refine q_RP_cT ?_
    refine q_RP_rsF (g2 := (48, [(3, .int ((s.1 4) 0)), (0, .ref 65), (1, .int v1)], [], (q_kN s c n))) rfl rfl (q_d_neT h8) ?_
    refine q_RP_seg (g2 := (52, [(3, .int ((s.1 4) 0)), (0, .ref 65), (1, .int v1)], [.int 3072, .int v1], (q_kN s c n))) 2 (fun _ _ => rfl) ?_
    cases h9 : decide (v1 < 3072) with
    | true =>
      refine q_RP_cT ?_
      refine q_RP_rsT (g2 := (73, [(3, .int ((s.1 4) 0)), (0, .ref 65), (1, .int v1)], [], (q_kN s c n))) rfl rfl h9 ?_
      exact q_RP_xt (q_xt_mk (q_mn1 1 rfl (q_mn1 2 rfl (q_mn1 0 rfl q_mn0))) rfl) (dzt_N90_65_73 c n s v1 ((s.1 4) 0))
    | false =>
      refine q_RP_cF ?_
      refine q_RP_rsF (g2 := (55, [(3, .int ((s.1 4) 0)), (0, .ref 65), (1, .int v1)], [], (q_kN s c n))) rfl rfl h9 ?_
      refine q_RP_seg (g2 := (59, [(3, .int ((s.1 4) 0)), (0, .ref 65), (1, .int v1)], [.int 3584, .int v1], (q_kN s c n))) 2 (fun _ _ => rfl) ?_
      cases h14 : decide (v1 < 3584) with
      | true =>
        refine q_RP_cT ?_
        refine q_RP_rsF (g2 := (62, [(3, .int ((s.1 4) 0)), (0, .ref 65), (1, .int v1)], [], (q_kN s c n))) rfl rfl (q_d_geT h14) ?_
        refine q_RP_seg (g2 := (71, [(3, .int ((s.1 4) 0)), (0, .ref 65), (1, .int v1)], [.int (v1 - 3072), .ref 69], (q_kN s c n))) 5 (fun _ _ => rfl) ?_
        refine q_RP_rsT (g2 := (72, [(3, .int ((s.1 4) 0)), (0, .ref 65), (1, .int v1)], [.int ((s.1 5) ((v1 - 3072).toNatClampNeg))], (q_kN s c n))) rfl rfl (q_in_bd (x := v1 - 3072) (n := 512) (U := 511) (L := 0) (q_sub_lo9 0 (q_lo1 h9) (q_hi1 h14)) (q_sub_hi9 511 (q_lo1 h9) (q_hi1 h14))) ?_
        exact q_RP_ret rfl rfl rfl
      | false =>
        refine q_RP_cF ?_
        refine q_RP_rsT (g2 := (73, [(3, .int ((s.1 4) 0)), (0, .ref 65), (1, .int v1)], [], (q_kN s c n))) rfl rfl (q_d_geF h14) ?_
        exact q_RP_xt (q_xt_mk (q_mn1 1 rfl (q_mn1 2 rfl (q_mn1 0 rfl q_mn0))) rfl) (dzt_N90_65_73 c n s v1 ((s.1 4) 0))
  | false =>
    refine q_RP_cF ?_
    refine q_RP_rsT (g2 := (73, [(3, .int ((s.1 4) 0)), (0, .ref 65), (1, .int v1)], [], (q_kN s c n))) rfl rfl (q_d_neF h8) ?_
    exact q_RP_xt (q_xt_mk (q_mn1 1 rfl (q_mn1 2 rfl (q_mn1 0 rfl q_mn0))) rfl) (dzt_N90_65_73 c n s v1 ((s.1 4) 0))
def dz_N90_65 (s : q_S) (a1 : Int32) : Option (Int32) :=
  cond (decide (a1 - 3840 < 0)) (dz_N90_65_31 s a1) (cond (decide (a1 - 3840 < 48)) (q_let (dz_N91_65 s (a1 - 3840) ((s.1 4) ((a1 - 3840).toNatClampNeg))) fun r1 => some r1) (dz_N90_65_31 s a1))
set_option maxHeartbeats 4000000 in
theorem dzt_N90_65 (s : q_S) (c n : Nat) (a1 : Int32) (x : Int32) (h : dz_N90_65 s a1 = some x) : q_Ca q_TB0 2 89 [.ref 65, .int a1] (q_kN s c n) ((q_oP (q_kN s c n)) x) := by
  refine q_CaP_of (φ := (q_oP (q_kN s c n))) (Nat.le_of_ble_eq_true rfl) ?_ h
  clear h
  unfold dz_N90_65
  refine q_RP_seg (g2 := (7, [(2, .int (a1 - 3840)), (0, .ref 65), (1, .int a1)], [.int (a1 - 3840)], (q_kN s c n))) 5 (fun _ _ => rfl) ?_
  cases h7 : decide (a1 - 3840 < 0) with
  | true =>
    refine q_RP_cT ?_
    refine q_RP_rsT (g2 := (31, [(2, .int (a1 - 3840)), (0, .ref 65), (1, .int a1)], [], (q_kN s c n))) rfl rfl h7 ?_
    exact q_RP_xt (q_xt_mk (q_mn1 1 rfl (q_mn1 2 rfl q_mn0)) rfl) (dzt_N90_65_31 c n s a1)
  | false =>
    refine q_RP_cF ?_
    refine q_RP_rsF (g2 := (10, [(2, .int (a1 - 3840)), (0, .ref 65), (1, .int a1)], [], (q_kN s c n))) rfl rfl h7 ?_
    refine q_RP_seg (g2 := (13, [(2, .int (a1 - 3840)), (0, .ref 65), (1, .int a1)], [.int 48, .int (a1 - 3840)], (q_kN s c n))) 2 (fun _ _ => rfl) ?_
    cases h15 : decide (a1 - 3840 < 48) with
    | true =>
      refine q_RP_cT ?_
      refine q_RP_rsF (g2 := (16, [(2, .int (a1 - 3840)), (0, .ref 65), (1, .int a1)], [], (q_kN s c n))) rfl rfl (q_d_geT h15) ?_
      refine q_RP_seg (g2 := (26, [(2, .int (a1 - 3840)), (0, .ref 65), (1, .int a1)], [.int (a1 - 3840), .ref 68, .int (a1 - 3840), .ref 65], (q_kN s c n))) 6 (fun _ _ => rfl) ?_
      refine q_RP_rsT (g2 := (27, [(2, .int (a1 - 3840)), (0, .ref 65), (1, .int a1)], [.int ((s.1 4) ((a1 - 3840).toNatClampNeg)), .int (a1 - 3840), .ref 65], (q_kN s c n))) rfl rfl (q_in_bd (x := a1 - 3840) (n := 48) (U := 47) (L := 0) (q_lo1 h7) (q_hi1 h15)) ?_
      refine q_RP_call (v := (some (.int (dz_N91_65 s (a1 - 3840) ((s.1 4) ((a1 - 3840).toNatClampNeg)))))) (h2 := (q_kN s c n)) rfl rfl ((dzt_N91_65 s c n (a1 - 3840) ((s.1 4) ((a1 - 3840).toNatClampNeg))).le (Nat.le_of_ble_eq_true rfl)) ?_
      generalize dz_N91_65 s (a1 - 3840) ((s.1 4) ((a1 - 3840).toNatClampNeg)) = r1
      refine q_RP_let ?_
      show q_RP _ _ _ (30, [(2, .int (a1 - 3840)), (0, .ref 65), (1, .int a1)], [.int r1], (q_kN s c n)) _ _
      exact q_RP_ret rfl rfl rfl
    | false =>
      refine q_RP_cF ?_
      refine q_RP_rsT (g2 := (31, [(2, .int (a1 - 3840)), (0, .ref 65), (1, .int a1)], [], (q_kN s c n))) rfl rfl (q_d_geF h15) ?_
      exact q_RP_xt (q_xt_mk (q_mn1 1 rfl (q_mn1 2 rfl q_mn0)) rfl) (dzt_N90_65_31 c n s a1)
def dz_N112_66 (s : q_S) (a1 : Int32) (a2 : Int32) : q_S :=
  cond (decide (a1 - 3840 < 0)) ((q_sA s 3 (upd (s.1 3) ((a1 &&& 4095).toNatClampNeg) (a2 &&& 255)))) (cond (decide (a1 - 3840 < 48)) (cond (decide ((fun j => q_o1.getD j 0) ((a1 - 3840).toNatClampNeg) = 0)) (s) ((q_sA s 4 (upd (s.1 4) ((a1 - 3840).toNatClampNeg) (a2 &&& ((fun j => q_o1.getD j 0) ((a1 - 3840).toNatClampNeg))))))) ((q_sA s 3 (upd (s.1 3) ((a1 &&& 4095).toNatClampNeg) (a2 &&& 255)))))
set_option maxHeartbeats 4000000 in
theorem dzt_N112_66 (s : q_S) (c n : Nat) (a1 : Int32) (a2 : Int32) : q_Ca q_TB0 1 111 [.ref 66, .int a1, .int a2] (q_kN s c n) ((q_oSN c n) (dz_N112_66 s a1 a2)) := by
  refine q_CaT_of (φ := (q_oSN c n)) (Nat.le_of_ble_eq_true rfl) ?_
  unfold dz_N112_66
  refine q_RT_seg (g2 := (7, [(3, .int (a1 - 3840)), (0, .ref 66), (1, .int a1), (2, .int a2)], [.int (a1 - 3840)], (q_kN s c n))) 5 (fun _ _ => rfl) ?_
  cases h1 : decide (a1 - 3840 < 0) with
  | true =>
    refine q_RT_cT ?_
    refine q_RT_rsT (g2 := (16, [(3, .int (a1 - 3840)), (0, .ref 66), (1, .int a1), (2, .int a2)], [], (q_kN s c n))) rfl rfl h1 ?_
    refine q_RT_seg (g2 := (30, [(3, .int (a1 - 3840)), (0, .ref 66), (1, .int a1), (2, .int a2)], [.int (a2 &&& 255), .int (a1 &&& 4095), .ref 67], (q_kN s c n))) 8 (fun _ _ => rfl) ?_
    refine q_RT_rsT (g2 := (31, [(3, .int (a1 - 3840)), (0, .ref 66), (1, .int a1), (2, .int a2)], [], (q_kN (q_sA s 3 (upd (s.1 3) ((a1 &&& 4095).toNatClampNeg) (a2 &&& 255))) c n))) rfl rfl (q_in_bd (x := a1 &&& 4095) (n := 4096) (U := 4095) (L := 0) (q_and_lo a1 4095) (q_and_hi a1 4095 4095)) ?_
    refine q_RT_seg (g2 := (55, [(3, .int (a1 - 3840)), (0, .ref 66), (1, .int a1), (2, .int a2)], [], (q_kN (q_sA s 3 (upd (s.1 3) ((a1 &&& 4095).toNatClampNeg) (a2 &&& 255))) c n))) 1 (fun _ _ => rfl) ?_
    exact q_RT_ret rfl rfl rfl
  | false =>
    refine q_RT_cF ?_
    refine q_RT_rsF (g2 := (10, [(3, .int (a1 - 3840)), (0, .ref 66), (1, .int a1), (2, .int a2)], [], (q_kN s c n))) rfl rfl h1 ?_
    refine q_RT_seg (g2 := (13, [(3, .int (a1 - 3840)), (0, .ref 66), (1, .int a1), (2, .int a2)], [.int 48, .int (a1 - 3840)], (q_kN s c n))) 2 (fun _ _ => rfl) ?_
    cases h2 : decide (a1 - 3840 < 48) with
    | true =>
      refine q_RT_cT ?_
      refine q_RT_rsT (g2 := (34, [(3, .int (a1 - 3840)), (0, .ref 66), (1, .int a1), (2, .int a2)], [], (q_kN s c n))) rfl rfl h2 ?_
      refine q_RT_seg (g2 := (38, [(3, .int (a1 - 3840)), (0, .ref 66), (1, .int a1), (2, .int a2)], [.int (a1 - 3840), .ref 1], (q_kN s c n))) 2 (fun _ _ => rfl) ?_
      refine q_RT_rsT (g2 := (39, [(3, .int (a1 - 3840)), (0, .ref 66), (1, .int a1), (2, .int a2)], [.int ((fun j => q_o1.getD j 0) ((a1 - 3840).toNatClampNeg))], (q_kN s c n))) rfl rfl (q_in_bd (x := a1 - 3840) (n := 48) (U := 47) (L := 0) (q_lo1 h1) (q_hi1 h2)) ?_
      cases h3 : decide ((fun j => q_o1.getD j 0) ((a1 - 3840).toNatClampNeg) = 0) with
      | true =>
        refine q_RT_cT ?_
        refine q_RT_rsT (g2 := (55, [(3, .int (a1 - 3840)), (0, .ref 66), (1, .int a1), (2, .int a2)], [], (q_kN s c n))) rfl rfl h3 ?_
        exact q_RT_ret rfl rfl rfl
      | false =>
        refine q_RT_cF ?_
        refine q_RT_rsF (g2 := (42, [(3, .int (a1 - 3840)), (0, .ref 66), (1, .int a1), (2, .int a2)], [], (q_kN s c n))) rfl rfl h3 ?_
        refine q_RT_seg (g2 := (52, [(3, .int (a1 - 3840)), (0, .ref 66), (1, .int a1), (2, .int a2)], [.int (a1 - 3840), .ref 1, .int a2, .int (a1 - 3840), .ref 68], (q_kN s c n))) 6 (fun _ _ => rfl) ?_
        refine q_RT_rsT (g2 := (53, [(3, .int (a1 - 3840)), (0, .ref 66), (1, .int a1), (2, .int a2)], [.int ((fun j => q_o1.getD j 0) ((a1 - 3840).toNatClampNeg)), .int a2, .int (a1 - 3840), .ref 68], (q_kN s c n))) rfl rfl (q_in_bd (x := a1 - 3840) (n := 48) (U := 47) (L := 0) (q_lo1 h1) (q_hi1 h2)) ?_
        refine q_RT_seg (g2 := (54, [(3, .int (a1 - 3840)), (0, .ref 66), (1, .int a1), (2, .int a2)], [.int (a2 &&& ((fun j => q_o1.getD j 0) ((a1 - 3840).toNatClampNeg))), .int (a1 - 3840), .ref 68], (q_kN s c n))) 1 (fun _ _ => rfl) ?_
        refine q_RT_rsT (g2 := (55, [(3, .int (a1 - 3840)), (0, .ref 66), (1, .int a1), (2, .int a2)], [], (q_kN (q_sA s 4 (upd (s.1 4) ((a1 - 3840).toNatClampNeg) (a2 &&& ((fun j => q_o1.getD j 0) ((a1 - 3840).toNatClampNeg))))) c n))) rfl rfl (q_in_bd (x := a1 - 3840) (n := 48) (U := 47) (L := 0) (q_lo1 h1) (q_hi1 h2)) ?_
        exact q_RT_ret rfl rfl rfl
    | false =>
      refine q_RT_cF ?_
      refine q_RT_rsF (g2 := (16, [(3, .int (a1 - 3840)), (0, .ref 66), (1, .int a1), (2, .int a2)], [], (q_kN s c n))) rfl rfl h2 ?_
      refine q_RT_seg (g2 := (30, [(3, .int (a1 - 3840)), (0, .ref 66), (1, .int a1), (2, .int a2)], [.int (a2 &&& 255), .int (a1 &&& 4095), .ref 67], (q_kN s c n))) 8 (fun _ _ => rfl) ?_
      refine q_RT_rsT (g2 := (31, [(3, .int (a1 - 3840)), (0, .ref 66), (1, .int a1), (2, .int a2)], [], (q_kN (q_sA s 3 (upd (s.1 3) ((a1 &&& 4095).toNatClampNeg) (a2 &&& 255))) c n))) rfl rfl (q_in_bd (x := a1 &&& 4095) (n := 4096) (U := 4095) (L := 0) (q_and_lo a1 4095) (q_and_hi a1 4095 4095)) ?_
      refine q_RT_seg (g2 := (55, [(3, .int (a1 - 3840)), (0, .ref 66), (1, .int a1), (2, .int a2)], [], (q_kN (q_sA s 3 (upd (s.1 3) ((a1 &&& 4095).toNatClampNeg) (a2 &&& 255))) c n))) 1 (fun _ _ => rfl) ?_
      exact q_RT_ret rfl rfl rfl
def dz_N128_77 (s : q_S) (a1 : Int32) (a2 : Int32) : q_S :=
  cond (decide (s.2.1 13 2 < 0)) (s) (cond (decide (s.2.1 13 2 < 3072)) ((q_sI (q_sA s 17 (upd (s.1 17) ((s.2.1 13 2).toNatClampNeg) ((((s.2.1 13 3) <<< (21 &&& 31)) + (a1 <<< (8 &&& 31))) + a2))) 13 2 ((s.2.1 13 2) + 1))) (s))
set_option maxHeartbeats 4000000 in
theorem dzt_N128_77 (s : q_S) (c n : Nat) (a1 : Int32) (a2 : Int32) : q_Ca q_TB0 1 127 [.ref 77, .int a1, .int a2] (q_kN s c n) ((q_oSN c n) (dz_N128_77 s a1 a2)) := by
  refine q_CaT_of (φ := (q_oSN c n)) (Nat.le_of_ble_eq_true rfl) ?_
  unfold dz_N128_77
  refine q_RT_seg (g2 := (4, [(0, .ref 77), (1, .int a1), (2, .int a2)], [.int (s.2.1 13 2)], (q_kN s c n))) 2 (fun _ _ => rfl) ?_
  cases h1 : decide (s.2.1 13 2 < 0) with
  | true =>
    refine q_RT_cT ?_
    refine q_RT_rsT (g2 := (50, [(0, .ref 77), (1, .int a1), (2, .int a2)], [], (q_kN s c n))) rfl rfl h1 ?_
    exact q_RT_ret rfl rfl rfl
  | false =>
    refine q_RT_cF ?_
    refine q_RT_rsF (g2 := (7, [(0, .ref 77), (1, .int a1), (2, .int a2)], [], (q_kN s c n))) rfl rfl h1 ?_
    refine q_RT_seg (g2 := (11, [(0, .ref 77), (1, .int a1), (2, .int a2)], [.int (s.2.1 13 2)], (q_kN s c n))) 2 (fun _ _ => rfl) ?_
    refine q_RT_seg (g2 := (14, [(0, .ref 77), (1, .int a1), (2, .int a2)], [.int 3072, .int (s.2.1 13 2)], (q_kN s c n))) 1 (fun _ _ => rfl) ?_
    cases h2 : decide (s.2.1 13 2 < 3072) with
    | true =>
      refine q_RT_cT ?_
      refine q_RT_rsF (g2 := (17, [(0, .ref 77), (1, .int a1), (2, .int a2)], [], (q_kN s c n))) rfl rfl (q_d_geT h2) ?_
      refine q_RT_seg (g2 := (25, [(0, .ref 77), (1, .int a1), (2, .int a2)], [.int (s.2.1 13 2), .ref 81], (q_kN s c n))) 4 (fun _ _ => rfl) ?_
      refine q_RT_seg (g2 := (29, [(0, .ref 77), (1, .int a1), (2, .int a2)], [.int (s.2.1 13 3), .int (s.2.1 13 2), .ref 81], (q_kN s c n))) 2 (fun _ _ => rfl) ?_
      refine q_RT_seg (g2 := (39, [(0, .ref 77), (1, .int a1), (2, .int a2)], [.int ((((s.2.1 13 3) <<< (21 &&& 31)) + (a1 <<< (8 &&& 31))) + a2), .int (s.2.1 13 2), .ref 81], (q_kN s c n))) 8 (fun _ _ => rfl) ?_
      refine q_RT_rsT (g2 := (40, [(0, .ref 77), (1, .int a1), (2, .int a2)], [], (q_kN (q_sA s 17 (upd (s.1 17) ((s.2.1 13 2).toNatClampNeg) ((((s.2.1 13 3) <<< (21 &&& 31)) + (a1 <<< (8 &&& 31))) + a2))) c n))) rfl rfl (q_in_bd (x := s.2.1 13 2) (n := 3072) (U := 3071) (L := 0) (q_lo1 h1) (q_hi1 h2)) ?_
      refine q_RT_seg (g2 := (45, [(0, .ref 77), (1, .int a1), (2, .int a2)], [.int (s.2.1 13 2), .ref 77], (q_kN (q_sA s 17 (upd (s.1 17) ((s.2.1 13 2).toNatClampNeg) ((((s.2.1 13 3) <<< (21 &&& 31)) + (a1 <<< (8 &&& 31))) + a2))) c n))) 3 (fun _ _ => rfl) ?_
      refine q_RT_seg (g2 := (50, [(0, .ref 77), (1, .int a1), (2, .int a2)], [], (q_kN (q_sI (q_sA s 17 (upd (s.1 17) ((s.2.1 13 2).toNatClampNeg) ((((s.2.1 13 3) <<< (21 &&& 31)) + (a1 <<< (8 &&& 31))) + a2))) 13 2 ((s.2.1 13 2) + 1)) c n))) 3 (fun _ _ => rfl) ?_
      exact q_RT_ret rfl rfl rfl
    | false =>
      refine q_RT_cF ?_
      refine q_RT_rsT (g2 := (50, [(0, .ref 77), (1, .int a1), (2, .int a2)], [], (q_kN s c n))) rfl rfl (q_d_geF h2) ?_
      exact q_RT_ret rfl rfl rfl
def dz_N128_82 (s : q_S) (a1 : Int32) (a2 : Int32) : q_S :=
  cond (decide (s.2.1 18 2 < 0)) (s) (cond (decide (s.2.1 18 2 < 3072)) ((q_sI (q_sA s 22 (upd (s.1 22) ((s.2.1 18 2).toNatClampNeg) ((((s.2.1 18 3) <<< (21 &&& 31)) + (a1 <<< (8 &&& 31))) + a2))) 18 2 ((s.2.1 18 2) + 1))) (s))
set_option maxHeartbeats 4000000 in
theorem dzt_N128_82 (s : q_S) (c n : Nat) (a1 : Int32) (a2 : Int32) : q_Ca q_TB0 1 127 [.ref 82, .int a1, .int a2] (q_kN s c n) ((q_oSN c n) (dz_N128_82 s a1 a2)) := by
  refine q_CaT_of (φ := (q_oSN c n)) (Nat.le_of_ble_eq_true rfl) ?_
  unfold dz_N128_82
  refine q_RT_seg (g2 := (4, [(0, .ref 82), (1, .int a1), (2, .int a2)], [.int (s.2.1 18 2)], (q_kN s c n))) 2 (fun _ _ => rfl) ?_
  cases h1 : decide (s.2.1 18 2 < 0) with
  | true =>
    refine q_RT_cT ?_
    refine q_RT_rsT (g2 := (50, [(0, .ref 82), (1, .int a1), (2, .int a2)], [], (q_kN s c n))) rfl rfl h1 ?_
    exact q_RT_ret rfl rfl rfl
  | false =>
    refine q_RT_cF ?_
    refine q_RT_rsF (g2 := (7, [(0, .ref 82), (1, .int a1), (2, .int a2)], [], (q_kN s c n))) rfl rfl h1 ?_
    refine q_RT_seg (g2 := (11, [(0, .ref 82), (1, .int a1), (2, .int a2)], [.int (s.2.1 18 2)], (q_kN s c n))) 2 (fun _ _ => rfl) ?_
    refine q_RT_seg (g2 := (14, [(0, .ref 82), (1, .int a1), (2, .int a2)], [.int 3072, .int (s.2.1 18 2)], (q_kN s c n))) 1 (fun _ _ => rfl) ?_
    cases h2 : decide (s.2.1 18 2 < 3072) with
    | true =>
      refine q_RT_cT ?_
      refine q_RT_rsF (g2 := (17, [(0, .ref 82), (1, .int a1), (2, .int a2)], [], (q_kN s c n))) rfl rfl (q_d_geT h2) ?_
      refine q_RT_seg (g2 := (25, [(0, .ref 82), (1, .int a1), (2, .int a2)], [.int (s.2.1 18 2), .ref 86], (q_kN s c n))) 4 (fun _ _ => rfl) ?_
      refine q_RT_seg (g2 := (29, [(0, .ref 82), (1, .int a1), (2, .int a2)], [.int (s.2.1 18 3), .int (s.2.1 18 2), .ref 86], (q_kN s c n))) 2 (fun _ _ => rfl) ?_
      refine q_RT_seg (g2 := (39, [(0, .ref 82), (1, .int a1), (2, .int a2)], [.int ((((s.2.1 18 3) <<< (21 &&& 31)) + (a1 <<< (8 &&& 31))) + a2), .int (s.2.1 18 2), .ref 86], (q_kN s c n))) 8 (fun _ _ => rfl) ?_
      refine q_RT_rsT (g2 := (40, [(0, .ref 82), (1, .int a1), (2, .int a2)], [], (q_kN (q_sA s 22 (upd (s.1 22) ((s.2.1 18 2).toNatClampNeg) ((((s.2.1 18 3) <<< (21 &&& 31)) + (a1 <<< (8 &&& 31))) + a2))) c n))) rfl rfl (q_in_bd (x := s.2.1 18 2) (n := 3072) (U := 3071) (L := 0) (q_lo1 h1) (q_hi1 h2)) ?_
      refine q_RT_seg (g2 := (45, [(0, .ref 82), (1, .int a1), (2, .int a2)], [.int (s.2.1 18 2), .ref 82], (q_kN (q_sA s 22 (upd (s.1 22) ((s.2.1 18 2).toNatClampNeg) ((((s.2.1 18 3) <<< (21 &&& 31)) + (a1 <<< (8 &&& 31))) + a2))) c n))) 3 (fun _ _ => rfl) ?_
      refine q_RT_seg (g2 := (50, [(0, .ref 82), (1, .int a1), (2, .int a2)], [], (q_kN (q_sI (q_sA s 22 (upd (s.1 22) ((s.2.1 18 2).toNatClampNeg) ((((s.2.1 18 3) <<< (21 &&& 31)) + (a1 <<< (8 &&& 31))) + a2))) 18 2 ((s.2.1 18 2) + 1)) c n))) 3 (fun _ _ => rfl) ?_
      exact q_RT_ret rfl rfl rfl
    | false =>
      refine q_RT_cF ?_
      refine q_RT_rsT (g2 := (50, [(0, .ref 82), (1, .int a1), (2, .int a2)], [], (q_kN s c n))) rfl rfl (q_d_geF h2) ?_
      exact q_RT_ret rfl rfl rfl
def dz_N95_65_2 (m : Nat) : q_S → Int32 → Int32 → Option (q_S) := Nat.rec (motive := fun _ => q_S → Int32 → Int32 → Option (q_S)) (fun _ _ _ => none) (fun _ k2 s v1 v2 =>
  cond (decide (v2 < 2)) (cond (decide ((v1 >>> (v2 &&& 31)) &&& 1 = 1)) (cond (q_in ((12 : Int32) + (2 * v2)) 48) (cond (q_in (((12 : Int32) + (2 * v2)) + 1) 48) (cond (q_in v2 2) (k2 (q_sA s 7 (upd (s.1 7) (v2.toNatClampNeg) (((s.1 4) (((12 : Int32) + (2 * v2)).toNatClampNeg)) + (256 * ((s.1 4) ((((12 : Int32) + (2 * v2)) + 1).toNatClampNeg)))))) v1 (v2 + 1)) none) none) none) (k2 s v1 (v2 + 1))) (some s)) m
theorem dzs_N95_65_2 (m : Nat) (s : q_S) (v1 : Int32) (v2 : Int32) : dz_N95_65_2 (m + 1) s v1 v2 = (fun k2 : q_S → Int32 → Int32 → Option (q_S) =>
  cond (decide (v2 < 2)) (cond (decide ((v1 >>> (v2 &&& 31)) &&& 1 = 1)) (cond (q_in ((12 : Int32) + (2 * v2)) 48) (cond (q_in (((12 : Int32) + (2 * v2)) + 1) 48) (cond (q_in v2 2) (k2 (q_sA s 7 (upd (s.1 7) (v2.toNatClampNeg) (((s.1 4) (((12 : Int32) + (2 * v2)).toNatClampNeg)) + (256 * ((s.1 4) ((((12 : Int32) + (2 * v2)) + 1).toNatClampNeg)))))) v1 (v2 + 1)) none) none) none) (k2 s v1 (v2 + 1))) (some s)) (dz_N95_65_2 m) := rfl
set_option maxHeartbeats 4000000 in
theorem dzt_N95_65_2 (c n : Nat) : ∀ (m : Nat) (s : q_S) (v1 : Int32) (v2 : Int32), q_RP q_TB0 0 94 (2, [(0, .ref 65), (1, .int v1), (2, .int v2)], [], (q_kN s c n)) (q_oSN c n) (dz_N95_65_2 m s v1 v2) := by
  intro m
  induction m with
  | zero => intro s v1 v2; exact q_RP_no
  | succ m ih =>
    intro s v1 v2
    have hk2 := ih
    clear ih
    rw [dzs_N95_65_2]
    generalize dz_N95_65_2 m = k2 at hk2 ⊢
    dsimp only
    refine q_RP_seg (g2 := (4, [(0, .ref 65), (1, .int v1), (2, .int v2)], [.int 2, .int v2], (q_kN s c n))) 2 (fun _ _ => rfl) ?_
    cases h1 : decide (v2 < 2) with
    | true =>
      refine q_RP_cT ?_
      refine q_RP_rsF (g2 := (7, [(0, .ref 65), (1, .int v1), (2, .int v2)], [], (q_kN s c n))) rfl rfl (q_d_geT h1) ?_
      refine q_RP_seg (g2 := (13, [(0, .ref 65), (1, .int v1), (2, .int v2)], [.int 1, .int ((v1 >>> (v2 &&& 31)) &&& 1)], (q_kN s c n))) 6 (fun _ _ => rfl) ?_
      cases h2 : decide ((v1 >>> (v2 &&& 31)) &&& 1 = 1) with
      | true =>
        refine q_RP_cT ?_
        refine q_RP_rsF (g2 := (16, [(0, .ref 65), (1, .int v1), (2, .int v2)], [], (q_kN s c n))) rfl rfl (q_d_neT h2) ?_
        refine q_RP_seg (g2 := (34, [(0, .ref 65), (1, .int v1), (2, .int v2)], [.int ((12 : Int32) + (2 * v2)), .ref 68, .int v2, .ref 71], (q_kN s c n))) 11 (fun _ _ => rfl) ?_
        refine q_RP_as fun i3 => ?_
        refine q_RP_rsT (g2 := (35, [(0, .ref 65), (1, .int v1), (2, .int v2)], [.int ((s.1 4) (((12 : Int32) + (2 * v2)).toNatClampNeg)), .int v2, .ref 71], (q_kN s c n))) rfl rfl i3 ?_
        refine q_RP_seg (g2 := (53, [(0, .ref 65), (1, .int v1), (2, .int v2)], [.int (((12 : Int32) + (2 * v2)) + 1), .ref 68, .int 256, .int ((s.1 4) (((12 : Int32) + (2 * v2)).toNatClampNeg)), .int v2, .ref 71], (q_kN s c n))) 11 (fun _ _ => rfl) ?_
        refine q_RP_as fun i4 => ?_
        refine q_RP_rsT (g2 := (54, [(0, .ref 65), (1, .int v1), (2, .int v2)], [.int ((s.1 4) ((((12 : Int32) + (2 * v2)) + 1).toNatClampNeg)), .int 256, .int ((s.1 4) (((12 : Int32) + (2 * v2)).toNatClampNeg)), .int v2, .ref 71], (q_kN s c n))) rfl rfl i4 ?_
        refine q_RP_seg (g2 := (56, [(0, .ref 65), (1, .int v1), (2, .int v2)], [.int (((s.1 4) (((12 : Int32) + (2 * v2)).toNatClampNeg)) + (256 * ((s.1 4) ((((12 : Int32) + (2 * v2)) + 1).toNatClampNeg)))), .int v2, .ref 71], (q_kN s c n))) 2 (fun _ _ => rfl) ?_
        refine q_RP_as fun i5 => ?_
        refine q_RP_rsT (g2 := (57, [(0, .ref 65), (1, .int v1), (2, .int v2)], [], (q_kN (q_sA s 7 (upd (s.1 7) (v2.toNatClampNeg) (((s.1 4) (((12 : Int32) + (2 * v2)).toNatClampNeg)) + (256 * ((s.1 4) ((((12 : Int32) + (2 * v2)) + 1).toNatClampNeg)))))) c n))) rfl rfl i5 ?_
        refine q_RP_seg (g2 := (2, [(2, .int (v2 + 1)), (0, .ref 65), (1, .int v1)], [], (q_kN (q_sA s 7 (upd (s.1 7) (v2.toNatClampNeg) (((s.1 4) (((12 : Int32) + (2 * v2)).toNatClampNeg)) + (256 * ((s.1 4) ((((12 : Int32) + (2 * v2)) + 1).toNatClampNeg)))))) c n))) 2 (fun _ _ => rfl) ?_
        exact q_RP_xt (q_xt_mk (q_mn1 1 rfl (q_mn1 2 rfl (q_mn1 0 rfl q_mn0))) rfl) (hk2 (q_sA s 7 (upd (s.1 7) (v2.toNatClampNeg) (((s.1 4) (((12 : Int32) + (2 * v2)).toNatClampNeg)) + (256 * ((s.1 4) ((((12 : Int32) + (2 * v2)) + 1).toNatClampNeg)))))) v1 (v2 + 1))
      | false =>
        refine q_RP_cF ?_
        refine q_RP_rsT (g2 := (57, [(0, .ref 65), (1, .int v1), (2, .int v2)], [], (q_kN s c n))) rfl rfl (q_d_neF h2) ?_
        refine q_RP_seg (g2 := (2, [(2, .int (v2 + 1)), (0, .ref 65), (1, .int v1)], [], (q_kN s c n))) 2 (fun _ _ => rfl) ?_
        exact q_RP_xt (q_xt_mk (q_mn1 1 rfl (q_mn1 2 rfl (q_mn1 0 rfl q_mn0))) rfl) (hk2 s v1 (v2 + 1))
    | false =>
      refine q_RP_cF ?_
      refine q_RP_rsT (g2 := (63, [(0, .ref 65), (1, .int v1), (2, .int v2)], [], (q_kN s c n))) rfl rfl (q_d_geF h1) ?_
      exact q_RP_ret rfl rfl rfl
def dz_N95_65 (s : q_S) (a1 : Int32) : Option (q_S) :=
  dz_N95_65_2 5000 s a1 0
set_option maxHeartbeats 4000000 in
theorem dzt_N95_65 (s : q_S) (c n : Nat) (a1 : Int32) (x : q_S) (h : dz_N95_65 s a1 = some x) : q_Ca q_TB0 1 94 [.ref 65, .int a1] (q_kN s c n) ((q_oSN c n) x) := by
  refine q_CaP_of (φ := (q_oSN c n)) (Nat.le_of_ble_eq_true rfl) ?_ h
  clear h
  unfold dz_N95_65
  refine q_RP_seg (g2 := (2, [(2, .int 0), (0, .ref 65), (1, .int a1)], [], (q_kN s c n))) 2 (fun _ _ => rfl) ?_
  exact q_RP_xt (q_xt_mk (q_mn1 1 rfl (q_mn1 2 rfl (q_mn1 0 rfl q_mn0))) rfl) (dzt_N95_65_2 c n 5000 s a1 0)
def dz_N94_65 (s : q_S) (a1 : Int32) (a2 : Int32) : Option (q_S) :=
  cond (decide (a1 = 3850)) (q_let (dz_N112_66 (q_sA s 4 (upd (s.1 4) 10 (((s.1 4) 10) &&& (a2 ^^^ (-1))))) a1 a2) fun r5 => cond (decide (lg_cmp (((r5.2.2 1 8) / 960) - ((r5.2.2 1 8) / 960) / 2 * 2) 0 = 0)) (q_let (dz_N128_77 r5 a1 a2) fun r6 => some r6) (q_let (dz_N128_82 r5 a1 a2) fun r7 => some r7)) (cond (decide (a1 = 3856)) ((dz_N95_65 s (a2 &&& (((s.1 4) 16) ^^^ (-1)))).bind fun r8 => q_let (dz_N112_66 r8 a1 a2) fun r9 => cond (decide (lg_cmp (((r9.2.2 1 8) / 960) - ((r9.2.2 1 8) / 960) / 2 * 2) 0 = 0)) (q_let (dz_N128_77 r9 a1 a2) fun r10 => some r10) (q_let (dz_N128_82 r9 a1 a2) fun r11 => some r11)) (q_let (dz_N112_66 s a1 a2) fun r12 => cond (decide (lg_cmp (((r12.2.2 1 8) / 960) - ((r12.2.2 1 8) / 960) / 2 * 2) 0 = 0)) (q_let (dz_N128_77 r12 a1 a2) fun r13 => some r13) (q_let (dz_N128_82 r12 a1 a2) fun r14 => some r14)))
set_option maxHeartbeats 4000000 in
theorem dzt_N94_65 (s : q_S) (c n : Nat) (a1 : Int32) (a2 : Int32) (x : q_S) (h : dz_N94_65 s a1 a2 = some x) : q_Ca q_TB0 2 93 [.ref 65, .int a1, .int a2] (q_kN s c n) ((q_oSN c n) x) := by
  refine q_CaP_of (φ := (q_oSN c n)) (Nat.le_of_ble_eq_true rfl) ?_ h
  clear h
  unfold dz_N94_65
  refine q_RP_seg (g2 := (4, [(0, .ref 65), (1, .int a1), (2, .int a2)], [.int 3850, .int a1], (q_kN s c n))) 2 (fun _ _ => rfl) ?_
  cases h4 : decide (a1 = 3850) with
  | true =>
    refine q_RP_cT ?_
    refine q_RP_rsF (g2 := (7, [(0, .ref 65), (1, .int a1), (2, .int a2)], [], (q_kN s c n))) rfl rfl (q_d_neT h4) ?_
    refine q_RP_seg (g2 := (18, [(0, .ref 65), (1, .int a1), (2, .int a2)], [.int ((s.1 4) 10), .int 10, .ref 68], (q_kN s c n))) 6 (fun _ _ => rfl) ?_
    refine q_RP_seg (g2 := (57, [(0, .ref 65), (1, .int a1), (2, .int a2)], [.int a2, .int a1, .ref 66], (q_kN (q_sA s 4 (upd (s.1 4) 10 (((s.1 4) 10) &&& (a2 ^^^ (-1))))) c n))) 10 (fun _ _ => rfl) ?_
    refine q_RP_call (v := none) (h2 := (q_kN (dz_N112_66 (q_sA s 4 (upd (s.1 4) 10 (((s.1 4) 10) &&& (a2 ^^^ (-1))))) a1 a2) c n)) rfl rfl ((dzt_N112_66 (q_sA s 4 (upd (s.1 4) 10 (((s.1 4) 10) &&& (a2 ^^^ (-1))))) c n a1 a2).le (Nat.le_of_ble_eq_true rfl)) ?_
    generalize dz_N112_66 (q_sA s 4 (upd (s.1 4) 10 (((s.1 4) 10) &&& (a2 ^^^ (-1))))) a1 a2 = r5
    refine q_RP_let ?_
    show q_RP _ _ _ (60, [(0, .ref 65), (1, .int a1), (2, .int a2)], [], (q_kN r5 c n)) _ _
    refine q_RP_seg (g2 := (61, [(0, .ref 65), (1, .int a1), (2, .int a2)], [.ref 65], (q_kN r5 c n))) 1 (fun _ _ => rfl) ?_
    cases h5 : decide (lg_cmp (((r5.2.2 1 8) / 960) - ((r5.2.2 1 8) / 960) / 2 * 2) 0 = 0) with
    | true =>
      refine q_RP_cT ?_
      refine q_RP_call (v := (some (.ref 77))) (h2 := (q_kN r5 c n)) rfl rfl ?_ ?_
      · refine q_Ca_of (Nat.le_of_ble_eq_true rfl) ?_
        refine q_Ru_seg (g2 := (14, [(0, .ref 65)], [.int (lg_cmp (((r5.2.2 1 8) / 960) - ((r5.2.2 1 8) / 960) / 2 * 2) 0)], (q_kN r5 c n))) 8 (fun _ _ => rfl) ?_
        refine q_Ru_rsF (g2 := (17, [(0, .ref 65)], [], (q_kN r5 c n))) rfl rfl (q_d_neT h5) ?_
        refine q_Ru_seg (g2 := (28, [(0, .ref 65)], [.ref 77], (q_kN r5 c n))) 3 (fun _ _ => rfl) ?_
        exact q_Ru_ret rfl rfl
      show q_RP _ _ _ (64, [(0, .ref 65), (1, .int a1), (2, .int a2)], [.ref 77], (q_kN r5 c n)) _ _
      refine q_RP_seg (g2 := (66, [(0, .ref 65), (1, .int a1), (2, .int a2)], [.int a2, .int a1, .ref 77], (q_kN r5 c n))) 2 (fun _ _ => rfl) ?_
      refine q_RP_call (v := none) (h2 := (q_kN (dz_N128_77 r5 a1 a2) c n)) rfl rfl ((dzt_N128_77 r5 c n a1 a2).le (Nat.le_of_ble_eq_true rfl)) ?_
      generalize dz_N128_77 r5 a1 a2 = r6
      refine q_RP_let ?_
      show q_RP _ _ _ (69, [(0, .ref 65), (1, .int a1), (2, .int a2)], [], (q_kN r6 c n)) _ _
      exact q_RP_ret rfl rfl rfl
    | false =>
      refine q_RP_cF ?_
      refine q_RP_call (v := (some (.ref 82))) (h2 := (q_kN r5 c n)) rfl rfl ?_ ?_
      · refine q_Ca_of (Nat.le_of_ble_eq_true rfl) ?_
        refine q_Ru_seg (g2 := (14, [(0, .ref 65)], [.int (lg_cmp (((r5.2.2 1 8) / 960) - ((r5.2.2 1 8) / 960) / 2 * 2) 0)], (q_kN r5 c n))) 8 (fun _ _ => rfl) ?_
        refine q_Ru_rsT (g2 := (24, [(0, .ref 65)], [], (q_kN r5 c n))) rfl rfl (q_d_neF h5) ?_
        refine q_Ru_seg (g2 := (28, [(0, .ref 65)], [.ref 82], (q_kN r5 c n))) 2 (fun _ _ => rfl) ?_
        exact q_Ru_ret rfl rfl
      show q_RP _ _ _ (64, [(0, .ref 65), (1, .int a1), (2, .int a2)], [.ref 82], (q_kN r5 c n)) _ _
      refine q_RP_seg (g2 := (66, [(0, .ref 65), (1, .int a1), (2, .int a2)], [.int a2, .int a1, .ref 82], (q_kN r5 c n))) 2 (fun _ _ => rfl) ?_
      refine q_RP_call (v := none) (h2 := (q_kN (dz_N128_82 r5 a1 a2) c n)) rfl rfl ((dzt_N128_82 r5 c n a1 a2).le (Nat.le_of_ble_eq_true rfl)) ?_
      generalize dz_N128_82 r5 a1 a2 = r7
      refine q_RP_let ?_
      show q_RP _ _ _ (69, [(0, .ref 65), (1, .int a1), (2, .int a2)], [], (q_kN r7 c n)) _ _
      exact q_RP_ret rfl rfl rfl
  | false =>
    refine q_RP_cF ?_
    refine q_RP_rsT (g2 := (26, [(0, .ref 65), (1, .int a1), (2, .int a2)], [], (q_kN s c n))) rfl rfl (q_d_neF h4) ?_
    refine q_RP_seg (g2 := (30, [(0, .ref 65), (1, .int a1), (2, .int a2)], [.int 3856, .int a1], (q_kN s c n))) 2 (fun _ _ => rfl) ?_
    cases h6 : decide (a1 = 3856) with
    | true =>
      refine q_RP_cT ?_
      refine q_RP_rsF (g2 := (33, [(0, .ref 65), (1, .int a1), (2, .int a2)], [], (q_kN s c n))) rfl rfl (q_d_neT h6) ?_
      refine q_RP_seg (g2 := (45, [(0, .ref 65), (1, .int a1), (2, .int a2)], [.int ((s.1 4) 16), .int a2, .ref 65], (q_kN s c n))) 7 (fun _ _ => rfl) ?_
      refine q_RP_seg (g2 := (48, [(0, .ref 65), (1, .int a1), (2, .int a2)], [.int (a2 &&& (((s.1 4) 16) ^^^ (-1))), .ref 65], (q_kN s c n))) 3 (fun _ _ => rfl) ?_
      refine q_RP_bd fun r8 er8 => ?_
      refine q_RP_call (v := none) (h2 := (q_kN r8 c n)) rfl rfl ((dzt_N95_65 s c n (a2 &&& (((s.1 4) 16) ^^^ (-1))) r8 er8).le (Nat.le_of_ble_eq_true rfl)) ?_
      show q_RP _ _ _ (51, [(0, .ref 65), (1, .int a1), (2, .int a2)], [], (q_kN r8 c n)) _ _
      refine q_RP_seg (g2 := (57, [(0, .ref 65), (1, .int a1), (2, .int a2)], [.int a2, .int a1, .ref 66], (q_kN r8 c n))) 4 (fun _ _ => rfl) ?_
      refine q_RP_call (v := none) (h2 := (q_kN (dz_N112_66 r8 a1 a2) c n)) rfl rfl ((dzt_N112_66 r8 c n a1 a2).le (Nat.le_of_ble_eq_true rfl)) ?_
      generalize dz_N112_66 r8 a1 a2 = r9
      refine q_RP_let ?_
      show q_RP _ _ _ (60, [(0, .ref 65), (1, .int a1), (2, .int a2)], [], (q_kN r9 c n)) _ _
      refine q_RP_seg (g2 := (61, [(0, .ref 65), (1, .int a1), (2, .int a2)], [.ref 65], (q_kN r9 c n))) 1 (fun _ _ => rfl) ?_
      cases h7 : decide (lg_cmp (((r9.2.2 1 8) / 960) - ((r9.2.2 1 8) / 960) / 2 * 2) 0 = 0) with
      | true =>
        refine q_RP_cT ?_
        refine q_RP_call (v := (some (.ref 77))) (h2 := (q_kN r9 c n)) rfl rfl ?_ ?_
        · refine q_Ca_of (Nat.le_of_ble_eq_true rfl) ?_
          refine q_Ru_seg (g2 := (14, [(0, .ref 65)], [.int (lg_cmp (((r9.2.2 1 8) / 960) - ((r9.2.2 1 8) / 960) / 2 * 2) 0)], (q_kN r9 c n))) 8 (fun _ _ => rfl) ?_
          refine q_Ru_rsF (g2 := (17, [(0, .ref 65)], [], (q_kN r9 c n))) rfl rfl (q_d_neT h7) ?_
          refine q_Ru_seg (g2 := (28, [(0, .ref 65)], [.ref 77], (q_kN r9 c n))) 3 (fun _ _ => rfl) ?_
          exact q_Ru_ret rfl rfl
        show q_RP _ _ _ (64, [(0, .ref 65), (1, .int a1), (2, .int a2)], [.ref 77], (q_kN r9 c n)) _ _
        refine q_RP_seg (g2 := (66, [(0, .ref 65), (1, .int a1), (2, .int a2)], [.int a2, .int a1, .ref 77], (q_kN r9 c n))) 2 (fun _ _ => rfl) ?_
        refine q_RP_call (v := none) (h2 := (q_kN (dz_N128_77 r9 a1 a2) c n)) rfl rfl ((dzt_N128_77 r9 c n a1 a2).le (Nat.le_of_ble_eq_true rfl)) ?_
        generalize dz_N128_77 r9 a1 a2 = r10
        refine q_RP_let ?_
        show q_RP _ _ _ (69, [(0, .ref 65), (1, .int a1), (2, .int a2)], [], (q_kN r10 c n)) _ _
        exact q_RP_ret rfl rfl rfl
      | false =>
        refine q_RP_cF ?_
        refine q_RP_call (v := (some (.ref 82))) (h2 := (q_kN r9 c n)) rfl rfl ?_ ?_
        · refine q_Ca_of (Nat.le_of_ble_eq_true rfl) ?_
          refine q_Ru_seg (g2 := (14, [(0, .ref 65)], [.int (lg_cmp (((r9.2.2 1 8) / 960) - ((r9.2.2 1 8) / 960) / 2 * 2) 0)], (q_kN r9 c n))) 8 (fun _ _ => rfl) ?_
          refine q_Ru_rsT (g2 := (24, [(0, .ref 65)], [], (q_kN r9 c n))) rfl rfl (q_d_neF h7) ?_
          refine q_Ru_seg (g2 := (28, [(0, .ref 65)], [.ref 82], (q_kN r9 c n))) 2 (fun _ _ => rfl) ?_
          exact q_Ru_ret rfl rfl
        show q_RP _ _ _ (64, [(0, .ref 65), (1, .int a1), (2, .int a2)], [.ref 82], (q_kN r9 c n)) _ _
        refine q_RP_seg (g2 := (66, [(0, .ref 65), (1, .int a1), (2, .int a2)], [.int a2, .int a1, .ref 82], (q_kN r9 c n))) 2 (fun _ _ => rfl) ?_
        refine q_RP_call (v := none) (h2 := (q_kN (dz_N128_82 r9 a1 a2) c n)) rfl rfl ((dzt_N128_82 r9 c n a1 a2).le (Nat.le_of_ble_eq_true rfl)) ?_
        generalize dz_N128_82 r9 a1 a2 = r11
        refine q_RP_let ?_
        show q_RP _ _ _ (69, [(0, .ref 65), (1, .int a1), (2, .int a2)], [], (q_kN r11 c n)) _ _
        exact q_RP_ret rfl rfl rfl
    | false =>
      refine q_RP_cF ?_
      refine q_RP_rsT (g2 := (51, [(0, .ref 65), (1, .int a1), (2, .int a2)], [], (q_kN s c n))) rfl rfl (q_d_neF h6) ?_
      refine q_RP_seg (g2 := (57, [(0, .ref 65), (1, .int a1), (2, .int a2)], [.int a2, .int a1, .ref 66], (q_kN s c n))) 4 (fun _ _ => rfl) ?_
      refine q_RP_call (v := none) (h2 := (q_kN (dz_N112_66 s a1 a2) c n)) rfl rfl ((dzt_N112_66 s c n a1 a2).le (Nat.le_of_ble_eq_true rfl)) ?_
      generalize dz_N112_66 s a1 a2 = r12
      refine q_RP_let ?_
      show q_RP _ _ _ (60, [(0, .ref 65), (1, .int a1), (2, .int a2)], [], (q_kN r12 c n)) _ _
      refine q_RP_seg (g2 := (61, [(0, .ref 65), (1, .int a1), (2, .int a2)], [.ref 65], (q_kN r12 c n))) 1 (fun _ _ => rfl) ?_
      cases h8 : decide (lg_cmp (((r12.2.2 1 8) / 960) - ((r12.2.2 1 8) / 960) / 2 * 2) 0 = 0) with
      | true =>
        refine q_RP_cT ?_
        refine q_RP_call (v := (some (.ref 77))) (h2 := (q_kN r12 c n)) rfl rfl ?_ ?_
        · refine q_Ca_of (Nat.le_of_ble_eq_true rfl) ?_
          refine q_Ru_seg (g2 := (14, [(0, .ref 65)], [.int (lg_cmp (((r12.2.2 1 8) / 960) - ((r12.2.2 1 8) / 960) / 2 * 2) 0)], (q_kN r12 c n))) 8 (fun _ _ => rfl) ?_
          refine q_Ru_rsF (g2 := (17, [(0, .ref 65)], [], (q_kN r12 c n))) rfl rfl (q_d_neT h8) ?_
          refine q_Ru_seg (g2 := (28, [(0, .ref 65)], [.ref 77], (q_kN r12 c n))) 3 (fun _ _ => rfl) ?_
          exact q_Ru_ret rfl rfl
        show q_RP _ _ _ (64, [(0, .ref 65), (1, .int a1), (2, .int a2)], [.ref 77], (q_kN r12 c n)) _ _
        refine q_RP_seg (g2 := (66, [(0, .ref 65), (1, .int a1), (2, .int a2)], [.int a2, .int a1, .ref 77], (q_kN r12 c n))) 2 (fun _ _ => rfl) ?_
        refine q_RP_call (v := none) (h2 := (q_kN (dz_N128_77 r12 a1 a2) c n)) rfl rfl ((dzt_N128_77 r12 c n a1 a2).le (Nat.le_of_ble_eq_true rfl)) ?_
        generalize dz_N128_77 r12 a1 a2 = r13
        refine q_RP_let ?_
        show q_RP _ _ _ (69, [(0, .ref 65), (1, .int a1), (2, .int a2)], [], (q_kN r13 c n)) _ _
        exact q_RP_ret rfl rfl rfl
      | false =>
        refine q_RP_cF ?_
        refine q_RP_call (v := (some (.ref 82))) (h2 := (q_kN r12 c n)) rfl rfl ?_ ?_
        · refine q_Ca_of (Nat.le_of_ble_eq_true rfl) ?_
          refine q_Ru_seg (g2 := (14, [(0, .ref 65)], [.int (lg_cmp (((r12.2.2 1 8) / 960) - ((r12.2.2 1 8) / 960) / 2 * 2) 0)], (q_kN r12 c n))) 8 (fun _ _ => rfl) ?_
          refine q_Ru_rsT (g2 := (24, [(0, .ref 65)], [], (q_kN r12 c n))) rfl rfl (q_d_neF h8) ?_
          refine q_Ru_seg (g2 := (28, [(0, .ref 65)], [.ref 82], (q_kN r12 c n))) 2 (fun _ _ => rfl) ?_
          exact q_Ru_ret rfl rfl
        show q_RP _ _ _ (64, [(0, .ref 65), (1, .int a1), (2, .int a2)], [.ref 82], (q_kN r12 c n)) _ _
        refine q_RP_seg (g2 := (66, [(0, .ref 65), (1, .int a1), (2, .int a2)], [.int a2, .int a1, .ref 82], (q_kN r12 c n))) 2 (fun _ _ => rfl) ?_
        refine q_RP_call (v := none) (h2 := (q_kN (dz_N128_82 r12 a1 a2) c n)) rfl rfl ((dzt_N128_82 r12 c n a1 a2).le (Nat.le_of_ble_eq_true rfl)) ?_
        generalize dz_N128_82 r12 a1 a2 = r14
        refine q_RP_let ?_
        show q_RP _ _ _ (69, [(0, .ref 65), (1, .int a1), (2, .int a2)], [], (q_kN r14 c n)) _ _
        exact q_RP_ret rfl rfl rfl
def dz_N97_65 (s : q_S) (a1 : Int32) (a2 : Int32) : Option (q_S × Int32) :=
  (dz_N90_65 s a1).bind fun r2 => (dz_N94_65 s a1 a2).bind fun r3 => some (r3, r2)
set_option maxHeartbeats 4000000 in
theorem dzt_N97_65 (s : q_S) (c n : Nat) (a1 : Int32) (a2 : Int32) (x : q_S × Int32) (h : dz_N97_65 s a1 a2 = some x) : q_Ca q_TB0 3 96 [.ref 65, .int a1, .int a2] (q_kN s c n) ((q_oIN c n) x) := by
  refine q_CaP_of (φ := (q_oIN c n)) (Nat.le_of_ble_eq_true rfl) ?_ h
  clear h
  unfold dz_N97_65
  refine q_RP_seg (g2 := (2, [(0, .ref 65), (1, .int a1), (2, .int a2)], [.int a1, .ref 65], (q_kN s c n))) 2 (fun _ _ => rfl) ?_
  refine q_RP_bd fun r2 er2 => ?_
  refine q_RP_call (v := (some (.int r2))) (h2 := (q_kN s c n)) rfl rfl ((dzt_N90_65 s c n a1 r2 er2).le (Nat.le_of_ble_eq_true rfl)) ?_
  show q_RP _ _ _ (5, [(0, .ref 65), (1, .int a1), (2, .int a2)], [.int r2], (q_kN s c n)) _ _
  refine q_RP_seg (g2 := (9, [(3, .int r2), (0, .ref 65), (1, .int a1), (2, .int a2)], [.int a2, .int a1, .ref 65], (q_kN s c n))) 4 (fun _ _ => rfl) ?_
  refine q_RP_bd fun r3 er3 => ?_
  refine q_RP_call (v := none) (h2 := (q_kN r3 c n)) rfl rfl ((dzt_N94_65 s c n a1 a2 r3 er3).le (Nat.le_of_ble_eq_true rfl)) ?_
  show q_RP _ _ _ (12, [(3, .int r2), (0, .ref 65), (1, .int a1), (2, .int a2)], [], (q_kN r3 c n)) _ _
  refine q_RP_seg (g2 := (13, [(3, .int r2), (0, .ref 65), (1, .int a1), (2, .int a2)], [.int r2], (q_kN r3 c n))) 1 (fun _ _ => rfl) ?_
  exact q_RP_ret rfl rfl rfl
def dz_N98_65 (s : q_S) (a1 : Int32) (a2 : Int32) : q_S × Int32 :=
  ((q_sA s 5 (upd (s.1 5) ((a1 &&& 511).toNatClampNeg) a2)), ((s.1 5) ((a1 &&& 511).toNatClampNeg)))
set_option maxHeartbeats 4000000 in
theorem dzt_N98_65 (s : q_S) (c n : Nat) (a1 : Int32) (a2 : Int32) : q_Ca q_TB0 1 97 [.ref 65, .int a1, .int a2] (q_kN s c n) ((q_oIN c n) (dz_N98_65 s a1 a2)) := by
  refine q_CaT_of (φ := (q_oIN c n)) (Nat.le_of_ble_eq_true rfl) ?_
  unfold dz_N98_65
  refine q_RT_seg (g2 := (11, [(3, .int (a1 &&& 511)), (0, .ref 65), (1, .int a1), (2, .int a2)], [.int (a1 &&& 511), .ref 69], (q_kN s c n))) 7 (fun _ _ => rfl) ?_
  refine q_RT_rsT (g2 := (12, [(3, .int (a1 &&& 511)), (0, .ref 65), (1, .int a1), (2, .int a2)], [.int ((s.1 5) ((a1 &&& 511).toNatClampNeg))], (q_kN s c n))) rfl rfl (q_in_bd (x := a1 &&& 511) (n := 512) (U := 511) (L := 0) (q_and_lo a1 511) (q_and_hi a1 511 511)) ?_
  refine q_RT_seg (g2 := (20, [(4, .int ((s.1 5) ((a1 &&& 511).toNatClampNeg))), (3, .int (a1 &&& 511)), (0, .ref 65), (1, .int a1), (2, .int a2)], [.int a2, .int (a1 &&& 511), .ref 69], (q_kN s c n))) 5 (fun _ _ => rfl) ?_
  refine q_RT_rsT (g2 := (21, [(4, .int ((s.1 5) ((a1 &&& 511).toNatClampNeg))), (3, .int (a1 &&& 511)), (0, .ref 65), (1, .int a1), (2, .int a2)], [], (q_kN (q_sA s 5 (upd (s.1 5) ((a1 &&& 511).toNatClampNeg) a2)) c n))) rfl rfl (q_in_bd (x := a1 &&& 511) (n := 512) (U := 511) (L := 0) (q_and_lo a1 511) (q_and_hi a1 511 511)) ?_
  refine q_RT_seg (g2 := (23, [(4, .int ((s.1 5) ((a1 &&& 511).toNatClampNeg))), (3, .int (a1 &&& 511)), (0, .ref 65), (1, .int a1), (2, .int a2)], [.int ((s.1 5) ((a1 &&& 511).toNatClampNeg))], (q_kN (q_sA s 5 (upd (s.1 5) ((a1 &&& 511).toNatClampNeg) a2)) c n))) 1 (fun _ _ => rfl) ?_
  exact q_RT_ret rfl rfl rfl
def dz_N99_65 (s : q_S) (a1 : Int32) (a2 : Int32) : q_S × Int32 :=
  ((q_sA s 6 (upd (s.1 6) ((a1 &&& 2047).toNatClampNeg) a2)), ((s.1 6) ((a1 &&& 2047).toNatClampNeg)))
set_option maxHeartbeats 4000000 in
theorem dzt_N99_65 (s : q_S) (c n : Nat) (a1 : Int32) (a2 : Int32) : q_Ca q_TB0 1 98 [.ref 65, .int a1, .int a2] (q_kN s c n) ((q_oIN c n) (dz_N99_65 s a1 a2)) := by
  refine q_CaT_of (φ := (q_oIN c n)) (Nat.le_of_ble_eq_true rfl) ?_
  unfold dz_N99_65
  refine q_RT_seg (g2 := (11, [(3, .int (a1 &&& 2047)), (0, .ref 65), (1, .int a1), (2, .int a2)], [.int (a1 &&& 2047), .ref 70], (q_kN s c n))) 7 (fun _ _ => rfl) ?_
  refine q_RT_rsT (g2 := (12, [(3, .int (a1 &&& 2047)), (0, .ref 65), (1, .int a1), (2, .int a2)], [.int ((s.1 6) ((a1 &&& 2047).toNatClampNeg))], (q_kN s c n))) rfl rfl (q_in_bd (x := a1 &&& 2047) (n := 2048) (U := 2047) (L := 0) (q_and_lo a1 2047) (q_and_hi a1 2047 2047)) ?_
  refine q_RT_seg (g2 := (20, [(4, .int ((s.1 6) ((a1 &&& 2047).toNatClampNeg))), (3, .int (a1 &&& 2047)), (0, .ref 65), (1, .int a1), (2, .int a2)], [.int a2, .int (a1 &&& 2047), .ref 70], (q_kN s c n))) 5 (fun _ _ => rfl) ?_
  refine q_RT_rsT (g2 := (21, [(4, .int ((s.1 6) ((a1 &&& 2047).toNatClampNeg))), (3, .int (a1 &&& 2047)), (0, .ref 65), (1, .int a1), (2, .int a2)], [], (q_kN (q_sA s 6 (upd (s.1 6) ((a1 &&& 2047).toNatClampNeg) a2)) c n))) rfl rfl (q_in_bd (x := a1 &&& 2047) (n := 2048) (U := 2047) (L := 0) (q_and_lo a1 2047) (q_and_hi a1 2047 2047)) ?_
  refine q_RT_seg (g2 := (23, [(4, .int ((s.1 6) ((a1 &&& 2047).toNatClampNeg))), (3, .int (a1 &&& 2047)), (0, .ref 65), (1, .int a1), (2, .int a2)], [.int ((s.1 6) ((a1 &&& 2047).toNatClampNeg))], (q_kN (q_sA s 6 (upd (s.1 6) ((a1 &&& 2047).toNatClampNeg) a2)) c n))) 1 (fun _ _ => rfl) ?_
  exact q_RT_ret rfl rfl rfl
def dz_N186 (s : q_S) (a0 : Int32) : Int32 :=
  cond (decide (a0 < 128)) ((a0 / 8)) (cond (decide (a0 < 192)) ((-1)) (cond (decide (231 < a0)) ((-1)) (((a0 / 8) - 8))))
set_option maxHeartbeats 4000000 in
theorem dzt_N186 (s : q_S) (c n : Nat) (a0 : Int32) : q_Ca q_TB0 1 185 [.int a0] (q_kN s c n) ((q_oP (q_kN s c n)) (dz_N186 s a0)) := by
  refine q_CaT_of (φ := (q_oP (q_kN s c n))) (Nat.le_of_ble_eq_true rfl) ?_
  unfold dz_N186
  refine q_RT_seg (g2 := (4, [(0, .int a0)], [.int 128, .int a0], (q_kN s c n))) 2 (fun _ _ => rfl) ?_
  cases h1 : decide (a0 < 128) with
  | true =>
    refine q_RT_cT ?_
    refine q_RT_rsF (g2 := (7, [(0, .int a0)], [], (q_kN s c n))) rfl rfl (q_d_geT h1) ?_
    refine q_RT_seg (g2 := (11, [(0, .int a0)], [.int (a0 / 8)], (q_kN s c n))) 3 (fun _ _ => rfl) ?_
    exact q_RT_ret rfl rfl rfl
  | false =>
    refine q_RT_cF ?_
    refine q_RT_rsT (g2 := (12, [(0, .int a0)], [], (q_kN s c n))) rfl rfl (q_d_geF h1) ?_
    refine q_RT_seg (g2 := (16, [(0, .int a0)], [.int 192, .int a0], (q_kN s c n))) 2 (fun _ _ => rfl) ?_
    cases h2 : decide (a0 < 192) with
    | true =>
      refine q_RT_cT ?_
      refine q_RT_rsT (g2 := (36, [(0, .int a0)], [], (q_kN s c n))) rfl rfl h2 ?_
      refine q_RT_seg (g2 := (37, [(0, .int a0)], [.int (-1)], (q_kN s c n))) 1 (fun _ _ => rfl) ?_
      exact q_RT_ret rfl rfl rfl
    | false =>
      refine q_RT_cF ?_
      refine q_RT_rsF (g2 := (19, [(0, .int a0)], [], (q_kN s c n))) rfl rfl h2 ?_
      refine q_RT_seg (g2 := (23, [(0, .int a0)], [.int 231, .int a0], (q_kN s c n))) 2 (fun _ _ => rfl) ?_
      cases h3 : decide (231 < a0) with
      | true =>
        refine q_RT_cT ?_
        refine q_RT_rsT (g2 := (36, [(0, .int a0)], [], (q_kN s c n))) rfl rfl h3 ?_
        refine q_RT_seg (g2 := (37, [(0, .int a0)], [.int (-1)], (q_kN s c n))) 1 (fun _ _ => rfl) ?_
        exact q_RT_ret rfl rfl rfl
      | false =>
        refine q_RT_cF ?_
        refine q_RT_rsF (g2 := (26, [(0, .int a0)], [], (q_kN s c n))) rfl rfl h3 ?_
        refine q_RT_seg (g2 := (37, [(0, .int a0)], [.int ((a0 / 8) - 8)], (q_kN s c n))) 6 (fun _ _ => rfl) ?_
        exact q_RT_ret rfl rfl rfl
def dz_N190 (s : q_S) (a0 : Int32) : Int32 :=
  q_let (dz_N186 s a0) fun r1 => cond (decide (r1 < 0)) (cond (decide (a0 < 157)) (1) (cond (decide (167 < a0)) (1) (cond (decide (a0 < 160)) (3) (2)))) (cond (decide (a0 &&& 7 < 3)) (2) (cond (decide (5 < a0 &&& 7)) (2) (3)))
set_option maxHeartbeats 4000000 in
theorem dzt_N190 (s : q_S) (c n : Nat) (a0 : Int32) : q_Ca q_TB0 2 189 [.int a0] (q_kN s c n) ((q_oP (q_kN s c n)) (dz_N190 s a0)) := by
  refine q_CaT_of (φ := (q_oP (q_kN s c n))) (Nat.le_of_ble_eq_true rfl) ?_
  unfold dz_N190
  refine q_RT_seg (g2 := (1, [(0, .int a0)], [.int a0], (q_kN s c n))) 1 (fun _ _ => rfl) ?_
  refine q_RT_call (v := (some (.int (dz_N186 s a0)))) (h2 := (q_kN s c n)) rfl rfl ((dzt_N186 s c n a0).le (Nat.le_of_ble_eq_true rfl)) ?_
  generalize dz_N186 s a0 = r1
  refine q_RT_let ?_
  show q_RT _ _ _ (4, [(0, .int a0)], [.int r1], (q_kN s c n)) _ _
  cases h1 : decide (r1 < 0) with
  | true =>
    refine q_RT_cT ?_
    refine q_RT_rsT (g2 := (28, [(0, .int a0)], [], (q_kN s c n))) rfl rfl h1 ?_
    refine q_RT_seg (g2 := (32, [(0, .int a0)], [.int 157, .int a0], (q_kN s c n))) 2 (fun _ _ => rfl) ?_
    cases h2 : decide (a0 < 157) with
    | true =>
      refine q_RT_cT ?_
      refine q_RT_rsT (g2 := (42, [(0, .int a0)], [], (q_kN s c n))) rfl rfl h2 ?_
      refine q_RT_seg (g2 := (43, [(0, .int a0)], [.int 1], (q_kN s c n))) 1 (fun _ _ => rfl) ?_
      exact q_RT_ret rfl rfl rfl
    | false =>
      refine q_RT_cF ?_
      refine q_RT_rsF (g2 := (35, [(0, .int a0)], [], (q_kN s c n))) rfl rfl h2 ?_
      refine q_RT_seg (g2 := (39, [(0, .int a0)], [.int 167, .int a0], (q_kN s c n))) 2 (fun _ _ => rfl) ?_
      cases h3 : decide (167 < a0) with
      | true =>
        refine q_RT_cT ?_
        refine q_RT_rsF (g2 := (42, [(0, .int a0)], [], (q_kN s c n))) rfl rfl (q_d_geT h3) ?_
        refine q_RT_seg (g2 := (43, [(0, .int a0)], [.int 1], (q_kN s c n))) 1 (fun _ _ => rfl) ?_
        exact q_RT_ret rfl rfl rfl
      | false =>
        refine q_RT_cF ?_
        refine q_RT_rsT (g2 := (44, [(0, .int a0)], [], (q_kN s c n))) rfl rfl (q_d_geF h3) ?_
        refine q_RT_seg (g2 := (48, [(0, .int a0)], [.int 160, .int a0], (q_kN s c n))) 2 (fun _ _ => rfl) ?_
        cases h4 : decide (a0 < 160) with
        | true =>
          refine q_RT_cT ?_
          refine q_RT_rsF (g2 := (51, [(0, .int a0)], [], (q_kN s c n))) rfl rfl (q_d_geT h4) ?_
          refine q_RT_seg (g2 := (56, [(0, .int a0)], [.int 3], (q_kN s c n))) 2 (fun _ _ => rfl) ?_
          exact q_RT_ret rfl rfl rfl
        | false =>
          refine q_RT_cF ?_
          refine q_RT_rsT (g2 := (55, [(0, .int a0)], [], (q_kN s c n))) rfl rfl (q_d_geF h4) ?_
          refine q_RT_seg (g2 := (56, [(0, .int a0)], [.int 2], (q_kN s c n))) 1 (fun _ _ => rfl) ?_
          exact q_RT_ret rfl rfl rfl
  | false =>
    refine q_RT_cF ?_
    refine q_RT_rsF (g2 := (7, [(0, .int a0)], [], (q_kN s c n))) rfl rfl h1 ?_
    refine q_RT_seg (g2 := (14, [(1, .int (a0 &&& 7)), (0, .int a0)], [.int 3, .int (a0 &&& 7)], (q_kN s c n))) 6 (fun _ _ => rfl) ?_
    cases h5 : decide (a0 &&& 7 < 3) with
    | true =>
      refine q_RT_cT ?_
      refine q_RT_rsT (g2 := (26, [(1, .int (a0 &&& 7)), (0, .int a0)], [], (q_kN s c n))) rfl rfl h5 ?_
      refine q_RT_seg (g2 := (27, [(1, .int (a0 &&& 7)), (0, .int a0)], [.int 2], (q_kN s c n))) 1 (fun _ _ => rfl) ?_
      exact q_RT_ret rfl rfl rfl
    | false =>
      refine q_RT_cF ?_
      refine q_RT_rsF (g2 := (17, [(1, .int (a0 &&& 7)), (0, .int a0)], [], (q_kN s c n))) rfl rfl h5 ?_
      refine q_RT_seg (g2 := (19, [(1, .int (a0 &&& 7)), (0, .int a0)], [.int 5, .int (a0 &&& 7)], (q_kN s c n))) 2 (fun _ _ => rfl) ?_
      cases h6 : decide (5 < a0 &&& 7) with
      | true =>
        refine q_RT_cT ?_
        refine q_RT_rsT (g2 := (26, [(1, .int (a0 &&& 7)), (0, .int a0)], [], (q_kN s c n))) rfl rfl h6 ?_
        refine q_RT_seg (g2 := (27, [(1, .int (a0 &&& 7)), (0, .int a0)], [.int 2], (q_kN s c n))) 1 (fun _ _ => rfl) ?_
        exact q_RT_ret rfl rfl rfl
      | false =>
        refine q_RT_cF ?_
        refine q_RT_rsF (g2 := (22, [(1, .int (a0 &&& 7)), (0, .int a0)], [], (q_kN s c n))) rfl rfl h6 ?_
        refine q_RT_seg (g2 := (27, [(1, .int (a0 &&& 7)), (0, .int a0)], [.int 3], (q_kN s c n))) 2 (fun _ _ => rfl) ?_
        exact q_RT_ret rfl rfl rfl
def dz_N100_65_34 (s : q_S) (v1 : Int32) (v3 : Int32) (v4 : Int32) : Option (q_S × Int32) :=
  cond (decide (2 < v4)) ((dz_N94_65 s ((v1 + 2) &&& 4095) (v3 >>> ((8 &&& 31) : Int32))).bind fun r6 => some (r6, ((v1 + v4) &&& 4095))) (some (s, ((v1 + v4) &&& 4095)))
set_option maxHeartbeats 4000000 in
theorem dzt_N100_65_34 (c n : Nat) (s : q_S) (v1 : Int32) (v3 : Int32) (v4 : Int32) : q_RP q_TB0 2 99 (34, [(0, .ref 65), (1, .int v1), (3, .int v3), (4, .int v4)], [], (q_kN s c n)) (q_oIN c n) (dz_N100_65_34 s v1 v3 v4) := by
  unfold dz_N100_65_34
  refine q_RP_seg (g2 := (37, [(0, .ref 65), (1, .int v1), (3, .int v3), (4, .int v4)], [.int 2, .int v4], (q_kN s c n))) 2 (fun _ _ => rfl) ?_
  cases h2 : decide (2 < v4) with
  | true =>
    refine q_RP_cT ?_
    refine q_RP_rsF (g2 := (40, [(0, .ref 65), (1, .int v1), (3, .int v3), (4, .int v4)], [], (q_kN s c n))) rfl rfl (q_d_geT h2) ?_
    refine q_RP_seg (g2 := (52, [(0, .ref 65), (1, .int v1), (3, .int v3), (4, .int v4)], [.int (v3 >>> ((8 &&& 31) : Int32)), .int ((v1 + 2) &&& 4095), .ref 65], (q_kN s c n))) 9 (fun _ _ => rfl) ?_
    refine q_RP_bd fun r6 er6 => ?_
    refine q_RP_call (v := none) (h2 := (q_kN r6 c n)) rfl rfl ((dzt_N94_65 s c n ((v1 + 2) &&& 4095) (v3 >>> ((8 &&& 31) : Int32)) r6 er6).le (Nat.le_of_ble_eq_true rfl)) ?_
    show q_RP _ _ _ (55, [(0, .ref 65), (1, .int v1), (3, .int v3), (4, .int v4)], [], (q_kN r6 c n)) _ _
    refine q_RP_seg (g2 := (63, [(0, .ref 65), (1, .int v1), (3, .int v3), (4, .int v4)], [.int ((v1 + v4) &&& 4095)], (q_kN r6 c n))) 5 (fun _ _ => rfl) ?_
    exact q_RP_ret rfl rfl rfl
  | false =>
    refine q_RP_cF ?_
    refine q_RP_rsT (g2 := (55, [(0, .ref 65), (1, .int v1), (3, .int v3), (4, .int v4)], [], (q_kN s c n))) rfl rfl (q_d_geF h2) ?_
    refine q_RP_seg (g2 := (63, [(0, .ref 65), (1, .int v1), (3, .int v3), (4, .int v4)], [.int ((v1 + v4) &&& 4095)], (q_kN s c n))) 5 (fun _ _ => rfl) ?_
    exact q_RP_ret rfl rfl rfl
def dz_N100_65 (s : q_S) (a1 : Int32) (a2 : Int32) (a3 : Int32) : Option (q_S × Int32) :=
  q_let (dz_N190 s a2) fun r3 => (dz_N94_65 s a1 a2).bind fun r4 => cond (decide (1 < r3)) ((dz_N94_65 r4 ((a1 + 1) &&& 4095) (a3 &&& 255)).bind fun r5 => dz_N100_65_34 r5 a1 a3 r3) (dz_N100_65_34 r4 a1 a3 r3)
set_option maxHeartbeats 4000000 in
theorem dzt_N100_65 (s : q_S) (c n : Nat) (a1 : Int32) (a2 : Int32) (a3 : Int32) (x : q_S × Int32) (h : dz_N100_65 s a1 a2 a3 = some x) : q_Ca q_TB0 3 99 [.ref 65, .int a1, .int a2, .int a3] (q_kN s c n) ((q_oIN c n) x) := by
  refine q_CaP_of (φ := (q_oIN c n)) (Nat.le_of_ble_eq_true rfl) ?_ h
  clear h
  unfold dz_N100_65
  refine q_RP_seg (g2 := (1, [(0, .ref 65), (1, .int a1), (2, .int a2), (3, .int a3)], [.int a2], (q_kN s c n))) 1 (fun _ _ => rfl) ?_
  refine q_RP_call (v := (some (.int (dz_N190 s a2)))) (h2 := (q_kN s c n)) rfl rfl ((dzt_N190 s c n a2).le (Nat.le_of_ble_eq_true rfl)) ?_
  generalize dz_N190 s a2 = r3
  refine q_RP_let ?_
  show q_RP _ _ _ (4, [(0, .ref 65), (1, .int a1), (2, .int a2), (3, .int a3)], [.int r3], (q_kN s c n)) _ _
  refine q_RP_seg (g2 := (9, [(4, .int r3), (0, .ref 65), (1, .int a1), (2, .int a2), (3, .int a3)], [.int a2, .int a1, .ref 65], (q_kN s c n))) 4 (fun _ _ => rfl) ?_
  refine q_RP_bd fun r4 er4 => ?_
  refine q_RP_call (v := none) (h2 := (q_kN r4 c n)) rfl rfl ((dzt_N94_65 s c n a1 a2 r4 er4).le (Nat.le_of_ble_eq_true rfl)) ?_
  show q_RP _ _ _ (12, [(4, .int r3), (0, .ref 65), (1, .int a1), (2, .int a2), (3, .int a3)], [], (q_kN r4 c n)) _ _
  refine q_RP_seg (g2 := (15, [(4, .int r3), (0, .ref 65), (1, .int a1), (2, .int a2), (3, .int a3)], [.int 1, .int r3], (q_kN r4 c n))) 2 (fun _ _ => rfl) ?_
  cases h1 : decide (1 < r3) with
  | true =>
    refine q_RP_cT ?_
    refine q_RP_rsF (g2 := (18, [(4, .int r3), (0, .ref 65), (1, .int a1), (2, .int a2), (3, .int a3)], [], (q_kN r4 c n))) rfl rfl (q_d_geT h1) ?_
    refine q_RP_seg (g2 := (31, [(4, .int r3), (0, .ref 65), (1, .int a1), (2, .int a2), (3, .int a3)], [.int (a3 &&& 255), .int ((a1 + 1) &&& 4095), .ref 65], (q_kN r4 c n))) 9 (fun _ _ => rfl) ?_
    refine q_RP_bd fun r5 er5 => ?_
    refine q_RP_call (v := none) (h2 := (q_kN r5 c n)) rfl rfl ((dzt_N94_65 r4 c n ((a1 + 1) &&& 4095) (a3 &&& 255) r5 er5).le (Nat.le_of_ble_eq_true rfl)) ?_
    show q_RP _ _ _ (34, [(4, .int r3), (0, .ref 65), (1, .int a1), (2, .int a2), (3, .int a3)], [], (q_kN r5 c n)) _ _
    exact q_RP_xt (q_xt_mk (q_mn1 1 rfl (q_mn1 2 rfl (q_mn1 4 rfl (q_mn1 0 rfl q_mn0)))) rfl) (dzt_N100_65_34 c n r5 a1 a3 r3)
  | false =>
    refine q_RP_cF ?_
    refine q_RP_rsT (g2 := (34, [(4, .int r3), (0, .ref 65), (1, .int a1), (2, .int a2), (3, .int a3)], [], (q_kN r4 c n))) rfl rfl (q_d_geF h1) ?_
    exact q_RP_xt (q_xt_mk (q_mn1 1 rfl (q_mn1 2 rfl (q_mn1 4 rfl (q_mn1 0 rfl q_mn0)))) rfl) (dzt_N100_65_34 c n r4 a1 a3 r3)
def dz_N133_87 (s : q_S) (a1 : Int32) : Int32 :=
  cond (decide (a1 < 0)) ((s.2.1 23 4)) (cond (decide (3 < a1)) ((s.2.1 23 4)) (cond (decide (a1 = 0)) ((s.2.1 23 0)) (cond (decide (a1 = 1)) ((s.2.1 23 1)) (cond (decide (a1 = 2)) ((s.2.1 23 2)) ((s.2.1 23 3))))))
set_option maxHeartbeats 4000000 in
theorem dzt_N133_87 (s : q_S) (c n : Nat) (a1 : Int32) : q_Ca q_TB0 1 132 [.ref 87, .int a1] (q_kN s c n) ((q_oP (q_kN s c n)) (dz_N133_87 s a1)) := by
  refine q_CaT_of (φ := (q_oP (q_kN s c n))) (Nat.le_of_ble_eq_true rfl) ?_
  unfold dz_N133_87
  refine q_RT_seg (g2 := (1, [(0, .ref 87), (1, .int a1)], [.int a1], (q_kN s c n))) 1 (fun _ _ => rfl) ?_
  cases h1 : decide (a1 < 0) with
  | true =>
    refine q_RT_cT ?_
    refine q_RT_st1 (g2 := (52, [(0, .ref 87), (1, .int a1)], [], (q_kN s c n))) rfl (if_pos (Or.inl (Int32.lt_iff_toInt_lt.mp (of_decide_eq_true h1)))) ?_
    refine q_RT_seg (g2 := (56, [(0, .ref 87), (1, .int a1)], [.int (s.2.1 23 4)], (q_kN s c n))) 2 (fun _ _ => rfl) ?_
    exact q_RT_ret rfl rfl rfl
  | false =>
    refine q_RT_cF ?_
    cases h2 : decide (3 < a1) with
    | true =>
      refine q_RT_cT ?_
      refine q_RT_st1 (g2 := (52, [(0, .ref 87), (1, .int a1)], [], (q_kN s c n))) rfl (if_pos (Or.inr (Int32.lt_iff_toInt_lt.mp (of_decide_eq_true h2)))) ?_
      refine q_RT_seg (g2 := (56, [(0, .ref 87), (1, .int a1)], [.int (s.2.1 23 4)], (q_kN s c n))) 2 (fun _ _ => rfl) ?_
      exact q_RT_ret rfl rfl rfl
    | false =>
      refine q_RT_cF ?_
      cases h3 : decide (a1 = 0) with
      | true =>
        refine q_RT_cT ?_
        refine q_RT_st1 (g2 := (32, [(0, .ref 87), (1, .int a1)], [], (q_kN s c n))) rfl (by rw [of_decide_eq_true h3]; rfl) ?_
        refine q_RT_seg (g2 := (36, [(0, .ref 87), (1, .int a1)], [.int (s.2.1 23 0)], (q_kN s c n))) 2 (fun _ _ => rfl) ?_
        exact q_RT_ret rfl rfl rfl
      | false =>
        refine q_RT_cF ?_
        cases h4 : decide (a1 = 1) with
        | true =>
          refine q_RT_cT ?_
          refine q_RT_st1 (g2 := (37, [(0, .ref 87), (1, .int a1)], [], (q_kN s c n))) rfl (by rw [of_decide_eq_true h4]; rfl) ?_
          refine q_RT_seg (g2 := (41, [(0, .ref 87), (1, .int a1)], [.int (s.2.1 23 1)], (q_kN s c n))) 2 (fun _ _ => rfl) ?_
          exact q_RT_ret rfl rfl rfl
        | false =>
          refine q_RT_cF ?_
          cases h5 : decide (a1 = 2) with
          | true =>
            refine q_RT_cT ?_
            refine q_RT_st1 (g2 := (42, [(0, .ref 87), (1, .int a1)], [], (q_kN s c n))) rfl (by rw [of_decide_eq_true h5]; rfl) ?_
            refine q_RT_seg (g2 := (46, [(0, .ref 87), (1, .int a1)], [.int (s.2.1 23 2)], (q_kN s c n))) 2 (fun _ _ => rfl) ?_
            exact q_RT_ret rfl rfl rfl
          | false =>
            refine q_RT_cF ?_
            have h6 : a1 = 3 := Int32.toInt_inj.mp (by have e0 := q_neI h3 (n := 0); have e1 := q_neI h4 (n := 1); have e2 := q_neI h5 (n := 2); have l1 : 0 ≤ (a1).toInt := q_lo1 h1; have l2 : (a1).toInt ≤ 3 := q_hi2 h2; show (a1).toInt = 3; omega)
            refine q_RT_st1 (g2 := (47, [(0, .ref 87), (1, .int a1)], [], (q_kN s c n))) rfl (by rw [h6]; rfl) ?_
            refine q_RT_seg (g2 := (51, [(0, .ref 87), (1, .int a1)], [.int (s.2.1 23 3)], (q_kN s c n))) 2 (fun _ _ => rfl) ?_
            exact q_RT_ret rfl rfl rfl
def dz_N134_87 (s : q_S) (a1 : Int32) (a2 : Int32) : q_S × Int32 :=
  q_let (dz_N133_87 s a1) fun r1 => cond (decide (a1 < 0)) (((q_sI s 23 4 a2), r1)) (cond (decide (3 < a1)) (((q_sI s 23 4 a2), r1)) (cond (decide (a1 = 0)) (((q_sI s 23 0 a2), r1)) (cond (decide (a1 = 1)) (((q_sI s 23 1 a2), r1)) (cond (decide (a1 = 2)) (((q_sI s 23 2 a2), r1)) (((q_sI s 23 3 a2), r1))))))
set_option maxHeartbeats 4000000 in
theorem dzt_N134_87 (s : q_S) (c n : Nat) (a1 : Int32) (a2 : Int32) : q_Ca q_TB0 2 133 [.ref 87, .int a1, .int a2] (q_kN s c n) ((q_oIN c n) (dz_N134_87 s a1 a2)) := by
  refine q_CaT_of (φ := (q_oIN c n)) (Nat.le_of_ble_eq_true rfl) ?_
  unfold dz_N134_87
  refine q_RT_seg (g2 := (2, [(0, .ref 87), (1, .int a1), (2, .int a2)], [.int a1, .ref 87], (q_kN s c n))) 2 (fun _ _ => rfl) ?_
  refine q_RT_call (v := (some (.int (dz_N133_87 s a1)))) (h2 := (q_kN s c n)) rfl rfl ((dzt_N133_87 s c n a1).le (Nat.le_of_ble_eq_true rfl)) ?_
  generalize dz_N133_87 s a1 = r1
  refine q_RT_let ?_
  show q_RT _ _ _ (5, [(0, .ref 87), (1, .int a1), (2, .int a2)], [.int r1], (q_kN s c n)) _ _
  refine q_RT_seg (g2 := (7, [(3, .int r1), (0, .ref 87), (1, .int a1), (2, .int a2)], [.int a1], (q_kN s c n))) 2 (fun _ _ => rfl) ?_
  cases h1 : decide (a1 < 0) with
  | true =>
    refine q_RT_cT ?_
    refine q_RT_st1 (g2 := (68, [(3, .int r1), (0, .ref 87), (1, .int a1), (2, .int a2)], [], (q_kN s c n))) rfl (if_pos (Or.inl (Int32.lt_iff_toInt_lt.mp (of_decide_eq_true h1)))) ?_
    refine q_RT_seg (g2 := (74, [(3, .int r1), (0, .ref 87), (1, .int a1), (2, .int a2)], [.int r1], (q_kN (q_sI s 23 4 a2) c n))) 4 (fun _ _ => rfl) ?_
    exact q_RT_ret rfl rfl rfl
  | false =>
    refine q_RT_cF ?_
    cases h2 : decide (3 < a1) with
    | true =>
      refine q_RT_cT ?_
      refine q_RT_st1 (g2 := (68, [(3, .int r1), (0, .ref 87), (1, .int a1), (2, .int a2)], [], (q_kN s c n))) rfl (if_pos (Or.inr (Int32.lt_iff_toInt_lt.mp (of_decide_eq_true h2)))) ?_
      refine q_RT_seg (g2 := (74, [(3, .int r1), (0, .ref 87), (1, .int a1), (2, .int a2)], [.int r1], (q_kN (q_sI s 23 4 a2) c n))) 4 (fun _ _ => rfl) ?_
      exact q_RT_ret rfl rfl rfl
    | false =>
      refine q_RT_cF ?_
      cases h3 : decide (a1 = 0) with
      | true =>
        refine q_RT_cT ?_
        refine q_RT_st1 (g2 := (36, [(3, .int r1), (0, .ref 87), (1, .int a1), (2, .int a2)], [], (q_kN s c n))) rfl (by rw [of_decide_eq_true h3]; rfl) ?_
        refine q_RT_seg (g2 := (74, [(3, .int r1), (0, .ref 87), (1, .int a1), (2, .int a2)], [.int r1], (q_kN (q_sI s 23 0 a2) c n))) 5 (fun _ _ => rfl) ?_
        exact q_RT_ret rfl rfl rfl
      | false =>
        refine q_RT_cF ?_
        cases h4 : decide (a1 = 1) with
        | true =>
          refine q_RT_cT ?_
          refine q_RT_st1 (g2 := (44, [(3, .int r1), (0, .ref 87), (1, .int a1), (2, .int a2)], [], (q_kN s c n))) rfl (by rw [of_decide_eq_true h4]; rfl) ?_
          refine q_RT_seg (g2 := (74, [(3, .int r1), (0, .ref 87), (1, .int a1), (2, .int a2)], [.int r1], (q_kN (q_sI s 23 1 a2) c n))) 5 (fun _ _ => rfl) ?_
          exact q_RT_ret rfl rfl rfl
        | false =>
          refine q_RT_cF ?_
          cases h5 : decide (a1 = 2) with
          | true =>
            refine q_RT_cT ?_
            refine q_RT_st1 (g2 := (52, [(3, .int r1), (0, .ref 87), (1, .int a1), (2, .int a2)], [], (q_kN s c n))) rfl (by rw [of_decide_eq_true h5]; rfl) ?_
            refine q_RT_seg (g2 := (74, [(3, .int r1), (0, .ref 87), (1, .int a1), (2, .int a2)], [.int r1], (q_kN (q_sI s 23 2 a2) c n))) 5 (fun _ _ => rfl) ?_
            exact q_RT_ret rfl rfl rfl
          | false =>
            refine q_RT_cF ?_
            have h6 : a1 = 3 := Int32.toInt_inj.mp (by have e0 := q_neI h3 (n := 0); have e1 := q_neI h4 (n := 1); have e2 := q_neI h5 (n := 2); have l1 : 0 ≤ (a1).toInt := q_lo1 h1; have l2 : (a1).toInt ≤ 3 := q_hi2 h2; show (a1).toInt = 3; omega)
            refine q_RT_st1 (g2 := (60, [(3, .int r1), (0, .ref 87), (1, .int a1), (2, .int a2)], [], (q_kN s c n))) rfl (by rw [h6]; rfl) ?_
            refine q_RT_seg (g2 := (74, [(3, .int r1), (0, .ref 87), (1, .int a1), (2, .int a2)], [.int r1], (q_kN (q_sI s 23 3 a2) c n))) 5 (fun _ _ => rfl) ?_
            exact q_RT_ret rfl rfl rfl
def dz_N318_68_5 (m : Nat) : q_S → Int32 → Int32 → Int32 → Option (q_S) := Nat.rec (motive := fun _ => q_S → Int32 → Int32 → Int32 → Option (q_S)) (fun _ _ _ _ => none) (fun _ k5 s v1 v2 v3 =>
  cond (decide (v2 < v3)) (cond (q_in v2 48) (k5 (q_sA s 4 (upd (s.1 4) (v2.toNatClampNeg) v1)) v1 (v2 + 1) v3) none) (some s)) m
theorem dzs_N318_68_5 (m : Nat) (s : q_S) (v1 : Int32) (v2 : Int32) (v3 : Int32) : dz_N318_68_5 (m + 1) s v1 v2 v3 = (fun k5 : q_S → Int32 → Int32 → Int32 → Option (q_S) =>
  cond (decide (v2 < v3)) (cond (q_in v2 48) (k5 (q_sA s 4 (upd (s.1 4) (v2.toNatClampNeg) v1)) v1 (v2 + 1) v3) none) (some s)) (dz_N318_68_5 m) := rfl
set_option maxHeartbeats 4000000 in
theorem dzt_N318_68_5 (c n : Nat) : ∀ (m : Nat) (s : q_S) (v1 : Int32) (v2 : Int32) (v3 : Int32), q_RP q_TB0 0 317 (5, [(0, .ref 68), (1, .int v1), (2, .int v2), (3, .int v3)], [], (q_kN s c n)) (q_oSN c n) (dz_N318_68_5 m s v1 v2 v3) := by
  intro m
  induction m with
  | zero => intro s v1 v2 v3; exact q_RP_no
  | succ m ih =>
    intro s v1 v2 v3
    have hk5 := ih
    clear ih
    rw [dzs_N318_68_5]
    generalize dz_N318_68_5 m = k5 at hk5 ⊢
    dsimp only
    refine q_RP_seg (g2 := (7, [(0, .ref 68), (1, .int v1), (2, .int v2), (3, .int v3)], [.int v3, .int v2], (q_kN s c n))) 2 (fun _ _ => rfl) ?_
    cases h1 : decide (v2 < v3) with
    | true =>
      refine q_RP_cT ?_
      refine q_RP_rsF (g2 := (10, [(0, .ref 68), (1, .int v1), (2, .int v2), (3, .int v3)], [], (q_kN s c n))) rfl rfl (q_d_geT h1) ?_
      refine q_RP_seg (g2 := (13, [(0, .ref 68), (1, .int v1), (2, .int v2), (3, .int v3)], [.int v1, .int v2, .ref 68], (q_kN s c n))) 3 (fun _ _ => rfl) ?_
      refine q_RP_as fun i2 => ?_
      refine q_RP_rsT (g2 := (14, [(0, .ref 68), (1, .int v1), (2, .int v2), (3, .int v3)], [], (q_kN (q_sA s 4 (upd (s.1 4) (v2.toNatClampNeg) v1)) c n))) rfl rfl i2 ?_
      refine q_RP_seg (g2 := (5, [(2, .int (v2 + 1)), (0, .ref 68), (1, .int v1), (3, .int v3)], [], (q_kN (q_sA s 4 (upd (s.1 4) (v2.toNatClampNeg) v1)) c n))) 2 (fun _ _ => rfl) ?_
      exact q_RP_xt (q_xt_mk (q_mn1 1 rfl (q_mn1 2 rfl (q_mn1 0 rfl (q_mn1 3 rfl q_mn0)))) rfl) (hk5 (q_sA s 4 (upd (s.1 4) (v2.toNatClampNeg) v1)) v1 (v2 + 1) v3)
    | false =>
      refine q_RP_cF ?_
      refine q_RP_rsT (g2 := (20, [(0, .ref 68), (1, .int v1), (2, .int v2), (3, .int v3)], [], (q_kN s c n))) rfl rfl (q_d_geF h1) ?_
      exact q_RP_ret rfl rfl rfl
def dz_N318_68 (s : q_S) (a1 : Int32) : Option (q_S) :=
  dz_N318_68_5 5000 s a1 0 48
set_option maxHeartbeats 4000000 in
theorem dzt_N318_68 (s : q_S) (c n : Nat) (a1 : Int32) (x : q_S) (h : dz_N318_68 s a1 = some x) : q_Ca q_TB0 1 317 [.ref 68, .int a1] (q_kN s c n) ((q_oSN c n) x) := by
  refine q_CaP_of (φ := (q_oSN c n)) (Nat.le_of_ble_eq_true rfl) ?_ h
  clear h
  unfold dz_N318_68
  refine q_RP_seg (g2 := (5, [(3, .int 48), (2, .int 0), (0, .ref 68), (1, .int a1)], [], (q_kN s c n))) 5 (fun _ _ => rfl) ?_
  exact q_RP_xt (q_xt_mk (q_mn1 2 rfl (q_mn1 3 rfl (q_mn1 1 rfl (q_mn1 0 rfl q_mn0)))) rfl) (dzt_N318_68_5 c n 5000 s a1 0 48)
def dz_N113_66 (s : q_S) : Option (q_S) :=
  (dz_N318_68 s 0).bind fun r2 => some r2
set_option maxHeartbeats 4000000 in
theorem dzt_N113_66 (s : q_S) (c n : Nat) (x : q_S) (h : dz_N113_66 s = some x) : q_Ca q_TB0 2 112 [.ref 66] (q_kN s c n) ((q_oSN c n) x) := by
  refine q_CaP_of (φ := (q_oSN c n)) (Nat.le_of_ble_eq_true rfl) ?_ h
  clear h
  unfold dz_N113_66
  refine q_RP_seg (g2 := (5, [(0, .ref 66)], [.int 0, .ref 68], (q_kN s c n))) 3 (fun _ _ => rfl) ?_
  refine q_RP_bd fun r2 er2 => ?_
  refine q_RP_call (v := none) (h2 := (q_kN r2 c n)) rfl rfl ((dzt_N318_68 s c n 0 r2 er2).le (Nat.le_of_ble_eq_true rfl)) ?_
  show q_RP _ _ _ (8, [(0, .ref 66)], [], (q_kN r2 c n)) _ _
  exact q_RP_ret rfl rfl rfl
def dz_N318_71_5 (m : Nat) : q_S → Int32 → Int32 → Int32 → Option (q_S) := Nat.rec (motive := fun _ => q_S → Int32 → Int32 → Int32 → Option (q_S)) (fun _ _ _ _ => none) (fun _ k5 s v1 v2 v3 =>
  cond (decide (v2 < v3)) (cond (q_in v2 2) (k5 (q_sA s 7 (upd (s.1 7) (v2.toNatClampNeg) v1)) v1 (v2 + 1) v3) none) (some s)) m
theorem dzs_N318_71_5 (m : Nat) (s : q_S) (v1 : Int32) (v2 : Int32) (v3 : Int32) : dz_N318_71_5 (m + 1) s v1 v2 v3 = (fun k5 : q_S → Int32 → Int32 → Int32 → Option (q_S) =>
  cond (decide (v2 < v3)) (cond (q_in v2 2) (k5 (q_sA s 7 (upd (s.1 7) (v2.toNatClampNeg) v1)) v1 (v2 + 1) v3) none) (some s)) (dz_N318_71_5 m) := rfl
set_option maxHeartbeats 4000000 in
theorem dzt_N318_71_5 (c n : Nat) : ∀ (m : Nat) (s : q_S) (v1 : Int32) (v2 : Int32) (v3 : Int32), q_RP q_TB0 0 317 (5, [(0, .ref 71), (1, .int v1), (2, .int v2), (3, .int v3)], [], (q_kN s c n)) (q_oSN c n) (dz_N318_71_5 m s v1 v2 v3) := by
  intro m
  induction m with
  | zero => intro s v1 v2 v3; exact q_RP_no
  | succ m ih =>
    intro s v1 v2 v3
    have hk5 := ih
    clear ih
    rw [dzs_N318_71_5]
    generalize dz_N318_71_5 m = k5 at hk5 ⊢
    dsimp only
    refine q_RP_seg (g2 := (7, [(0, .ref 71), (1, .int v1), (2, .int v2), (3, .int v3)], [.int v3, .int v2], (q_kN s c n))) 2 (fun _ _ => rfl) ?_
    cases h1 : decide (v2 < v3) with
    | true =>
      refine q_RP_cT ?_
      refine q_RP_rsF (g2 := (10, [(0, .ref 71), (1, .int v1), (2, .int v2), (3, .int v3)], [], (q_kN s c n))) rfl rfl (q_d_geT h1) ?_
      refine q_RP_seg (g2 := (13, [(0, .ref 71), (1, .int v1), (2, .int v2), (3, .int v3)], [.int v1, .int v2, .ref 71], (q_kN s c n))) 3 (fun _ _ => rfl) ?_
      refine q_RP_as fun i2 => ?_
      refine q_RP_rsT (g2 := (14, [(0, .ref 71), (1, .int v1), (2, .int v2), (3, .int v3)], [], (q_kN (q_sA s 7 (upd (s.1 7) (v2.toNatClampNeg) v1)) c n))) rfl rfl i2 ?_
      refine q_RP_seg (g2 := (5, [(2, .int (v2 + 1)), (0, .ref 71), (1, .int v1), (3, .int v3)], [], (q_kN (q_sA s 7 (upd (s.1 7) (v2.toNatClampNeg) v1)) c n))) 2 (fun _ _ => rfl) ?_
      exact q_RP_xt (q_xt_mk (q_mn1 1 rfl (q_mn1 2 rfl (q_mn1 0 rfl (q_mn1 3 rfl q_mn0)))) rfl) (hk5 (q_sA s 7 (upd (s.1 7) (v2.toNatClampNeg) v1)) v1 (v2 + 1) v3)
    | false =>
      refine q_RP_cF ?_
      refine q_RP_rsT (g2 := (20, [(0, .ref 71), (1, .int v1), (2, .int v2), (3, .int v3)], [], (q_kN s c n))) rfl rfl (q_d_geF h1) ?_
      exact q_RP_ret rfl rfl rfl
def dz_N318_71 (s : q_S) (a1 : Int32) : Option (q_S) :=
  dz_N318_71_5 5000 s a1 0 2
set_option maxHeartbeats 4000000 in
theorem dzt_N318_71 (s : q_S) (c n : Nat) (a1 : Int32) (x : q_S) (h : dz_N318_71 s a1 = some x) : q_Ca q_TB0 1 317 [.ref 71, .int a1] (q_kN s c n) ((q_oSN c n) x) := by
  refine q_CaP_of (φ := (q_oSN c n)) (Nat.le_of_ble_eq_true rfl) ?_ h
  clear h
  unfold dz_N318_71
  refine q_RP_seg (g2 := (5, [(3, .int 2), (2, .int 0), (0, .ref 71), (1, .int a1)], [], (q_kN s c n))) 5 (fun _ _ => rfl) ?_
  exact q_RP_xt (q_xt_mk (q_mn1 2 rfl (q_mn1 3 rfl (q_mn1 1 rfl (q_mn1 0 rfl q_mn0)))) rfl) (dzt_N318_71_5 c n 5000 s a1 0 2)
def dz_N96_65 (s : q_S) : Option (q_S) :=
  (dz_N113_66 s).bind fun r2 => cond (decide (lg_cmp (((r2.2.2 1 8) / 960) - ((r2.2.2 1 8) / 960) / 2 * 2) 0 = 0)) (q_let (dz_N128_77 r2 4096 0) fun r3 => (dz_N318_71 r3 0).bind fun r4 => some r4) (q_let (dz_N128_82 r2 4096 0) fun r5 => (dz_N318_71 r5 0).bind fun r6 => some r6)
set_option maxHeartbeats 4000000 in
theorem dzt_N96_65 (s : q_S) (c n : Nat) (x : q_S) (h : dz_N96_65 s = some x) : q_Ca q_TB0 3 95 [.ref 65] (q_kN s c n) ((q_oSN c n) x) := by
  refine q_CaP_of (φ := (q_oSN c n)) (Nat.le_of_ble_eq_true rfl) ?_ h
  clear h
  unfold dz_N96_65
  refine q_RP_seg (g2 := (4, [(0, .ref 65)], [.ref 66], (q_kN s c n))) 2 (fun _ _ => rfl) ?_
  refine q_RP_bd fun r2 er2 => ?_
  refine q_RP_call (v := none) (h2 := (q_kN r2 c n)) rfl rfl ((dzt_N113_66 s c n r2 er2).le (Nat.le_of_ble_eq_true rfl)) ?_
  show q_RP _ _ _ (7, [(0, .ref 65)], [], (q_kN r2 c n)) _ _
  refine q_RP_seg (g2 := (8, [(0, .ref 65)], [.ref 65], (q_kN r2 c n))) 1 (fun _ _ => rfl) ?_
  cases h1 : decide (lg_cmp (((r2.2.2 1 8) / 960) - ((r2.2.2 1 8) / 960) / 2 * 2) 0 = 0) with
  | true =>
    refine q_RP_cT ?_
    refine q_RP_call (v := (some (.ref 77))) (h2 := (q_kN r2 c n)) rfl rfl ?_ ?_
    · refine q_Ca_of (Nat.le_of_ble_eq_true rfl) ?_
      refine q_Ru_seg (g2 := (14, [(0, .ref 65)], [.int (lg_cmp (((r2.2.2 1 8) / 960) - ((r2.2.2 1 8) / 960) / 2 * 2) 0)], (q_kN r2 c n))) 8 (fun _ _ => rfl) ?_
      refine q_Ru_rsF (g2 := (17, [(0, .ref 65)], [], (q_kN r2 c n))) rfl rfl (q_d_neT h1) ?_
      refine q_Ru_seg (g2 := (28, [(0, .ref 65)], [.ref 77], (q_kN r2 c n))) 3 (fun _ _ => rfl) ?_
      exact q_Ru_ret rfl rfl
    show q_RP _ _ _ (11, [(0, .ref 65)], [.ref 77], (q_kN r2 c n)) _ _
    refine q_RP_seg (g2 := (15, [(0, .ref 65)], [.int 0, .int 4096, .ref 77], (q_kN r2 c n))) 2 (fun _ _ => rfl) ?_
    refine q_RP_call (v := none) (h2 := (q_kN (dz_N128_77 r2 4096 0) c n)) rfl rfl ((dzt_N128_77 r2 c n 4096 0).le (Nat.le_of_ble_eq_true rfl)) ?_
    generalize dz_N128_77 r2 4096 0 = r3
    refine q_RP_let ?_
    show q_RP _ _ _ (18, [(0, .ref 65)], [], (q_kN r3 c n)) _ _
    refine q_RP_seg (g2 := (23, [(0, .ref 65)], [.int 0, .ref 71], (q_kN r3 c n))) 3 (fun _ _ => rfl) ?_
    refine q_RP_bd fun r4 er4 => ?_
    refine q_RP_call (v := none) (h2 := (q_kN r4 c n)) rfl rfl ((dzt_N318_71 r3 c n 0 r4 er4).le (Nat.le_of_ble_eq_true rfl)) ?_
    show q_RP _ _ _ (26, [(0, .ref 65)], [], (q_kN r4 c n)) _ _
    exact q_RP_ret rfl rfl rfl
  | false =>
    refine q_RP_cF ?_
    refine q_RP_call (v := (some (.ref 82))) (h2 := (q_kN r2 c n)) rfl rfl ?_ ?_
    · refine q_Ca_of (Nat.le_of_ble_eq_true rfl) ?_
      refine q_Ru_seg (g2 := (14, [(0, .ref 65)], [.int (lg_cmp (((r2.2.2 1 8) / 960) - ((r2.2.2 1 8) / 960) / 2 * 2) 0)], (q_kN r2 c n))) 8 (fun _ _ => rfl) ?_
      refine q_Ru_rsT (g2 := (24, [(0, .ref 65)], [], (q_kN r2 c n))) rfl rfl (q_d_neF h1) ?_
      refine q_Ru_seg (g2 := (28, [(0, .ref 65)], [.ref 82], (q_kN r2 c n))) 2 (fun _ _ => rfl) ?_
      exact q_Ru_ret rfl rfl
    show q_RP _ _ _ (11, [(0, .ref 65)], [.ref 82], (q_kN r2 c n)) _ _
    refine q_RP_seg (g2 := (15, [(0, .ref 65)], [.int 0, .int 4096, .ref 82], (q_kN r2 c n))) 2 (fun _ _ => rfl) ?_
    refine q_RP_call (v := none) (h2 := (q_kN (dz_N128_82 r2 4096 0) c n)) rfl rfl ((dzt_N128_82 r2 c n 4096 0).le (Nat.le_of_ble_eq_true rfl)) ?_
    generalize dz_N128_82 r2 4096 0 = r5
    refine q_RP_let ?_
    show q_RP _ _ _ (18, [(0, .ref 65)], [], (q_kN r5 c n)) _ _
    refine q_RP_seg (g2 := (23, [(0, .ref 65)], [.int 0, .ref 71], (q_kN r5 c n))) 3 (fun _ _ => rfl) ?_
    refine q_RP_bd fun r6 er6 => ?_
    refine q_RP_call (v := none) (h2 := (q_kN r6 c n)) rfl rfl ((dzt_N318_71 r5 c n 0 r6 er6).le (Nat.le_of_ble_eq_true rfl)) ?_
    show q_RP _ _ _ (26, [(0, .ref 65)], [], (q_kN r6 c n)) _ _
    exact q_RP_ret rfl rfl rfl
def dz_N92_65 (s : q_S) (a1 : Int32) : Option (Int32) :=
  (dz_N90_65 s (a1 &&& 4095)).bind fun r2 => (dz_N90_65 s ((a1 + 1) &&& 4095)).bind fun r3 => some ((r2 + (256 * r3)) &&& 4095)
set_option maxHeartbeats 4000000 in
theorem dzt_N92_65 (s : q_S) (c n : Nat) (a1 : Int32) (x : Int32) (h : dz_N92_65 s a1 = some x) : q_Ca q_TB0 3 91 [.ref 65, .int a1] (q_kN s c n) ((q_oP (q_kN s c n)) x) := by
  refine q_CaP_of (φ := (q_oP (q_kN s c n))) (Nat.le_of_ble_eq_true rfl) ?_ h
  clear h
  unfold dz_N92_65
  refine q_RP_seg (g2 := (6, [(0, .ref 65), (1, .int a1)], [.int (a1 &&& 4095), .ref 65], (q_kN s c n))) 4 (fun _ _ => rfl) ?_
  refine q_RP_bd fun r2 er2 => ?_
  refine q_RP_call (v := (some (.int r2))) (h2 := (q_kN s c n)) rfl rfl ((dzt_N90_65 s c n (a1 &&& 4095) r2 er2).le (Nat.le_of_ble_eq_true rfl)) ?_
  show q_RP _ _ _ (9, [(0, .ref 65), (1, .int a1)], [.int r2], (q_kN s c n)) _ _
  refine q_RP_seg (g2 := (22, [(2, .int r2), (0, .ref 65), (1, .int a1)], [.int ((a1 + 1) &&& 4095), .ref 65, .int 256, .int r2], (q_kN s c n))) 9 (fun _ _ => rfl) ?_
  refine q_RP_bd fun r3 er3 => ?_
  refine q_RP_call (v := (some (.int r3))) (h2 := (q_kN s c n)) rfl rfl ((dzt_N90_65 s c n ((a1 + 1) &&& 4095) r3 er3).le (Nat.le_of_ble_eq_true rfl)) ?_
  show q_RP _ _ _ (25, [(2, .int r2), (0, .ref 65), (1, .int a1)], [.int r3, .int 256, .int r2], (q_kN s c n)) _ _
  refine q_RP_seg (g2 := (31, [(2, .int r2), (0, .ref 65), (1, .int a1)], [.int ((r2 + (256 * r3)) &&& 4095)], (q_kN s c n))) 4 (fun _ _ => rfl) ?_
  exact q_RP_ret rfl rfl rfl
def dz_N135_87_65 (s : q_S) : Option (q_S) :=
  (dz_N92_65 (q_sI (q_sI (q_sI (q_sI (q_sI (q_sI (q_sI (q_sI s 23 0 0) 23 1 0) 23 2 0) 23 3 255) 23 5 4) 23 6 0) 23 7 0) 23 9 0) 3836).bind fun r2 => some (q_sI (q_sI (q_sI (q_sI (q_sI (q_sI (q_sI (q_sI (q_sI s 23 0 0) 23 1 0) 23 2 0) 23 3 255) 23 5 4) 23 6 0) 23 7 0) 23 9 0) 23 4 r2)
set_option maxHeartbeats 4000000 in
theorem dzt_N135_87_65 (s : q_S) (c n : Nat) (x : q_S) (h : dz_N135_87_65 s = some x) : q_Ca q_TB0 4 134 [.ref 87, .ref 65] (q_kN s c n) ((q_oSN c n) x) := by
  refine q_CaP_of (φ := (q_oSN c n)) (Nat.le_of_ble_eq_true rfl) ?_ h
  clear h
  unfold dz_N135_87_65
  refine q_RP_seg (g2 := (47, [(0, .ref 87), (1, .ref 65)], [.int 3836, .ref 65, .ref 87], (q_kN (q_sI (q_sI (q_sI (q_sI (q_sI (q_sI (q_sI (q_sI s 23 0 0) 23 1 0) 23 2 0) 23 3 255) 23 5 4) 23 6 0) 23 7 0) 23 9 0) c n))) 27 (fun _ _ => rfl) ?_
  refine q_RP_bd fun r2 er2 => ?_
  refine q_RP_call (v := (some (.int r2))) (h2 := (q_kN (q_sI (q_sI (q_sI (q_sI (q_sI (q_sI (q_sI (q_sI s 23 0 0) 23 1 0) 23 2 0) 23 3 255) 23 5 4) 23 6 0) 23 7 0) 23 9 0) c n)) rfl rfl ((dzt_N92_65 (q_sI (q_sI (q_sI (q_sI (q_sI (q_sI (q_sI (q_sI s 23 0 0) 23 1 0) 23 2 0) 23 3 255) 23 5 4) 23 6 0) 23 7 0) 23 9 0) c n 3836 r2 er2).le (Nat.le_of_ble_eq_true rfl)) ?_
  show q_RP _ _ _ (50, [(0, .ref 87), (1, .ref 65)], [.int r2, .ref 87], (q_kN (q_sI (q_sI (q_sI (q_sI (q_sI (q_sI (q_sI (q_sI s 23 0 0) 23 1 0) 23 2 0) 23 3 255) 23 5 4) 23 6 0) 23 7 0) 23 9 0) c n)) _ _
  refine q_RP_seg (g2 := (53, [(0, .ref 87), (1, .ref 65)], [], (q_kN (q_sI (q_sI (q_sI (q_sI (q_sI (q_sI (q_sI (q_sI (q_sI s 23 0 0) 23 1 0) 23 2 0) 23 3 255) 23 5 4) 23 6 0) 23 7 0) 23 9 0) 23 4 r2) c n))) 1 (fun _ _ => rfl) ?_
  exact q_RP_ret rfl rfl rfl
def dz_N80_64 (s : q_S) : Option (q_S × Int32) :=
  (dz_N96_65 s).bind fun r2 => (dz_N135_87_65 r2).bind fun r3 => some (r3, (r3.2.1 23 4))
set_option maxHeartbeats 4000000 in
theorem dzt_N80_64 (s : q_S) (c n : Nat) (x : q_S × Int32) (h : dz_N80_64 s = some x) : q_Ca q_TB0 5 79 [.ref 64] (q_kN s c n) ((q_oIN c n) x) := by
  refine q_CaP_of (φ := (q_oIN c n)) (Nat.le_of_ble_eq_true rfl) ?_ h
  clear h
  unfold dz_N80_64
  refine q_RP_seg (g2 := (4, [(0, .ref 64)], [.ref 65], (q_kN s c n))) 2 (fun _ _ => rfl) ?_
  refine q_RP_bd fun r2 er2 => ?_
  refine q_RP_call (v := none) (h2 := (q_kN r2 c n)) rfl rfl ((dzt_N96_65 s c n r2 er2).le (Nat.le_of_ble_eq_true rfl)) ?_
  show q_RP _ _ _ (7, [(0, .ref 64)], [], (q_kN r2 c n)) _ _
  refine q_RP_seg (g2 := (15, [(0, .ref 64)], [.ref 65, .ref 87], (q_kN r2 c n))) 4 (fun _ _ => rfl) ?_
  refine q_RP_bd fun r3 er3 => ?_
  refine q_RP_call (v := none) (h2 := (q_kN r3 c n)) rfl rfl ((dzt_N135_87_65 r2 c n r3 er3).le (Nat.le_of_ble_eq_true rfl)) ?_
  show q_RP _ _ _ (18, [(0, .ref 64)], [], (q_kN r3 c n)) _ _
  refine q_RP_seg (g2 := (25, [(0, .ref 64)], [.int (r3.2.1 23 4)], (q_kN r3 c n))) 3 (fun _ _ => rfl) ?_
  exact q_RP_ret rfl rfl rfl
def dz_N81_64 (s : q_S) : Option (q_S × Int32) :=
  (dz_N94_65 s 3840 (((s.1 4) 0) ||| 14)).bind fun r2 => some ((q_sI r2 23 6 1), ((s.1 4) 0))
set_option maxHeartbeats 4000000 in
theorem dzt_N81_64 (s : q_S) (c n : Nat) (x : q_S × Int32) (h : dz_N81_64 s = some x) : q_Ca q_TB0 3 80 [.ref 64] (q_kN s c n) ((q_oIN c n) x) := by
  refine q_CaP_of (φ := (q_oIN c n)) (Nat.le_of_ble_eq_true rfl) ?_ h
  clear h
  unfold dz_N81_64
  refine q_RP_seg (g2 := (12, [(0, .ref 64)], [.int ((s.1 4) 0)], (q_kN s c n))) 6 (fun _ _ => rfl) ?_
  refine q_RP_seg (g2 := (24, [(1, .int ((s.1 4) 0)), (0, .ref 64)], [.int (((s.1 4) 0) ||| 14), .int 3840, .ref 65], (q_kN s c n))) 7 (fun _ _ => rfl) ?_
  refine q_RP_bd fun r2 er2 => ?_
  refine q_RP_call (v := none) (h2 := (q_kN r2 c n)) rfl rfl ((dzt_N94_65 s c n 3840 (((s.1 4) 0) ||| 14) r2 er2).le (Nat.le_of_ble_eq_true rfl)) ?_
  show q_RP _ _ _ (27, [(1, .int ((s.1 4) 0)), (0, .ref 64)], [], (q_kN r2 c n)) _ _
  refine q_RP_seg (g2 := (36, [(1, .int ((s.1 4) 0)), (0, .ref 64)], [.int ((s.1 4) 0)], (q_kN (q_sI r2 23 6 1) c n))) 5 (fun _ _ => rfl) ?_
  exact q_RP_ret rfl rfl rfl
def dz_N87_65 (s : q_S) : Int32 :=
  (((s.2.2 1 8) - (s.2.2 1 8) / 24 * 24).toInt32)
set_option maxHeartbeats 4000000 in
theorem dzt_N87_65 (s : q_S) (c n : Nat) : q_Ca q_TB0 1 86 [.ref 65] (q_kN s c n) ((q_oP (q_kN s c n)) (dz_N87_65 s)) := by
  refine q_CaT_of (φ := (q_oP (q_kN s c n))) (Nat.le_of_ble_eq_true rfl) ?_
  unfold dz_N87_65
  refine q_RT_seg (g2 := (4, [(0, .ref 65)], [.long (s.2.2 1 8)], (q_kN s c n))) 2 (fun _ _ => rfl) ?_
  refine q_RT_seg (g2 := (9, [(0, .ref 65)], [.int (((s.2.2 1 8) - (s.2.2 1 8) / 24 * 24).toInt32)], (q_kN s c n))) 3 (fun _ _ => rfl) ?_
  exact q_RT_ret rfl rfl rfl
def dz_N86_65 (s : q_S) : Int32 :=
  (((s.2.2 1 8) - (s.2.2 1 8) / 960 * 960).toInt32)
set_option maxHeartbeats 4000000 in
theorem dzt_N86_65 (s : q_S) (c n : Nat) : q_Ca q_TB0 1 85 [.ref 65] (q_kN s c n) ((q_oP (q_kN s c n)) (dz_N86_65 s)) := by
  refine q_CaT_of (φ := (q_oP (q_kN s c n))) (Nat.le_of_ble_eq_true rfl) ?_
  unfold dz_N86_65
  refine q_RT_seg (g2 := (4, [(0, .ref 65)], [.long (s.2.2 1 8)], (q_kN s c n))) 2 (fun _ _ => rfl) ?_
  refine q_RT_seg (g2 := (9, [(0, .ref 65)], [.int (((s.2.2 1 8) - (s.2.2 1 8) / 960 * 960).toInt32)], (q_kN s c n))) 3 (fun _ _ => rfl) ?_
  exact q_RT_ret rfl rfl rfl
def dz_N101_65 (s : q_S) : q_S :=
  q_let (dz_N87_65 s) fun r1 => cond (decide (r1 = 0)) (q_let (dz_N86_65 s) fun r2 => cond (decide (r2 / 24 = (s.1 4) 9)) ((q_sA s 4 (upd (s.1 4) 10 (((s.1 4) 10) ||| 1)))) (s)) (s)
set_option maxHeartbeats 4000000 in
theorem dzt_N101_65 (s : q_S) (c n : Nat) : q_Ca q_TB0 2 100 [.ref 65] (q_kN s c n) ((q_oSN c n) (dz_N101_65 s)) := by
  refine q_CaT_of (φ := (q_oSN c n)) (Nat.le_of_ble_eq_true rfl) ?_
  unfold dz_N101_65
  refine q_RT_seg (g2 := (1, [(0, .ref 65)], [.ref 65], (q_kN s c n))) 1 (fun _ _ => rfl) ?_
  refine q_RT_call (v := (some (.int (dz_N87_65 s)))) (h2 := (q_kN s c n)) rfl rfl ((dzt_N87_65 s c n).le (Nat.le_of_ble_eq_true rfl)) ?_
  generalize dz_N87_65 s = r1
  refine q_RT_let ?_
  show q_RT _ _ _ (4, [(0, .ref 65)], [.int r1], (q_kN s c n)) _ _
  cases h1 : decide (r1 = 0) with
  | true =>
    refine q_RT_cT ?_
    refine q_RT_rsF (g2 := (7, [(0, .ref 65)], [], (q_kN s c n))) rfl rfl (q_d_neT h1) ?_
    refine q_RT_seg (g2 := (8, [(0, .ref 65)], [.ref 65], (q_kN s c n))) 1 (fun _ _ => rfl) ?_
    refine q_RT_call (v := (some (.int (dz_N86_65 s)))) (h2 := (q_kN s c n)) rfl rfl ((dzt_N86_65 s c n).le (Nat.le_of_ble_eq_true rfl)) ?_
    generalize dz_N86_65 s = r2
    refine q_RT_let ?_
    show q_RT _ _ _ (11, [(0, .ref 65)], [.int r2], (q_kN s c n)) _ _
    refine q_RT_seg (g2 := (24, [(0, .ref 65)], [.int ((s.1 4) 9), .int (r2 / 24)], (q_kN s c n))) 7 (fun _ _ => rfl) ?_
    cases h2 : decide (r2 / 24 = (s.1 4) 9) with
    | true =>
      refine q_RT_cT ?_
      refine q_RT_rsF (g2 := (27, [(0, .ref 65)], [], (q_kN s c n))) rfl rfl (q_d_neT h2) ?_
      refine q_RT_seg (g2 := (38, [(0, .ref 65)], [.int ((s.1 4) 10), .int 10, .ref 68], (q_kN s c n))) 6 (fun _ _ => rfl) ?_
      refine q_RT_seg (g2 := (41, [(0, .ref 65)], [], (q_kN (q_sA s 4 (upd (s.1 4) 10 (((s.1 4) 10) ||| 1))) c n))) 3 (fun _ _ => rfl) ?_
      exact q_RT_ret rfl rfl rfl
    | false =>
      refine q_RT_cF ?_
      refine q_RT_rsT (g2 := (41, [(0, .ref 65)], [], (q_kN s c n))) rfl rfl (q_d_neF h2) ?_
      exact q_RT_ret rfl rfl rfl
  | false =>
    refine q_RT_cF ?_
    refine q_RT_rsT (g2 := (41, [(0, .ref 65)], [], (q_kN s c n))) rfl rfl (q_d_neF h1) ?_
    exact q_RT_ret rfl rfl rfl
def dz_N115_66 (s : q_S) : Int32 :=
  (((s.1 4) 2) >>> ((2 &&& 31) : Int32))
set_option maxHeartbeats 4000000 in
theorem dzt_N115_66 (s : q_S) (c n : Nat) : q_Ca q_TB0 1 114 [.ref 66] (q_kN s c n) ((q_oP (q_kN s c n)) (dz_N115_66 s)) := by
  refine q_CaT_of (φ := (q_oP (q_kN s c n))) (Nat.le_of_ble_eq_true rfl) ?_
  unfold dz_N115_66
  refine q_RT_seg (g2 := (6, [(0, .ref 66)], [.int ((s.1 4) 2)], (q_kN s c n))) 4 (fun _ _ => rfl) ?_
  refine q_RT_seg (g2 := (8, [(0, .ref 66)], [.int (((s.1 4) 2) >>> ((2 &&& 31) : Int32))], (q_kN s c n))) 2 (fun _ _ => rfl) ?_
  exact q_RT_ret rfl rfl rfl
def dz_N118_66 (s : q_S) (a1 : Int32) (a2 : Int32) : Int32 :=
  cond (decide (a1 < 0)) (0) (cond (decide (a1 < 48)) (((((s.1 4) (a1.toNatClampNeg)) >>> (a2 &&& 31)) &&& 1)) (0))
set_option maxHeartbeats 4000000 in
theorem dzt_N118_66 (s : q_S) (c n : Nat) (a1 : Int32) (a2 : Int32) : q_Ca q_TB0 1 117 [.ref 66, .int a1, .int a2] (q_kN s c n) ((q_oP (q_kN s c n)) (dz_N118_66 s a1 a2)) := by
  refine q_CaT_of (φ := (q_oP (q_kN s c n))) (Nat.le_of_ble_eq_true rfl) ?_
  unfold dz_N118_66
  refine q_RT_seg (g2 := (1, [(0, .ref 66), (1, .int a1), (2, .int a2)], [.int a1], (q_kN s c n))) 1 (fun _ _ => rfl) ?_
  cases h1 : decide (a1 < 0) with
  | true =>
    refine q_RT_cT ?_
    refine q_RT_rsT (g2 := (23, [(0, .ref 66), (1, .int a1), (2, .int a2)], [], (q_kN s c n))) rfl rfl h1 ?_
    refine q_RT_seg (g2 := (24, [(0, .ref 66), (1, .int a1), (2, .int a2)], [.int 0], (q_kN s c n))) 1 (fun _ _ => rfl) ?_
    exact q_RT_ret rfl rfl rfl
  | false =>
    refine q_RT_cF ?_
    refine q_RT_rsF (g2 := (4, [(0, .ref 66), (1, .int a1), (2, .int a2)], [], (q_kN s c n))) rfl rfl h1 ?_
    refine q_RT_seg (g2 := (7, [(0, .ref 66), (1, .int a1), (2, .int a2)], [.int 48, .int a1], (q_kN s c n))) 2 (fun _ _ => rfl) ?_
    cases h2 : decide (a1 < 48) with
    | true =>
      refine q_RT_cT ?_
      refine q_RT_rsF (g2 := (10, [(0, .ref 66), (1, .int a1), (2, .int a2)], [], (q_kN s c n))) rfl rfl (q_d_geT h2) ?_
      refine q_RT_seg (g2 := (15, [(0, .ref 66), (1, .int a1), (2, .int a2)], [.int a1, .ref 68], (q_kN s c n))) 3 (fun _ _ => rfl) ?_
      refine q_RT_rsT (g2 := (16, [(0, .ref 66), (1, .int a1), (2, .int a2)], [.int ((s.1 4) (a1.toNatClampNeg))], (q_kN s c n))) rfl rfl (q_in_bd (x := a1) (n := 48) (U := 47) (L := 0) (q_lo1 h1) (q_hi1 h2)) ?_
      refine q_RT_seg (g2 := (24, [(0, .ref 66), (1, .int a1), (2, .int a2)], [.int ((((s.1 4) (a1.toNatClampNeg)) >>> (a2 &&& 31)) &&& 1)], (q_kN s c n))) 5 (fun _ _ => rfl) ?_
      exact q_RT_ret rfl rfl rfl
    | false =>
      refine q_RT_cF ?_
      refine q_RT_rsT (g2 := (23, [(0, .ref 66), (1, .int a1), (2, .int a2)], [], (q_kN s c n))) rfl rfl (q_d_geF h2) ?_
      refine q_RT_seg (g2 := (24, [(0, .ref 66), (1, .int a1), (2, .int a2)], [.int 0], (q_kN s c n))) 1 (fun _ _ => rfl) ?_
      exact q_RT_ret rfl rfl rfl
def dz_N117_66 (s : q_S) (a1 : Int32) (a2 : Int32) : Option (Bool) :=
  cond (q_in ((24 : Int32) + (a1 &&& 3)) 48) (q_let (dz_N118_66 s 18 (a1 &&& 3)) fun r1 => q_let (dz_N118_66 s 17 (a1 &&& 3)) fun r2 => cond (decide (r2 = 1)) (cond (decide (a2 < (s.1 4) (((24 : Int32) + (a1 &&& 3)).toNatClampNeg))) (some false) (cond (decide (a2 < ((s.1 4) (((24 : Int32) + (a1 &&& 3)).toNatClampNeg)) + ((8 : Int32) <<< (r1 &&& 31)))) (some true) (some false))) (some false)) none
set_option maxHeartbeats 4000000 in
theorem dzt_N117_66 (s : q_S) (c n : Nat) (a1 : Int32) (a2 : Int32) (x : Bool) (h : dz_N117_66 s a1 a2 = some x) : q_Ca q_TB0 2 116 [.ref 66, .int a1, .int a2] (q_kN s c n) ((q_oB (q_kN s c n)) x) := by
  refine q_CaP_of (φ := (q_oB (q_kN s c n))) (Nat.le_of_ble_eq_true rfl) ?_ h
  clear h
  unfold dz_N117_66
  refine q_RP_seg (g2 := (12, [(3, .int (a1 &&& 3)), (0, .ref 66), (1, .int a1), (2, .int a2)], [.int ((24 : Int32) + (a1 &&& 3)), .ref 68], (q_kN s c n))) 9 (fun _ _ => rfl) ?_
  refine q_RP_as fun i1 => ?_
  refine q_RP_rsT (g2 := (13, [(3, .int (a1 &&& 3)), (0, .ref 66), (1, .int a1), (2, .int a2)], [.int ((s.1 4) (((24 : Int32) + (a1 &&& 3)).toNatClampNeg))], (q_kN s c n))) rfl rfl i1 ?_
  refine q_RP_seg (g2 := (21, [(4, .int ((s.1 4) (((24 : Int32) + (a1 &&& 3)).toNatClampNeg))), (3, .int (a1 &&& 3)), (0, .ref 66), (1, .int a1), (2, .int a2)], [.int (a1 &&& 3), .int 18, .ref 66, .int 8], (q_kN s c n))) 5 (fun _ _ => rfl) ?_
  refine q_RP_call (v := (some (.int (dz_N118_66 s 18 (a1 &&& 3))))) (h2 := (q_kN s c n)) rfl rfl ((dzt_N118_66 s c n 18 (a1 &&& 3)).le (Nat.le_of_ble_eq_true rfl)) ?_
  generalize dz_N118_66 s 18 (a1 &&& 3) = r1
  refine q_RP_let ?_
  show q_RP _ _ _ (24, [(4, .int ((s.1 4) (((24 : Int32) + (a1 &&& 3)).toNatClampNeg))), (3, .int (a1 &&& 3)), (0, .ref 66), (1, .int a1), (2, .int a2)], [.int r1, .int 8], (q_kN s c n)) _ _
  refine q_RP_seg (g2 := (31, [(5, .int ((8 : Int32) <<< (r1 &&& 31))), (4, .int ((s.1 4) (((24 : Int32) + (a1 &&& 3)).toNatClampNeg))), (3, .int (a1 &&& 3)), (0, .ref 66), (1, .int a1), (2, .int a2)], [.int (a1 &&& 3), .int 17, .ref 66], (q_kN s c n))) 5 (fun _ _ => rfl) ?_
  refine q_RP_call (v := (some (.int (dz_N118_66 s 17 (a1 &&& 3))))) (h2 := (q_kN s c n)) rfl rfl ((dzt_N118_66 s c n 17 (a1 &&& 3)).le (Nat.le_of_ble_eq_true rfl)) ?_
  generalize dz_N118_66 s 17 (a1 &&& 3) = r2
  refine q_RP_let ?_
  show q_RP _ _ _ (34, [(5, .int ((8 : Int32) <<< (r1 &&& 31))), (4, .int ((s.1 4) (((24 : Int32) + (a1 &&& 3)).toNatClampNeg))), (3, .int (a1 &&& 3)), (0, .ref 66), (1, .int a1), (2, .int a2)], [.int r2], (q_kN s c n)) _ _
  refine q_RP_seg (g2 := (35, [(5, .int ((8 : Int32) <<< (r1 &&& 31))), (4, .int ((s.1 4) (((24 : Int32) + (a1 &&& 3)).toNatClampNeg))), (3, .int (a1 &&& 3)), (0, .ref 66), (1, .int a1), (2, .int a2)], [.int 1, .int r2], (q_kN s c n))) 1 (fun _ _ => rfl) ?_
  cases h2 : decide (r2 = 1) with
  | true =>
    refine q_RP_cT ?_
    refine q_RP_rsF (g2 := (38, [(5, .int ((8 : Int32) <<< (r1 &&& 31))), (4, .int ((s.1 4) (((24 : Int32) + (a1 &&& 3)).toNatClampNeg))), (3, .int (a1 &&& 3)), (0, .ref 66), (1, .int a1), (2, .int a2)], [], (q_kN s c n))) rfl rfl (q_d_neT h2) ?_
    refine q_RP_seg (g2 := (41, [(5, .int ((8 : Int32) <<< (r1 &&& 31))), (4, .int ((s.1 4) (((24 : Int32) + (a1 &&& 3)).toNatClampNeg))), (3, .int (a1 &&& 3)), (0, .ref 66), (1, .int a1), (2, .int a2)], [.int ((s.1 4) (((24 : Int32) + (a1 &&& 3)).toNatClampNeg)), .int a2], (q_kN s c n))) 2 (fun _ _ => rfl) ?_
    cases h3 : decide (a2 < (s.1 4) (((24 : Int32) + (a1 &&& 3)).toNatClampNeg)) with
    | true =>
      refine q_RP_cT ?_
      refine q_RP_rsT (g2 := (57, [(5, .int ((8 : Int32) <<< (r1 &&& 31))), (4, .int ((s.1 4) (((24 : Int32) + (a1 &&& 3)).toNatClampNeg))), (3, .int (a1 &&& 3)), (0, .ref 66), (1, .int a1), (2, .int a2)], [], (q_kN s c n))) rfl rfl h3 ?_
      refine q_RP_seg (g2 := (58, [(5, .int ((8 : Int32) <<< (r1 &&& 31))), (4, .int ((s.1 4) (((24 : Int32) + (a1 &&& 3)).toNatClampNeg))), (3, .int (a1 &&& 3)), (0, .ref 66), (1, .int a1), (2, .int a2)], [.int 0], (q_kN s c n))) 1 (fun _ _ => rfl) ?_
      exact q_RP_ret rfl rfl rfl
    | false =>
      refine q_RP_cF ?_
      refine q_RP_rsF (g2 := (44, [(5, .int ((8 : Int32) <<< (r1 &&& 31))), (4, .int ((s.1 4) (((24 : Int32) + (a1 &&& 3)).toNatClampNeg))), (3, .int (a1 &&& 3)), (0, .ref 66), (1, .int a1), (2, .int a2)], [], (q_kN s c n))) rfl rfl h3 ?_
      refine q_RP_seg (g2 := (50, [(5, .int ((8 : Int32) <<< (r1 &&& 31))), (4, .int ((s.1 4) (((24 : Int32) + (a1 &&& 3)).toNatClampNeg))), (3, .int (a1 &&& 3)), (0, .ref 66), (1, .int a1), (2, .int a2)], [.int (((s.1 4) (((24 : Int32) + (a1 &&& 3)).toNatClampNeg)) + ((8 : Int32) <<< (r1 &&& 31))), .int a2], (q_kN s c n))) 4 (fun _ _ => rfl) ?_
      cases h4 : decide (a2 < ((s.1 4) (((24 : Int32) + (a1 &&& 3)).toNatClampNeg)) + ((8 : Int32) <<< (r1 &&& 31))) with
      | true =>
        refine q_RP_cT ?_
        refine q_RP_rsF (g2 := (53, [(5, .int ((8 : Int32) <<< (r1 &&& 31))), (4, .int ((s.1 4) (((24 : Int32) + (a1 &&& 3)).toNatClampNeg))), (3, .int (a1 &&& 3)), (0, .ref 66), (1, .int a1), (2, .int a2)], [], (q_kN s c n))) rfl rfl (q_d_geT h4) ?_
        refine q_RP_seg (g2 := (58, [(5, .int ((8 : Int32) <<< (r1 &&& 31))), (4, .int ((s.1 4) (((24 : Int32) + (a1 &&& 3)).toNatClampNeg))), (3, .int (a1 &&& 3)), (0, .ref 66), (1, .int a1), (2, .int a2)], [.int 1], (q_kN s c n))) 2 (fun _ _ => rfl) ?_
        exact q_RP_ret rfl rfl rfl
      | false =>
        refine q_RP_cF ?_
        refine q_RP_rsT (g2 := (57, [(5, .int ((8 : Int32) <<< (r1 &&& 31))), (4, .int ((s.1 4) (((24 : Int32) + (a1 &&& 3)).toNatClampNeg))), (3, .int (a1 &&& 3)), (0, .ref 66), (1, .int a1), (2, .int a2)], [], (q_kN s c n))) rfl rfl (q_d_geF h4) ?_
        refine q_RP_seg (g2 := (58, [(5, .int ((8 : Int32) <<< (r1 &&& 31))), (4, .int ((s.1 4) (((24 : Int32) + (a1 &&& 3)).toNatClampNeg))), (3, .int (a1 &&& 3)), (0, .ref 66), (1, .int a1), (2, .int a2)], [.int 0], (q_kN s c n))) 1 (fun _ _ => rfl) ?_
        exact q_RP_ret rfl rfl rfl
  | false =>
    refine q_RP_cF ?_
    refine q_RP_rsT (g2 := (57, [(5, .int ((8 : Int32) <<< (r1 &&& 31))), (4, .int ((s.1 4) (((24 : Int32) + (a1 &&& 3)).toNatClampNeg))), (3, .int (a1 &&& 3)), (0, .ref 66), (1, .int a1), (2, .int a2)], [], (q_kN s c n))) rfl rfl (q_d_neF h2) ?_
    refine q_RP_seg (g2 := (58, [(5, .int ((8 : Int32) <<< (r1 &&& 31))), (4, .int ((s.1 4) (((24 : Int32) + (a1 &&& 3)).toNatClampNeg))), (3, .int (a1 &&& 3)), (0, .ref 66), (1, .int a1), (2, .int a2)], [.int 0], (q_kN s c n))) 1 (fun _ _ => rfl) ?_
    exact q_RP_ret rfl rfl rfl
def dz_N116_66_24 (s : q_S) (v1 : Int32) (v2 : Int32) : Option (Bool) :=
  cond (decide (v2 < 20)) (cond (decide ((s.1 4) 1 = 0)) (q_let (dz_N115_66 s) fun r3 => cond (decide ((v1 + r3) - (v1 + r3) / 8 * 8 = 0)) (some true) (some false)) (cond (decide ((s.1 4) 1 = 3)) (some false) (cond (decide (v2 < 4)) (some true) (some false)))) ((dz_N117_66 s (v2 - 20) v1).bind fun r4 => cond r4 (some true) (some false))
set_option maxHeartbeats 4000000 in
theorem dzt_N116_66_24 (c n : Nat) (s : q_S) (v1 : Int32) (v2 : Int32) : q_RP q_TB0 2 115 (24, [(0, .ref 66), (1, .int v1), (2, .int v2)], [], (q_kN s c n)) (q_oB (q_kN s c n)) (dz_N116_66_24 s v1 v2) := by
  unfold dz_N116_66_24
  refine q_RP_seg (g2 := (27, [(0, .ref 66), (1, .int v1), (2, .int v2)], [.int 20, .int v2], (q_kN s c n))) 2 (fun _ _ => rfl) ?_
  cases h12 : decide (v2 < 20) with
  | true =>
    refine q_RP_cT ?_
    refine q_RP_rsT (g2 := (40, [(0, .ref 66), (1, .int v1), (2, .int v2)], [], (q_kN s c n))) rfl rfl h12 ?_
    refine q_RP_seg (g2 := (46, [(0, .ref 66), (1, .int v1), (2, .int v2)], [.int ((s.1 4) 1)], (q_kN s c n))) 4 (fun _ _ => rfl) ?_
    cases h13 : decide ((s.1 4) 1 = 0) with
    | true =>
      refine q_RP_cT ?_
      refine q_RP_rsF (g2 := (49, [(0, .ref 66), (1, .int v1), (2, .int v2)], [], (q_kN s c n))) rfl rfl (q_d_neT h13) ?_
      refine q_RP_seg (g2 := (51, [(0, .ref 66), (1, .int v1), (2, .int v2)], [.ref 66, .int v1], (q_kN s c n))) 2 (fun _ _ => rfl) ?_
      refine q_RP_call (v := (some (.int (dz_N115_66 s)))) (h2 := (q_kN s c n)) rfl rfl ((dzt_N115_66 s c n).le (Nat.le_of_ble_eq_true rfl)) ?_
      generalize dz_N115_66 s = r3
      refine q_RP_let ?_
      show q_RP _ _ _ (54, [(0, .ref 66), (1, .int v1), (2, .int v2)], [.int r3, .int v1], (q_kN s c n)) _ _
      refine q_RP_seg (g2 := (58, [(0, .ref 66), (1, .int v1), (2, .int v2)], [.int ((v1 + r3) - (v1 + r3) / 8 * 8)], (q_kN s c n))) 3 (fun _ _ => rfl) ?_
      cases h14 : decide ((v1 + r3) - (v1 + r3) / 8 * 8 = 0) with
      | true =>
        refine q_RP_cT ?_
        refine q_RP_rsF (g2 := (61, [(0, .ref 66), (1, .int v1), (2, .int v2)], [], (q_kN s c n))) rfl rfl (q_d_neT h14) ?_
        refine q_RP_seg (g2 := (66, [(0, .ref 66), (1, .int v1), (2, .int v2)], [.int 1], (q_kN s c n))) 2 (fun _ _ => rfl) ?_
        exact q_RP_ret rfl rfl rfl
      | false =>
        refine q_RP_cF ?_
        refine q_RP_rsT (g2 := (65, [(0, .ref 66), (1, .int v1), (2, .int v2)], [], (q_kN s c n))) rfl rfl (q_d_neF h14) ?_
        refine q_RP_seg (g2 := (66, [(0, .ref 66), (1, .int v1), (2, .int v2)], [.int 0], (q_kN s c n))) 1 (fun _ _ => rfl) ?_
        exact q_RP_ret rfl rfl rfl
    | false =>
      refine q_RP_cF ?_
      refine q_RP_rsT (g2 := (67, [(0, .ref 66), (1, .int v1), (2, .int v2)], [], (q_kN s c n))) rfl rfl (q_d_neF h13) ?_
      refine q_RP_seg (g2 := (73, [(0, .ref 66), (1, .int v1), (2, .int v2)], [.int ((s.1 4) 1)], (q_kN s c n))) 4 (fun _ _ => rfl) ?_
      refine q_RP_seg (g2 := (74, [(0, .ref 66), (1, .int v1), (2, .int v2)], [.int 3, .int ((s.1 4) 1)], (q_kN s c n))) 1 (fun _ _ => rfl) ?_
      cases h15 : decide ((s.1 4) 1 = 3) with
      | true =>
        refine q_RP_cT ?_
        refine q_RP_rsT (g2 := (86, [(0, .ref 66), (1, .int v1), (2, .int v2)], [], (q_kN s c n))) rfl rfl h15 ?_
        refine q_RP_seg (g2 := (87, [(0, .ref 66), (1, .int v1), (2, .int v2)], [.int 0], (q_kN s c n))) 1 (fun _ _ => rfl) ?_
        exact q_RP_ret rfl rfl rfl
      | false =>
        refine q_RP_cF ?_
        refine q_RP_rsF (g2 := (77, [(0, .ref 66), (1, .int v1), (2, .int v2)], [], (q_kN s c n))) rfl rfl h15 ?_
        refine q_RP_seg (g2 := (79, [(0, .ref 66), (1, .int v1), (2, .int v2)], [.int 4, .int v2], (q_kN s c n))) 2 (fun _ _ => rfl) ?_
        cases h16 : decide (v2 < 4) with
        | true =>
          refine q_RP_cT ?_
          refine q_RP_rsF (g2 := (82, [(0, .ref 66), (1, .int v1), (2, .int v2)], [], (q_kN s c n))) rfl rfl (q_d_geT h16) ?_
          refine q_RP_seg (g2 := (87, [(0, .ref 66), (1, .int v1), (2, .int v2)], [.int 1], (q_kN s c n))) 2 (fun _ _ => rfl) ?_
          exact q_RP_ret rfl rfl rfl
        | false =>
          refine q_RP_cF ?_
          refine q_RP_rsT (g2 := (86, [(0, .ref 66), (1, .int v1), (2, .int v2)], [], (q_kN s c n))) rfl rfl (q_d_geF h16) ?_
          refine q_RP_seg (g2 := (87, [(0, .ref 66), (1, .int v1), (2, .int v2)], [.int 0], (q_kN s c n))) 1 (fun _ _ => rfl) ?_
          exact q_RP_ret rfl rfl rfl
  | false =>
    refine q_RP_cF ?_
    refine q_RP_rsF (g2 := (30, [(0, .ref 66), (1, .int v1), (2, .int v2)], [], (q_kN s c n))) rfl rfl h12 ?_
    refine q_RP_seg (g2 := (36, [(0, .ref 66), (1, .int v1), (2, .int v2)], [.int v1, .int (v2 - 20), .ref 66], (q_kN s c n))) 5 (fun _ _ => rfl) ?_
    refine q_RP_bd fun r4 er4 => ?_
    refine q_RP_call (v := (some (.int (q_b r4)))) (h2 := (q_kN s c n)) rfl rfl ((dzt_N117_66 s c n (v2 - 20) v1 r4 er4).le (Nat.le_of_ble_eq_true rfl)) ?_
    show q_RP _ _ _ (39, [(0, .ref 66), (1, .int v1), (2, .int v2)], [.int (q_b r4)], (q_kN s c n)) _ _
    cases h17 : r4 with
    | true =>
      refine q_RP_cT ?_
      show q_RP _ _ _ (39, [(0, .ref 66), (1, .int v1), (2, .int v2)], [.int 1], (q_kN s c n)) _ _
      exact q_RP_ret rfl rfl rfl
    | false =>
      refine q_RP_cF ?_
      show q_RP _ _ _ (39, [(0, .ref 66), (1, .int v1), (2, .int v2)], [.int 0], (q_kN s c n)) _ _
      exact q_RP_ret rfl rfl rfl
def dz_N116_66 (s : q_S) (a1 : Int32) (a2 : Int32) : Option (Bool) :=
  cond (decide (a1 < 0)) (some false) (cond (decide (a1 < 32)) (cond (decide (a2 < 8)) (dz_N116_66_24 s a1 a2) (cond (decide (a2 < 20)) (some false) (dz_N116_66_24 s a1 a2))) (some false))
set_option maxHeartbeats 4000000 in
theorem dzt_N116_66 (s : q_S) (c n : Nat) (a1 : Int32) (a2 : Int32) (x : Bool) (h : dz_N116_66 s a1 a2 = some x) : q_Ca q_TB0 3 115 [.ref 66, .int a1, .int a2] (q_kN s c n) ((q_oB (q_kN s c n)) x) := by
  refine q_CaP_of (φ := (q_oB (q_kN s c n))) (Nat.le_of_ble_eq_true rfl) ?_ h
  clear h
  unfold dz_N116_66
  refine q_RP_seg (g2 := (1, [(0, .ref 66), (1, .int a1), (2, .int a2)], [.int a1], (q_kN s c n))) 1 (fun _ _ => rfl) ?_
  cases h9 : decide (a1 < 0) with
  | true =>
    refine q_RP_cT ?_
    refine q_RP_rsT (g2 := (22, [(0, .ref 66), (1, .int a1), (2, .int a2)], [], (q_kN s c n))) rfl rfl h9 ?_
    refine q_RP_seg (g2 := (23, [(0, .ref 66), (1, .int a1), (2, .int a2)], [.int 0], (q_kN s c n))) 1 (fun _ _ => rfl) ?_
    exact q_RP_ret rfl rfl rfl
  | false =>
    refine q_RP_cF ?_
    refine q_RP_rsF (g2 := (4, [(0, .ref 66), (1, .int a1), (2, .int a2)], [], (q_kN s c n))) rfl rfl h9 ?_
    refine q_RP_seg (g2 := (7, [(0, .ref 66), (1, .int a1), (2, .int a2)], [.int 32, .int a1], (q_kN s c n))) 2 (fun _ _ => rfl) ?_
    cases h10 : decide (a1 < 32) with
    | true =>
      refine q_RP_cT ?_
      refine q_RP_rsF (g2 := (10, [(0, .ref 66), (1, .int a1), (2, .int a2)], [], (q_kN s c n))) rfl rfl (q_d_geT h10) ?_
      refine q_RP_seg (g2 := (13, [(0, .ref 66), (1, .int a1), (2, .int a2)], [.int 8, .int a2], (q_kN s c n))) 2 (fun _ _ => rfl) ?_
      cases h11 : decide (a2 < 8) with
      | true =>
        refine q_RP_cT ?_
        refine q_RP_rsT (g2 := (24, [(0, .ref 66), (1, .int a1), (2, .int a2)], [], (q_kN s c n))) rfl rfl h11 ?_
        exact (dzt_N116_66_24 c n s a1 a2)
      | false =>
        refine q_RP_cF ?_
        refine q_RP_rsF (g2 := (16, [(0, .ref 66), (1, .int a1), (2, .int a2)], [], (q_kN s c n))) rfl rfl h11 ?_
        refine q_RP_seg (g2 := (19, [(0, .ref 66), (1, .int a1), (2, .int a2)], [.int 20, .int a2], (q_kN s c n))) 2 (fun _ _ => rfl) ?_
        cases h18 : decide (a2 < 20) with
        | true =>
          refine q_RP_cT ?_
          refine q_RP_rsF (g2 := (22, [(0, .ref 66), (1, .int a1), (2, .int a2)], [], (q_kN s c n))) rfl rfl (q_d_geT h18) ?_
          refine q_RP_seg (g2 := (23, [(0, .ref 66), (1, .int a1), (2, .int a2)], [.int 0], (q_kN s c n))) 1 (fun _ _ => rfl) ?_
          exact q_RP_ret rfl rfl rfl
        | false =>
          refine q_RP_cF ?_
          refine q_RP_rsT (g2 := (24, [(0, .ref 66), (1, .int a1), (2, .int a2)], [], (q_kN s c n))) rfl rfl (q_d_geF h18) ?_
          exact (dzt_N116_66_24 c n s a1 a2)
    | false =>
      refine q_RP_cF ?_
      refine q_RP_rsT (g2 := (22, [(0, .ref 66), (1, .int a1), (2, .int a2)], [], (q_kN s c n))) rfl rfl (q_d_geF h10) ?_
      refine q_RP_seg (g2 := (23, [(0, .ref 66), (1, .int a1), (2, .int a2)], [.int 0], (q_kN s c n))) 1 (fun _ _ => rfl) ?_
      exact q_RP_ret rfl rfl rfl
def dz_N102_65 (s : q_S) : Option (Bool) :=
  q_let (dz_N86_65 s) fun r4 => q_let (dz_N87_65 s) fun r5 => (dz_N116_66 s ((r4 / 24) - 4) r5).bind fun r6 => cond r6 (some true) (some false)
set_option maxHeartbeats 4000000 in
theorem dzt_N102_65 (s : q_S) (c n : Nat) (x : Bool) (h : dz_N102_65 s = some x) : q_Ca q_TB0 4 101 [.ref 65] (q_kN s c n) ((q_oB (q_kN s c n)) x) := by
  refine q_CaP_of (φ := (q_oB (q_kN s c n))) (Nat.le_of_ble_eq_true rfl) ?_ h
  clear h
  unfold dz_N102_65
  refine q_RP_seg (g2 := (5, [(0, .ref 65)], [.ref 65, .ref 66], (q_kN s c n))) 3 (fun _ _ => rfl) ?_
  refine q_RP_call (v := (some (.int (dz_N86_65 s)))) (h2 := (q_kN s c n)) rfl rfl ((dzt_N86_65 s c n).le (Nat.le_of_ble_eq_true rfl)) ?_
  generalize dz_N86_65 s = r4
  refine q_RP_let ?_
  show q_RP _ _ _ (8, [(0, .ref 65)], [.int r4, .ref 66], (q_kN s c n)) _ _
  refine q_RP_seg (g2 := (14, [(0, .ref 65)], [.ref 65, .int ((r4 / 24) - 4), .ref 66], (q_kN s c n))) 5 (fun _ _ => rfl) ?_
  refine q_RP_call (v := (some (.int (dz_N87_65 s)))) (h2 := (q_kN s c n)) rfl rfl ((dzt_N87_65 s c n).le (Nat.le_of_ble_eq_true rfl)) ?_
  generalize dz_N87_65 s = r5
  refine q_RP_let ?_
  show q_RP _ _ _ (17, [(0, .ref 65)], [.int r5, .int ((r4 / 24) - 4), .ref 66], (q_kN s c n)) _ _
  refine q_RP_bd fun r6 er6 => ?_
  refine q_RP_call (v := (some (.int (q_b r6)))) (h2 := (q_kN s c n)) rfl rfl ((dzt_N116_66 s c n ((r4 / 24) - 4) r5 r6 er6).le (Nat.le_of_ble_eq_true rfl)) ?_
  show q_RP _ _ _ (20, [(0, .ref 65)], [.int (q_b r6)], (q_kN s c n)) _ _
  cases h1 : r6 with
  | true =>
    refine q_RP_cT ?_
    show q_RP _ _ _ (20, [(0, .ref 65)], [.int 1], (q_kN s c n)) _ _
    exact q_RP_ret rfl rfl rfl
  | false =>
    refine q_RP_cF ?_
    show q_RP _ _ _ (20, [(0, .ref 65)], [.int 0], (q_kN s c n)) _ _
    exact q_RP_ret rfl rfl rfl
def dz_N114_66 (s : q_S) : Int32 :=
  (((s.1 4) 2) &&& 3)
set_option maxHeartbeats 4000000 in
theorem dzt_N114_66 (s : q_S) (c n : Nat) : q_Ca q_TB0 1 113 [.ref 66] (q_kN s c n) ((q_oP (q_kN s c n)) (dz_N114_66 s)) := by
  refine q_CaT_of (φ := (q_oP (q_kN s c n))) (Nat.le_of_ble_eq_true rfl) ?_
  unfold dz_N114_66
  refine q_RT_seg (g2 := (6, [(0, .ref 66)], [.int ((s.1 4) 2)], (q_kN s c n))) 4 (fun _ _ => rfl) ?_
  refine q_RT_seg (g2 := (8, [(0, .ref 66)], [.int (((s.1 4) 2) &&& 3)], (q_kN s c n))) 2 (fun _ _ => rfl) ?_
  exact q_RT_ret rfl rfl rfl
def dz_N120_66 (s : q_S) (a1 : Int32) : Int32 :=
  ((s.1 3) ((a1 &&& 4095).toNatClampNeg))
set_option maxHeartbeats 4000000 in
theorem dzt_N120_66 (s : q_S) (c n : Nat) (a1 : Int32) : q_Ca q_TB0 1 119 [.ref 66, .int a1] (q_kN s c n) ((q_oP (q_kN s c n)) (dz_N120_66 s a1)) := by
  refine q_CaT_of (φ := (q_oP (q_kN s c n))) (Nat.le_of_ble_eq_true rfl) ?_
  unfold dz_N120_66
  refine q_RT_seg (g2 := (9, [(0, .ref 66), (1, .int a1)], [.int (a1 &&& 4095), .ref 67], (q_kN s c n))) 5 (fun _ _ => rfl) ?_
  refine q_RT_rsT (g2 := (10, [(0, .ref 66), (1, .int a1)], [.int ((s.1 3) ((a1 &&& 4095).toNatClampNeg))], (q_kN s c n))) rfl rfl (q_in_bd (x := a1 &&& 4095) (n := 4096) (U := 4095) (L := 0) (q_and_lo a1 4095) (q_and_hi a1 4095 4095)) ?_
  exact q_RT_ret rfl rfl rfl
def dz_N119_66 (s : q_S) (a1 : Int32) (a2 : Int32) : Int32 :=
  q_let (dz_N114_66 s) fun r1 => q_let (dz_N115_66 s) fun r2 => q_let (dz_N120_66 s (((256 * ((s.1 4) 7)) + (4 * ((a2 + r2) - (a2 + r2) / 32 * 32))) + (((a1 + r1) - (a1 + r1) / 32 * 32) / 8))) fun r3 => cond (decide ((s.1 4) 1 < 0)) (0) (cond (decide (2 < (s.1 4) 1)) (0) (cond (decide ((s.1 4) 1 = 0)) (q_let (dz_N120_66 s (((256 * ((s.1 4) 7)) + (8 * (((a2 + r2) - (a2 + r2) / 32 * 32) / 8))) + (((a1 + r1) - (a1 + r1) / 32 * 32) / 4))) fun r4 => q_let (dz_N120_66 s (((256 * ((s.1 4) 8)) + (8 * r4)) + (((a2 + r2) - (a2 + r2) / 32 * 32) - ((a2 + r2) - (a2 + r2) / 32 * 32) / 8 * 8))) fun r5 => ((r5 >>> (((3 : Int32) - (((a1 + r1) - (a1 + r1) / 32 * 32) - ((a1 + r1) - (a1 + r1) / 32 * 32) / 4 * 4)) &&& 31)) &&& 1)) (cond (decide ((s.1 4) 1 = 1)) (((r3 >>> (((7 : Int32) - (((a1 + r1) - (a1 + r1) / 32 * 32) - ((a1 + r1) - (a1 + r1) / 32 * 32) / 8 * 8)) &&& 31)) &&& 1)) (((r3 >>> (((6 : Int32) - (2 * ((((a1 + r1) - (a1 + r1) / 32 * 32) - ((a1 + r1) - (a1 + r1) / 32 * 32) / 8 * 8) / 2))) &&& 31)) &&& 3)))))
set_option maxHeartbeats 4000000 in
theorem dzt_N119_66 (s : q_S) (c n : Nat) (a1 : Int32) (a2 : Int32) : q_Ca q_TB0 2 118 [.ref 66, .int a1, .int a2] (q_kN s c n) ((q_oP (q_kN s c n)) (dz_N119_66 s a1 a2)) := by
  refine q_CaT_of (φ := (q_oP (q_kN s c n))) (Nat.le_of_ble_eq_true rfl) ?_
  unfold dz_N119_66
  refine q_RT_seg (g2 := (2, [(0, .ref 66), (1, .int a1), (2, .int a2)], [.ref 66, .int a1], (q_kN s c n))) 2 (fun _ _ => rfl) ?_
  refine q_RT_call (v := (some (.int (dz_N114_66 s)))) (h2 := (q_kN s c n)) rfl rfl ((dzt_N114_66 s c n).le (Nat.le_of_ble_eq_true rfl)) ?_
  generalize dz_N114_66 s = r1
  refine q_RT_let ?_
  show q_RT _ _ _ (5, [(0, .ref 66), (1, .int a1), (2, .int a2)], [.int r1, .int a1], (q_kN s c n)) _ _
  refine q_RT_seg (g2 := (12, [(3, .int ((a1 + r1) - (a1 + r1) / 32 * 32)), (0, .ref 66), (1, .int a1), (2, .int a2)], [.ref 66, .int a2], (q_kN s c n))) 6 (fun _ _ => rfl) ?_
  refine q_RT_call (v := (some (.int (dz_N115_66 s)))) (h2 := (q_kN s c n)) rfl rfl ((dzt_N115_66 s c n).le (Nat.le_of_ble_eq_true rfl)) ?_
  generalize dz_N115_66 s = r2
  refine q_RT_let ?_
  show q_RT _ _ _ (15, [(3, .int ((a1 + r1) - (a1 + r1) / 32 * 32)), (0, .ref 66), (1, .int a1), (2, .int a2)], [.int r2, .int a2], (q_kN s c n)) _ _
  refine q_RT_seg (g2 := (31, [(4, .int ((a2 + r2) - (a2 + r2) / 32 * 32)), (3, .int ((a1 + r1) - (a1 + r1) / 32 * 32)), (0, .ref 66), (1, .int a1), (2, .int a2)], [.int ((s.1 4) 7), .int 256], (q_kN s c n))) 9 (fun _ _ => rfl) ?_
  refine q_RT_seg (g2 := (47, [(5, .int (256 * ((s.1 4) 7))), (4, .int ((a2 + r2) - (a2 + r2) / 32 * 32)), (3, .int ((a1 + r1) - (a1 + r1) / 32 * 32)), (0, .ref 66), (1, .int a1), (2, .int a2)], [.int (((256 * ((s.1 4) 7)) + (4 * ((a2 + r2) - (a2 + r2) / 32 * 32))) + (((a1 + r1) - (a1 + r1) / 32 * 32) / 8)), .ref 66], (q_kN s c n))) 12 (fun _ _ => rfl) ?_
  refine q_RT_call (v := (some (.int (dz_N120_66 s (((256 * ((s.1 4) 7)) + (4 * ((a2 + r2) - (a2 + r2) / 32 * 32))) + (((a1 + r1) - (a1 + r1) / 32 * 32) / 8)))))) (h2 := (q_kN s c n)) rfl rfl ((dzt_N120_66 s c n (((256 * ((s.1 4) 7)) + (4 * ((a2 + r2) - (a2 + r2) / 32 * 32))) + (((a1 + r1) - (a1 + r1) / 32 * 32) / 8))).le (Nat.le_of_ble_eq_true rfl)) ?_
  generalize dz_N120_66 s (((256 * ((s.1 4) 7)) + (4 * ((a2 + r2) - (a2 + r2) / 32 * 32))) + (((a1 + r1) - (a1 + r1) / 32 * 32) / 8)) = r3
  refine q_RT_let ?_
  show q_RT _ _ _ (50, [(5, .int (256 * ((s.1 4) 7))), (4, .int ((a2 + r2) - (a2 + r2) / 32 * 32)), (3, .int ((a1 + r1) - (a1 + r1) / 32 * 32)), (0, .ref 66), (1, .int a1), (2, .int a2)], [.int r3], (q_kN s c n)) _ _
  refine q_RT_seg (g2 := (58, [(6, .int r3), (5, .int (256 * ((s.1 4) 7))), (4, .int ((a2 + r2) - (a2 + r2) / 32 * 32)), (3, .int ((a1 + r1) - (a1 + r1) / 32 * 32)), (0, .ref 66), (1, .int a1), (2, .int a2)], [.int ((s.1 4) 1)], (q_kN s c n))) 5 (fun _ _ => rfl) ?_
  cases h1 : decide ((s.1 4) 1 < 0) with
  | true =>
    refine q_RT_cT ?_
    refine q_RT_st1 (g2 := (171, [(6, .int r3), (5, .int (256 * ((s.1 4) 7))), (4, .int ((a2 + r2) - (a2 + r2) / 32 * 32)), (3, .int ((a1 + r1) - (a1 + r1) / 32 * 32)), (0, .ref 66), (1, .int a1), (2, .int a2)], [], (q_kN s c n))) rfl (if_pos (Or.inl (Int32.lt_iff_toInt_lt.mp (of_decide_eq_true h1)))) ?_
    refine q_RT_seg (g2 := (172, [(6, .int r3), (5, .int (256 * ((s.1 4) 7))), (4, .int ((a2 + r2) - (a2 + r2) / 32 * 32)), (3, .int ((a1 + r1) - (a1 + r1) / 32 * 32)), (0, .ref 66), (1, .int a1), (2, .int a2)], [.int 0], (q_kN s c n))) 1 (fun _ _ => rfl) ?_
    exact q_RT_ret rfl rfl rfl
  | false =>
    refine q_RT_cF ?_
    cases h2 : decide (2 < (s.1 4) 1) with
    | true =>
      refine q_RT_cT ?_
      refine q_RT_st1 (g2 := (171, [(6, .int r3), (5, .int (256 * ((s.1 4) 7))), (4, .int ((a2 + r2) - (a2 + r2) / 32 * 32)), (3, .int ((a1 + r1) - (a1 + r1) / 32 * 32)), (0, .ref 66), (1, .int a1), (2, .int a2)], [], (q_kN s c n))) rfl (if_pos (Or.inr (Int32.lt_iff_toInt_lt.mp (of_decide_eq_true h2)))) ?_
      refine q_RT_seg (g2 := (172, [(6, .int r3), (5, .int (256 * ((s.1 4) 7))), (4, .int ((a2 + r2) - (a2 + r2) / 32 * 32)), (3, .int ((a1 + r1) - (a1 + r1) / 32 * 32)), (0, .ref 66), (1, .int a1), (2, .int a2)], [.int 0], (q_kN s c n))) 1 (fun _ _ => rfl) ?_
      exact q_RT_ret rfl rfl rfl
    | false =>
      refine q_RT_cF ?_
      cases h3 : decide ((s.1 4) 1 = 0) with
      | true =>
        refine q_RT_cT ?_
        refine q_RT_st1 (g2 := (84, [(6, .int r3), (5, .int (256 * ((s.1 4) 7))), (4, .int ((a2 + r2) - (a2 + r2) / 32 * 32)), (3, .int ((a1 + r1) - (a1 + r1) / 32 * 32)), (0, .ref 66), (1, .int a1), (2, .int a2)], [], (q_kN s c n))) rfl (by rw [of_decide_eq_true h3]; rfl) ?_
        refine q_RT_seg (g2 := (100, [(6, .int r3), (5, .int (256 * ((s.1 4) 7))), (4, .int ((a2 + r2) - (a2 + r2) / 32 * 32)), (3, .int ((a1 + r1) - (a1 + r1) / 32 * 32)), (0, .ref 66), (1, .int a1), (2, .int a2)], [.int (((256 * ((s.1 4) 7)) + (8 * (((a2 + r2) - (a2 + r2) / 32 * 32) / 8))) + (((a1 + r1) - (a1 + r1) / 32 * 32) / 4)), .ref 66], (q_kN s c n))) 12 (fun _ _ => rfl) ?_
        refine q_RT_call (v := (some (.int (dz_N120_66 s (((256 * ((s.1 4) 7)) + (8 * (((a2 + r2) - (a2 + r2) / 32 * 32) / 8))) + (((a1 + r1) - (a1 + r1) / 32 * 32) / 4)))))) (h2 := (q_kN s c n)) rfl rfl ((dzt_N120_66 s c n (((256 * ((s.1 4) 7)) + (8 * (((a2 + r2) - (a2 + r2) / 32 * 32) / 8))) + (((a1 + r1) - (a1 + r1) / 32 * 32) / 4))).le (Nat.le_of_ble_eq_true rfl)) ?_
        generalize dz_N120_66 s (((256 * ((s.1 4) 7)) + (8 * (((a2 + r2) - (a2 + r2) / 32 * 32) / 8))) + (((a1 + r1) - (a1 + r1) / 32 * 32) / 4)) = r4
        refine q_RT_let ?_
        show q_RT _ _ _ (103, [(6, .int r3), (5, .int (256 * ((s.1 4) 7))), (4, .int ((a2 + r2) - (a2 + r2) / 32 * 32)), (3, .int ((a1 + r1) - (a1 + r1) / 32 * 32)), (0, .ref 66), (1, .int a1), (2, .int a2)], [.int r4], (q_kN s c n)) _ _
        refine q_RT_seg (g2 := (116, [(7, .int r4), (6, .int r3), (5, .int (256 * ((s.1 4) 7))), (4, .int ((a2 + r2) - (a2 + r2) / 32 * 32)), (3, .int ((a1 + r1) - (a1 + r1) / 32 * 32)), (0, .ref 66), (1, .int a1), (2, .int a2)], [.int ((s.1 4) 8), .int 256, .ref 66], (q_kN s c n))) 7 (fun _ _ => rfl) ?_
        refine q_RT_seg (g2 := (129, [(7, .int r4), (6, .int r3), (5, .int (256 * ((s.1 4) 7))), (4, .int ((a2 + r2) - (a2 + r2) / 32 * 32)), (3, .int ((a1 + r1) - (a1 + r1) / 32 * 32)), (0, .ref 66), (1, .int a1), (2, .int a2)], [.int (((256 * ((s.1 4) 8)) + (8 * r4)) + (((a2 + r2) - (a2 + r2) / 32 * 32) - ((a2 + r2) - (a2 + r2) / 32 * 32) / 8 * 8)), .ref 66], (q_kN s c n))) 9 (fun _ _ => rfl) ?_
        refine q_RT_call (v := (some (.int (dz_N120_66 s (((256 * ((s.1 4) 8)) + (8 * r4)) + (((a2 + r2) - (a2 + r2) / 32 * 32) - ((a2 + r2) - (a2 + r2) / 32 * 32) / 8 * 8)))))) (h2 := (q_kN s c n)) rfl rfl ((dzt_N120_66 s c n (((256 * ((s.1 4) 8)) + (8 * r4)) + (((a2 + r2) - (a2 + r2) / 32 * 32) - ((a2 + r2) - (a2 + r2) / 32 * 32) / 8 * 8))).le (Nat.le_of_ble_eq_true rfl)) ?_
        generalize dz_N120_66 s (((256 * ((s.1 4) 8)) + (8 * r4)) + (((a2 + r2) - (a2 + r2) / 32 * 32) - ((a2 + r2) - (a2 + r2) / 32 * 32) / 8 * 8)) = r5
        refine q_RT_let ?_
        show q_RT _ _ _ (132, [(7, .int r4), (6, .int r3), (5, .int (256 * ((s.1 4) 7))), (4, .int ((a2 + r2) - (a2 + r2) / 32 * 32)), (3, .int ((a1 + r1) - (a1 + r1) / 32 * 32)), (0, .ref 66), (1, .int a1), (2, .int a2)], [.int r5], (q_kN s c n)) _ _
        refine q_RT_seg (g2 := (140, [(7, .int r4), (6, .int r3), (5, .int (256 * ((s.1 4) 7))), (4, .int ((a2 + r2) - (a2 + r2) / 32 * 32)), (3, .int ((a1 + r1) - (a1 + r1) / 32 * 32)), (0, .ref 66), (1, .int a1), (2, .int a2)], [.int ((r5 >>> (((3 : Int32) - (((a1 + r1) - (a1 + r1) / 32 * 32) - ((a1 + r1) - (a1 + r1) / 32 * 32) / 4 * 4)) &&& 31)) &&& 1)], (q_kN s c n))) 8 (fun _ _ => rfl) ?_
        exact q_RT_ret rfl rfl rfl
      | false =>
        refine q_RT_cF ?_
        cases h4 : decide ((s.1 4) 1 = 1) with
        | true =>
          refine q_RT_cT ?_
          refine q_RT_st1 (g2 := (141, [(6, .int r3), (5, .int (256 * ((s.1 4) 7))), (4, .int ((a2 + r2) - (a2 + r2) / 32 * 32)), (3, .int ((a1 + r1) - (a1 + r1) / 32 * 32)), (0, .ref 66), (1, .int a1), (2, .int a2)], [], (q_kN s c n))) rfl (by rw [of_decide_eq_true h4]; rfl) ?_
          refine q_RT_seg (g2 := (153, [(6, .int r3), (5, .int (256 * ((s.1 4) 7))), (4, .int ((a2 + r2) - (a2 + r2) / 32 * 32)), (3, .int ((a1 + r1) - (a1 + r1) / 32 * 32)), (0, .ref 66), (1, .int a1), (2, .int a2)], [.int ((r3 >>> (((7 : Int32) - (((a1 + r1) - (a1 + r1) / 32 * 32) - ((a1 + r1) - (a1 + r1) / 32 * 32) / 8 * 8)) &&& 31)) &&& 1)], (q_kN s c n))) 9 (fun _ _ => rfl) ?_
          exact q_RT_ret rfl rfl rfl
        | false =>
          refine q_RT_cF ?_
          have h5 : (s.1 4) 1 = 2 := Int32.toInt_inj.mp (by have e0 := q_neI h3 (n := 0); have e1 := q_neI h4 (n := 1); have l1 : 0 ≤ ((s.1 4) 1).toInt := q_lo1 h1; have l2 : ((s.1 4) 1).toInt ≤ 2 := q_hi2 h2; show ((s.1 4) 1).toInt = 2; omega)
          refine q_RT_st1 (g2 := (154, [(6, .int r3), (5, .int (256 * ((s.1 4) 7))), (4, .int ((a2 + r2) - (a2 + r2) / 32 * 32)), (3, .int ((a1 + r1) - (a1 + r1) / 32 * 32)), (0, .ref 66), (1, .int a1), (2, .int a2)], [], (q_kN s c n))) rfl (by rw [h5]; rfl) ?_
          refine q_RT_seg (g2 := (170, [(6, .int r3), (5, .int (256 * ((s.1 4) 7))), (4, .int ((a2 + r2) - (a2 + r2) / 32 * 32)), (3, .int ((a1 + r1) - (a1 + r1) / 32 * 32)), (0, .ref 66), (1, .int a1), (2, .int a2)], [.int ((r3 >>> (((6 : Int32) - (2 * ((((a1 + r1) - (a1 + r1) / 32 * 32) - ((a1 + r1) - (a1 + r1) / 32 * 32) / 8 * 8) / 2))) &&& 31)) &&& 3)], (q_kN s c n))) 13 (fun _ _ => rfl) ?_
          exact q_RT_ret rfl rfl rfl
def dz_N122_66_5 (m : Nat) : q_S → Int32 → Int32 → Int32 → Int32 → Option (Int32) := Nat.rec (motive := fun _ => q_S → Int32 → Int32 → Int32 → Int32 → Option (Int32)) (fun _ _ _ _ _ => none) (fun _ k5 s v1 v2 v3 v4 =>
  cond (decide (v4 < 4)) (q_let (dz_N118_66 s 18 v4) fun r1 => cond (q_in ((20 : Int32) + v4) 48) (q_let ((v1 - ((s.1 4) (((20 : Int32) + v4).toNatClampNeg))) >>> (r1 &&& 31)) fun x2 => cond (q_in ((24 : Int32) + v4) 48) (q_let ((v2 - ((s.1 4) (((24 : Int32) + v4).toNatClampNeg))) >>> (r1 &&& 31)) fun x3 => q_let (dz_N118_66 s 17 v4) fun r4 => cond (decide (r4 = 1)) (cond (decide (x2 < 0)) (k5 s v1 v2 v3 (v4 + 1)) (cond (decide (x2 < 8)) (cond (decide (x3 < 0)) (k5 s v1 v2 v3 (v4 + 1)) (cond (decide (x3 < 8)) (q_let (dz_N120_66 s ((((256 * ((s.1 4) 7)) + 128) + (8 * v4)) + x3)) fun r5 => q_let (v3 ||| (((r5 >>> (((7 : Int32) - x2) &&& 31)) &&& 1) <<< (v4 &&& 31))) fun x6 => k5 s v1 v2 x6 (v4 + 1)) (k5 s v1 v2 v3 (v4 + 1)))) (k5 s v1 v2 v3 (v4 + 1)))) (k5 s v1 v2 v3 (v4 + 1))) none) none) (some v3)) m
theorem dzs_N122_66_5 (m : Nat) (s : q_S) (v1 : Int32) (v2 : Int32) (v3 : Int32) (v4 : Int32) : dz_N122_66_5 (m + 1) s v1 v2 v3 v4 = (fun k5 : q_S → Int32 → Int32 → Int32 → Int32 → Option (Int32) =>
  cond (decide (v4 < 4)) (q_let (dz_N118_66 s 18 v4) fun r1 => cond (q_in ((20 : Int32) + v4) 48) (q_let ((v1 - ((s.1 4) (((20 : Int32) + v4).toNatClampNeg))) >>> (r1 &&& 31)) fun x2 => cond (q_in ((24 : Int32) + v4) 48) (q_let ((v2 - ((s.1 4) (((24 : Int32) + v4).toNatClampNeg))) >>> (r1 &&& 31)) fun x3 => q_let (dz_N118_66 s 17 v4) fun r4 => cond (decide (r4 = 1)) (cond (decide (x2 < 0)) (k5 s v1 v2 v3 (v4 + 1)) (cond (decide (x2 < 8)) (cond (decide (x3 < 0)) (k5 s v1 v2 v3 (v4 + 1)) (cond (decide (x3 < 8)) (q_let (dz_N120_66 s ((((256 * ((s.1 4) 7)) + 128) + (8 * v4)) + x3)) fun r5 => q_let (v3 ||| (((r5 >>> (((7 : Int32) - x2) &&& 31)) &&& 1) <<< (v4 &&& 31))) fun x6 => k5 s v1 v2 x6 (v4 + 1)) (k5 s v1 v2 v3 (v4 + 1)))) (k5 s v1 v2 v3 (v4 + 1)))) (k5 s v1 v2 v3 (v4 + 1))) none) none) (some v3)) (dz_N122_66_5 m) := rfl
set_option maxHeartbeats 4000000 in
theorem dzt_N122_66_5 (c n : Nat) (s : q_S) : ∀ (m : Nat) (v1 : Int32) (v2 : Int32) (v3 : Int32) (v4 : Int32), q_RP q_TB0 1 121 (5, [(0, .ref 66), (1, .int v1), (2, .int v2), (3, .int v3), (4, .int v4)], [], (q_kN s c n)) (q_oP (q_kN s c n)) (dz_N122_66_5 m s v1 v2 v3 v4) := by
  intro m
  induction m with
  | zero => intro v1 v2 v3 v4; exact q_RP_no
  | succ m ih =>
    intro v1 v2 v3 v4
    have hk5 := ih
    clear ih
    rw [dzs_N122_66_5]
    generalize dz_N122_66_5 m = k5 at hk5 ⊢
    dsimp only
    refine q_RP_seg (g2 := (8, [(0, .ref 66), (1, .int v1), (2, .int v2), (3, .int v3), (4, .int v4)], [.int 4, .int v4], (q_kN s c n))) 2 (fun _ _ => rfl) ?_
    cases h1 : decide (v4 < 4) with
    | true =>
      refine q_RP_cT ?_
      refine q_RP_rsF (g2 := (11, [(0, .ref 66), (1, .int v1), (2, .int v2), (3, .int v3), (4, .int v4)], [], (q_kN s c n))) rfl rfl (q_d_geT h1) ?_
      refine q_RP_seg (g2 := (16, [(0, .ref 66), (1, .int v1), (2, .int v2), (3, .int v3), (4, .int v4)], [.int v4, .int 18, .ref 66], (q_kN s c n))) 3 (fun _ _ => rfl) ?_
      refine q_RP_call (v := (some (.int (dz_N118_66 s 18 v4)))) (h2 := (q_kN s c n)) rfl rfl ((dzt_N118_66 s c n 18 v4).le (Nat.le_of_ble_eq_true rfl)) ?_
      generalize dz_N118_66 s 18 v4 = r1
      refine q_RP_let ?_
      show q_RP _ _ _ (19, [(0, .ref 66), (1, .int v1), (2, .int v2), (3, .int v3), (4, .int v4)], [.int r1], (q_kN s c n)) _ _
      refine q_RP_seg (g2 := (31, [(5, .int r1), (0, .ref 66), (1, .int v1), (2, .int v2), (3, .int v3), (4, .int v4)], [.int ((20 : Int32) + v4), .ref 68, .int v1], (q_kN s c n))) 7 (fun _ _ => rfl) ?_
      refine q_RP_as fun i2 => ?_
      refine q_RP_rsT (g2 := (32, [(5, .int r1), (0, .ref 66), (1, .int v1), (2, .int v2), (3, .int v3), (4, .int v4)], [.int ((s.1 4) (((20 : Int32) + v4).toNatClampNeg)), .int v1], (q_kN s c n))) rfl rfl i2 ?_
      refine q_RP_seg (g2 := (36, [(5, .int r1), (0, .ref 66), (1, .int v1), (2, .int v2), (3, .int v3), (4, .int v4)], [.int ((v1 - ((s.1 4) (((20 : Int32) + v4).toNatClampNeg))) >>> (r1 &&& 31))], (q_kN s c n))) 3 (fun _ _ => rfl) ?_
      generalize ((v1 - ((s.1 4) (((20 : Int32) + v4).toNatClampNeg))) >>> (r1 &&& 31)) = x2
      refine q_RP_let ?_
      show q_RP _ _ _ (36, [(5, .int r1), (0, .ref 66), (1, .int v1), (2, .int v2), (3, .int v3), (4, .int v4)], [.int x2], (q_kN s c n)) _ _
      refine q_RP_seg (g2 := (48, [(6, .int x2), (5, .int r1), (0, .ref 66), (1, .int v1), (2, .int v2), (3, .int v3), (4, .int v4)], [.int ((24 : Int32) + v4), .ref 68, .int v2], (q_kN s c n))) 7 (fun _ _ => rfl) ?_
      refine q_RP_as fun i3 => ?_
      refine q_RP_rsT (g2 := (49, [(6, .int x2), (5, .int r1), (0, .ref 66), (1, .int v1), (2, .int v2), (3, .int v3), (4, .int v4)], [.int ((s.1 4) (((24 : Int32) + v4).toNatClampNeg)), .int v2], (q_kN s c n))) rfl rfl i3 ?_
      refine q_RP_seg (g2 := (53, [(6, .int x2), (5, .int r1), (0, .ref 66), (1, .int v1), (2, .int v2), (3, .int v3), (4, .int v4)], [.int ((v2 - ((s.1 4) (((24 : Int32) + v4).toNatClampNeg))) >>> (r1 &&& 31))], (q_kN s c n))) 3 (fun _ _ => rfl) ?_
      generalize ((v2 - ((s.1 4) (((24 : Int32) + v4).toNatClampNeg))) >>> (r1 &&& 31)) = x3
      refine q_RP_let ?_
      show q_RP _ _ _ (53, [(6, .int x2), (5, .int r1), (0, .ref 66), (1, .int v1), (2, .int v2), (3, .int v3), (4, .int v4)], [.int x3], (q_kN s c n)) _ _
      refine q_RP_seg (g2 := (60, [(7, .int x3), (6, .int x2), (5, .int r1), (0, .ref 66), (1, .int v1), (2, .int v2), (3, .int v3), (4, .int v4)], [.int v4, .int 17, .ref 66], (q_kN s c n))) 4 (fun _ _ => rfl) ?_
      refine q_RP_call (v := (some (.int (dz_N118_66 s 17 v4)))) (h2 := (q_kN s c n)) rfl rfl ((dzt_N118_66 s c n 17 v4).le (Nat.le_of_ble_eq_true rfl)) ?_
      generalize dz_N118_66 s 17 v4 = r4
      refine q_RP_let ?_
      show q_RP _ _ _ (63, [(7, .int x3), (6, .int x2), (5, .int r1), (0, .ref 66), (1, .int v1), (2, .int v2), (3, .int v3), (4, .int v4)], [.int r4], (q_kN s c n)) _ _
      refine q_RP_seg (g2 := (64, [(7, .int x3), (6, .int x2), (5, .int r1), (0, .ref 66), (1, .int v1), (2, .int v2), (3, .int v3), (4, .int v4)], [.int 1, .int r4], (q_kN s c n))) 1 (fun _ _ => rfl) ?_
      cases h4 : decide (r4 = 1) with
      | true =>
        refine q_RP_cT ?_
        refine q_RP_rsF (g2 := (67, [(7, .int x3), (6, .int x2), (5, .int r1), (0, .ref 66), (1, .int v1), (2, .int v2), (3, .int v3), (4, .int v4)], [], (q_kN s c n))) rfl rfl (q_d_neT h4) ?_
        refine q_RP_seg (g2 := (69, [(7, .int x3), (6, .int x2), (5, .int r1), (0, .ref 66), (1, .int v1), (2, .int v2), (3, .int v3), (4, .int v4)], [.int x2], (q_kN s c n))) 1 (fun _ _ => rfl) ?_
        cases h5 : decide (x2 < 0) with
        | true =>
          refine q_RP_cT ?_
          refine q_RP_rsT (g2 := (137, [(7, .int x3), (6, .int x2), (5, .int r1), (0, .ref 66), (1, .int v1), (2, .int v2), (3, .int v3), (4, .int v4)], [], (q_kN s c n))) rfl rfl h5 ?_
          refine q_RP_seg (g2 := (5, [(4, .int (v4 + 1)), (7, .int x3), (6, .int x2), (5, .int r1), (0, .ref 66), (1, .int v1), (2, .int v2), (3, .int v3)], [], (q_kN s c n))) 2 (fun _ _ => rfl) ?_
          exact q_RP_xt (q_xt_mk (q_mn1 4 rfl (q_mn1 5 rfl (q_mn1 6 rfl (q_mn1 7 rfl (q_mn1 0 rfl q_mn0))))) rfl) (hk5 v1 v2 v3 (v4 + 1))
        | false =>
          refine q_RP_cF ?_
          refine q_RP_rsF (g2 := (72, [(7, .int x3), (6, .int x2), (5, .int r1), (0, .ref 66), (1, .int v1), (2, .int v2), (3, .int v3), (4, .int v4)], [], (q_kN s c n))) rfl rfl h5 ?_
          refine q_RP_seg (g2 := (76, [(7, .int x3), (6, .int x2), (5, .int r1), (0, .ref 66), (1, .int v1), (2, .int v2), (3, .int v3), (4, .int v4)], [.int 8, .int x2], (q_kN s c n))) 2 (fun _ _ => rfl) ?_
          cases h6 : decide (x2 < 8) with
          | true =>
            refine q_RP_cT ?_
            refine q_RP_rsF (g2 := (79, [(7, .int x3), (6, .int x2), (5, .int r1), (0, .ref 66), (1, .int v1), (2, .int v2), (3, .int v3), (4, .int v4)], [], (q_kN s c n))) rfl rfl (q_d_geT h6) ?_
            refine q_RP_seg (g2 := (81, [(7, .int x3), (6, .int x2), (5, .int r1), (0, .ref 66), (1, .int v1), (2, .int v2), (3, .int v3), (4, .int v4)], [.int x3], (q_kN s c n))) 1 (fun _ _ => rfl) ?_
            cases h7 : decide (x3 < 0) with
            | true =>
              refine q_RP_cT ?_
              refine q_RP_rsT (g2 := (137, [(7, .int x3), (6, .int x2), (5, .int r1), (0, .ref 66), (1, .int v1), (2, .int v2), (3, .int v3), (4, .int v4)], [], (q_kN s c n))) rfl rfl h7 ?_
              refine q_RP_seg (g2 := (5, [(4, .int (v4 + 1)), (7, .int x3), (6, .int x2), (5, .int r1), (0, .ref 66), (1, .int v1), (2, .int v2), (3, .int v3)], [], (q_kN s c n))) 2 (fun _ _ => rfl) ?_
              exact q_RP_xt (q_xt_mk (q_mn1 4 rfl (q_mn1 5 rfl (q_mn1 6 rfl (q_mn1 7 rfl (q_mn1 0 rfl q_mn0))))) rfl) (hk5 v1 v2 v3 (v4 + 1))
            | false =>
              refine q_RP_cF ?_
              refine q_RP_rsF (g2 := (84, [(7, .int x3), (6, .int x2), (5, .int r1), (0, .ref 66), (1, .int v1), (2, .int v2), (3, .int v3), (4, .int v4)], [], (q_kN s c n))) rfl rfl h7 ?_
              refine q_RP_seg (g2 := (88, [(7, .int x3), (6, .int x2), (5, .int r1), (0, .ref 66), (1, .int v1), (2, .int v2), (3, .int v3), (4, .int v4)], [.int 8, .int x3], (q_kN s c n))) 2 (fun _ _ => rfl) ?_
              cases h8 : decide (x3 < 8) with
              | true =>
                refine q_RP_cT ?_
                refine q_RP_rsF (g2 := (91, [(7, .int x3), (6, .int x2), (5, .int r1), (0, .ref 66), (1, .int v1), (2, .int v2), (3, .int v3), (4, .int v4)], [], (q_kN s c n))) rfl rfl (q_d_geT h8) ?_
                refine q_RP_seg (g2 := (102, [(7, .int x3), (6, .int x2), (5, .int r1), (0, .ref 66), (1, .int v1), (2, .int v2), (3, .int v3), (4, .int v4)], [.int ((s.1 4) 7), .int 256, .ref 66], (q_kN s c n))) 6 (fun _ _ => rfl) ?_
                refine q_RP_seg (g2 := (116, [(7, .int x3), (6, .int x2), (5, .int r1), (0, .ref 66), (1, .int v1), (2, .int v2), (3, .int v3), (4, .int v4)], [.int ((((256 * ((s.1 4) 7)) + 128) + (8 * v4)) + x3), .ref 66], (q_kN s c n))) 9 (fun _ _ => rfl) ?_
                refine q_RP_call (v := (some (.int (dz_N120_66 s ((((256 * ((s.1 4) 7)) + 128) + (8 * v4)) + x3))))) (h2 := (q_kN s c n)) rfl rfl ((dzt_N120_66 s c n ((((256 * ((s.1 4) 7)) + 128) + (8 * v4)) + x3)).le (Nat.le_of_ble_eq_true rfl)) ?_
                generalize dz_N120_66 s ((((256 * ((s.1 4) 7)) + 128) + (8 * v4)) + x3) = r5
                refine q_RP_let ?_
                show q_RP _ _ _ (119, [(7, .int x3), (6, .int x2), (5, .int r1), (0, .ref 66), (1, .int v1), (2, .int v2), (3, .int v3), (4, .int v4)], [.int r5], (q_kN s c n)) _ _
                refine q_RP_seg (g2 := (136, [(8, .int r5), (7, .int x3), (6, .int x2), (5, .int r1), (0, .ref 66), (1, .int v1), (2, .int v2), (3, .int v3), (4, .int v4)], [.int (v3 ||| (((r5 >>> (((7 : Int32) - x2) &&& 31)) &&& 1) <<< (v4 &&& 31)))], (q_kN s c n))) 12 (fun _ _ => rfl) ?_
                generalize (v3 ||| (((r5 >>> (((7 : Int32) - x2) &&& 31)) &&& 1) <<< (v4 &&& 31))) = x6
                refine q_RP_let ?_
                show q_RP _ _ _ (136, [(8, .int r5), (7, .int x3), (6, .int x2), (5, .int r1), (0, .ref 66), (1, .int v1), (2, .int v2), (3, .int v3), (4, .int v4)], [.int x6], (q_kN s c n)) _ _
                refine q_RP_seg (g2 := (5, [(4, .int (v4 + 1)), (3, .int x6), (8, .int r5), (7, .int x3), (6, .int x2), (5, .int r1), (0, .ref 66), (1, .int v1), (2, .int v2)], [], (q_kN s c n))) 3 (fun _ _ => rfl) ?_
                exact q_RP_xt (q_xt_mk (q_mn1 6 rfl (q_mn1 7 rfl (q_mn1 8 rfl (q_mn1 1 rfl (q_mn1 0 rfl q_mn0))))) rfl) (hk5 v1 v2 x6 (v4 + 1))
              | false =>
                refine q_RP_cF ?_
                refine q_RP_rsT (g2 := (137, [(7, .int x3), (6, .int x2), (5, .int r1), (0, .ref 66), (1, .int v1), (2, .int v2), (3, .int v3), (4, .int v4)], [], (q_kN s c n))) rfl rfl (q_d_geF h8) ?_
                refine q_RP_seg (g2 := (5, [(4, .int (v4 + 1)), (7, .int x3), (6, .int x2), (5, .int r1), (0, .ref 66), (1, .int v1), (2, .int v2), (3, .int v3)], [], (q_kN s c n))) 2 (fun _ _ => rfl) ?_
                exact q_RP_xt (q_xt_mk (q_mn1 4 rfl (q_mn1 5 rfl (q_mn1 6 rfl (q_mn1 7 rfl (q_mn1 0 rfl q_mn0))))) rfl) (hk5 v1 v2 v3 (v4 + 1))
          | false =>
            refine q_RP_cF ?_
            refine q_RP_rsT (g2 := (137, [(7, .int x3), (6, .int x2), (5, .int r1), (0, .ref 66), (1, .int v1), (2, .int v2), (3, .int v3), (4, .int v4)], [], (q_kN s c n))) rfl rfl (q_d_geF h6) ?_
            refine q_RP_seg (g2 := (5, [(4, .int (v4 + 1)), (7, .int x3), (6, .int x2), (5, .int r1), (0, .ref 66), (1, .int v1), (2, .int v2), (3, .int v3)], [], (q_kN s c n))) 2 (fun _ _ => rfl) ?_
            exact q_RP_xt (q_xt_mk (q_mn1 4 rfl (q_mn1 5 rfl (q_mn1 6 rfl (q_mn1 7 rfl (q_mn1 0 rfl q_mn0))))) rfl) (hk5 v1 v2 v3 (v4 + 1))
      | false =>
        refine q_RP_cF ?_
        refine q_RP_rsT (g2 := (137, [(7, .int x3), (6, .int x2), (5, .int r1), (0, .ref 66), (1, .int v1), (2, .int v2), (3, .int v3), (4, .int v4)], [], (q_kN s c n))) rfl rfl (q_d_neF h4) ?_
        refine q_RP_seg (g2 := (5, [(4, .int (v4 + 1)), (7, .int x3), (6, .int x2), (5, .int r1), (0, .ref 66), (1, .int v1), (2, .int v2), (3, .int v3)], [], (q_kN s c n))) 2 (fun _ _ => rfl) ?_
        exact q_RP_xt (q_xt_mk (q_mn1 4 rfl (q_mn1 5 rfl (q_mn1 6 rfl (q_mn1 7 rfl (q_mn1 0 rfl q_mn0))))) rfl) (hk5 v1 v2 v3 (v4 + 1))
    | false =>
      refine q_RP_cF ?_
      refine q_RP_rsT (g2 := (143, [(0, .ref 66), (1, .int v1), (2, .int v2), (3, .int v3), (4, .int v4)], [], (q_kN s c n))) rfl rfl (q_d_geF h1) ?_
      refine q_RP_seg (g2 := (144, [(0, .ref 66), (1, .int v1), (2, .int v2), (3, .int v3), (4, .int v4)], [.int v3], (q_kN s c n))) 1 (fun _ _ => rfl) ?_
      exact q_RP_ret rfl rfl rfl
def dz_N122_66 (s : q_S) (a1 : Int32) (a2 : Int32) : Option (Int32) :=
  dz_N122_66_5 5000 s a1 a2 0 0
set_option maxHeartbeats 4000000 in
theorem dzt_N122_66 (s : q_S) (c n : Nat) (a1 : Int32) (a2 : Int32) (x : Int32) (h : dz_N122_66 s a1 a2 = some x) : q_Ca q_TB0 2 121 [.ref 66, .int a1, .int a2] (q_kN s c n) ((q_oP (q_kN s c n)) x) := by
  refine q_CaP_of (φ := (q_oP (q_kN s c n))) (Nat.le_of_ble_eq_true rfl) ?_ h
  clear h
  unfold dz_N122_66
  refine q_RP_seg (g2 := (5, [(4, .int 0), (3, .int 0), (0, .ref 66), (1, .int a1), (2, .int a2)], [], (q_kN s c n))) 4 (fun _ _ => rfl) ?_
  exact q_RP_xt (q_xt_mk (q_mn1 2 rfl (q_mn1 3 rfl (q_mn1 4 rfl (q_mn1 1 rfl (q_mn1 0 rfl q_mn0))))) rfl) (dzt_N122_66_5 c n s 5000 a1 a2 0 0)
def dz_N323 (s : q_S) (a0 : Int32) : Int32 :=
  q_let (a0 - (((a0.toUInt32 >>> ((1 : Int32).toUInt32 &&& Int32.toUInt32 31)).toInt32) &&& 1431655765)) fun x1 => q_let ((x1 &&& 858993459) + (((x1.toUInt32 >>> ((2 : Int32).toUInt32 &&& Int32.toUInt32 31)).toInt32) &&& 858993459)) fun x2 => q_let ((x2 + ((x2.toUInt32 >>> ((4 : Int32).toUInt32 &&& Int32.toUInt32 31)).toInt32)) &&& 252645135) fun x3 => q_let (x3 + ((x3.toUInt32 >>> ((8 : Int32).toUInt32 &&& Int32.toUInt32 31)).toInt32)) fun x4 => q_let (x4 + ((x4.toUInt32 >>> ((16 : Int32).toUInt32 &&& Int32.toUInt32 31)).toInt32)) fun x5 => (x5 &&& 63)
set_option maxHeartbeats 4000000 in
theorem dzt_N323 (s : q_S) (c n : Nat) (a0 : Int32) : q_Ca q_TB0 1 322 [.int a0] (q_kN s c n) ((q_oP (q_kN s c n)) (dz_N323 s a0)) := by
  refine q_CaT_of (φ := (q_oP (q_kN s c n))) (Nat.le_of_ble_eq_true rfl) ?_
  unfold dz_N323
  refine q_RT_seg (g2 := (9, [(0, .int a0)], [.int (a0 - (((a0.toUInt32 >>> ((1 : Int32).toUInt32 &&& Int32.toUInt32 31)).toInt32) &&& 1431655765))], (q_kN s c n))) 7 (fun _ _ => rfl) ?_
  generalize (a0 - (((a0.toUInt32 >>> ((1 : Int32).toUInt32 &&& Int32.toUInt32 31)).toInt32) &&& 1431655765)) = x1
  refine q_RT_let ?_
  show q_RT _ _ _ (9, [(0, .int a0)], [.int x1], (q_kN s c n)) _ _
  refine q_RT_seg (g2 := (23, [(0, .int x1)], [.int ((x1 &&& 858993459) + (((x1.toUInt32 >>> ((2 : Int32).toUInt32 &&& Int32.toUInt32 31)).toInt32) &&& 858993459))], (q_kN s c n))) 10 (fun _ _ => rfl) ?_
  generalize ((x1 &&& 858993459) + (((x1.toUInt32 >>> ((2 : Int32).toUInt32 &&& Int32.toUInt32 31)).toInt32) &&& 858993459)) = x2
  refine q_RT_let ?_
  show q_RT _ _ _ (23, [(0, .int x1)], [.int x2], (q_kN s c n)) _ _
  refine q_RT_seg (g2 := (33, [(0, .int x2)], [.int ((x2 + ((x2.toUInt32 >>> ((4 : Int32).toUInt32 &&& Int32.toUInt32 31)).toInt32)) &&& 252645135)], (q_kN s c n))) 8 (fun _ _ => rfl) ?_
  generalize ((x2 + ((x2.toUInt32 >>> ((4 : Int32).toUInt32 &&& Int32.toUInt32 31)).toInt32)) &&& 252645135) = x3
  refine q_RT_let ?_
  show q_RT _ _ _ (33, [(0, .int x2)], [.int x3], (q_kN s c n)) _ _
  refine q_RT_seg (g2 := (40, [(0, .int x3)], [.int (x3 + ((x3.toUInt32 >>> ((8 : Int32).toUInt32 &&& Int32.toUInt32 31)).toInt32))], (q_kN s c n))) 6 (fun _ _ => rfl) ?_
  generalize (x3 + ((x3.toUInt32 >>> ((8 : Int32).toUInt32 &&& Int32.toUInt32 31)).toInt32)) = x4
  refine q_RT_let ?_
  show q_RT _ _ _ (40, [(0, .int x3)], [.int x4], (q_kN s c n)) _ _
  refine q_RT_seg (g2 := (47, [(0, .int x4)], [.int (x4 + ((x4.toUInt32 >>> ((16 : Int32).toUInt32 &&& Int32.toUInt32 31)).toInt32))], (q_kN s c n))) 6 (fun _ _ => rfl) ?_
  generalize (x4 + ((x4.toUInt32 >>> ((16 : Int32).toUInt32 &&& Int32.toUInt32 31)).toInt32)) = x5
  refine q_RT_let ?_
  show q_RT _ _ _ (47, [(0, .int x4)], [.int x5], (q_kN s c n)) _ _
  refine q_RT_seg (g2 := (52, [(0, .int x5)], [.int (x5 &&& 63)], (q_kN s c n))) 4 (fun _ _ => rfl) ?_
  exact q_RT_ret rfl rfl rfl
def dz_N121_66 (s : q_S) (a1 : Int32) : Bool :=
  cond (decide ((s.1 4) 1 = 2)) (cond (decide (a1 < 2)) (false) (true)) (cond (decide (a1 = 1)) (true) (false))
set_option maxHeartbeats 4000000 in
theorem dzt_N121_66 (s : q_S) (c n : Nat) (a1 : Int32) : q_Ca q_TB0 1 120 [.ref 66, .int a1] (q_kN s c n) ((q_oB (q_kN s c n)) (dz_N121_66 s a1)) := by
  refine q_CaT_of (φ := (q_oB (q_kN s c n))) (Nat.le_of_ble_eq_true rfl) ?_
  unfold dz_N121_66
  refine q_RT_seg (g2 := (6, [(0, .ref 66), (1, .int a1)], [.int ((s.1 4) 1)], (q_kN s c n))) 4 (fun _ _ => rfl) ?_
  refine q_RT_seg (g2 := (7, [(0, .ref 66), (1, .int a1)], [.int 2, .int ((s.1 4) 1)], (q_kN s c n))) 1 (fun _ _ => rfl) ?_
  cases h1 : decide ((s.1 4) 1 = 2) with
  | true =>
    refine q_RT_cT ?_
    refine q_RT_rsF (g2 := (10, [(0, .ref 66), (1, .int a1)], [], (q_kN s c n))) rfl rfl (q_d_neT h1) ?_
    refine q_RT_seg (g2 := (12, [(0, .ref 66), (1, .int a1)], [.int 2, .int a1], (q_kN s c n))) 2 (fun _ _ => rfl) ?_
    cases h2 : decide (a1 < 2) with
    | true =>
      refine q_RT_cT ?_
      refine q_RT_rsT (g2 := (19, [(0, .ref 66), (1, .int a1)], [], (q_kN s c n))) rfl rfl h2 ?_
      refine q_RT_seg (g2 := (33, [(0, .ref 66), (1, .int a1)], [.int 0], (q_kN s c n))) 2 (fun _ _ => rfl) ?_
      exact q_RT_ret rfl rfl rfl
    | false =>
      refine q_RT_cF ?_
      refine q_RT_rsF (g2 := (15, [(0, .ref 66), (1, .int a1)], [], (q_kN s c n))) rfl rfl h2 ?_
      refine q_RT_seg (g2 := (33, [(0, .ref 66), (1, .int a1)], [.int 1], (q_kN s c n))) 2 (fun _ _ => rfl) ?_
      exact q_RT_ret rfl rfl rfl
  | false =>
    refine q_RT_cF ?_
    refine q_RT_rsT (g2 := (23, [(0, .ref 66), (1, .int a1)], [], (q_kN s c n))) rfl rfl (q_d_neF h1) ?_
    refine q_RT_seg (g2 := (25, [(0, .ref 66), (1, .int a1)], [.int 1, .int a1], (q_kN s c n))) 2 (fun _ _ => rfl) ?_
    cases h3 : decide (a1 = 1) with
    | true =>
      refine q_RT_cT ?_
      refine q_RT_rsF (g2 := (28, [(0, .ref 66), (1, .int a1)], [], (q_kN s c n))) rfl rfl (q_d_neT h3) ?_
      refine q_RT_seg (g2 := (33, [(0, .ref 66), (1, .int a1)], [.int 1], (q_kN s c n))) 2 (fun _ _ => rfl) ?_
      exact q_RT_ret rfl rfl rfl
    | false =>
      refine q_RT_cF ?_
      refine q_RT_rsT (g2 := (32, [(0, .ref 66), (1, .int a1)], [], (q_kN s c n))) rfl rfl (q_d_neF h3) ?_
      refine q_RT_seg (g2 := (33, [(0, .ref 66), (1, .int a1)], [.int 0], (q_kN s c n))) 1 (fun _ _ => rfl) ?_
      exact q_RT_ret rfl rfl rfl
def dz_N124_66_19 (s : q_S) (v1 : Int32) (v2 : Int32) : q_S :=
  q_let (dz_N121_66 s v1) fun r2 => cond r2 ((q_sA s 4 (upd (s.1 4) 30 (((s.1 4) 30) ||| v2)))) (s)
set_option maxHeartbeats 4000000 in
theorem dzt_N124_66_19 (c n : Nat) (s : q_S) (v1 : Int32) (v2 : Int32) : q_RT q_TB0 1 123 (19, [(0, .ref 66), (1, .int v1), (2, .int v2)], [], (q_kN s c n)) (q_oSN c n) (dz_N124_66_19 s v1 v2) := by
  unfold dz_N124_66_19
  refine q_RT_seg (g2 := (21, [(0, .ref 66), (1, .int v1), (2, .int v2)], [.int v1, .ref 66], (q_kN s c n))) 2 (fun _ _ => rfl) ?_
  refine q_RT_call (v := (some (.int (q_b (dz_N121_66 s v1))))) (h2 := (q_kN s c n)) rfl rfl ((dzt_N121_66 s c n v1).le (Nat.le_of_ble_eq_true rfl)) ?_
  generalize dz_N121_66 s v1 = r2
  refine q_RT_let ?_
  show q_RT _ _ _ (24, [(0, .ref 66), (1, .int v1), (2, .int v2)], [.int (q_b r2)], (q_kN s c n)) _ _
  cases h2 : r2 with
  | true =>
    refine q_RT_cT ?_
    show q_RT _ _ _ (24, [(0, .ref 66), (1, .int v1), (2, .int v2)], [.int 1], (q_kN s c n)) _ _
    refine q_RT_seg (g2 := (35, [(0, .ref 66), (1, .int v1), (2, .int v2)], [.int ((s.1 4) 30), .int 30, .ref 68], (q_kN s c n))) 6 (fun _ _ => rfl) ?_
    refine q_RT_seg (g2 := (38, [(0, .ref 66), (1, .int v1), (2, .int v2)], [], (q_kN (q_sA s 4 (upd (s.1 4) 30 (((s.1 4) 30) ||| v2))) c n))) 3 (fun _ _ => rfl) ?_
    exact q_RT_ret rfl rfl rfl
  | false =>
    refine q_RT_cF ?_
    show q_RT _ _ _ (24, [(0, .ref 66), (1, .int v1), (2, .int v2)], [.int 0], (q_kN s c n)) _ _
    refine q_RT_seg (g2 := (38, [(0, .ref 66), (1, .int v1), (2, .int v2)], [], (q_kN s c n))) 1 (fun _ _ => rfl) ?_
    exact q_RT_ret rfl rfl rfl
def dz_N124_66 (s : q_S) (a1 : Int32) (a2 : Int32) : q_S :=
  q_let (dz_N323 s a2) fun r1 => cond (decide (1 < r1)) (dz_N124_66_19 (q_sA s 4 (upd (s.1 4) 29 (((s.1 4) 29) ||| a2))) a1 a2) (dz_N124_66_19 s a1 a2)
set_option maxHeartbeats 4000000 in
theorem dzt_N124_66 (s : q_S) (c n : Nat) (a1 : Int32) (a2 : Int32) : q_Ca q_TB0 2 123 [.ref 66, .int a1, .int a2] (q_kN s c n) ((q_oSN c n) (dz_N124_66 s a1 a2)) := by
  refine q_CaT_of (φ := (q_oSN c n)) (Nat.le_of_ble_eq_true rfl) ?_
  unfold dz_N124_66
  refine q_RT_seg (g2 := (1, [(0, .ref 66), (1, .int a1), (2, .int a2)], [.int a2], (q_kN s c n))) 1 (fun _ _ => rfl) ?_
  refine q_RT_call (v := (some (.int (dz_N323 s a2)))) (h2 := (q_kN s c n)) rfl rfl ((dzt_N323 s c n a2).le (Nat.le_of_ble_eq_true rfl)) ?_
  generalize dz_N323 s a2 = r1
  refine q_RT_let ?_
  show q_RT _ _ _ (4, [(0, .ref 66), (1, .int a1), (2, .int a2)], [.int r1], (q_kN s c n)) _ _
  refine q_RT_seg (g2 := (5, [(0, .ref 66), (1, .int a1), (2, .int a2)], [.int 1, .int r1], (q_kN s c n))) 1 (fun _ _ => rfl) ?_
  cases h1 : decide (1 < r1) with
  | true =>
    refine q_RT_cT ?_
    refine q_RT_rsF (g2 := (8, [(0, .ref 66), (1, .int a1), (2, .int a2)], [], (q_kN s c n))) rfl rfl (q_d_geT h1) ?_
    refine q_RT_seg (g2 := (16, [(0, .ref 66), (1, .int a1), (2, .int a2)], [.int ((s.1 4) 29), .int 29, .ref 68], (q_kN s c n))) 5 (fun _ _ => rfl) ?_
    refine q_RT_seg (g2 := (19, [(0, .ref 66), (1, .int a1), (2, .int a2)], [], (q_kN (q_sA s 4 (upd (s.1 4) 29 (((s.1 4) 29) ||| a2))) c n))) 3 (fun _ _ => rfl) ?_
    exact (dzt_N124_66_19 c n (q_sA s 4 (upd (s.1 4) 29 (((s.1 4) 29) ||| a2))) a1 a2)
  | false =>
    refine q_RT_cF ?_
    refine q_RT_rsT (g2 := (19, [(0, .ref 66), (1, .int a1), (2, .int a2)], [], (q_kN s c n))) rfl rfl (q_d_geF h1) ?_
    exact (dzt_N124_66_19 c n s a1 a2)
def dz_N123_66_39 (s : q_S) (v1 : Int32) (v3 : Int32) : Option (Int32) :=
  some ((((s.1 4) 28) + v3) - (((s.1 4) 28) + v3) / 16 * 16)
set_option maxHeartbeats 4000000 in
theorem dzt_N123_66_39 (c n : Nat) (s : q_S) (v1 : Int32) (v3 : Int32) : q_RP q_TB0 1 122 (39, [(0, .ref 66), (1, .int v1), (3, .int v3)], [], (q_kN s c n)) (q_oP (q_kN s c n)) (dz_N123_66_39 s v1 v3) := by
  unfold dz_N123_66_39
  refine q_RP_seg (g2 := (67, [(4, .int 0), (0, .ref 66), (1, .int v1), (3, .int v3)], [.int ((s.1 4) 28)], (q_kN s c n))) 8 (fun _ _ => rfl) ?_
  refine q_RP_seg (g2 := (72, [(4, .int 0), (0, .ref 66), (1, .int v1), (3, .int v3)], [.int ((((s.1 4) 28) + v3) - (((s.1 4) 28) + v3) / 16 * 16)], (q_kN s c n))) 4 (fun _ _ => rfl) ?_
  exact q_RP_ret rfl rfl rfl
def dz_N123_66_2 (m : Nat) : q_S → Int32 → Int32 → Int32 → Option (Int32) := Nat.rec (motive := fun _ => q_S → Int32 → Int32 → Int32 → Option (Int32)) (fun _ _ _ _ => none) (fun _ k2 s v1 v2 v3 =>
  cond (decide (v3 < 4)) (cond (decide ((v2 >>> (v3 &&& 31)) &&& 1 = 1)) (q_let (dz_N118_66 s 19 v3) fun r1 => cond (decide (r1 = 1)) (q_let (dz_N121_66 s v1) fun r2 => cond r2 (cond (q_in ((3 : Int32) + (v1 &&& 3)) 48) (some ((s.1 4) (((3 : Int32) + (v1 &&& 3)).toNatClampNeg))) none) (dz_N123_66_39 s v1 v3)) (dz_N123_66_39 s v1 v3)) (k2 s v1 v2 (v3 + 1))) (cond (q_in ((3 : Int32) + (v1 &&& 3)) 48) (some ((s.1 4) (((3 : Int32) + (v1 &&& 3)).toNatClampNeg))) none)) m
theorem dzs_N123_66_2 (m : Nat) (s : q_S) (v1 : Int32) (v2 : Int32) (v3 : Int32) : dz_N123_66_2 (m + 1) s v1 v2 v3 = (fun k2 : q_S → Int32 → Int32 → Int32 → Option (Int32) =>
  cond (decide (v3 < 4)) (cond (decide ((v2 >>> (v3 &&& 31)) &&& 1 = 1)) (q_let (dz_N118_66 s 19 v3) fun r1 => cond (decide (r1 = 1)) (q_let (dz_N121_66 s v1) fun r2 => cond r2 (cond (q_in ((3 : Int32) + (v1 &&& 3)) 48) (some ((s.1 4) (((3 : Int32) + (v1 &&& 3)).toNatClampNeg))) none) (dz_N123_66_39 s v1 v3)) (dz_N123_66_39 s v1 v3)) (k2 s v1 v2 (v3 + 1))) (cond (q_in ((3 : Int32) + (v1 &&& 3)) 48) (some ((s.1 4) (((3 : Int32) + (v1 &&& 3)).toNatClampNeg))) none)) (dz_N123_66_2 m) := rfl
set_option maxHeartbeats 4000000 in
theorem dzt_N123_66_2 (c n : Nat) (s : q_S) : ∀ (m : Nat) (v1 : Int32) (v2 : Int32) (v3 : Int32), q_RP q_TB0 1 122 (2, [(0, .ref 66), (1, .int v1), (2, .int v2), (3, .int v3)], [], (q_kN s c n)) (q_oP (q_kN s c n)) (dz_N123_66_2 m s v1 v2 v3) := by
  intro m
  induction m with
  | zero => intro v1 v2 v3; exact q_RP_no
  | succ m ih =>
    intro v1 v2 v3
    have hk2 := ih
    clear ih
    rw [dzs_N123_66_2]
    generalize dz_N123_66_2 m = k2 at hk2 ⊢
    dsimp only
    refine q_RP_seg (g2 := (4, [(0, .ref 66), (1, .int v1), (2, .int v2), (3, .int v3)], [.int 4, .int v3], (q_kN s c n))) 2 (fun _ _ => rfl) ?_
    cases h1 : decide (v3 < 4) with
    | true =>
      refine q_RP_cT ?_
      refine q_RP_rsF (g2 := (7, [(0, .ref 66), (1, .int v1), (2, .int v2), (3, .int v3)], [], (q_kN s c n))) rfl rfl (q_d_geT h1) ?_
      refine q_RP_seg (g2 := (13, [(0, .ref 66), (1, .int v1), (2, .int v2), (3, .int v3)], [.int 1, .int ((v2 >>> (v3 &&& 31)) &&& 1)], (q_kN s c n))) 6 (fun _ _ => rfl) ?_
      cases h2 : decide ((v2 >>> (v3 &&& 31)) &&& 1 = 1) with
      | true =>
        refine q_RP_cT ?_
        refine q_RP_rsF (g2 := (16, [(0, .ref 66), (1, .int v1), (2, .int v2), (3, .int v3)], [], (q_kN s c n))) rfl rfl (q_d_neT h2) ?_
        refine q_RP_seg (g2 := (20, [(0, .ref 66), (1, .int v1), (2, .int v2), (3, .int v3)], [.int v3, .int 19, .ref 66], (q_kN s c n))) 3 (fun _ _ => rfl) ?_
        refine q_RP_call (v := (some (.int (dz_N118_66 s 19 v3)))) (h2 := (q_kN s c n)) rfl rfl ((dzt_N118_66 s c n 19 v3).le (Nat.le_of_ble_eq_true rfl)) ?_
        generalize dz_N118_66 s 19 v3 = r1
        refine q_RP_let ?_
        show q_RP _ _ _ (23, [(0, .ref 66), (1, .int v1), (2, .int v2), (3, .int v3)], [.int r1], (q_kN s c n)) _ _
        refine q_RP_seg (g2 := (24, [(0, .ref 66), (1, .int v1), (2, .int v2), (3, .int v3)], [.int 1, .int r1], (q_kN s c n))) 1 (fun _ _ => rfl) ?_
        cases h3 : decide (r1 = 1) with
        | true =>
          refine q_RP_cT ?_
          refine q_RP_rsF (g2 := (27, [(0, .ref 66), (1, .int v1), (2, .int v2), (3, .int v3)], [], (q_kN s c n))) rfl rfl (q_d_neT h3) ?_
          refine q_RP_seg (g2 := (29, [(0, .ref 66), (1, .int v1), (2, .int v2), (3, .int v3)], [.int v1, .ref 66], (q_kN s c n))) 2 (fun _ _ => rfl) ?_
          refine q_RP_call (v := (some (.int (q_b (dz_N121_66 s v1))))) (h2 := (q_kN s c n)) rfl rfl ((dzt_N121_66 s c n v1).le (Nat.le_of_ble_eq_true rfl)) ?_
          generalize dz_N121_66 s v1 = r2
          refine q_RP_let ?_
          show q_RP _ _ _ (32, [(0, .ref 66), (1, .int v1), (2, .int v2), (3, .int v3)], [.int (q_b r2)], (q_kN s c n)) _ _
          cases h4 : r2 with
          | true =>
            refine q_RP_cT ?_
            show q_RP _ _ _ (32, [(0, .ref 66), (1, .int v1), (2, .int v2), (3, .int v3)], [.int 1], (q_kN s c n)) _ _
            refine q_RP_seg (g2 := (56, [(4, .int 1), (0, .ref 66), (1, .int v1), (2, .int v2), (3, .int v3)], [.int ((3 : Int32) + (v1 &&& 3)), .ref 68], (q_kN s c n))) 13 (fun _ _ => rfl) ?_
            refine q_RP_as fun i5 => ?_
            refine q_RP_rsT (g2 := (57, [(4, .int 1), (0, .ref 66), (1, .int v1), (2, .int v2), (3, .int v3)], [.int ((s.1 4) (((3 : Int32) + (v1 &&& 3)).toNatClampNeg))], (q_kN s c n))) rfl rfl i5 ?_
            refine q_RP_seg (g2 := (72, [(4, .int 1), (0, .ref 66), (1, .int v1), (2, .int v2), (3, .int v3)], [.int ((s.1 4) (((3 : Int32) + (v1 &&& 3)).toNatClampNeg))], (q_kN s c n))) 1 (fun _ _ => rfl) ?_
            exact q_RP_ret rfl rfl rfl
          | false =>
            refine q_RP_cF ?_
            show q_RP _ _ _ (32, [(0, .ref 66), (1, .int v1), (2, .int v2), (3, .int v3)], [.int 0], (q_kN s c n)) _ _
            refine q_RP_seg (g2 := (39, [(0, .ref 66), (1, .int v1), (2, .int v2), (3, .int v3)], [], (q_kN s c n))) 1 (fun _ _ => rfl) ?_
            exact q_RP_xt (q_xt_mk (q_mn1 0 rfl (q_mn1 1 rfl (q_mn1 3 rfl q_mn0))) rfl) (dzt_N123_66_39 c n s v1 v3)
        | false =>
          refine q_RP_cF ?_
          refine q_RP_rsT (g2 := (39, [(0, .ref 66), (1, .int v1), (2, .int v2), (3, .int v3)], [], (q_kN s c n))) rfl rfl (q_d_neF h3) ?_
          exact q_RP_xt (q_xt_mk (q_mn1 0 rfl (q_mn1 1 rfl (q_mn1 3 rfl q_mn0))) rfl) (dzt_N123_66_39 c n s v1 v3)
      | false =>
        refine q_RP_cF ?_
        refine q_RP_rsT (g2 := (73, [(0, .ref 66), (1, .int v1), (2, .int v2), (3, .int v3)], [], (q_kN s c n))) rfl rfl (q_d_neF h2) ?_
        refine q_RP_seg (g2 := (2, [(3, .int (v3 + 1)), (0, .ref 66), (1, .int v1), (2, .int v2)], [], (q_kN s c n))) 2 (fun _ _ => rfl) ?_
        exact q_RP_xt (q_xt_mk (q_mn1 1 rfl (q_mn1 2 rfl (q_mn1 3 rfl (q_mn1 0 rfl q_mn0)))) rfl) (hk2 v1 v2 (v3 + 1))
    | false =>
      refine q_RP_cF ?_
      refine q_RP_rsT (g2 := (79, [(0, .ref 66), (1, .int v1), (2, .int v2), (3, .int v3)], [], (q_kN s c n))) rfl rfl (q_d_geF h1) ?_
      refine q_RP_seg (g2 := (88, [(0, .ref 66), (1, .int v1), (2, .int v2), (3, .int v3)], [.int ((3 : Int32) + (v1 &&& 3)), .ref 68], (q_kN s c n))) 7 (fun _ _ => rfl) ?_
      refine q_RP_as fun i6 => ?_
      refine q_RP_rsT (g2 := (89, [(0, .ref 66), (1, .int v1), (2, .int v2), (3, .int v3)], [.int ((s.1 4) (((3 : Int32) + (v1 &&& 3)).toNatClampNeg))], (q_kN s c n))) rfl rfl i6 ?_
      exact q_RP_ret rfl rfl rfl
def dz_N123_66 (s : q_S) (a1 : Int32) (a2 : Int32) : Option (Int32) :=
  dz_N123_66_2 5000 s a1 a2 0
set_option maxHeartbeats 4000000 in
theorem dzt_N123_66 (s : q_S) (c n : Nat) (a1 : Int32) (a2 : Int32) (x : Int32) (h : dz_N123_66 s a1 a2 = some x) : q_Ca q_TB0 2 122 [.ref 66, .int a1, .int a2] (q_kN s c n) ((q_oP (q_kN s c n)) x) := by
  refine q_CaP_of (φ := (q_oP (q_kN s c n))) (Nat.le_of_ble_eq_true rfl) ?_ h
  clear h
  unfold dz_N123_66
  refine q_RP_seg (g2 := (2, [(3, .int 0), (0, .ref 66), (1, .int a1), (2, .int a2)], [], (q_kN s c n))) 2 (fun _ _ => rfl) ?_
  exact q_RP_xt (q_xt_mk (q_mn1 1 rfl (q_mn1 2 rfl (q_mn1 3 rfl (q_mn1 0 rfl q_mn0)))) rfl) (dzt_N123_66_2 c n s 5000 a1 a2 0)
def dz_N103_65_95_47 (m : Nat) : q_S → Int32 → Int32 → Int32 → Option (q_S) := Nat.rec (motive := fun _ => q_S → Int32 → Int32 → Int32 → Option (q_S)) (fun _ _ _ _ => none) (fun _ k47 s v2 v4 v5 =>
  cond (decide (v4 + 1 < v5)) (cond (decide (lg_cmp (((s.2.2 1 8) / 960) - ((s.2.2 1 8) / 960) / 2 * 2) 0 = 0)) (some (q_sI s 13 3 ((s.2.1 13 3) + 1))) (some (q_sI s 18 3 ((s.2.1 18 3) + 1)))) (q_let (dz_N119_66 s v5 v2) fun r3 => (dz_N122_66 s v5 v2).bind fun r4 => q_let (dz_N124_66 s r3 r4) fun r5 => (dz_N123_66 r5 r3 r4).bind fun r6 => k47 (q_sA r5 31 (upd (r5.1 31) ((((32 * v2) + v5) &&& 1023).toNatClampNeg) r6)) v2 v4 (v5 + 1))) m
theorem dzs_N103_65_95_47 (m : Nat) (s : q_S) (v2 : Int32) (v4 : Int32) (v5 : Int32) : dz_N103_65_95_47 (m + 1) s v2 v4 v5 = (fun k47 : q_S → Int32 → Int32 → Int32 → Option (q_S) =>
  cond (decide (v4 + 1 < v5)) (cond (decide (lg_cmp (((s.2.2 1 8) / 960) - ((s.2.2 1 8) / 960) / 2 * 2) 0 = 0)) (some (q_sI s 13 3 ((s.2.1 13 3) + 1))) (some (q_sI s 18 3 ((s.2.1 18 3) + 1)))) (q_let (dz_N119_66 s v5 v2) fun r3 => (dz_N122_66 s v5 v2).bind fun r4 => q_let (dz_N124_66 s r3 r4) fun r5 => (dz_N123_66 r5 r3 r4).bind fun r6 => k47 (q_sA r5 31 (upd (r5.1 31) ((((32 * v2) + v5) &&& 1023).toNatClampNeg) r6)) v2 v4 (v5 + 1))) (dz_N103_65_95_47 m) := rfl
set_option maxHeartbeats 4000000 in
theorem dzt_N103_65_95_47 (c n : Nat) : ∀ (m : Nat) (s : q_S) (v2 : Int32) (v4 : Int32) (v5 : Int32), q_RP q_TB0 2 102 (47, [(0, .ref 65), (1, .ref 95), (2, .int v2), (4, .int v4), (5, .int v5)], [], (q_kN s c n)) (q_oSN c n) (dz_N103_65_95_47 m s v2 v4 v5) := by
  intro m
  induction m with
  | zero => intro s v2 v4 v5; exact q_RP_no
  | succ m ih =>
    intro s v2 v4 v5
    have hk47 := ih
    clear ih
    rw [dzs_N103_65_95_47]
    generalize dz_N103_65_95_47 m = k47 at hk47 ⊢
    dsimp only
    refine q_RP_seg (g2 := (53, [(0, .ref 65), (1, .ref 95), (2, .int v2), (4, .int v4), (5, .int v5)], [.int (v4 + 1), .int v5], (q_kN s c n))) 4 (fun _ _ => rfl) ?_
    cases h8 : decide (v4 + 1 < v5) with
    | true =>
      refine q_RP_cT ?_
      refine q_RP_rsT (g2 := (121, [(0, .ref 65), (1, .ref 95), (2, .int v2), (4, .int v4), (5, .int v5)], [], (q_kN s c n))) rfl rfl h8 ?_
      refine q_RP_seg (g2 := (122, [(0, .ref 65), (1, .ref 95), (2, .int v2), (4, .int v4), (5, .int v5)], [.ref 65], (q_kN s c n))) 1 (fun _ _ => rfl) ?_
      cases h9 : decide (lg_cmp (((s.2.2 1 8) / 960) - ((s.2.2 1 8) / 960) / 2 * 2) 0 = 0) with
      | true =>
        refine q_RP_cT ?_
        refine q_RP_call (v := (some (.ref 77))) (h2 := (q_kN s c n)) rfl rfl ?_ ?_
        · refine q_Ca_of (Nat.le_of_ble_eq_true rfl) ?_
          refine q_Ru_seg (g2 := (14, [(0, .ref 65)], [.int (lg_cmp (((s.2.2 1 8) / 960) - ((s.2.2 1 8) / 960) / 2 * 2) 0)], (q_kN s c n))) 8 (fun _ _ => rfl) ?_
          refine q_Ru_rsF (g2 := (17, [(0, .ref 65)], [], (q_kN s c n))) rfl rfl (q_d_neT h9) ?_
          refine q_Ru_seg (g2 := (28, [(0, .ref 65)], [.ref 77], (q_kN s c n))) 3 (fun _ _ => rfl) ?_
          exact q_Ru_ret rfl rfl
        show q_RP _ _ _ (125, [(0, .ref 65), (1, .ref 95), (2, .int v2), (4, .int v4), (5, .int v5)], [.ref 77], (q_kN s c n)) _ _
        refine q_RP_seg (g2 := (129, [(0, .ref 65), (1, .ref 95), (2, .int v2), (4, .int v4), (5, .int v5)], [.int (s.2.1 13 3), .ref 77], (q_kN s c n))) 2 (fun _ _ => rfl) ?_
        refine q_RP_seg (g2 := (134, [(0, .ref 65), (1, .ref 95), (2, .int v2), (4, .int v4), (5, .int v5)], [], (q_kN (q_sI s 13 3 ((s.2.1 13 3) + 1)) c n))) 3 (fun _ _ => rfl) ?_
        exact q_RP_ret rfl rfl rfl
      | false =>
        refine q_RP_cF ?_
        refine q_RP_call (v := (some (.ref 82))) (h2 := (q_kN s c n)) rfl rfl ?_ ?_
        · refine q_Ca_of (Nat.le_of_ble_eq_true rfl) ?_
          refine q_Ru_seg (g2 := (14, [(0, .ref 65)], [.int (lg_cmp (((s.2.2 1 8) / 960) - ((s.2.2 1 8) / 960) / 2 * 2) 0)], (q_kN s c n))) 8 (fun _ _ => rfl) ?_
          refine q_Ru_rsT (g2 := (24, [(0, .ref 65)], [], (q_kN s c n))) rfl rfl (q_d_neF h9) ?_
          refine q_Ru_seg (g2 := (28, [(0, .ref 65)], [.ref 82], (q_kN s c n))) 2 (fun _ _ => rfl) ?_
          exact q_Ru_ret rfl rfl
        show q_RP _ _ _ (125, [(0, .ref 65), (1, .ref 95), (2, .int v2), (4, .int v4), (5, .int v5)], [.ref 82], (q_kN s c n)) _ _
        refine q_RP_seg (g2 := (129, [(0, .ref 65), (1, .ref 95), (2, .int v2), (4, .int v4), (5, .int v5)], [.int (s.2.1 18 3), .ref 82], (q_kN s c n))) 2 (fun _ _ => rfl) ?_
        refine q_RP_seg (g2 := (134, [(0, .ref 65), (1, .ref 95), (2, .int v2), (4, .int v4), (5, .int v5)], [], (q_kN (q_sI s 18 3 ((s.2.1 18 3) + 1)) c n))) 3 (fun _ _ => rfl) ?_
        exact q_RP_ret rfl rfl rfl
    | false =>
      refine q_RP_cF ?_
      refine q_RP_rsF (g2 := (56, [(0, .ref 65), (1, .ref 95), (2, .int v2), (4, .int v4), (5, .int v5)], [], (q_kN s c n))) rfl rfl h8 ?_
      refine q_RP_seg (g2 := (63, [(0, .ref 65), (1, .ref 95), (2, .int v2), (4, .int v4), (5, .int v5)], [.int v2, .int v5, .ref 66], (q_kN s c n))) 4 (fun _ _ => rfl) ?_
      refine q_RP_call (v := (some (.int (dz_N119_66 s v5 v2)))) (h2 := (q_kN s c n)) rfl rfl ((dzt_N119_66 s c n v5 v2).le (Nat.le_of_ble_eq_true rfl)) ?_
      generalize dz_N119_66 s v5 v2 = r3
      refine q_RP_let ?_
      show q_RP _ _ _ (66, [(0, .ref 65), (1, .ref 95), (2, .int v2), (4, .int v4), (5, .int v5)], [.int r3], (q_kN s c n)) _ _
      refine q_RP_seg (g2 := (75, [(6, .int r3), (0, .ref 65), (1, .ref 95), (2, .int v2), (4, .int v4), (5, .int v5)], [.int v2, .int v5, .ref 66], (q_kN s c n))) 5 (fun _ _ => rfl) ?_
      refine q_RP_bd fun r4 er4 => ?_
      refine q_RP_call (v := (some (.int r4))) (h2 := (q_kN s c n)) rfl rfl ((dzt_N122_66 s c n v5 v2 r4 er4).le (Nat.le_of_ble_eq_true rfl)) ?_
      show q_RP _ _ _ (78, [(6, .int r3), (0, .ref 65), (1, .ref 95), (2, .int v2), (4, .int v4), (5, .int v5)], [.int r4], (q_kN s c n)) _ _
      refine q_RP_seg (g2 := (88, [(7, .int r4), (6, .int r3), (0, .ref 65), (1, .ref 95), (2, .int v2), (4, .int v4), (5, .int v5)], [.int r4, .int r3, .ref 66], (q_kN s c n))) 5 (fun _ _ => rfl) ?_
      refine q_RP_call (v := none) (h2 := (q_kN (dz_N124_66 s r3 r4) c n)) rfl rfl ((dzt_N124_66 s c n r3 r4).le (Nat.le_of_ble_eq_true rfl)) ?_
      generalize dz_N124_66 s r3 r4 = r5
      refine q_RP_let ?_
      show q_RP _ _ _ (91, [(7, .int r4), (6, .int r3), (0, .ref 65), (1, .ref 95), (2, .int v2), (4, .int v4), (5, .int v5)], [], (q_kN r5 c n)) _ _
      refine q_RP_seg (g2 := (111, [(7, .int r4), (6, .int r3), (0, .ref 65), (1, .ref 95), (2, .int v2), (4, .int v4), (5, .int v5)], [.int r4, .int r3, .ref 66, .int (((32 * v2) + v5) &&& 1023), .ref 95], (q_kN r5 c n))) 12 (fun _ _ => rfl) ?_
      refine q_RP_bd fun r6 er6 => ?_
      refine q_RP_call (v := (some (.int r6))) (h2 := (q_kN r5 c n)) rfl rfl ((dzt_N123_66 r5 c n r3 r4 r6 er6).le (Nat.le_of_ble_eq_true rfl)) ?_
      show q_RP _ _ _ (114, [(7, .int r4), (6, .int r3), (0, .ref 65), (1, .ref 95), (2, .int v2), (4, .int v4), (5, .int v5)], [.int r6, .int (((32 * v2) + v5) &&& 1023), .ref 95], (q_kN r5 c n)) _ _
      refine q_RP_rsT (g2 := (115, [(7, .int r4), (6, .int r3), (0, .ref 65), (1, .ref 95), (2, .int v2), (4, .int v4), (5, .int v5)], [], (q_kN (q_sA r5 31 (upd (r5.1 31) ((((32 * v2) + v5) &&& 1023).toNatClampNeg) r6)) c n))) rfl rfl (q_in_bd (x := ((32 * v2) + v5) &&& 1023) (n := 1024) (U := 1023) (L := 0) (q_and_lo ((32 * v2) + v5) 1023) (q_and_hi ((32 * v2) + v5) 1023 1023)) ?_
      refine q_RP_seg (g2 := (47, [(5, .int (v5 + 1)), (7, .int r4), (6, .int r3), (0, .ref 65), (1, .ref 95), (2, .int v2), (4, .int v4)], [], (q_kN (q_sA r5 31 (upd (r5.1 31) ((((32 * v2) + v5) &&& 1023).toNatClampNeg) r6)) c n))) 2 (fun _ _ => rfl) ?_
      exact q_RP_xt (q_xt_mk (q_mn1 3 rfl (q_mn1 4 rfl (q_mn1 5 rfl (q_mn1 6 rfl (q_mn1 0 rfl q_mn0))))) rfl) (hk47 (q_sA r5 31 (upd (r5.1 31) ((((32 * v2) + v5) &&& 1023).toNatClampNeg) r6)) v2 v4 (v5 + 1))
def dz_N103_65_95 (s : q_S) : Option (q_S) :=
  q_let (dz_N86_65 s) fun r1 => q_let (dz_N87_65 s) fun r2 => cond (decide ((r1 / 24) - 4 < 0)) (cond (decide (lg_cmp (((s.2.2 1 8) / 960) - ((s.2.2 1 8) / 960) / 2 * 2) 0 = 0)) (some (q_sI s 13 3 ((s.2.1 13 3) + 1))) (some (q_sI s 18 3 ((s.2.1 18 3) + 1)))) (cond (decide ((r1 / 24) - 4 < 32)) (cond (decide (r2 < 4)) (cond (decide (lg_cmp (((s.2.2 1 8) / 960) - ((s.2.2 1 8) / 960) / 2 * 2) 0 = 0)) (some (q_sI s 13 3 ((s.2.1 13 3) + 1))) (some (q_sI s 18 3 ((s.2.1 18 3) + 1)))) (cond (decide (19 < r2)) (cond (decide (lg_cmp (((s.2.2 1 8) / 960) - ((s.2.2 1 8) / 960) / 2 * 2) 0 = 0)) (some (q_sI s 13 3 ((s.2.1 13 3) + 1))) (some (q_sI s 18 3 ((s.2.1 18 3) + 1)))) (dz_N103_65_95_47 5000 s ((r1 / 24) - 4) (2 * (r2 - 4)) (2 * (r2 - 4))))) (cond (decide (lg_cmp (((s.2.2 1 8) / 960) - ((s.2.2 1 8) / 960) / 2 * 2) 0 = 0)) (some (q_sI s 13 3 ((s.2.1 13 3) + 1))) (some (q_sI s 18 3 ((s.2.1 18 3) + 1)))))
set_option maxHeartbeats 4000000 in
theorem dzt_N103_65_95 (s : q_S) (c n : Nat) (x : q_S) (h : dz_N103_65_95 s = some x) : q_Ca q_TB0 3 102 [.ref 65, .ref 95] (q_kN s c n) ((q_oSN c n) x) := by
  refine q_CaP_of (φ := (q_oSN c n)) (Nat.le_of_ble_eq_true rfl) ?_ h
  clear h
  unfold dz_N103_65_95
  refine q_RP_seg (g2 := (1, [(0, .ref 65), (1, .ref 95)], [.ref 65], (q_kN s c n))) 1 (fun _ _ => rfl) ?_
  refine q_RP_call (v := (some (.int (dz_N86_65 s)))) (h2 := (q_kN s c n)) rfl rfl ((dzt_N86_65 s c n).le (Nat.le_of_ble_eq_true rfl)) ?_
  generalize dz_N86_65 s = r1
  refine q_RP_let ?_
  show q_RP _ _ _ (4, [(0, .ref 65), (1, .ref 95)], [.int r1], (q_kN s c n)) _ _
  refine q_RP_seg (g2 := (11, [(2, .int ((r1 / 24) - 4)), (0, .ref 65), (1, .ref 95)], [.ref 65], (q_kN s c n))) 6 (fun _ _ => rfl) ?_
  refine q_RP_call (v := (some (.int (dz_N87_65 s)))) (h2 := (q_kN s c n)) rfl rfl ((dzt_N87_65 s c n).le (Nat.le_of_ble_eq_true rfl)) ?_
  generalize dz_N87_65 s = r2
  refine q_RP_let ?_
  show q_RP _ _ _ (14, [(2, .int ((r1 / 24) - 4)), (0, .ref 65), (1, .ref 95)], [.int r2], (q_kN s c n)) _ _
  refine q_RP_seg (g2 := (16, [(3, .int r2), (2, .int ((r1 / 24) - 4)), (0, .ref 65), (1, .ref 95)], [.int ((r1 / 24) - 4)], (q_kN s c n))) 2 (fun _ _ => rfl) ?_
  cases h1 : decide ((r1 / 24) - 4 < 0) with
  | true =>
    refine q_RP_cT ?_
    refine q_RP_rsT (g2 := (121, [(3, .int r2), (2, .int ((r1 / 24) - 4)), (0, .ref 65), (1, .ref 95)], [], (q_kN s c n))) rfl rfl h1 ?_
    refine q_RP_seg (g2 := (122, [(3, .int r2), (2, .int ((r1 / 24) - 4)), (0, .ref 65), (1, .ref 95)], [.ref 65], (q_kN s c n))) 1 (fun _ _ => rfl) ?_
    cases h2 : decide (lg_cmp (((s.2.2 1 8) / 960) - ((s.2.2 1 8) / 960) / 2 * 2) 0 = 0) with
    | true =>
      refine q_RP_cT ?_
      refine q_RP_call (v := (some (.ref 77))) (h2 := (q_kN s c n)) rfl rfl ?_ ?_
      · refine q_Ca_of (Nat.le_of_ble_eq_true rfl) ?_
        refine q_Ru_seg (g2 := (14, [(0, .ref 65)], [.int (lg_cmp (((s.2.2 1 8) / 960) - ((s.2.2 1 8) / 960) / 2 * 2) 0)], (q_kN s c n))) 8 (fun _ _ => rfl) ?_
        refine q_Ru_rsF (g2 := (17, [(0, .ref 65)], [], (q_kN s c n))) rfl rfl (q_d_neT h2) ?_
        refine q_Ru_seg (g2 := (28, [(0, .ref 65)], [.ref 77], (q_kN s c n))) 3 (fun _ _ => rfl) ?_
        exact q_Ru_ret rfl rfl
      show q_RP _ _ _ (125, [(3, .int r2), (2, .int ((r1 / 24) - 4)), (0, .ref 65), (1, .ref 95)], [.ref 77], (q_kN s c n)) _ _
      refine q_RP_seg (g2 := (129, [(3, .int r2), (2, .int ((r1 / 24) - 4)), (0, .ref 65), (1, .ref 95)], [.int (s.2.1 13 3), .ref 77], (q_kN s c n))) 2 (fun _ _ => rfl) ?_
      refine q_RP_seg (g2 := (134, [(3, .int r2), (2, .int ((r1 / 24) - 4)), (0, .ref 65), (1, .ref 95)], [], (q_kN (q_sI s 13 3 ((s.2.1 13 3) + 1)) c n))) 3 (fun _ _ => rfl) ?_
      exact q_RP_ret rfl rfl rfl
    | false =>
      refine q_RP_cF ?_
      refine q_RP_call (v := (some (.ref 82))) (h2 := (q_kN s c n)) rfl rfl ?_ ?_
      · refine q_Ca_of (Nat.le_of_ble_eq_true rfl) ?_
        refine q_Ru_seg (g2 := (14, [(0, .ref 65)], [.int (lg_cmp (((s.2.2 1 8) / 960) - ((s.2.2 1 8) / 960) / 2 * 2) 0)], (q_kN s c n))) 8 (fun _ _ => rfl) ?_
        refine q_Ru_rsT (g2 := (24, [(0, .ref 65)], [], (q_kN s c n))) rfl rfl (q_d_neF h2) ?_
        refine q_Ru_seg (g2 := (28, [(0, .ref 65)], [.ref 82], (q_kN s c n))) 2 (fun _ _ => rfl) ?_
        exact q_Ru_ret rfl rfl
      show q_RP _ _ _ (125, [(3, .int r2), (2, .int ((r1 / 24) - 4)), (0, .ref 65), (1, .ref 95)], [.ref 82], (q_kN s c n)) _ _
      refine q_RP_seg (g2 := (129, [(3, .int r2), (2, .int ((r1 / 24) - 4)), (0, .ref 65), (1, .ref 95)], [.int (s.2.1 18 3), .ref 82], (q_kN s c n))) 2 (fun _ _ => rfl) ?_
      refine q_RP_seg (g2 := (134, [(3, .int r2), (2, .int ((r1 / 24) - 4)), (0, .ref 65), (1, .ref 95)], [], (q_kN (q_sI s 18 3 ((s.2.1 18 3) + 1)) c n))) 3 (fun _ _ => rfl) ?_
      exact q_RP_ret rfl rfl rfl
  | false =>
    refine q_RP_cF ?_
    refine q_RP_rsF (g2 := (19, [(3, .int r2), (2, .int ((r1 / 24) - 4)), (0, .ref 65), (1, .ref 95)], [], (q_kN s c n))) rfl rfl h1 ?_
    refine q_RP_seg (g2 := (22, [(3, .int r2), (2, .int ((r1 / 24) - 4)), (0, .ref 65), (1, .ref 95)], [.int 32, .int ((r1 / 24) - 4)], (q_kN s c n))) 2 (fun _ _ => rfl) ?_
    cases h3 : decide ((r1 / 24) - 4 < 32) with
    | true =>
      refine q_RP_cT ?_
      refine q_RP_rsF (g2 := (25, [(3, .int r2), (2, .int ((r1 / 24) - 4)), (0, .ref 65), (1, .ref 95)], [], (q_kN s c n))) rfl rfl (q_d_geT h3) ?_
      refine q_RP_seg (g2 := (27, [(3, .int r2), (2, .int ((r1 / 24) - 4)), (0, .ref 65), (1, .ref 95)], [.int 4, .int r2], (q_kN s c n))) 2 (fun _ _ => rfl) ?_
      cases h4 : decide (r2 < 4) with
      | true =>
        refine q_RP_cT ?_
        refine q_RP_rsT (g2 := (121, [(3, .int r2), (2, .int ((r1 / 24) - 4)), (0, .ref 65), (1, .ref 95)], [], (q_kN s c n))) rfl rfl h4 ?_
        refine q_RP_seg (g2 := (122, [(3, .int r2), (2, .int ((r1 / 24) - 4)), (0, .ref 65), (1, .ref 95)], [.ref 65], (q_kN s c n))) 1 (fun _ _ => rfl) ?_
        cases h5 : decide (lg_cmp (((s.2.2 1 8) / 960) - ((s.2.2 1 8) / 960) / 2 * 2) 0 = 0) with
        | true =>
          refine q_RP_cT ?_
          refine q_RP_call (v := (some (.ref 77))) (h2 := (q_kN s c n)) rfl rfl ?_ ?_
          · refine q_Ca_of (Nat.le_of_ble_eq_true rfl) ?_
            refine q_Ru_seg (g2 := (14, [(0, .ref 65)], [.int (lg_cmp (((s.2.2 1 8) / 960) - ((s.2.2 1 8) / 960) / 2 * 2) 0)], (q_kN s c n))) 8 (fun _ _ => rfl) ?_
            refine q_Ru_rsF (g2 := (17, [(0, .ref 65)], [], (q_kN s c n))) rfl rfl (q_d_neT h5) ?_
            refine q_Ru_seg (g2 := (28, [(0, .ref 65)], [.ref 77], (q_kN s c n))) 3 (fun _ _ => rfl) ?_
            exact q_Ru_ret rfl rfl
          show q_RP _ _ _ (125, [(3, .int r2), (2, .int ((r1 / 24) - 4)), (0, .ref 65), (1, .ref 95)], [.ref 77], (q_kN s c n)) _ _
          refine q_RP_seg (g2 := (129, [(3, .int r2), (2, .int ((r1 / 24) - 4)), (0, .ref 65), (1, .ref 95)], [.int (s.2.1 13 3), .ref 77], (q_kN s c n))) 2 (fun _ _ => rfl) ?_
          refine q_RP_seg (g2 := (134, [(3, .int r2), (2, .int ((r1 / 24) - 4)), (0, .ref 65), (1, .ref 95)], [], (q_kN (q_sI s 13 3 ((s.2.1 13 3) + 1)) c n))) 3 (fun _ _ => rfl) ?_
          exact q_RP_ret rfl rfl rfl
        | false =>
          refine q_RP_cF ?_
          refine q_RP_call (v := (some (.ref 82))) (h2 := (q_kN s c n)) rfl rfl ?_ ?_
          · refine q_Ca_of (Nat.le_of_ble_eq_true rfl) ?_
            refine q_Ru_seg (g2 := (14, [(0, .ref 65)], [.int (lg_cmp (((s.2.2 1 8) / 960) - ((s.2.2 1 8) / 960) / 2 * 2) 0)], (q_kN s c n))) 8 (fun _ _ => rfl) ?_
            refine q_Ru_rsT (g2 := (24, [(0, .ref 65)], [], (q_kN s c n))) rfl rfl (q_d_neF h5) ?_
            refine q_Ru_seg (g2 := (28, [(0, .ref 65)], [.ref 82], (q_kN s c n))) 2 (fun _ _ => rfl) ?_
            exact q_Ru_ret rfl rfl
          show q_RP _ _ _ (125, [(3, .int r2), (2, .int ((r1 / 24) - 4)), (0, .ref 65), (1, .ref 95)], [.ref 82], (q_kN s c n)) _ _
          refine q_RP_seg (g2 := (129, [(3, .int r2), (2, .int ((r1 / 24) - 4)), (0, .ref 65), (1, .ref 95)], [.int (s.2.1 18 3), .ref 82], (q_kN s c n))) 2 (fun _ _ => rfl) ?_
          refine q_RP_seg (g2 := (134, [(3, .int r2), (2, .int ((r1 / 24) - 4)), (0, .ref 65), (1, .ref 95)], [], (q_kN (q_sI s 18 3 ((s.2.1 18 3) + 1)) c n))) 3 (fun _ _ => rfl) ?_
          exact q_RP_ret rfl rfl rfl
      | false =>
        refine q_RP_cF ?_
        refine q_RP_rsF (g2 := (30, [(3, .int r2), (2, .int ((r1 / 24) - 4)), (0, .ref 65), (1, .ref 95)], [], (q_kN s c n))) rfl rfl h4 ?_
        refine q_RP_seg (g2 := (33, [(3, .int r2), (2, .int ((r1 / 24) - 4)), (0, .ref 65), (1, .ref 95)], [.int 19, .int r2], (q_kN s c n))) 2 (fun _ _ => rfl) ?_
        cases h6 : decide (19 < r2) with
        | true =>
          refine q_RP_cT ?_
          refine q_RP_rsT (g2 := (121, [(3, .int r2), (2, .int ((r1 / 24) - 4)), (0, .ref 65), (1, .ref 95)], [], (q_kN s c n))) rfl rfl h6 ?_
          refine q_RP_seg (g2 := (122, [(3, .int r2), (2, .int ((r1 / 24) - 4)), (0, .ref 65), (1, .ref 95)], [.ref 65], (q_kN s c n))) 1 (fun _ _ => rfl) ?_
          cases h7 : decide (lg_cmp (((s.2.2 1 8) / 960) - ((s.2.2 1 8) / 960) / 2 * 2) 0 = 0) with
          | true =>
            refine q_RP_cT ?_
            refine q_RP_call (v := (some (.ref 77))) (h2 := (q_kN s c n)) rfl rfl ?_ ?_
            · refine q_Ca_of (Nat.le_of_ble_eq_true rfl) ?_
              refine q_Ru_seg (g2 := (14, [(0, .ref 65)], [.int (lg_cmp (((s.2.2 1 8) / 960) - ((s.2.2 1 8) / 960) / 2 * 2) 0)], (q_kN s c n))) 8 (fun _ _ => rfl) ?_
              refine q_Ru_rsF (g2 := (17, [(0, .ref 65)], [], (q_kN s c n))) rfl rfl (q_d_neT h7) ?_
              refine q_Ru_seg (g2 := (28, [(0, .ref 65)], [.ref 77], (q_kN s c n))) 3 (fun _ _ => rfl) ?_
              exact q_Ru_ret rfl rfl
            show q_RP _ _ _ (125, [(3, .int r2), (2, .int ((r1 / 24) - 4)), (0, .ref 65), (1, .ref 95)], [.ref 77], (q_kN s c n)) _ _
            refine q_RP_seg (g2 := (129, [(3, .int r2), (2, .int ((r1 / 24) - 4)), (0, .ref 65), (1, .ref 95)], [.int (s.2.1 13 3), .ref 77], (q_kN s c n))) 2 (fun _ _ => rfl) ?_
            refine q_RP_seg (g2 := (134, [(3, .int r2), (2, .int ((r1 / 24) - 4)), (0, .ref 65), (1, .ref 95)], [], (q_kN (q_sI s 13 3 ((s.2.1 13 3) + 1)) c n))) 3 (fun _ _ => rfl) ?_
            exact q_RP_ret rfl rfl rfl
          | false =>
            refine q_RP_cF ?_
            refine q_RP_call (v := (some (.ref 82))) (h2 := (q_kN s c n)) rfl rfl ?_ ?_
            · refine q_Ca_of (Nat.le_of_ble_eq_true rfl) ?_
              refine q_Ru_seg (g2 := (14, [(0, .ref 65)], [.int (lg_cmp (((s.2.2 1 8) / 960) - ((s.2.2 1 8) / 960) / 2 * 2) 0)], (q_kN s c n))) 8 (fun _ _ => rfl) ?_
              refine q_Ru_rsT (g2 := (24, [(0, .ref 65)], [], (q_kN s c n))) rfl rfl (q_d_neF h7) ?_
              refine q_Ru_seg (g2 := (28, [(0, .ref 65)], [.ref 82], (q_kN s c n))) 2 (fun _ _ => rfl) ?_
              exact q_Ru_ret rfl rfl
            show q_RP _ _ _ (125, [(3, .int r2), (2, .int ((r1 / 24) - 4)), (0, .ref 65), (1, .ref 95)], [.ref 82], (q_kN s c n)) _ _
            refine q_RP_seg (g2 := (129, [(3, .int r2), (2, .int ((r1 / 24) - 4)), (0, .ref 65), (1, .ref 95)], [.int (s.2.1 18 3), .ref 82], (q_kN s c n))) 2 (fun _ _ => rfl) ?_
            refine q_RP_seg (g2 := (134, [(3, .int r2), (2, .int ((r1 / 24) - 4)), (0, .ref 65), (1, .ref 95)], [], (q_kN (q_sI s 18 3 ((s.2.1 18 3) + 1)) c n))) 3 (fun _ _ => rfl) ?_
            exact q_RP_ret rfl rfl rfl
        | false =>
          refine q_RP_cF ?_
          refine q_RP_rsF (g2 := (36, [(3, .int r2), (2, .int ((r1 / 24) - 4)), (0, .ref 65), (1, .ref 95)], [], (q_kN s c n))) rfl rfl h6 ?_
          refine q_RP_seg (g2 := (47, [(5, .int (2 * (r2 - 4))), (4, .int (2 * (r2 - 4))), (3, .int r2), (2, .int ((r1 / 24) - 4)), (0, .ref 65), (1, .ref 95)], [], (q_kN s c n))) 8 (fun _ _ => rfl) ?_
          exact q_RP_xt (q_xt_mk (q_mn1 4 rfl (q_mn1 5 rfl (q_mn1 3 rfl (q_mn1 1 rfl (q_mn1 0 rfl q_mn0))))) rfl) (dzt_N103_65_95_47 c n 5000 s ((r1 / 24) - 4) (2 * (r2 - 4)) (2 * (r2 - 4)))
    | false =>
      refine q_RP_cF ?_
      refine q_RP_rsT (g2 := (121, [(3, .int r2), (2, .int ((r1 / 24) - 4)), (0, .ref 65), (1, .ref 95)], [], (q_kN s c n))) rfl rfl (q_d_geF h3) ?_
      refine q_RP_seg (g2 := (122, [(3, .int r2), (2, .int ((r1 / 24) - 4)), (0, .ref 65), (1, .ref 95)], [.ref 65], (q_kN s c n))) 1 (fun _ _ => rfl) ?_
      cases h10 : decide (lg_cmp (((s.2.2 1 8) / 960) - ((s.2.2 1 8) / 960) / 2 * 2) 0 = 0) with
      | true =>
        refine q_RP_cT ?_
        refine q_RP_call (v := (some (.ref 77))) (h2 := (q_kN s c n)) rfl rfl ?_ ?_
        · refine q_Ca_of (Nat.le_of_ble_eq_true rfl) ?_
          refine q_Ru_seg (g2 := (14, [(0, .ref 65)], [.int (lg_cmp (((s.2.2 1 8) / 960) - ((s.2.2 1 8) / 960) / 2 * 2) 0)], (q_kN s c n))) 8 (fun _ _ => rfl) ?_
          refine q_Ru_rsF (g2 := (17, [(0, .ref 65)], [], (q_kN s c n))) rfl rfl (q_d_neT h10) ?_
          refine q_Ru_seg (g2 := (28, [(0, .ref 65)], [.ref 77], (q_kN s c n))) 3 (fun _ _ => rfl) ?_
          exact q_Ru_ret rfl rfl
        show q_RP _ _ _ (125, [(3, .int r2), (2, .int ((r1 / 24) - 4)), (0, .ref 65), (1, .ref 95)], [.ref 77], (q_kN s c n)) _ _
        refine q_RP_seg (g2 := (129, [(3, .int r2), (2, .int ((r1 / 24) - 4)), (0, .ref 65), (1, .ref 95)], [.int (s.2.1 13 3), .ref 77], (q_kN s c n))) 2 (fun _ _ => rfl) ?_
        refine q_RP_seg (g2 := (134, [(3, .int r2), (2, .int ((r1 / 24) - 4)), (0, .ref 65), (1, .ref 95)], [], (q_kN (q_sI s 13 3 ((s.2.1 13 3) + 1)) c n))) 3 (fun _ _ => rfl) ?_
        exact q_RP_ret rfl rfl rfl
      | false =>
        refine q_RP_cF ?_
        refine q_RP_call (v := (some (.ref 82))) (h2 := (q_kN s c n)) rfl rfl ?_ ?_
        · refine q_Ca_of (Nat.le_of_ble_eq_true rfl) ?_
          refine q_Ru_seg (g2 := (14, [(0, .ref 65)], [.int (lg_cmp (((s.2.2 1 8) / 960) - ((s.2.2 1 8) / 960) / 2 * 2) 0)], (q_kN s c n))) 8 (fun _ _ => rfl) ?_
          refine q_Ru_rsT (g2 := (24, [(0, .ref 65)], [], (q_kN s c n))) rfl rfl (q_d_neF h10) ?_
          refine q_Ru_seg (g2 := (28, [(0, .ref 65)], [.ref 82], (q_kN s c n))) 2 (fun _ _ => rfl) ?_
          exact q_Ru_ret rfl rfl
        show q_RP _ _ _ (125, [(3, .int r2), (2, .int ((r1 / 24) - 4)), (0, .ref 65), (1, .ref 95)], [.ref 82], (q_kN s c n)) _ _
        refine q_RP_seg (g2 := (129, [(3, .int r2), (2, .int ((r1 / 24) - 4)), (0, .ref 65), (1, .ref 95)], [.int (s.2.1 18 3), .ref 82], (q_kN s c n))) 2 (fun _ _ => rfl) ?_
        refine q_RP_seg (g2 := (134, [(3, .int r2), (2, .int ((r1 / 24) - 4)), (0, .ref 65), (1, .ref 95)], [], (q_kN (q_sI s 18 3 ((s.2.1 18 3) + 1)) c n))) 3 (fun _ _ => rfl) ?_
        exact q_RP_ret rfl rfl rfl
def dz_N105_65 (s : q_S) (a1 : Int32) : Option (q_S × Bool) :=
  cond (decide (0 < (s.1 7) ((a1 &&& 1).toNatClampNeg))) (some ((q_sA s 7 (upd (s.1 7) ((a1 &&& 1).toNatClampNeg) (((s.1 7) ((a1 &&& 1).toNatClampNeg)) - 1))), false)) ((dz_N95_65 s ((1 : Int32) <<< ((a1 &&& 1) &&& 31))).bind fun r2 => some ((q_sA r2 4 (upd (r2.1 4) 10 (((r2.1 4) 10) ||| ((2 : Int32) <<< ((a1 &&& 1) &&& 31))))), true))
set_option maxHeartbeats 4000000 in
theorem dzt_N105_65 (s : q_S) (c n : Nat) (a1 : Int32) (x : q_S × Bool) (h : dz_N105_65 s a1 = some x) : q_Ca q_TB0 2 104 [.ref 65, .int a1] (q_kN s c n) ((q_oJN c n) x) := by
  refine q_CaP_of (φ := (q_oJN c n)) (Nat.le_of_ble_eq_true rfl) ?_ h
  clear h
  unfold dz_N105_65
  refine q_RP_seg (g2 := (9, [(2, .int (a1 &&& 1)), (0, .ref 65), (1, .int a1)], [.int (a1 &&& 1), .ref 71], (q_kN s c n))) 7 (fun _ _ => rfl) ?_
  refine q_RP_rsT (g2 := (10, [(2, .int (a1 &&& 1)), (0, .ref 65), (1, .int a1)], [.int ((s.1 7) ((a1 &&& 1).toNatClampNeg))], (q_kN s c n))) rfl rfl (q_in_bd (x := a1 &&& 1) (n := 2) (U := 1) (L := 0) (q_and_lo a1 1) (q_and_hi a1 1 1)) ?_
  cases h2 : decide (0 < (s.1 7) ((a1 &&& 1).toNatClampNeg)) with
  | true =>
    refine q_RP_cT ?_
    refine q_RP_rsF (g2 := (13, [(2, .int (a1 &&& 1)), (0, .ref 65), (1, .int a1)], [], (q_kN s c n))) rfl rfl (q_d_geT h2) ?_
    refine q_RP_seg (g2 := (19, [(2, .int (a1 &&& 1)), (0, .ref 65), (1, .int a1)], [.int (a1 &&& 1), .ref 71, .int (a1 &&& 1), .ref 71], (q_kN s c n))) 4 (fun _ _ => rfl) ?_
    refine q_RP_rsT (g2 := (20, [(2, .int (a1 &&& 1)), (0, .ref 65), (1, .int a1)], [.int ((s.1 7) ((a1 &&& 1).toNatClampNeg)), .int (a1 &&& 1), .ref 71], (q_kN s c n))) rfl rfl (q_in_bd (x := a1 &&& 1) (n := 2) (U := 1) (L := 0) (q_and_lo a1 1) (q_and_hi a1 1 1)) ?_
    refine q_RP_seg (g2 := (22, [(2, .int (a1 &&& 1)), (0, .ref 65), (1, .int a1)], [.int (((s.1 7) ((a1 &&& 1).toNatClampNeg)) - 1), .int (a1 &&& 1), .ref 71], (q_kN s c n))) 2 (fun _ _ => rfl) ?_
    refine q_RP_rsT (g2 := (23, [(2, .int (a1 &&& 1)), (0, .ref 65), (1, .int a1)], [], (q_kN (q_sA s 7 (upd (s.1 7) ((a1 &&& 1).toNatClampNeg) (((s.1 7) ((a1 &&& 1).toNatClampNeg)) - 1))) c n))) rfl rfl (q_in_bd (x := a1 &&& 1) (n := 2) (U := 1) (L := 0) (q_and_lo a1 1) (q_and_hi a1 1 1)) ?_
    refine q_RP_seg (g2 := (24, [(2, .int (a1 &&& 1)), (0, .ref 65), (1, .int a1)], [.int 0], (q_kN (q_sA s 7 (upd (s.1 7) ((a1 &&& 1).toNatClampNeg) (((s.1 7) ((a1 &&& 1).toNatClampNeg)) - 1))) c n))) 1 (fun _ _ => rfl) ?_
    exact q_RP_ret rfl rfl rfl
  | false =>
    refine q_RP_cF ?_
    refine q_RP_rsT (g2 := (25, [(2, .int (a1 &&& 1)), (0, .ref 65), (1, .int a1)], [], (q_kN s c n))) rfl rfl (q_d_geF h2) ?_
    refine q_RP_seg (g2 := (29, [(2, .int (a1 &&& 1)), (0, .ref 65), (1, .int a1)], [.int ((1 : Int32) <<< ((a1 &&& 1) &&& 31)), .ref 65], (q_kN s c n))) 4 (fun _ _ => rfl) ?_
    refine q_RP_bd fun r2 er2 => ?_
    refine q_RP_call (v := none) (h2 := (q_kN r2 c n)) rfl rfl ((dzt_N95_65 s c n ((1 : Int32) <<< ((a1 &&& 1) &&& 31)) r2 er2).le (Nat.le_of_ble_eq_true rfl)) ?_
    show q_RP _ _ _ (32, [(2, .int (a1 &&& 1)), (0, .ref 65), (1, .int a1)], [], (q_kN r2 c n)) _ _
    refine q_RP_seg (g2 := (43, [(2, .int (a1 &&& 1)), (0, .ref 65), (1, .int a1)], [.int ((r2.1 4) 10), .int 10, .ref 68], (q_kN r2 c n))) 6 (fun _ _ => rfl) ?_
    refine q_RP_seg (g2 := (49, [(2, .int (a1 &&& 1)), (0, .ref 65), (1, .int a1)], [.int 1], (q_kN (q_sA r2 4 (upd (r2.1 4) 10 (((r2.1 4) 10) ||| ((2 : Int32) <<< ((a1 &&& 1) &&& 31))))) c n))) 6 (fun _ _ => rfl) ?_
    exact q_RP_ret rfl rfl rfl
def dz_N104_65_26 (s : q_S) (v1 : Int32) (v2 : Int32) : Option (q_S) :=
  cond (decide (v1 &&& 2 = 2)) (cond (decide (v1 &&& 4 = 0)) ((dz_N105_65 s 1).bind fun r3 => cond r3.2 (some r3.1) (some r3.1)) (cond (decide (v2 = 0)) (some s) ((dz_N105_65 s 1).bind fun r4 => cond r4.2 (some r4.1) (some r4.1)))) (some s)
set_option maxHeartbeats 4000000 in
theorem dzt_N104_65_26 (c n : Nat) (s : q_S) (v1 : Int32) (v2 : Int32) : q_RP q_TB0 2 103 (26, [(0, .ref 65), (1, .int v1), (2, .int v2)], [], (q_kN s c n)) (q_oSN c n) (dz_N104_65_26 s v1 v2) := by
  unfold dz_N104_65_26
  refine q_RP_seg (g2 := (30, [(0, .ref 65), (1, .int v1), (2, .int v2)], [.int 2, .int (v1 &&& 2)], (q_kN s c n))) 4 (fun _ _ => rfl) ?_
  cases h4 : decide (v1 &&& 2 = 2) with
  | true =>
    refine q_RP_cT ?_
    refine q_RP_rsF (g2 := (33, [(0, .ref 65), (1, .int v1), (2, .int v2)], [], (q_kN s c n))) rfl rfl (q_d_neT h4) ?_
    refine q_RP_seg (g2 := (36, [(0, .ref 65), (1, .int v1), (2, .int v2)], [.int (v1 &&& 4)], (q_kN s c n))) 3 (fun _ _ => rfl) ?_
    cases h5 : decide (v1 &&& 4 = 0) with
    | true =>
      refine q_RP_cT ?_
      refine q_RP_rsT (g2 := (43, [(0, .ref 65), (1, .int v1), (2, .int v2)], [], (q_kN s c n))) rfl rfl h5 ?_
      refine q_RP_seg (g2 := (45, [(0, .ref 65), (1, .int v1), (2, .int v2)], [.int 1, .ref 65], (q_kN s c n))) 2 (fun _ _ => rfl) ?_
      refine q_RP_bd fun r3 er3 => ?_
      refine q_RP_call (v := (some (.int (q_b r3.2)))) (h2 := (q_kN r3.1 c n)) rfl rfl ((dzt_N105_65 s c n 1 r3 er3).le (Nat.le_of_ble_eq_true rfl)) ?_
      show q_RP _ _ _ (48, [(0, .ref 65), (1, .int v1), (2, .int v2)], [.int (q_b r3.2)], (q_kN r3.1 c n)) _ _
      cases h6 : r3.2 with
      | true =>
        refine q_RP_cT ?_
        show q_RP _ _ _ (48, [(0, .ref 65), (1, .int v1), (2, .int v2)], [.int 1], (q_kN r3.1 c n)) _ _
        refine q_RP_seg (g2 := (49, [(0, .ref 65), (1, .int v1), (2, .int v2)], [], (q_kN r3.1 c n))) 1 (fun _ _ => rfl) ?_
        exact q_RP_ret rfl rfl rfl
      | false =>
        refine q_RP_cF ?_
        show q_RP _ _ _ (48, [(0, .ref 65), (1, .int v1), (2, .int v2)], [.int 0], (q_kN r3.1 c n)) _ _
        refine q_RP_seg (g2 := (49, [(0, .ref 65), (1, .int v1), (2, .int v2)], [], (q_kN r3.1 c n))) 1 (fun _ _ => rfl) ?_
        exact q_RP_ret rfl rfl rfl
    | false =>
      refine q_RP_cF ?_
      refine q_RP_rsF (g2 := (39, [(0, .ref 65), (1, .int v1), (2, .int v2)], [], (q_kN s c n))) rfl rfl h5 ?_
      refine q_RP_seg (g2 := (40, [(0, .ref 65), (1, .int v1), (2, .int v2)], [.int v2], (q_kN s c n))) 1 (fun _ _ => rfl) ?_
      cases h7 : decide (v2 = 0) with
      | true =>
        refine q_RP_cT ?_
        refine q_RP_rsT (g2 := (49, [(0, .ref 65), (1, .int v1), (2, .int v2)], [], (q_kN s c n))) rfl rfl h7 ?_
        exact q_RP_ret rfl rfl rfl
      | false =>
        refine q_RP_cF ?_
        refine q_RP_rsF (g2 := (43, [(0, .ref 65), (1, .int v1), (2, .int v2)], [], (q_kN s c n))) rfl rfl h7 ?_
        refine q_RP_seg (g2 := (45, [(0, .ref 65), (1, .int v1), (2, .int v2)], [.int 1, .ref 65], (q_kN s c n))) 2 (fun _ _ => rfl) ?_
        refine q_RP_bd fun r4 er4 => ?_
        refine q_RP_call (v := (some (.int (q_b r4.2)))) (h2 := (q_kN r4.1 c n)) rfl rfl ((dzt_N105_65 s c n 1 r4 er4).le (Nat.le_of_ble_eq_true rfl)) ?_
        show q_RP _ _ _ (48, [(0, .ref 65), (1, .int v1), (2, .int v2)], [.int (q_b r4.2)], (q_kN r4.1 c n)) _ _
        cases h8 : r4.2 with
        | true =>
          refine q_RP_cT ?_
          show q_RP _ _ _ (48, [(0, .ref 65), (1, .int v1), (2, .int v2)], [.int 1], (q_kN r4.1 c n)) _ _
          refine q_RP_seg (g2 := (49, [(0, .ref 65), (1, .int v1), (2, .int v2)], [], (q_kN r4.1 c n))) 1 (fun _ _ => rfl) ?_
          exact q_RP_ret rfl rfl rfl
        | false =>
          refine q_RP_cF ?_
          show q_RP _ _ _ (48, [(0, .ref 65), (1, .int v1), (2, .int v2)], [.int 0], (q_kN r4.1 c n)) _ _
          refine q_RP_seg (g2 := (49, [(0, .ref 65), (1, .int v1), (2, .int v2)], [], (q_kN r4.1 c n))) 1 (fun _ _ => rfl) ?_
          exact q_RP_ret rfl rfl rfl
  | false =>
    refine q_RP_cF ?_
    refine q_RP_rsT (g2 := (49, [(0, .ref 65), (1, .int v1), (2, .int v2)], [], (q_kN s c n))) rfl rfl (q_d_neF h4) ?_
    exact q_RP_ret rfl rfl rfl
def dz_N104_65 (s : q_S) : Option (q_S) :=
  cond (decide (((s.1 4) 16) &&& 1 = 1)) ((dz_N105_65 s 0).bind fun r2 => cond r2.2 (dz_N104_65_26 r2.1 ((s.1 4) 16) 1) (dz_N104_65_26 r2.1 ((s.1 4) 16) 0)) (dz_N104_65_26 s ((s.1 4) 16) 0)
set_option maxHeartbeats 4000000 in
theorem dzt_N104_65 (s : q_S) (c n : Nat) (x : q_S) (h : dz_N104_65 s = some x) : q_Ca q_TB0 3 103 [.ref 65] (q_kN s c n) ((q_oSN c n) x) := by
  refine q_CaP_of (φ := (q_oSN c n)) (Nat.le_of_ble_eq_true rfl) ?_ h
  clear h
  unfold dz_N104_65
  refine q_RP_seg (g2 := (10, [(0, .ref 65)], [.int ((s.1 4) 16)], (q_kN s c n))) 5 (fun _ _ => rfl) ?_
  refine q_RP_seg (g2 := (17, [(2, .int 0), (1, .int ((s.1 4) 16)), (0, .ref 65)], [.int 1, .int (((s.1 4) 16) &&& 1)], (q_kN s c n))) 7 (fun _ _ => rfl) ?_
  cases h2 : decide (((s.1 4) 16) &&& 1 = 1) with
  | true =>
    refine q_RP_cT ?_
    refine q_RP_rsF (g2 := (20, [(2, .int 0), (1, .int ((s.1 4) 16)), (0, .ref 65)], [], (q_kN s c n))) rfl rfl (q_d_neT h2) ?_
    refine q_RP_seg (g2 := (22, [(2, .int 0), (1, .int ((s.1 4) 16)), (0, .ref 65)], [.int 0, .ref 65], (q_kN s c n))) 2 (fun _ _ => rfl) ?_
    refine q_RP_bd fun r2 er2 => ?_
    refine q_RP_call (v := (some (.int (q_b r2.2)))) (h2 := (q_kN r2.1 c n)) rfl rfl ((dzt_N105_65 s c n 0 r2 er2).le (Nat.le_of_ble_eq_true rfl)) ?_
    show q_RP _ _ _ (25, [(2, .int 0), (1, .int ((s.1 4) 16)), (0, .ref 65)], [.int (q_b r2.2)], (q_kN r2.1 c n)) _ _
    cases h3 : r2.2 with
    | true =>
      refine q_RP_cT ?_
      show q_RP _ _ _ (25, [(2, .int 0), (1, .int ((s.1 4) 16)), (0, .ref 65)], [.int 1], (q_kN r2.1 c n)) _ _
      refine q_RP_seg (g2 := (26, [(2, .int 1), (1, .int ((s.1 4) 16)), (0, .ref 65)], [], (q_kN r2.1 c n))) 1 (fun _ _ => rfl) ?_
      exact q_RP_xt (q_xt_mk (q_mn1 2 rfl (q_mn1 1 rfl (q_mn1 0 rfl q_mn0))) rfl) (dzt_N104_65_26 c n r2.1 ((s.1 4) 16) 1)
    | false =>
      refine q_RP_cF ?_
      show q_RP _ _ _ (25, [(2, .int 0), (1, .int ((s.1 4) 16)), (0, .ref 65)], [.int 0], (q_kN r2.1 c n)) _ _
      refine q_RP_seg (g2 := (26, [(2, .int 0), (1, .int ((s.1 4) 16)), (0, .ref 65)], [], (q_kN r2.1 c n))) 1 (fun _ _ => rfl) ?_
      exact q_RP_xt (q_xt_mk (q_mn1 2 rfl (q_mn1 1 rfl (q_mn1 0 rfl q_mn0))) rfl) (dzt_N104_65_26 c n r2.1 ((s.1 4) 16) 0)
  | false =>
    refine q_RP_cF ?_
    refine q_RP_rsT (g2 := (26, [(2, .int 0), (1, .int ((s.1 4) 16)), (0, .ref 65)], [], (q_kN s c n))) rfl rfl (q_d_neF h2) ?_
    exact q_RP_xt (q_xt_mk (q_mn1 2 rfl (q_mn1 1 rfl (q_mn1 0 rfl q_mn0))) rfl) (dzt_N104_65_26 c n s ((s.1 4) 16) 0)
def dz_N177_72 (s : q_S) : q_S × Bool :=
  cond (decide (s.2.1 8 2 < 0)) ((s, false)) (cond (decide (s.2.1 8 2 < s.2.1 8 1)) (cond (decide (s.2.1 8 2 < 40)) (cond (decide ((s.2.1 8 3) + 1 < (s.1 9) ((s.2.1 8 2).toNatClampNeg))) (((q_sI s 8 3 ((s.2.1 8 3) + 1)), false)) (((q_sI (q_sI (q_sI s 8 3 0) 8 2 ((s.2.1 8 2) + 1)) 8 4 ((1 : Int32) - (s.2.1 8 4))), true))) ((s, false))) ((s, false)))
set_option maxHeartbeats 4000000 in
theorem dzt_N177_72 (s : q_S) (c n : Nat) : q_Ca q_TB0 1 176 [.ref 72] (q_kN s c n) ((q_oJN c n) (dz_N177_72 s)) := by
  refine q_CaT_of (φ := (q_oJN c n)) (Nat.le_of_ble_eq_true rfl) ?_
  unfold dz_N177_72
  refine q_RT_seg (g2 := (4, [(0, .ref 72)], [.int (s.2.1 8 2)], (q_kN s c n))) 2 (fun _ _ => rfl) ?_
  cases h1 : decide (s.2.1 8 2 < 0) with
  | true =>
    refine q_RT_cT ?_
    refine q_RT_rsT (g2 := (27, [(0, .ref 72)], [], (q_kN s c n))) rfl rfl h1 ?_
    refine q_RT_seg (g2 := (28, [(0, .ref 72)], [.int 0], (q_kN s c n))) 1 (fun _ _ => rfl) ?_
    exact q_RT_ret rfl rfl rfl
  | false =>
    refine q_RT_cF ?_
    refine q_RT_rsF (g2 := (7, [(0, .ref 72)], [], (q_kN s c n))) rfl rfl h1 ?_
    refine q_RT_seg (g2 := (11, [(0, .ref 72)], [.int (s.2.1 8 2)], (q_kN s c n))) 2 (fun _ _ => rfl) ?_
    refine q_RT_seg (g2 := (15, [(0, .ref 72)], [.int (s.2.1 8 1), .int (s.2.1 8 2)], (q_kN s c n))) 2 (fun _ _ => rfl) ?_
    cases h2 : decide (s.2.1 8 2 < s.2.1 8 1) with
    | true =>
      refine q_RT_cT ?_
      refine q_RT_rsF (g2 := (18, [(0, .ref 72)], [], (q_kN s c n))) rfl rfl (q_d_geT h2) ?_
      refine q_RT_seg (g2 := (22, [(0, .ref 72)], [.int (s.2.1 8 2)], (q_kN s c n))) 2 (fun _ _ => rfl) ?_
      refine q_RT_seg (g2 := (24, [(0, .ref 72)], [.int 40, .int (s.2.1 8 2)], (q_kN s c n))) 1 (fun _ _ => rfl) ?_
      cases h3 : decide (s.2.1 8 2 < 40) with
      | true =>
        refine q_RT_cT ?_
        refine q_RT_rsT (g2 := (29, [(0, .ref 72)], [], (q_kN s c n))) rfl rfl h3 ?_
        refine q_RT_seg (g2 := (34, [(0, .ref 72)], [.int (s.2.1 8 3), .ref 72], (q_kN s c n))) 3 (fun _ _ => rfl) ?_
        refine q_RT_seg (g2 := (43, [(0, .ref 72)], [.int ((s.2.1 8 3) + 1)], (q_kN (q_sI s 8 3 ((s.2.1 8 3) + 1)) c n))) 5 (fun _ _ => rfl) ?_
        refine q_RT_seg (g2 := (51, [(0, .ref 72)], [.int (s.2.1 8 2), .ref 73, .int ((s.2.1 8 3) + 1)], (q_kN (q_sI s 8 3 ((s.2.1 8 3) + 1)) c n))) 4 (fun _ _ => rfl) ?_
        refine q_RT_rsT (g2 := (52, [(0, .ref 72)], [.int ((s.1 9) ((s.2.1 8 2).toNatClampNeg)), .int ((s.2.1 8 3) + 1)], (q_kN (q_sI s 8 3 ((s.2.1 8 3) + 1)) c n))) rfl rfl (q_in_bd (x := s.2.1 8 2) (n := 40) (U := 39) (L := 0) (q_lo1 h1) (q_hi1 h3)) ?_
        cases h4 : decide ((s.2.1 8 3) + 1 < (s.1 9) ((s.2.1 8 2).toNatClampNeg)) with
        | true =>
          refine q_RT_cT ?_
          refine q_RT_rsF (g2 := (55, [(0, .ref 72)], [], (q_kN (q_sI s 8 3 ((s.2.1 8 3) + 1)) c n))) rfl rfl (q_d_geT h4) ?_
          refine q_RT_seg (g2 := (56, [(0, .ref 72)], [.int 0], (q_kN (q_sI s 8 3 ((s.2.1 8 3) + 1)) c n))) 1 (fun _ _ => rfl) ?_
          exact q_RT_ret rfl rfl rfl
        | false =>
          refine q_RT_cF ?_
          refine q_RT_rsT (g2 := (57, [(0, .ref 72)], [], (q_kN (q_sI s 8 3 ((s.2.1 8 3) + 1)) c n))) rfl rfl (q_d_geF h4) ?_
          refine q_RT_seg (g2 := (67, [(0, .ref 72)], [.int (s.2.1 8 2), .ref 72], (q_kN (q_sI s 8 3 0) c n))) 6 (fun _ _ => rfl) ?_
          refine q_RT_seg (g2 := (78, [(0, .ref 72)], [.int (s.2.1 8 4), .int 1, .ref 72], (q_kN (q_sI (q_sI s 8 3 0) 8 2 ((s.2.1 8 2) + 1)) c n))) 7 (fun _ _ => rfl) ?_
          refine q_RT_seg (g2 := (83, [(0, .ref 72)], [.int 1], (q_kN (q_sI (q_sI (q_sI s 8 3 0) 8 2 ((s.2.1 8 2) + 1)) 8 4 ((1 : Int32) - (s.2.1 8 4))) c n))) 3 (fun _ _ => rfl) ?_
          exact q_RT_ret rfl rfl rfl
      | false =>
        refine q_RT_cF ?_
        refine q_RT_rsF (g2 := (27, [(0, .ref 72)], [], (q_kN s c n))) rfl rfl h3 ?_
        refine q_RT_seg (g2 := (28, [(0, .ref 72)], [.int 0], (q_kN s c n))) 1 (fun _ _ => rfl) ?_
        exact q_RT_ret rfl rfl rfl
    | false =>
      refine q_RT_cF ?_
      refine q_RT_rsT (g2 := (27, [(0, .ref 72)], [], (q_kN s c n))) rfl rfl (q_d_geF h2) ?_
      refine q_RT_seg (g2 := (28, [(0, .ref 72)], [.int 0], (q_kN s c n))) 1 (fun _ _ => rfl) ?_
      exact q_RT_ret rfl rfl rfl
def dz_N106_65 (s : q_S) : q_S :=
  cond (decide ((s.1 4) 44 = 1)) (q_let (dz_N177_72 s) fun r1 => cond r1.2 ((q_sA r1.1 4 (upd (r1.1.1 4) 10 (((r1.1.1 4) 10) ||| 8)))) (r1.1)) (s)
set_option maxHeartbeats 4000000 in
theorem dzt_N106_65 (s : q_S) (c n : Nat) : q_Ca q_TB0 2 105 [.ref 65] (q_kN s c n) ((q_oSN c n) (dz_N106_65 s)) := by
  refine q_CaT_of (φ := (q_oSN c n)) (Nat.le_of_ble_eq_true rfl) ?_
  unfold dz_N106_65
  refine q_RT_seg (g2 := (10, [(0, .ref 65)], [.int ((s.1 4) 44)], (q_kN s c n))) 5 (fun _ _ => rfl) ?_
  refine q_RT_seg (g2 := (11, [(0, .ref 65)], [.int 1, .int ((s.1 4) 44)], (q_kN s c n))) 1 (fun _ _ => rfl) ?_
  cases h1 : decide ((s.1 4) 44 = 1) with
  | true =>
    refine q_RT_cT ?_
    refine q_RT_rsF (g2 := (14, [(0, .ref 65)], [], (q_kN s c n))) rfl rfl (q_d_neT h1) ?_
    refine q_RT_seg (g2 := (18, [(0, .ref 65)], [.ref 72], (q_kN s c n))) 2 (fun _ _ => rfl) ?_
    refine q_RT_call (v := (some (.int (q_b (dz_N177_72 s).2)))) (h2 := (q_kN (dz_N177_72 s).1 c n)) rfl rfl ((dzt_N177_72 s c n).le (Nat.le_of_ble_eq_true rfl)) ?_
    generalize dz_N177_72 s = r1
    refine q_RT_let ?_
    show q_RT _ _ _ (21, [(0, .ref 65)], [.int (q_b r1.2)], (q_kN r1.1 c n)) _ _
    cases h2 : r1.2 with
    | true =>
      refine q_RT_cT ?_
      show q_RT _ _ _ (21, [(0, .ref 65)], [.int 1], (q_kN r1.1 c n)) _ _
      refine q_RT_seg (g2 := (35, [(0, .ref 65)], [.int ((r1.1.1 4) 10), .int 10, .ref 68], (q_kN r1.1 c n))) 7 (fun _ _ => rfl) ?_
      refine q_RT_seg (g2 := (39, [(0, .ref 65)], [], (q_kN (q_sA r1.1 4 (upd (r1.1.1 4) 10 (((r1.1.1 4) 10) ||| 8))) c n))) 3 (fun _ _ => rfl) ?_
      exact q_RT_ret rfl rfl rfl
    | false =>
      refine q_RT_cF ?_
      show q_RT _ _ _ (21, [(0, .ref 65)], [.int 0], (q_kN r1.1 c n)) _ _
      refine q_RT_seg (g2 := (39, [(0, .ref 65)], [], (q_kN r1.1 c n))) 1 (fun _ _ => rfl) ?_
      exact q_RT_ret rfl rfl rfl
  | false =>
    refine q_RT_cF ?_
    refine q_RT_rsT (g2 := (39, [(0, .ref 65)], [], (q_kN s c n))) rfl rfl (q_d_neF h1) ?_
    exact q_RT_ret rfl rfl rfl
def dz_N169_89_59 (s : q_S) (v1 : Int32) (v4 : Int32) : Option (q_S) :=
  cond (q_in v1 3) (some (q_sA s 29 (upd (s.1 29) (v1.toNatClampNeg) ((v4 / 2) + 16384)))) none
set_option maxHeartbeats 4000000 in
theorem dzt_N169_89_59 (c n : Nat) (s : q_S) (v1 : Int32) (v4 : Int32) : q_RP q_TB0 0 168 (59, [(0, .ref 89), (1, .int v1), (4, .int v4)], [], (q_kN s c n)) (q_oSN c n) (dz_N169_89_59 s v1 v4) := by
  unfold dz_N169_89_59
  refine q_RP_seg (g2 := (88, [(5, .int 1), (0, .ref 89), (1, .int v1), (4, .int v4)], [.int ((v4 / 2) + 16384), .int v1, .ref 93], (q_kN s c n))) 14 (fun _ _ => rfl) ?_
  refine q_RP_as fun i9 => ?_
  refine q_RP_rsT (g2 := (89, [(5, .int 1), (0, .ref 89), (1, .int v1), (4, .int v4)], [], (q_kN (q_sA s 29 (upd (s.1 29) (v1.toNatClampNeg) ((v4 / 2) + 16384))) c n))) rfl rfl i9 ?_
  exact q_RP_ret rfl rfl rfl
def dz_N169_89 (s : q_S) (a1 : Int32) (a2 : Int32) : Option (q_S) :=
  cond (decide (a1 < 0)) (some s) (cond (decide (a1 < 3)) (cond (decide (65535 < ((s.1 26) (a1.toNatClampNeg)) + a2)) (cond (decide (((s.1 29) (a1.toNatClampNeg)) &&& 3 = 1)) (dz_N169_89_59 (q_sA s 26 (upd (s.1 26) (a1.toNatClampNeg) ((((s.1 26) (a1.toNatClampNeg)) + a2) - (((s.1 26) (a1.toNatClampNeg)) + a2) / 65536 * 65536))) a1 ((s.1 29) (a1.toNatClampNeg))) (cond (decide (((s.1 29) (a1.toNatClampNeg)) &&& 3 = 2)) (dz_N169_89_59 (q_sA s 26 (upd (s.1 26) (a1.toNatClampNeg) ((((s.1 26) (a1.toNatClampNeg)) + a2) - (((s.1 26) (a1.toNatClampNeg)) + a2) / 65536 * 65536))) a1 ((s.1 29) (a1.toNatClampNeg))) (some (q_sA (q_sA s 26 (upd (s.1 26) (a1.toNatClampNeg) ((((s.1 26) (a1.toNatClampNeg)) + a2) - (((s.1 26) (a1.toNatClampNeg)) + a2) / 65536 * 65536))) 29 (upd (s.1 29) (a1.toNatClampNeg) ((((s.1 29) (a1.toNatClampNeg)) / 2) + 0)))))) (some (q_sA s 26 (upd (s.1 26) (a1.toNatClampNeg) ((((s.1 26) (a1.toNatClampNeg)) + a2) - (((s.1 26) (a1.toNatClampNeg)) + a2) / 65536 * 65536))))) (some s))
set_option maxHeartbeats 4000000 in
theorem dzt_N169_89 (s : q_S) (c n : Nat) (a1 : Int32) (a2 : Int32) (x : q_S) (h : dz_N169_89 s a1 a2 = some x) : q_Ca q_TB0 1 168 [.ref 89, .int a1, .int a2] (q_kN s c n) ((q_oSN c n) x) := by
  refine q_CaP_of (φ := (q_oSN c n)) (Nat.le_of_ble_eq_true rfl) ?_ h
  clear h
  unfold dz_N169_89
  refine q_RP_seg (g2 := (1, [(0, .ref 89), (1, .int a1), (2, .int a2)], [.int a1], (q_kN s c n))) 1 (fun _ _ => rfl) ?_
  cases h5 : decide (a1 < 0) with
  | true =>
    refine q_RP_cT ?_
    refine q_RP_rsT (g2 := (9, [(0, .ref 89), (1, .int a1), (2, .int a2)], [], (q_kN s c n))) rfl rfl h5 ?_
    exact q_RP_ret rfl rfl rfl
  | false =>
    refine q_RP_cF ?_
    refine q_RP_rsF (g2 := (4, [(0, .ref 89), (1, .int a1), (2, .int a2)], [], (q_kN s c n))) rfl rfl h5 ?_
    refine q_RP_seg (g2 := (6, [(0, .ref 89), (1, .int a1), (2, .int a2)], [.int 3, .int a1], (q_kN s c n))) 2 (fun _ _ => rfl) ?_
    cases h6 : decide (a1 < 3) with
    | true =>
      refine q_RP_cT ?_
      refine q_RP_rsT (g2 := (10, [(0, .ref 89), (1, .int a1), (2, .int a2)], [], (q_kN s c n))) rfl rfl h6 ?_
      refine q_RP_seg (g2 := (15, [(0, .ref 89), (1, .int a1), (2, .int a2)], [.int a1, .ref 90], (q_kN s c n))) 3 (fun _ _ => rfl) ?_
      refine q_RP_rsT (g2 := (16, [(0, .ref 89), (1, .int a1), (2, .int a2)], [.int ((s.1 26) (a1.toNatClampNeg))], (q_kN s c n))) rfl rfl (q_in_bd (x := a1) (n := 3) (U := 2) (L := 0) (q_lo1 h5) (q_hi1 h6)) ?_
      refine q_RP_seg (g2 := (24, [(3, .int (((s.1 26) (a1.toNatClampNeg)) + a2)), (0, .ref 89), (1, .int a1), (2, .int a2)], [.int a1, .ref 93], (q_kN s c n))) 6 (fun _ _ => rfl) ?_
      refine q_RP_rsT (g2 := (25, [(3, .int (((s.1 26) (a1.toNatClampNeg)) + a2)), (0, .ref 89), (1, .int a1), (2, .int a2)], [.int ((s.1 29) (a1.toNatClampNeg))], (q_kN s c n))) rfl rfl (q_in_bd (x := a1) (n := 3) (U := 2) (L := 0) (q_lo1 h5) (q_hi1 h6)) ?_
      refine q_RP_seg (g2 := (36, [(4, .int ((s.1 29) (a1.toNatClampNeg))), (3, .int (((s.1 26) (a1.toNatClampNeg)) + a2)), (0, .ref 89), (1, .int a1), (2, .int a2)], [.int ((((s.1 26) (a1.toNatClampNeg)) + a2) - (((s.1 26) (a1.toNatClampNeg)) + a2) / 65536 * 65536), .int a1, .ref 90], (q_kN s c n))) 7 (fun _ _ => rfl) ?_
      refine q_RP_rsT (g2 := (37, [(4, .int ((s.1 29) (a1.toNatClampNeg))), (3, .int (((s.1 26) (a1.toNatClampNeg)) + a2)), (0, .ref 89), (1, .int a1), (2, .int a2)], [], (q_kN (q_sA s 26 (upd (s.1 26) (a1.toNatClampNeg) ((((s.1 26) (a1.toNatClampNeg)) + a2) - (((s.1 26) (a1.toNatClampNeg)) + a2) / 65536 * 65536))) c n))) rfl rfl (q_in_bd (x := a1) (n := 3) (U := 2) (L := 0) (q_lo1 h5) (q_hi1 h6)) ?_
      refine q_RP_seg (g2 := (40, [(4, .int ((s.1 29) (a1.toNatClampNeg))), (3, .int (((s.1 26) (a1.toNatClampNeg)) + a2)), (0, .ref 89), (1, .int a1), (2, .int a2)], [.int 65535, .int (((s.1 26) (a1.toNatClampNeg)) + a2)], (q_kN (q_sA s 26 (upd (s.1 26) (a1.toNatClampNeg) ((((s.1 26) (a1.toNatClampNeg)) + a2) - (((s.1 26) (a1.toNatClampNeg)) + a2) / 65536 * 65536))) c n))) 2 (fun _ _ => rfl) ?_
      cases h7 : decide (65535 < ((s.1 26) (a1.toNatClampNeg)) + a2) with
      | true =>
        refine q_RP_cT ?_
        refine q_RP_rsF (g2 := (43, [(4, .int ((s.1 29) (a1.toNatClampNeg))), (3, .int (((s.1 26) (a1.toNatClampNeg)) + a2)), (0, .ref 89), (1, .int a1), (2, .int a2)], [], (q_kN (q_sA s 26 (upd (s.1 26) (a1.toNatClampNeg) ((((s.1 26) (a1.toNatClampNeg)) + a2) - (((s.1 26) (a1.toNatClampNeg)) + a2) / 65536 * 65536))) c n))) rfl rfl (q_d_geT h7) ?_
        refine q_RP_seg (g2 := (48, [(4, .int ((s.1 29) (a1.toNatClampNeg))), (3, .int (((s.1 26) (a1.toNatClampNeg)) + a2)), (0, .ref 89), (1, .int a1), (2, .int a2)], [.int 1, .int (((s.1 29) (a1.toNatClampNeg)) &&& 3)], (q_kN (q_sA s 26 (upd (s.1 26) (a1.toNatClampNeg) ((((s.1 26) (a1.toNatClampNeg)) + a2) - (((s.1 26) (a1.toNatClampNeg)) + a2) / 65536 * 65536))) c n))) 4 (fun _ _ => rfl) ?_
        cases h8 : decide (((s.1 29) (a1.toNatClampNeg)) &&& 3 = 1) with
        | true =>
          refine q_RP_cT ?_
          refine q_RP_rsT (g2 := (59, [(4, .int ((s.1 29) (a1.toNatClampNeg))), (3, .int (((s.1 26) (a1.toNatClampNeg)) + a2)), (0, .ref 89), (1, .int a1), (2, .int a2)], [], (q_kN (q_sA s 26 (upd (s.1 26) (a1.toNatClampNeg) ((((s.1 26) (a1.toNatClampNeg)) + a2) - (((s.1 26) (a1.toNatClampNeg)) + a2) / 65536 * 65536))) c n))) rfl rfl h8 ?_
          exact q_RP_xt (q_xt_mk (q_mn1 2 rfl (q_mn1 3 rfl (q_mn1 0 rfl q_mn0))) rfl) (dzt_N169_89_59 c n (q_sA s 26 (upd (s.1 26) (a1.toNatClampNeg) ((((s.1 26) (a1.toNatClampNeg)) + a2) - (((s.1 26) (a1.toNatClampNeg)) + a2) / 65536 * 65536))) a1 ((s.1 29) (a1.toNatClampNeg)))
        | false =>
          refine q_RP_cF ?_
          refine q_RP_rsF (g2 := (51, [(4, .int ((s.1 29) (a1.toNatClampNeg))), (3, .int (((s.1 26) (a1.toNatClampNeg)) + a2)), (0, .ref 89), (1, .int a1), (2, .int a2)], [], (q_kN (q_sA s 26 (upd (s.1 26) (a1.toNatClampNeg) ((((s.1 26) (a1.toNatClampNeg)) + a2) - (((s.1 26) (a1.toNatClampNeg)) + a2) / 65536 * 65536))) c n))) rfl rfl h8 ?_
          refine q_RP_seg (g2 := (56, [(4, .int ((s.1 29) (a1.toNatClampNeg))), (3, .int (((s.1 26) (a1.toNatClampNeg)) + a2)), (0, .ref 89), (1, .int a1), (2, .int a2)], [.int 2, .int (((s.1 29) (a1.toNatClampNeg)) &&& 3)], (q_kN (q_sA s 26 (upd (s.1 26) (a1.toNatClampNeg) ((((s.1 26) (a1.toNatClampNeg)) + a2) - (((s.1 26) (a1.toNatClampNeg)) + a2) / 65536 * 65536))) c n))) 4 (fun _ _ => rfl) ?_
          cases h10 : decide (((s.1 29) (a1.toNatClampNeg)) &&& 3 = 2) with
          | true =>
            refine q_RP_cT ?_
            refine q_RP_rsF (g2 := (59, [(4, .int ((s.1 29) (a1.toNatClampNeg))), (3, .int (((s.1 26) (a1.toNatClampNeg)) + a2)), (0, .ref 89), (1, .int a1), (2, .int a2)], [], (q_kN (q_sA s 26 (upd (s.1 26) (a1.toNatClampNeg) ((((s.1 26) (a1.toNatClampNeg)) + a2) - (((s.1 26) (a1.toNatClampNeg)) + a2) / 65536 * 65536))) c n))) rfl rfl (q_d_neT h10) ?_
            exact q_RP_xt (q_xt_mk (q_mn1 2 rfl (q_mn1 3 rfl (q_mn1 0 rfl q_mn0))) rfl) (dzt_N169_89_59 c n (q_sA s 26 (upd (s.1 26) (a1.toNatClampNeg) ((((s.1 26) (a1.toNatClampNeg)) + a2) - (((s.1 26) (a1.toNatClampNeg)) + a2) / 65536 * 65536))) a1 ((s.1 29) (a1.toNatClampNeg)))
          | false =>
            refine q_RP_cF ?_
            refine q_RP_rsT (g2 := (63, [(4, .int ((s.1 29) (a1.toNatClampNeg))), (3, .int (((s.1 26) (a1.toNatClampNeg)) + a2)), (0, .ref 89), (1, .int a1), (2, .int a2)], [], (q_kN (q_sA s 26 (upd (s.1 26) (a1.toNatClampNeg) ((((s.1 26) (a1.toNatClampNeg)) + a2) - (((s.1 26) (a1.toNatClampNeg)) + a2) / 65536 * 65536))) c n))) rfl rfl (q_d_neF h10) ?_
            refine q_RP_seg (g2 := (88, [(5, .int 0), (4, .int ((s.1 29) (a1.toNatClampNeg))), (3, .int (((s.1 26) (a1.toNatClampNeg)) + a2)), (0, .ref 89), (1, .int a1), (2, .int a2)], [.int ((((s.1 29) (a1.toNatClampNeg)) / 2) + 0), .int a1, .ref 93], (q_kN (q_sA s 26 (upd (s.1 26) (a1.toNatClampNeg) ((((s.1 26) (a1.toNatClampNeg)) + a2) - (((s.1 26) (a1.toNatClampNeg)) + a2) / 65536 * 65536))) c n))) 12 (fun _ _ => rfl) ?_
            refine q_RP_rsT (g2 := (89, [(5, .int 0), (4, .int ((s.1 29) (a1.toNatClampNeg))), (3, .int (((s.1 26) (a1.toNatClampNeg)) + a2)), (0, .ref 89), (1, .int a1), (2, .int a2)], [], (q_kN (q_sA (q_sA s 26 (upd (s.1 26) (a1.toNatClampNeg) ((((s.1 26) (a1.toNatClampNeg)) + a2) - (((s.1 26) (a1.toNatClampNeg)) + a2) / 65536 * 65536))) 29 (upd (s.1 29) (a1.toNatClampNeg) ((((s.1 29) (a1.toNatClampNeg)) / 2) + 0))) c n))) rfl rfl (q_in_bd (x := a1) (n := 3) (U := 2) (L := 0) (q_lo1 h5) (q_hi1 h6)) ?_
            exact q_RP_ret rfl rfl rfl
      | false =>
        refine q_RP_cF ?_
        refine q_RP_rsT (g2 := (89, [(4, .int ((s.1 29) (a1.toNatClampNeg))), (3, .int (((s.1 26) (a1.toNatClampNeg)) + a2)), (0, .ref 89), (1, .int a1), (2, .int a2)], [], (q_kN (q_sA s 26 (upd (s.1 26) (a1.toNatClampNeg) ((((s.1 26) (a1.toNatClampNeg)) + a2) - (((s.1 26) (a1.toNatClampNeg)) + a2) / 65536 * 65536))) c n))) rfl rfl (q_d_geF h7) ?_
        exact q_RP_ret rfl rfl rfl
    | false =>
      refine q_RP_cF ?_
      refine q_RP_rsF (g2 := (9, [(0, .ref 89), (1, .int a1), (2, .int a2)], [], (q_kN s c n))) rfl rfl h6 ?_
      exact q_RP_ret rfl rfl rfl
def dz_N170_89_t_80 (s : q_S) (v1 : Int32) (v2 : Int32) : Option (q_S) :=
  cond (decide (v2 = 0)) (cond (q_in v1 3) (cond (decide (0 < (s.1 27) (v1.toNatClampNeg))) (some (q_sA s 27 (upd (s.1 27) (v1.toNatClampNeg) (((s.1 27) (v1.toNatClampNeg)) - 1)))) (some s)) none) (some s)
set_option maxHeartbeats 4000000 in
theorem dzt_N170_89_t_80 (c n : Nat) (s : q_S) (v1 : Int32) (v2 : Int32) : q_RP q_TB0 0 169 (80, [(0, .ref 89), (1, .int v1), (2, .int v2)], [], (q_kN s c n)) (q_oSN c n) (dz_N170_89_t_80 s v1 v2) := by
  unfold dz_N170_89_t_80
  refine q_RP_seg (g2 := (81, [(0, .ref 89), (1, .int v1), (2, .int v2)], [.int v2], (q_kN s c n))) 1 (fun _ _ => rfl) ?_
  cases h10 : decide (v2 = 0) with
  | true =>
    refine q_RP_cT ?_
    refine q_RP_rsF (g2 := (84, [(0, .ref 89), (1, .int v1), (2, .int v2)], [], (q_kN s c n))) rfl rfl (q_d_neT h10) ?_
    refine q_RP_seg (g2 := (89, [(0, .ref 89), (1, .int v1), (2, .int v2)], [.int v1, .ref 91], (q_kN s c n))) 3 (fun _ _ => rfl) ?_
    refine q_RP_as fun i11 => ?_
    refine q_RP_rsT (g2 := (90, [(0, .ref 89), (1, .int v1), (2, .int v2)], [.int ((s.1 27) (v1.toNatClampNeg))], (q_kN s c n))) rfl rfl i11 ?_
    cases h12 : decide (0 < (s.1 27) (v1.toNatClampNeg)) with
    | true =>
      refine q_RP_cT ?_
      refine q_RP_rsF (g2 := (93, [(0, .ref 89), (1, .int v1), (2, .int v2)], [], (q_kN s c n))) rfl rfl (q_d_geT h12) ?_
      refine q_RP_seg (g2 := (99, [(0, .ref 89), (1, .int v1), (2, .int v2)], [.int v1, .ref 91, .int v1, .ref 91], (q_kN s c n))) 4 (fun _ _ => rfl) ?_
      refine q_RP_rsT (g2 := (100, [(0, .ref 89), (1, .int v1), (2, .int v2)], [.int ((s.1 27) (v1.toNatClampNeg)), .int v1, .ref 91], (q_kN s c n))) rfl rfl i11 ?_
      refine q_RP_seg (g2 := (102, [(0, .ref 89), (1, .int v1), (2, .int v2)], [.int (((s.1 27) (v1.toNatClampNeg)) - 1), .int v1, .ref 91], (q_kN s c n))) 2 (fun _ _ => rfl) ?_
      refine q_RP_rsT (g2 := (103, [(0, .ref 89), (1, .int v1), (2, .int v2)], [], (q_kN (q_sA s 27 (upd (s.1 27) (v1.toNatClampNeg) (((s.1 27) (v1.toNatClampNeg)) - 1))) c n))) rfl rfl i11 ?_
      exact q_RP_ret rfl rfl rfl
    | false =>
      refine q_RP_cF ?_
      refine q_RP_rsT (g2 := (103, [(0, .ref 89), (1, .int v1), (2, .int v2)], [], (q_kN s c n))) rfl rfl (q_d_geF h12) ?_
      exact q_RP_ret rfl rfl rfl
  | false =>
    refine q_RP_cF ?_
    refine q_RP_rsT (g2 := (103, [(0, .ref 89), (1, .int v1), (2, .int v2)], [], (q_kN s c n))) rfl rfl (q_d_neF h10) ?_
    exact q_RP_ret rfl rfl rfl
def dz_N170_89_t (s : q_S) (a1 : Int32) (a3 : Int32) : Option (q_S) :=
  cond (decide (a1 < 0)) (some s) (cond (decide (a1 < 3)) (cond (decide (a3 - a3 / 16 * 16 < (upd (s.1 28) (a1.toNatClampNeg) (((s.1 28) (a1.toNatClampNeg)) + 1)) (a1.toNatClampNeg))) (cond (decide ((s.1 27) (a1.toNatClampNeg) < 15)) (some (q_sA (q_sA s 28 (upd (upd (s.1 28) (a1.toNatClampNeg) (((s.1 28) (a1.toNatClampNeg)) + 1)) (a1.toNatClampNeg) 0)) 27 (upd (s.1 27) (a1.toNatClampNeg) (((s.1 27) (a1.toNatClampNeg)) + 1)))) (dz_N170_89_t_80 (q_sA s 28 (upd (upd (s.1 28) (a1.toNatClampNeg) (((s.1 28) (a1.toNatClampNeg)) + 1)) (a1.toNatClampNeg) 0)) a1 1)) (some (q_sA s 28 (upd (s.1 28) (a1.toNatClampNeg) (((s.1 28) (a1.toNatClampNeg)) + 1))))) (some s))
set_option maxHeartbeats 4000000 in
theorem dzt_N170_89_t (s : q_S) (c n : Nat) (a1 : Int32) (a3 : Int32) (x : q_S) (h : dz_N170_89_t s a1 a3 = some x) : q_Ca q_TB0 1 169 [.ref 89, .int a1, .int 1, .int a3] (q_kN s c n) ((q_oSN c n) x) := by
  refine q_CaP_of (φ := (q_oSN c n)) (Nat.le_of_ble_eq_true rfl) ?_ h
  clear h
  unfold dz_N170_89_t
  refine q_RP_seg (g2 := (1, [(0, .ref 89), (1, .int a1), (2, .int 1), (3, .int a3)], [.int a1], (q_kN s c n))) 1 (fun _ _ => rfl) ?_
  cases h6 : decide (a1 < 0) with
  | true =>
    refine q_RP_cT ?_
    refine q_RP_rsT (g2 := (9, [(0, .ref 89), (1, .int a1), (2, .int 1), (3, .int a3)], [], (q_kN s c n))) rfl rfl h6 ?_
    exact q_RP_ret rfl rfl rfl
  | false =>
    refine q_RP_cF ?_
    refine q_RP_rsF (g2 := (4, [(0, .ref 89), (1, .int a1), (2, .int 1), (3, .int a3)], [], (q_kN s c n))) rfl rfl h6 ?_
    refine q_RP_seg (g2 := (6, [(0, .ref 89), (1, .int a1), (2, .int 1), (3, .int a3)], [.int 3, .int a1], (q_kN s c n))) 2 (fun _ _ => rfl) ?_
    cases h7 : decide (a1 < 3) with
    | true =>
      refine q_RP_cT ?_
      refine q_RP_rsT (g2 := (10, [(0, .ref 89), (1, .int a1), (2, .int 1), (3, .int a3)], [], (q_kN s c n))) rfl rfl h7 ?_
      refine q_RP_seg (g2 := (16, [(0, .ref 89), (1, .int a1), (2, .int 1), (3, .int a3)], [.int a1, .ref 92, .int a1, .ref 92], (q_kN s c n))) 4 (fun _ _ => rfl) ?_
      refine q_RP_rsT (g2 := (17, [(0, .ref 89), (1, .int a1), (2, .int 1), (3, .int a3)], [.int ((s.1 28) (a1.toNatClampNeg)), .int a1, .ref 92], (q_kN s c n))) rfl rfl (q_in_bd (x := a1) (n := 3) (U := 2) (L := 0) (q_lo1 h6) (q_hi1 h7)) ?_
      refine q_RP_seg (g2 := (19, [(0, .ref 89), (1, .int a1), (2, .int 1), (3, .int a3)], [.int (((s.1 28) (a1.toNatClampNeg)) + 1), .int a1, .ref 92], (q_kN s c n))) 2 (fun _ _ => rfl) ?_
      refine q_RP_rsT (g2 := (20, [(0, .ref 89), (1, .int a1), (2, .int 1), (3, .int a3)], [], (q_kN (q_sA s 28 (upd (s.1 28) (a1.toNatClampNeg) (((s.1 28) (a1.toNatClampNeg)) + 1))) c n))) rfl rfl (q_in_bd (x := a1) (n := 3) (U := 2) (L := 0) (q_lo1 h6) (q_hi1 h7)) ?_
      refine q_RP_seg (g2 := (25, [(0, .ref 89), (1, .int a1), (2, .int 1), (3, .int a3)], [.int a1, .ref 92], (q_kN (q_sA s 28 (upd (s.1 28) (a1.toNatClampNeg) (((s.1 28) (a1.toNatClampNeg)) + 1))) c n))) 3 (fun _ _ => rfl) ?_
      refine q_RP_rsT (g2 := (26, [(0, .ref 89), (1, .int a1), (2, .int 1), (3, .int a3)], [.int ((upd (s.1 28) (a1.toNatClampNeg) (((s.1 28) (a1.toNatClampNeg)) + 1)) (a1.toNatClampNeg))], (q_kN (q_sA s 28 (upd (s.1 28) (a1.toNatClampNeg) (((s.1 28) (a1.toNatClampNeg)) + 1))) c n))) rfl rfl (q_in_bd (x := a1) (n := 3) (U := 2) (L := 0) (q_lo1 h6) (q_hi1 h7)) ?_
      refine q_RP_seg (g2 := (41, [(0, .ref 89), (1, .int a1), (2, .int 1), (3, .int a3)], [.int (a3 - a3 / 16 * 16), .int ((upd (s.1 28) (a1.toNatClampNeg) (((s.1 28) (a1.toNatClampNeg)) + 1)) (a1.toNatClampNeg))], (q_kN (q_sA s 28 (upd (s.1 28) (a1.toNatClampNeg) (((s.1 28) (a1.toNatClampNeg)) + 1))) c n))) 6 (fun _ _ => rfl) ?_
      cases h8 : decide (a3 - a3 / 16 * 16 < (upd (s.1 28) (a1.toNatClampNeg) (((s.1 28) (a1.toNatClampNeg)) + 1)) (a1.toNatClampNeg)) with
      | true =>
        refine q_RP_cT ?_
        refine q_RP_rsT (g2 := (45, [(0, .ref 89), (1, .int a1), (2, .int 1), (3, .int a3)], [], (q_kN (q_sA s 28 (upd (s.1 28) (a1.toNatClampNeg) (((s.1 28) (a1.toNatClampNeg)) + 1))) c n))) rfl rfl h8 ?_
        refine q_RP_seg (g2 := (51, [(0, .ref 89), (1, .int a1), (2, .int 1), (3, .int a3)], [.int 0, .int a1, .ref 92], (q_kN (q_sA s 28 (upd (s.1 28) (a1.toNatClampNeg) (((s.1 28) (a1.toNatClampNeg)) + 1))) c n))) 4 (fun _ _ => rfl) ?_
        refine q_RP_rsT (g2 := (52, [(0, .ref 89), (1, .int a1), (2, .int 1), (3, .int a3)], [], (q_kN (q_sA s 28 (upd (upd (s.1 28) (a1.toNatClampNeg) (((s.1 28) (a1.toNatClampNeg)) + 1)) (a1.toNatClampNeg) 0)) c n))) rfl rfl (q_in_bd (x := a1) (n := 3) (U := 2) (L := 0) (q_lo1 h6) (q_hi1 h7)) ?_
        refine q_RP_seg (g2 := (61, [(0, .ref 89), (1, .int a1), (2, .int 1), (3, .int a3)], [.int a1, .ref 91], (q_kN (q_sA s 28 (upd (upd (s.1 28) (a1.toNatClampNeg) (((s.1 28) (a1.toNatClampNeg)) + 1)) (a1.toNatClampNeg) 0)) c n))) 5 (fun _ _ => rfl) ?_
        refine q_RP_rsT (g2 := (62, [(0, .ref 89), (1, .int a1), (2, .int 1), (3, .int a3)], [.int ((s.1 27) (a1.toNatClampNeg))], (q_kN (q_sA s 28 (upd (upd (s.1 28) (a1.toNatClampNeg) (((s.1 28) (a1.toNatClampNeg)) + 1)) (a1.toNatClampNeg) 0)) c n))) rfl rfl (q_in_bd (x := a1) (n := 3) (U := 2) (L := 0) (q_lo1 h6) (q_hi1 h7)) ?_
        refine q_RP_seg (g2 := (64, [(0, .ref 89), (1, .int a1), (2, .int 1), (3, .int a3)], [.int 15, .int ((s.1 27) (a1.toNatClampNeg))], (q_kN (q_sA s 28 (upd (upd (s.1 28) (a1.toNatClampNeg) (((s.1 28) (a1.toNatClampNeg)) + 1)) (a1.toNatClampNeg) 0)) c n))) 1 (fun _ _ => rfl) ?_
        cases h9 : decide ((s.1 27) (a1.toNatClampNeg) < 15) with
        | true =>
          refine q_RP_cT ?_
          refine q_RP_rsF (g2 := (67, [(0, .ref 89), (1, .int a1), (2, .int 1), (3, .int a3)], [], (q_kN (q_sA s 28 (upd (upd (s.1 28) (a1.toNatClampNeg) (((s.1 28) (a1.toNatClampNeg)) + 1)) (a1.toNatClampNeg) 0)) c n))) rfl rfl (q_d_geT h9) ?_
          refine q_RP_seg (g2 := (73, [(0, .ref 89), (1, .int a1), (2, .int 1), (3, .int a3)], [.int a1, .ref 91, .int a1, .ref 91], (q_kN (q_sA s 28 (upd (upd (s.1 28) (a1.toNatClampNeg) (((s.1 28) (a1.toNatClampNeg)) + 1)) (a1.toNatClampNeg) 0)) c n))) 4 (fun _ _ => rfl) ?_
          refine q_RP_rsT (g2 := (74, [(0, .ref 89), (1, .int a1), (2, .int 1), (3, .int a3)], [.int ((s.1 27) (a1.toNatClampNeg)), .int a1, .ref 91], (q_kN (q_sA s 28 (upd (upd (s.1 28) (a1.toNatClampNeg) (((s.1 28) (a1.toNatClampNeg)) + 1)) (a1.toNatClampNeg) 0)) c n))) rfl rfl (q_in_bd (x := a1) (n := 3) (U := 2) (L := 0) (q_lo1 h6) (q_hi1 h7)) ?_
          refine q_RP_seg (g2 := (76, [(0, .ref 89), (1, .int a1), (2, .int 1), (3, .int a3)], [.int (((s.1 27) (a1.toNatClampNeg)) + 1), .int a1, .ref 91], (q_kN (q_sA s 28 (upd (upd (s.1 28) (a1.toNatClampNeg) (((s.1 28) (a1.toNatClampNeg)) + 1)) (a1.toNatClampNeg) 0)) c n))) 2 (fun _ _ => rfl) ?_
          refine q_RP_rsT (g2 := (77, [(0, .ref 89), (1, .int a1), (2, .int 1), (3, .int a3)], [], (q_kN (q_sA (q_sA s 28 (upd (upd (s.1 28) (a1.toNatClampNeg) (((s.1 28) (a1.toNatClampNeg)) + 1)) (a1.toNatClampNeg) 0)) 27 (upd (s.1 27) (a1.toNatClampNeg) (((s.1 27) (a1.toNatClampNeg)) + 1))) c n))) rfl rfl (q_in_bd (x := a1) (n := 3) (U := 2) (L := 0) (q_lo1 h6) (q_hi1 h7)) ?_
          refine q_RP_seg (g2 := (103, [(0, .ref 89), (1, .int a1), (2, .int 1), (3, .int a3)], [], (q_kN (q_sA (q_sA s 28 (upd (upd (s.1 28) (a1.toNatClampNeg) (((s.1 28) (a1.toNatClampNeg)) + 1)) (a1.toNatClampNeg) 0)) 27 (upd (s.1 27) (a1.toNatClampNeg) (((s.1 27) (a1.toNatClampNeg)) + 1))) c n))) 1 (fun _ _ => rfl) ?_
          exact q_RP_ret rfl rfl rfl
        | false =>
          refine q_RP_cF ?_
          refine q_RP_rsT (g2 := (80, [(0, .ref 89), (1, .int a1), (2, .int 1), (3, .int a3)], [], (q_kN (q_sA s 28 (upd (upd (s.1 28) (a1.toNatClampNeg) (((s.1 28) (a1.toNatClampNeg)) + 1)) (a1.toNatClampNeg) 0)) c n))) rfl rfl (q_d_geF h9) ?_
          exact q_RP_xt (q_xt_mk (q_mn1 0 rfl (q_mn1 1 rfl (q_mn1 2 rfl q_mn0))) rfl) (dzt_N170_89_t_80 c n (q_sA s 28 (upd (upd (s.1 28) (a1.toNatClampNeg) (((s.1 28) (a1.toNatClampNeg)) + 1)) (a1.toNatClampNeg) 0)) a1 1)
      | false =>
        refine q_RP_cF ?_
        refine q_RP_rsF (g2 := (44, [(0, .ref 89), (1, .int a1), (2, .int 1), (3, .int a3)], [], (q_kN (q_sA s 28 (upd (s.1 28) (a1.toNatClampNeg) (((s.1 28) (a1.toNatClampNeg)) + 1))) c n))) rfl rfl h8 ?_
        exact q_RP_ret rfl rfl rfl
    | false =>
      refine q_RP_cF ?_
      refine q_RP_rsF (g2 := (9, [(0, .ref 89), (1, .int a1), (2, .int 1), (3, .int a3)], [], (q_kN s c n))) rfl rfl h7 ?_
      exact q_RP_ret rfl rfl rfl
def dz_N170_89_f_80 (s : q_S) (v1 : Int32) (v2 : Int32) : Option (q_S) :=
  cond (decide (v2 = 0)) (cond (q_in v1 3) (cond (decide (0 < (s.1 27) (v1.toNatClampNeg))) (some (q_sA s 27 (upd (s.1 27) (v1.toNatClampNeg) (((s.1 27) (v1.toNatClampNeg)) - 1)))) (some s)) none) (some s)
set_option maxHeartbeats 4000000 in
theorem dzt_N170_89_f_80 (c n : Nat) (s : q_S) (v1 : Int32) (v2 : Int32) : q_RP q_TB0 0 169 (80, [(0, .ref 89), (1, .int v1), (2, .int v2)], [], (q_kN s c n)) (q_oSN c n) (dz_N170_89_f_80 s v1 v2) := by
  unfold dz_N170_89_f_80
  refine q_RP_seg (g2 := (81, [(0, .ref 89), (1, .int v1), (2, .int v2)], [.int v2], (q_kN s c n))) 1 (fun _ _ => rfl) ?_
  cases h8 : decide (v2 = 0) with
  | true =>
    refine q_RP_cT ?_
    refine q_RP_rsF (g2 := (84, [(0, .ref 89), (1, .int v1), (2, .int v2)], [], (q_kN s c n))) rfl rfl (q_d_neT h8) ?_
    refine q_RP_seg (g2 := (89, [(0, .ref 89), (1, .int v1), (2, .int v2)], [.int v1, .ref 91], (q_kN s c n))) 3 (fun _ _ => rfl) ?_
    refine q_RP_as fun i9 => ?_
    refine q_RP_rsT (g2 := (90, [(0, .ref 89), (1, .int v1), (2, .int v2)], [.int ((s.1 27) (v1.toNatClampNeg))], (q_kN s c n))) rfl rfl i9 ?_
    cases h10 : decide (0 < (s.1 27) (v1.toNatClampNeg)) with
    | true =>
      refine q_RP_cT ?_
      refine q_RP_rsF (g2 := (93, [(0, .ref 89), (1, .int v1), (2, .int v2)], [], (q_kN s c n))) rfl rfl (q_d_geT h10) ?_
      refine q_RP_seg (g2 := (99, [(0, .ref 89), (1, .int v1), (2, .int v2)], [.int v1, .ref 91, .int v1, .ref 91], (q_kN s c n))) 4 (fun _ _ => rfl) ?_
      refine q_RP_rsT (g2 := (100, [(0, .ref 89), (1, .int v1), (2, .int v2)], [.int ((s.1 27) (v1.toNatClampNeg)), .int v1, .ref 91], (q_kN s c n))) rfl rfl i9 ?_
      refine q_RP_seg (g2 := (102, [(0, .ref 89), (1, .int v1), (2, .int v2)], [.int (((s.1 27) (v1.toNatClampNeg)) - 1), .int v1, .ref 91], (q_kN s c n))) 2 (fun _ _ => rfl) ?_
      refine q_RP_rsT (g2 := (103, [(0, .ref 89), (1, .int v1), (2, .int v2)], [], (q_kN (q_sA s 27 (upd (s.1 27) (v1.toNatClampNeg) (((s.1 27) (v1.toNatClampNeg)) - 1))) c n))) rfl rfl i9 ?_
      exact q_RP_ret rfl rfl rfl
    | false =>
      refine q_RP_cF ?_
      refine q_RP_rsT (g2 := (103, [(0, .ref 89), (1, .int v1), (2, .int v2)], [], (q_kN s c n))) rfl rfl (q_d_geF h10) ?_
      exact q_RP_ret rfl rfl rfl
  | false =>
    refine q_RP_cF ?_
    refine q_RP_rsT (g2 := (103, [(0, .ref 89), (1, .int v1), (2, .int v2)], [], (q_kN s c n))) rfl rfl (q_d_neF h8) ?_
    exact q_RP_ret rfl rfl rfl
def dz_N170_89_f (s : q_S) (a1 : Int32) (a3 : Int32) : Option (q_S) :=
  cond (decide (a1 < 0)) (some s) (cond (decide (a1 < 3)) (cond (decide (a3 / 16 < (upd (s.1 28) (a1.toNatClampNeg) (((s.1 28) (a1.toNatClampNeg)) + 1)) (a1.toNatClampNeg))) (dz_N170_89_f_80 (q_sA s 28 (upd (upd (s.1 28) (a1.toNatClampNeg) (((s.1 28) (a1.toNatClampNeg)) + 1)) (a1.toNatClampNeg) 0)) a1 0) (some (q_sA s 28 (upd (s.1 28) (a1.toNatClampNeg) (((s.1 28) (a1.toNatClampNeg)) + 1))))) (some s))
set_option maxHeartbeats 4000000 in
theorem dzt_N170_89_f (s : q_S) (c n : Nat) (a1 : Int32) (a3 : Int32) (x : q_S) (h : dz_N170_89_f s a1 a3 = some x) : q_Ca q_TB0 1 169 [.ref 89, .int a1, .int 0, .int a3] (q_kN s c n) ((q_oSN c n) x) := by
  refine q_CaP_of (φ := (q_oSN c n)) (Nat.le_of_ble_eq_true rfl) ?_ h
  clear h
  unfold dz_N170_89_f
  refine q_RP_seg (g2 := (1, [(0, .ref 89), (1, .int a1), (2, .int 0), (3, .int a3)], [.int a1], (q_kN s c n))) 1 (fun _ _ => rfl) ?_
  cases h5 : decide (a1 < 0) with
  | true =>
    refine q_RP_cT ?_
    refine q_RP_rsT (g2 := (9, [(0, .ref 89), (1, .int a1), (2, .int 0), (3, .int a3)], [], (q_kN s c n))) rfl rfl h5 ?_
    exact q_RP_ret rfl rfl rfl
  | false =>
    refine q_RP_cF ?_
    refine q_RP_rsF (g2 := (4, [(0, .ref 89), (1, .int a1), (2, .int 0), (3, .int a3)], [], (q_kN s c n))) rfl rfl h5 ?_
    refine q_RP_seg (g2 := (6, [(0, .ref 89), (1, .int a1), (2, .int 0), (3, .int a3)], [.int 3, .int a1], (q_kN s c n))) 2 (fun _ _ => rfl) ?_
    cases h6 : decide (a1 < 3) with
    | true =>
      refine q_RP_cT ?_
      refine q_RP_rsT (g2 := (10, [(0, .ref 89), (1, .int a1), (2, .int 0), (3, .int a3)], [], (q_kN s c n))) rfl rfl h6 ?_
      refine q_RP_seg (g2 := (16, [(0, .ref 89), (1, .int a1), (2, .int 0), (3, .int a3)], [.int a1, .ref 92, .int a1, .ref 92], (q_kN s c n))) 4 (fun _ _ => rfl) ?_
      refine q_RP_rsT (g2 := (17, [(0, .ref 89), (1, .int a1), (2, .int 0), (3, .int a3)], [.int ((s.1 28) (a1.toNatClampNeg)), .int a1, .ref 92], (q_kN s c n))) rfl rfl (q_in_bd (x := a1) (n := 3) (U := 2) (L := 0) (q_lo1 h5) (q_hi1 h6)) ?_
      refine q_RP_seg (g2 := (19, [(0, .ref 89), (1, .int a1), (2, .int 0), (3, .int a3)], [.int (((s.1 28) (a1.toNatClampNeg)) + 1), .int a1, .ref 92], (q_kN s c n))) 2 (fun _ _ => rfl) ?_
      refine q_RP_rsT (g2 := (20, [(0, .ref 89), (1, .int a1), (2, .int 0), (3, .int a3)], [], (q_kN (q_sA s 28 (upd (s.1 28) (a1.toNatClampNeg) (((s.1 28) (a1.toNatClampNeg)) + 1))) c n))) rfl rfl (q_in_bd (x := a1) (n := 3) (U := 2) (L := 0) (q_lo1 h5) (q_hi1 h6)) ?_
      refine q_RP_seg (g2 := (25, [(0, .ref 89), (1, .int a1), (2, .int 0), (3, .int a3)], [.int a1, .ref 92], (q_kN (q_sA s 28 (upd (s.1 28) (a1.toNatClampNeg) (((s.1 28) (a1.toNatClampNeg)) + 1))) c n))) 3 (fun _ _ => rfl) ?_
      refine q_RP_rsT (g2 := (26, [(0, .ref 89), (1, .int a1), (2, .int 0), (3, .int a3)], [.int ((upd (s.1 28) (a1.toNatClampNeg) (((s.1 28) (a1.toNatClampNeg)) + 1)) (a1.toNatClampNeg))], (q_kN (q_sA s 28 (upd (s.1 28) (a1.toNatClampNeg) (((s.1 28) (a1.toNatClampNeg)) + 1))) c n))) rfl rfl (q_in_bd (x := a1) (n := 3) (U := 2) (L := 0) (q_lo1 h5) (q_hi1 h6)) ?_
      refine q_RP_seg (g2 := (41, [(0, .ref 89), (1, .int a1), (2, .int 0), (3, .int a3)], [.int (a3 / 16), .int ((upd (s.1 28) (a1.toNatClampNeg) (((s.1 28) (a1.toNatClampNeg)) + 1)) (a1.toNatClampNeg))], (q_kN (q_sA s 28 (upd (s.1 28) (a1.toNatClampNeg) (((s.1 28) (a1.toNatClampNeg)) + 1))) c n))) 5 (fun _ _ => rfl) ?_
      cases h7 : decide (a3 / 16 < (upd (s.1 28) (a1.toNatClampNeg) (((s.1 28) (a1.toNatClampNeg)) + 1)) (a1.toNatClampNeg)) with
      | true =>
        refine q_RP_cT ?_
        refine q_RP_rsT (g2 := (45, [(0, .ref 89), (1, .int a1), (2, .int 0), (3, .int a3)], [], (q_kN (q_sA s 28 (upd (s.1 28) (a1.toNatClampNeg) (((s.1 28) (a1.toNatClampNeg)) + 1))) c n))) rfl rfl h7 ?_
        refine q_RP_seg (g2 := (51, [(0, .ref 89), (1, .int a1), (2, .int 0), (3, .int a3)], [.int 0, .int a1, .ref 92], (q_kN (q_sA s 28 (upd (s.1 28) (a1.toNatClampNeg) (((s.1 28) (a1.toNatClampNeg)) + 1))) c n))) 4 (fun _ _ => rfl) ?_
        refine q_RP_rsT (g2 := (52, [(0, .ref 89), (1, .int a1), (2, .int 0), (3, .int a3)], [], (q_kN (q_sA s 28 (upd (upd (s.1 28) (a1.toNatClampNeg) (((s.1 28) (a1.toNatClampNeg)) + 1)) (a1.toNatClampNeg) 0)) c n))) rfl rfl (q_in_bd (x := a1) (n := 3) (U := 2) (L := 0) (q_lo1 h5) (q_hi1 h6)) ?_
        refine q_RP_seg (g2 := (80, [(0, .ref 89), (1, .int a1), (2, .int 0), (3, .int a3)], [], (q_kN (q_sA s 28 (upd (upd (s.1 28) (a1.toNatClampNeg) (((s.1 28) (a1.toNatClampNeg)) + 1)) (a1.toNatClampNeg) 0)) c n))) 2 (fun _ _ => rfl) ?_
        exact q_RP_xt (q_xt_mk (q_mn1 0 rfl (q_mn1 1 rfl (q_mn1 2 rfl q_mn0))) rfl) (dzt_N170_89_f_80 c n (q_sA s 28 (upd (upd (s.1 28) (a1.toNatClampNeg) (((s.1 28) (a1.toNatClampNeg)) + 1)) (a1.toNatClampNeg) 0)) a1 0)
      | false =>
        refine q_RP_cF ?_
        refine q_RP_rsF (g2 := (44, [(0, .ref 89), (1, .int a1), (2, .int 0), (3, .int a3)], [], (q_kN (q_sA s 28 (upd (s.1 28) (a1.toNatClampNeg) (((s.1 28) (a1.toNatClampNeg)) + 1))) c n))) rfl rfl h7 ?_
        exact q_RP_ret rfl rfl rfl
    | false =>
      refine q_RP_cF ?_
      refine q_RP_rsF (g2 := (9, [(0, .ref 89), (1, .int a1), (2, .int 0), (3, .int a3)], [], (q_kN s c n))) rfl rfl h6 ?_
      exact q_RP_ret rfl rfl rfl
def dz_N172 (s : q_S) (a0 : Int32) (a1 : Int32) (a2 : Int32) : Int32 :=
  cond (decide (a0 < 0)) (0) (cond (decide (2 < a0)) (0) (cond (decide (a0 = 0)) ((a1 / 4096)) (cond (decide (a0 = 1)) (cond (decide (a1 < 32768)) (0) (15)) ((a2 - a2 / 16 * 16)))))
set_option maxHeartbeats 4000000 in
theorem dzt_N172 (s : q_S) (c n : Nat) (a0 : Int32) (a1 : Int32) (a2 : Int32) : q_Ca q_TB0 1 171 [.int a0, .int a1, .int a2] (q_kN s c n) ((q_oP (q_kN s c n)) (dz_N172 s a0 a1 a2)) := by
  refine q_CaT_of (φ := (q_oP (q_kN s c n))) (Nat.le_of_ble_eq_true rfl) ?_
  unfold dz_N172
  refine q_RT_seg (g2 := (1, [(0, .int a0), (1, .int a1), (2, .int a2)], [.int a0], (q_kN s c n))) 1 (fun _ _ => rfl) ?_
  cases h1 : decide (a0 < 0) with
  | true =>
    refine q_RT_cT ?_
    refine q_RT_st1 (g2 := (52, [(0, .int a0), (1, .int a1), (2, .int a2)], [], (q_kN s c n))) rfl (if_pos (Or.inl (Int32.lt_iff_toInt_lt.mp (of_decide_eq_true h1)))) ?_
    refine q_RT_seg (g2 := (53, [(0, .int a0), (1, .int a1), (2, .int a2)], [.int 0], (q_kN s c n))) 1 (fun _ _ => rfl) ?_
    exact q_RT_ret rfl rfl rfl
  | false =>
    refine q_RT_cF ?_
    cases h2 : decide (2 < a0) with
    | true =>
      refine q_RT_cT ?_
      refine q_RT_st1 (g2 := (52, [(0, .int a0), (1, .int a1), (2, .int a2)], [], (q_kN s c n))) rfl (if_pos (Or.inr (Int32.lt_iff_toInt_lt.mp (of_decide_eq_true h2)))) ?_
      refine q_RT_seg (g2 := (53, [(0, .int a0), (1, .int a1), (2, .int a2)], [.int 0], (q_kN s c n))) 1 (fun _ _ => rfl) ?_
      exact q_RT_ret rfl rfl rfl
    | false =>
      refine q_RT_cF ?_
      cases h3 : decide (a0 = 0) with
      | true =>
        refine q_RT_cT ?_
        refine q_RT_st1 (g2 := (28, [(0, .int a0), (1, .int a1), (2, .int a2)], [], (q_kN s c n))) rfl (by rw [of_decide_eq_true h3]; rfl) ?_
        refine q_RT_seg (g2 := (33, [(0, .int a0), (1, .int a1), (2, .int a2)], [.int (a1 / 4096)], (q_kN s c n))) 3 (fun _ _ => rfl) ?_
        exact q_RT_ret rfl rfl rfl
      | false =>
        refine q_RT_cF ?_
        cases h4 : decide (a0 = 1) with
        | true =>
          refine q_RT_cT ?_
          refine q_RT_st1 (g2 := (34, [(0, .int a0), (1, .int a1), (2, .int a2)], [], (q_kN s c n))) rfl (by rw [of_decide_eq_true h4]; rfl) ?_
          refine q_RT_seg (g2 := (37, [(0, .int a0), (1, .int a1), (2, .int a2)], [.int 32768, .int a1], (q_kN s c n))) 2 (fun _ _ => rfl) ?_
          cases h5 : decide (a1 < 32768) with
          | true =>
            refine q_RT_cT ?_
            refine q_RT_rsT (g2 := (45, [(0, .int a0), (1, .int a1), (2, .int a2)], [], (q_kN s c n))) rfl rfl h5 ?_
            refine q_RT_seg (g2 := (46, [(0, .int a0), (1, .int a1), (2, .int a2)], [.int 0], (q_kN s c n))) 1 (fun _ _ => rfl) ?_
            exact q_RT_ret rfl rfl rfl
          | false =>
            refine q_RT_cF ?_
            refine q_RT_rsF (g2 := (40, [(0, .int a0), (1, .int a1), (2, .int a2)], [], (q_kN s c n))) rfl rfl h5 ?_
            refine q_RT_seg (g2 := (46, [(0, .int a0), (1, .int a1), (2, .int a2)], [.int 15], (q_kN s c n))) 2 (fun _ _ => rfl) ?_
            exact q_RT_ret rfl rfl rfl
        | false =>
          refine q_RT_cF ?_
          have h6 : a0 = 2 := Int32.toInt_inj.mp (by have e0 := q_neI h3 (n := 0); have e1 := q_neI h4 (n := 1); have l1 : 0 ≤ (a0).toInt := q_lo1 h1; have l2 : (a0).toInt ≤ 2 := q_hi2 h2; show (a0).toInt = 2; omega)
          refine q_RT_st1 (g2 := (47, [(0, .int a0), (1, .int a1), (2, .int a2)], [], (q_kN s c n))) rfl (by rw [h6]; rfl) ?_
          refine q_RT_seg (g2 := (51, [(0, .int a0), (1, .int a1), (2, .int a2)], [.int (a2 - a2 / 16 * 16)], (q_kN s c n))) 3 (fun _ _ => rfl) ?_
          exact q_RT_ret rfl rfl rfl
def dz_N171_89 (s : q_S) (a1 : Int32) (a2 : Int32) : Option (Int32) :=
  cond (decide (a1 < 0)) (some 0) (cond (decide (a1 < 3)) (q_let (dz_N172 s ((a2 >>> ((1 &&& 31) : Int32)) &&& 3) ((s.1 26) (a1.toNatClampNeg)) ((s.1 29) (a1.toNatClampNeg))) fun r2 => cond (decide (a1 = 0)) (cond (decide (a2 &&& 8 = 8)) (cond (decide ((s.1 26) 2 < 32768)) (some r2) (some ((15 : Int32) - r2))) (some r2)) (cond (decide (a2 &&& 8 = 8)) (cond (q_in (a1 - 1) 3) (cond (decide ((s.1 26) ((a1 - 1).toNatClampNeg) < 32768)) (some r2) (some ((15 : Int32) - r2))) none) (some r2))) (some 0))
set_option maxHeartbeats 4000000 in
theorem dzt_N171_89 (s : q_S) (c n : Nat) (a1 : Int32) (a2 : Int32) (x : Int32) (h : dz_N171_89 s a1 a2 = some x) : q_Ca q_TB0 2 170 [.ref 89, .int a1, .int a2] (q_kN s c n) ((q_oP (q_kN s c n)) x) := by
  refine q_CaP_of (φ := (q_oP (q_kN s c n))) (Nat.le_of_ble_eq_true rfl) ?_ h
  clear h
  unfold dz_N171_89
  refine q_RP_seg (g2 := (1, [(0, .ref 89), (1, .int a1), (2, .int a2)], [.int a1], (q_kN s c n))) 1 (fun _ _ => rfl) ?_
  cases h7 : decide (a1 < 0) with
  | true =>
    refine q_RP_cT ?_
    refine q_RP_rsT (g2 := (9, [(0, .ref 89), (1, .int a1), (2, .int a2)], [], (q_kN s c n))) rfl rfl h7 ?_
    refine q_RP_seg (g2 := (10, [(0, .ref 89), (1, .int a1), (2, .int a2)], [.int 0], (q_kN s c n))) 1 (fun _ _ => rfl) ?_
    exact q_RP_ret rfl rfl rfl
  | false =>
    refine q_RP_cF ?_
    refine q_RP_rsF (g2 := (4, [(0, .ref 89), (1, .int a1), (2, .int a2)], [], (q_kN s c n))) rfl rfl h7 ?_
    refine q_RP_seg (g2 := (6, [(0, .ref 89), (1, .int a1), (2, .int a2)], [.int 3, .int a1], (q_kN s c n))) 2 (fun _ _ => rfl) ?_
    cases h8 : decide (a1 < 3) with
    | true =>
      refine q_RP_cT ?_
      refine q_RP_rsT (g2 := (11, [(0, .ref 89), (1, .int a1), (2, .int a2)], [], (q_kN s c n))) rfl rfl h8 ?_
      refine q_RP_seg (g2 := (21, [(0, .ref 89), (1, .int a1), (2, .int a2)], [.int a1, .ref 90, .int ((a2 >>> ((1 &&& 31) : Int32)) &&& 3)], (q_kN s c n))) 8 (fun _ _ => rfl) ?_
      refine q_RP_rsT (g2 := (22, [(0, .ref 89), (1, .int a1), (2, .int a2)], [.int ((s.1 26) (a1.toNatClampNeg)), .int ((a2 >>> ((1 &&& 31) : Int32)) &&& 3)], (q_kN s c n))) rfl rfl (q_in_bd (x := a1) (n := 3) (U := 2) (L := 0) (q_lo1 h7) (q_hi1 h8)) ?_
      refine q_RP_seg (g2 := (27, [(0, .ref 89), (1, .int a1), (2, .int a2)], [.int a1, .ref 93, .int ((s.1 26) (a1.toNatClampNeg)), .int ((a2 >>> ((1 &&& 31) : Int32)) &&& 3)], (q_kN s c n))) 3 (fun _ _ => rfl) ?_
      refine q_RP_rsT (g2 := (28, [(0, .ref 89), (1, .int a1), (2, .int a2)], [.int ((s.1 29) (a1.toNatClampNeg)), .int ((s.1 26) (a1.toNatClampNeg)), .int ((a2 >>> ((1 &&& 31) : Int32)) &&& 3)], (q_kN s c n))) rfl rfl (q_in_bd (x := a1) (n := 3) (U := 2) (L := 0) (q_lo1 h7) (q_hi1 h8)) ?_
      refine q_RP_call (v := (some (.int (dz_N172 s ((a2 >>> ((1 &&& 31) : Int32)) &&& 3) ((s.1 26) (a1.toNatClampNeg)) ((s.1 29) (a1.toNatClampNeg)))))) (h2 := (q_kN s c n)) rfl rfl ((dzt_N172 s c n ((a2 >>> ((1 &&& 31) : Int32)) &&& 3) ((s.1 26) (a1.toNatClampNeg)) ((s.1 29) (a1.toNatClampNeg))).le (Nat.le_of_ble_eq_true rfl)) ?_
      generalize dz_N172 s ((a2 >>> ((1 &&& 31) : Int32)) &&& 3) ((s.1 26) (a1.toNatClampNeg)) ((s.1 29) (a1.toNatClampNeg)) = r2
      refine q_RP_let ?_
      show q_RP _ _ _ (31, [(0, .ref 89), (1, .int a1), (2, .int a2)], [.int r2], (q_kN s c n)) _ _
      refine q_RP_seg (g2 := (33, [(3, .int r2), (0, .ref 89), (1, .int a1), (2, .int a2)], [.int a1], (q_kN s c n))) 2 (fun _ _ => rfl) ?_
      cases h9 : decide (a1 = 0) with
      | true =>
        refine q_RP_cT ?_
        refine q_RP_rsF (g2 := (36, [(3, .int r2), (0, .ref 89), (1, .int a1), (2, .int a2)], [], (q_kN s c n))) rfl rfl (q_d_neT h9) ?_
        refine q_RP_seg (g2 := (51, [(4, .int 2), (3, .int r2), (0, .ref 89), (1, .int a1), (2, .int a2)], [.int 8, .int (a2 &&& 8)], (q_kN s c n))) 7 (fun _ _ => rfl) ?_
        cases h10 : decide (a2 &&& 8 = 8) with
        | true =>
          refine q_RP_cT ?_
          refine q_RP_rsF (g2 := (54, [(4, .int 2), (3, .int r2), (0, .ref 89), (1, .int a1), (2, .int a2)], [], (q_kN s c n))) rfl rfl (q_d_neT h10) ?_
          refine q_RP_seg (g2 := (61, [(4, .int 2), (3, .int r2), (0, .ref 89), (1, .int a1), (2, .int a2)], [.int ((s.1 26) 2)], (q_kN s c n))) 4 (fun _ _ => rfl) ?_
          refine q_RP_seg (g2 := (63, [(4, .int 2), (3, .int r2), (0, .ref 89), (1, .int a1), (2, .int a2)], [.int 32768, .int ((s.1 26) 2)], (q_kN s c n))) 1 (fun _ _ => rfl) ?_
          cases h11 : decide ((s.1 26) 2 < 32768) with
          | true =>
            refine q_RP_cT ?_
            refine q_RP_rsT (g2 := (70, [(4, .int 2), (3, .int r2), (0, .ref 89), (1, .int a1), (2, .int a2)], [], (q_kN s c n))) rfl rfl h11 ?_
            refine q_RP_seg (g2 := (86, [(5, .int 0), (4, .int 2), (3, .int r2), (0, .ref 89), (1, .int a1), (2, .int a2)], [.int r2], (q_kN s c n))) 5 (fun _ _ => rfl) ?_
            exact q_RP_ret rfl rfl rfl
          | false =>
            refine q_RP_cF ?_
            refine q_RP_rsF (g2 := (66, [(4, .int 2), (3, .int r2), (0, .ref 89), (1, .int a1), (2, .int a2)], [], (q_kN s c n))) rfl rfl h11 ?_
            refine q_RP_seg (g2 := (86, [(5, .int 1), (4, .int 2), (3, .int r2), (0, .ref 89), (1, .int a1), (2, .int a2)], [.int ((15 : Int32) - r2)], (q_kN s c n))) 9 (fun _ _ => rfl) ?_
            exact q_RP_ret rfl rfl rfl
        | false =>
          refine q_RP_cF ?_
          refine q_RP_rsT (g2 := (70, [(4, .int 2), (3, .int r2), (0, .ref 89), (1, .int a1), (2, .int a2)], [], (q_kN s c n))) rfl rfl (q_d_neF h10) ?_
          refine q_RP_seg (g2 := (86, [(5, .int 0), (4, .int 2), (3, .int r2), (0, .ref 89), (1, .int a1), (2, .int a2)], [.int r2], (q_kN s c n))) 5 (fun _ _ => rfl) ?_
          exact q_RP_ret rfl rfl rfl
      | false =>
        refine q_RP_cF ?_
        refine q_RP_rsT (g2 := (40, [(3, .int r2), (0, .ref 89), (1, .int a1), (2, .int a2)], [], (q_kN s c n))) rfl rfl (q_d_neF h9) ?_
        refine q_RP_seg (g2 := (51, [(4, .int (a1 - 1)), (3, .int r2), (0, .ref 89), (1, .int a1), (2, .int a2)], [.int 8, .int (a2 &&& 8)], (q_kN s c n))) 8 (fun _ _ => rfl) ?_
        cases h12 : decide (a2 &&& 8 = 8) with
        | true =>
          refine q_RP_cT ?_
          refine q_RP_rsF (g2 := (54, [(4, .int (a1 - 1)), (3, .int r2), (0, .ref 89), (1, .int a1), (2, .int a2)], [], (q_kN s c n))) rfl rfl (q_d_neT h12) ?_
          refine q_RP_seg (g2 := (60, [(4, .int (a1 - 1)), (3, .int r2), (0, .ref 89), (1, .int a1), (2, .int a2)], [.int (a1 - 1), .ref 90], (q_kN s c n))) 3 (fun _ _ => rfl) ?_
          refine q_RP_as fun i13 => ?_
          refine q_RP_rsT (g2 := (61, [(4, .int (a1 - 1)), (3, .int r2), (0, .ref 89), (1, .int a1), (2, .int a2)], [.int ((s.1 26) ((a1 - 1).toNatClampNeg))], (q_kN s c n))) rfl rfl i13 ?_
          refine q_RP_seg (g2 := (63, [(4, .int (a1 - 1)), (3, .int r2), (0, .ref 89), (1, .int a1), (2, .int a2)], [.int 32768, .int ((s.1 26) ((a1 - 1).toNatClampNeg))], (q_kN s c n))) 1 (fun _ _ => rfl) ?_
          cases h14 : decide ((s.1 26) ((a1 - 1).toNatClampNeg) < 32768) with
          | true =>
            refine q_RP_cT ?_
            refine q_RP_rsT (g2 := (70, [(4, .int (a1 - 1)), (3, .int r2), (0, .ref 89), (1, .int a1), (2, .int a2)], [], (q_kN s c n))) rfl rfl h14 ?_
            refine q_RP_seg (g2 := (86, [(5, .int 0), (4, .int (a1 - 1)), (3, .int r2), (0, .ref 89), (1, .int a1), (2, .int a2)], [.int r2], (q_kN s c n))) 5 (fun _ _ => rfl) ?_
            exact q_RP_ret rfl rfl rfl
          | false =>
            refine q_RP_cF ?_
            refine q_RP_rsF (g2 := (66, [(4, .int (a1 - 1)), (3, .int r2), (0, .ref 89), (1, .int a1), (2, .int a2)], [], (q_kN s c n))) rfl rfl h14 ?_
            refine q_RP_seg (g2 := (86, [(5, .int 1), (4, .int (a1 - 1)), (3, .int r2), (0, .ref 89), (1, .int a1), (2, .int a2)], [.int ((15 : Int32) - r2)], (q_kN s c n))) 9 (fun _ _ => rfl) ?_
            exact q_RP_ret rfl rfl rfl
        | false =>
          refine q_RP_cF ?_
          refine q_RP_rsT (g2 := (70, [(4, .int (a1 - 1)), (3, .int r2), (0, .ref 89), (1, .int a1), (2, .int a2)], [], (q_kN s c n))) rfl rfl (q_d_neF h12) ?_
          refine q_RP_seg (g2 := (86, [(5, .int 0), (4, .int (a1 - 1)), (3, .int r2), (0, .ref 89), (1, .int a1), (2, .int a2)], [.int r2], (q_kN s c n))) 5 (fun _ _ => rfl) ?_
          exact q_RP_ret rfl rfl rfl
    | false =>
      refine q_RP_cF ?_
      refine q_RP_rsF (g2 := (9, [(0, .ref 89), (1, .int a1), (2, .int a2)], [], (q_kN s c n))) rfl rfl h8 ?_
      refine q_RP_seg (g2 := (10, [(0, .ref 89), (1, .int a1), (2, .int a2)], [.int 0], (q_kN s c n))) 1 (fun _ _ => rfl) ?_
      exact q_RP_ret rfl rfl rfl
end
