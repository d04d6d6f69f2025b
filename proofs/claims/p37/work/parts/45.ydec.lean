/-! ===== methods as functions of what the cells hold ===== -/
abbrev q_S : Type := (Nat → Nat → Int32) × (Nat → Nat → Int32) × (Nat → Nat → Int64)
def q_sA (s : q_S) (i : Nat) (f : Nat → Int32) : q_S := (q_uA s.1 i f, s.2.1, s.2.2)
def q_sI (s : q_S) (i k : Nat) (x : Int32) : q_S := (s.1, q_uI s.2.1 i k x, s.2.2)
def q_sJ (s : q_S) (i k : Nat) (x : Int64) : q_S := (s.1, s.2.1, q_uI s.2.2 i k x)
def q_sL (s : q_S) (i : Nat) (f : Nat → Int64) : q_S := (s.1, s.2.1, q_uA s.2.2 i f)
def q_cN (A : Nat → Nat → Int32) (I : Nat → Nat → Int32) (J : Nat → Nat → Int64) : List q_C := [.inr (7, [.ref 65, .ref 87, .ref 89, .ref 95, .long (J 0 4)]), .inr (4, [.ref 66, .ref 69, .ref 70, .ref 71, .ref 72, .ref 74, .ref 77, .ref 82, .long (J 1 8)]), .inr (10, [.ref 67, .ref 68]), .inl (0, 4096, .inl (A 3)), .inl (0, 48, .inl (A 4)), .inl (0, 512, .inl (A 5)), .inl (0, 2048, .inl (A 6)), .inl (0, 2, .inl (A 7)), .inr (11, [.ref 73, .int (I 8 1), .int (I 8 2), .int (I 8 3), .int (I 8 4)]), .inl (0, 40, .inl (A 9)), .inr (6, [.ref 75, .ref 76, .int (I 10 2)]), .inl (0, 4, .inl (A 11)), .inl (0, 16, .inl (A 12)), .inr (5, [.ref 78, .ref 81, .int (I 13 2), .int (I 13 3)]), .inr (10, [.ref 79, .ref 80]), .inl (0, 4096, .inl (A 15)), .inl (0, 48, .inl (A 16)), .inl (0, 3072, .inl (A 17)), .inr (5, [.ref 83, .ref 86, .int (I 18 2), .int (I 18 3)]), .inr (10, [.ref 84, .ref 85]), .inl (0, 4096, .inl (A 20)), .inl (0, 48, .inl (A 21)), .inl (0, 3072, .inl (A 22)), .inr (8, [.int (I 23 0), .int (I 23 1), .int (I 23 2), .int (I 23 3), .int (I 23 4), .int (I 23 5), .int (I 23 6), .int (I 23 7), .int (I 23 8), .int (I 23 9), .int (I 23 10), .int (I 23 11), .ref 88]), .inl (0, 16, .inl (A 24)), .inr (12, [.ref 90, .ref 91, .ref 92, .ref 93, .ref 94]), .inl (0, 3, .inl (A 26)), .inl (0, 3, .inl (A 27)), .inl (0, 3, .inl (A 28)), .inl (0, 3, .inl (A 29)), .inl (0, 40, .inl (A 30)), .inl (0, 1024, .inl (A 31)), .inr (10, [.ref 97, .ref 98]), .inl (0, 4096, .inl (A 33)), .inl (0, 48, .inl (A 34))]
def q_kN (s : q_S) (c n : Nat) : q_H := (q_cN s.1 s.2.1 s.2.2, c, n)
def q_cW (A : Nat → Nat → Int32) (I : Nat → Nat → Int32) (J : Nat → Nat → Int64) : List q_C := [.inr (7, [.ref 65, .ref 87, .ref 89, .ref 95, .long (J 0 4)]), .inr (4, [.ref 66, .ref 69, .ref 70, .ref 71, .ref 72, .ref 74, .ref 77, .ref 82, .long (J 1 8)]), .inr (10, [.ref 67, .ref 68]), .inl (0, 4096, .inl (A 3)), .inl (0, 48, .inl (A 4)), .inl (0, 512, .inl (A 5)), .inl (0, 2048, .inl (A 6)), .inl (0, 2, .inl (A 7)), .inr (11, [.ref 73, .int (I 8 1), .int (I 8 2), .int (I 8 3), .int (I 8 4)]), .inl (0, 40, .inl (A 9)), .inr (6, [.ref 75, .ref 76, .int (I 10 2)]), .inl (0, 4, .inl (A 11)), .inl (0, 16, .inl (A 12)), .inr (5, [.ref 78, .ref 81, .int (I 13 2), .int (I 13 3)]), .inr (10, [.ref 79, .ref 80]), .inl (0, 4096, .inl (A 15)), .inl (0, 48, .inl (A 16)), .inl (0, 3072, .inl (A 17)), .inr (5, [.ref 83, .ref 86, .int (I 18 2), .int (I 18 3)]), .inr (10, [.ref 84, .ref 85]), .inl (0, 4096, .inl (A 20)), .inl (0, 48, .inl (A 21)), .inl (0, 3072, .inl (A 22)), .inr (8, [.int (I 23 0), .int (I 23 1), .int (I 23 2), .int (I 23 3), .int (I 23 4), .int (I 23 5), .int (I 23 6), .int (I 23 7), .int (I 23 8), .int (I 23 9), .int (I 23 10), .int (I 23 11), .ref 88]), .inl (0, 16, .inl (A 24)), .inr (12, [.ref 90, .ref 91, .ref 92, .ref 93, .ref 94]), .inl (0, 3, .inl (A 26)), .inl (0, 3, .inl (A 27)), .inl (0, 3, .inl (A 28)), .inl (0, 3, .inl (A 29)), .inl (0, 40, .inl (A 30)), .inl (0, 1024, .inl (A 31)), .inr (7, [.ref 97, .ref 119, .ref 121, .ref 127, .long (J 32 4)]), .inr (4, [.ref 98, .ref 101, .ref 102, .ref 103, .ref 104, .ref 106, .ref 109, .ref 114, .long (J 33 8)]), .inr (10, [.ref 99, .ref 100]), .inl (0, 4096, .inl (A 35)), .inl (0, 48, .inl (A 36)), .inl (0, 512, .inl (A 37)), .inl (0, 2048, .inl (A 38)), .inl (0, 2, .inl (A 39)), .inr (11, [.ref 105, .int (I 40 1), .int (I 40 2), .int (I 40 3), .int (I 40 4)]), .inl (0, 40, .inl (A 41)), .inr (6, [.ref 107, .ref 108, .int (I 42 2)]), .inl (0, 4, .inl (A 43)), .inl (0, 16, .inl (A 44)), .inr (5, [.ref 110, .ref 113, .int (I 45 2), .int (I 45 3)]), .inr (10, [.ref 111, .ref 112]), .inl (0, 4096, .inl (A 47)), .inl (0, 48, .inl (A 48)), .inl (0, 3072, .inl (A 49)), .inr (5, [.ref 115, .ref 118, .int (I 50 2), .int (I 50 3)]), .inr (10, [.ref 116, .ref 117]), .inl (0, 4096, .inl (A 52)), .inl (0, 48, .inl (A 53)), .inl (0, 3072, .inl (A 54)), .inr (8, [.int (I 55 0), .int (I 55 1), .int (I 55 2), .int (I 55 3), .int (I 55 4), .int (I 55 5), .int (I 55 6), .int (I 55 7), .int (I 55 8), .int (I 55 9), .int (I 55 10), .int (I 55 11), .ref 120]), .inl (0, 16, .inl (A 56)), .inr (12, [.ref 122, .ref 123, .ref 124, .ref 125, .ref 126]), .inl (0, 3, .inl (A 58)), .inl (0, 3, .inl (A 59)), .inl (0, 3, .inl (A 60)), .inl (0, 3, .inl (A 61)), .inl (0, 40, .inl (A 62)), .inl (0, 1024, .inl (A 63))]
def q_kW (s : q_S) (c n : Nat) : q_H := (q_cW s.1 s.2.1 s.2.2, c, n)
def q_cB (A : Nat → Nat → Int32) (I : Nat → Nat → Int32) (J : Nat → Nat → Int64) : List q_C := [.inr (1, [.ref 65, .int 0, .int (I 0 2), .int (I 0 3)]), .inl (4, 16, .inl (A 1))]
def q_kB (s : q_S) (c n : Nat) : q_H := (q_cB s.1 s.2.1 s.2.2, c, n)
def q_kX (s : q_S) (c n : Nat) : q_H := (q_cX s.1 s.2.1 s.2.2, c, n)
def q_kM (s : q_S) (c n : Nat) : q_H := (q_cM s.1 s.2.1 s.2.2, c, n)
def q_cL (A : Nat → Nat → Int32) (I : Nat → Nat → Int32) (J : Nat → Nat → Int64) : List q_C := [.inr (13, [.ref 65, .ref 97, .int (I 0 2), .ref 98, .ref 135, .ref 137]), .inr (7, [.ref 66, .ref 88, .ref 90, .ref 96, .long (J 1 4)]), .inr (4, [.ref 67, .ref 70, .ref 71, .ref 72, .ref 73, .ref 75, .ref 78, .ref 83, .long (J 2 8)]), .inr (10, [.ref 68, .ref 69]), .inl (0, 4096, .inl (A 4)), .inl (0, 48, .inl (A 5)), .inl (0, 512, .inl (A 6)), .inl (0, 2048, .inl (A 7)), .inl (0, 2, .inl (A 8)), .inr (11, [.ref 74, .int (I 9 1), .int (I 9 2), .int (I 9 3), .int (I 9 4)]), .inl (0, 40, .inl (A 10)), .inr (6, [.ref 76, .ref 77, .int (I 11 2)]), .inl (0, 4, .inl (A 12)), .inl (0, 16, .inl (A 13)), .inr (5, [.ref 79, .ref 82, .int (I 14 2), .int (I 14 3)]), .inr (10, [.ref 80, .ref 81]), .inl (0, 4096, .inl (A 16)), .inl (0, 48, .inl (A 17)), .inl (0, 3072, .inl (A 18)), .inr (5, [.ref 84, .ref 87, .int (I 19 2), .int (I 19 3)]), .inr (10, [.ref 85, .ref 86]), .inl (0, 4096, .inl (A 21)), .inl (0, 48, .inl (A 22)), .inl (0, 3072, .inl (A 23)), .inr (8, [.int (I 24 0), .int (I 24 1), .int (I 24 2), .int (I 24 3), .int (I 24 4), .int (I 24 5), .int (I 24 6), .int (I 24 7), .int (I 24 8), .int (I 24 9), .int (I 24 10), .int (I 24 11), .ref 89]), .inl (0, 16, .inl (A 25)), .inr (12, [.ref 91, .ref 92, .ref 93, .ref 94, .ref 95]), .inl (0, 3, .inl (A 27)), .inl (0, 3, .inl (A 28)), .inl (0, 3, .inl (A 29)), .inl (0, 3, .inl (A 30)), .inl (0, 40, .inl (A 31)), .inl (0, 1024, .inl (A 32)), .inl (5, 3, .inr (.inr (.inr (.inr (va_up (va_up (va_up (fun _ => none) 0 (some 140)) 1 (some 172)) 2 (some 204)))))), .inr (9, [.ref 99, .ref 131, .ref 132, .ref 133, .ref 134, .int (I 34 5), .int (I 34 6), .int (I 34 7)]), .inr (7, [.ref 100, .ref 122, .ref 124, .ref 130, .long (J 35 4)]), .inr (4, [.ref 101, .ref 104, .ref 105, .ref 106, .ref 107, .ref 109, .ref 112, .ref 117, .long (J 36 8)]), .inr (10, [.ref 102, .ref 103]), .inl (0, 4096, .inl (A 38)), .inl (0, 48, .inl (A 39)), .inl (0, 512, .inl (A 40)), .inl (0, 2048, .inl (A 41)), .inl (0, 2, .inl (A 42)), .inr (11, [.ref 108, .int (I 43 1), .int (I 43 2), .int (I 43 3), .int (I 43 4)]), .inl (0, 40, .inl (A 44)), .inr (6, [.ref 110, .ref 111, .int (I 45 2)]), .inl (0, 4, .inl (A 46)), .inl (0, 16, .inl (A 47)), .inr (5, [.ref 113, .ref 116, .int (I 48 2), .int (I 48 3)]), .inr (10, [.ref 114, .ref 115]), .inl (0, 4096, .inl (A 50)), .inl (0, 48, .inl (A 51)), .inl (0, 3072, .inl (A 52)), .inr (5, [.ref 118, .ref 121, .int (I 53 2), .int (I 53 3)]), .inr (10, [.ref 119, .ref 120]), .inl (0, 4096, .inl (A 55)), .inl (0, 48, .inl (A 56)), .inl (0, 3072, .inl (A 57)), .inr (8, [.int (I 58 0), .int (I 58 1), .int (I 58 2), .int (I 58 3), .int (I 58 4), .int (I 58 5), .int (I 58 6), .int (I 58 7), .int (I 58 8), .int (I 58 9), .int (I 58 10), .int (I 58 11), .ref 123]), .inl (0, 16, .inl (A 59)), .inr (12, [.ref 125, .ref 126, .ref 127, .ref 128, .ref 129]), .inl (0, 3, .inl (A 61)), .inl (0, 3, .inl (A 62)), .inl (0, 3, .inl (A 63)), .inl (0, 3, .inl (A 64)), .inl (0, 40, .inl (A 65)), .inl (0, 1024, .inl (A 66)), .inl (0, 512, .inl (A 67)), .inl (0, 512, .inl (A 68)), .inl (0, 512, .inl (A 69)), .inl (0, 512, .inl (A 70)), .inr (1, [.ref 136, .int 0, .int (I 71 2), .int (I 71 3)]), .inl (4, 16, .inl (A 72)), .inr (10, [.ref 138, .ref 139]), .inl (0, 4096, .inl (A 74)), .inl (0, 48, .inl (A 75)), .inr (7, [.ref 141, .ref 163, .ref 165, .ref 171, .long (J 76 4)]), .inr (4, [.ref 142, .ref 145, .ref 146, .ref 147, .ref 148, .ref 150, .ref 153, .ref 158, .long (J 77 8)]), .inr (10, [.ref 143, .ref 144]), .inl (0, 4096, .inl (A 79)), .inl (0, 48, .inl (A 80)), .inl (0, 512, .inl (A 81)), .inl (0, 2048, .inl (A 82)), .inl (0, 2, .inl (A 83)), .inr (11, [.ref 149, .int (I 84 1), .int (I 84 2), .int (I 84 3), .int (I 84 4)]), .inl (0, 40, .inl (A 85)), .inr (6, [.ref 151, .ref 152, .int (I 86 2)]), .inl (0, 4, .inl (A 87)), .inl (0, 16, .inl (A 88)), .inr (5, [.ref 154, .ref 157, .int (I 89 2), .int (I 89 3)]), .inr (10, [.ref 155, .ref 156]), .inl (0, 4096, .inl (A 91)), .inl (0, 48, .inl (A 92)), .inl (0, 3072, .inl (A 93)), .inr (5, [.ref 159, .ref 162, .int (I 94 2), .int (I 94 3)]), .inr (10, [.ref 160, .ref 161]), .inl (0, 4096, .inl (A 96)), .inl (0, 48, .inl (A 97)), .inl (0, 3072, .inl (A 98)), .inr (8, [.int (I 99 0), .int (I 99 1), .int (I 99 2), .int (I 99 3), .int (I 99 4), .int (I 99 5), .int (I 99 6), .int (I 99 7), .int (I 99 8), .int (I 99 9), .int (I 99 10), .int (I 99 11), .ref 164]), .inl (0, 16, .inl (A 100)), .inr (12, [.ref 166, .ref 167, .ref 168, .ref 169, .ref 170]), .inl (0, 3, .inl (A 102)), .inl (0, 3, .inl (A 103)), .inl (0, 3, .inl (A 104)), .inl (0, 3, .inl (A 105)), .inl (0, 40, .inl (A 106)), .inl (0, 1024, .inl (A 107)), .inr (7, [.ref 173, .ref 195, .ref 197, .ref 203, .long (J 108 4)]), .inr (4, [.ref 174, .ref 177, .ref 178, .ref 179, .ref 180, .ref 182, .ref 185, .ref 190, .long (J 109 8)]), .inr (10, [.ref 175, .ref 176]), .inl (0, 4096, .inl (A 111)), .inl (0, 48, .inl (A 112)), .inl (0, 512, .inl (A 113)), .inl (0, 2048, .inl (A 114)), .inl (0, 2, .inl (A 115)), .inr (11, [.ref 181, .int (I 116 1), .int (I 116 2), .int (I 116 3), .int (I 116 4)]), .inl (0, 40, .inl (A 117)), .inr (6, [.ref 183, .ref 184, .int (I 118 2)]), .inl (0, 4, .inl (A 119)), .inl (0, 16, .inl (A 120)), .inr (5, [.ref 186, .ref 189, .int (I 121 2), .int (I 121 3)]), .inr (10, [.ref 187, .ref 188]), .inl (0, 4096, .inl (A 123)), .inl (0, 48, .inl (A 124)), .inl (0, 3072, .inl (A 125)), .inr (5, [.ref 191, .ref 194, .int (I 126 2), .int (I 126 3)]), .inr (10, [.ref 192, .ref 193]), .inl (0, 4096, .inl (A 128)), .inl (0, 48, .inl (A 129)), .inl (0, 3072, .inl (A 130)), .inr (8, [.int (I 131 0), .int (I 131 1), .int (I 131 2), .int (I 131 3), .int (I 131 4), .int (I 131 5), .int (I 131 6), .int (I 131 7), .int (I 131 8), .int (I 131 9), .int (I 131 10), .int (I 131 11), .ref 196]), .inl (0, 16, .inl (A 132)), .inr (12, [.ref 198, .ref 199, .ref 200, .ref 201, .ref 202]), .inl (0, 3, .inl (A 134)), .inl (0, 3, .inl (A 135)), .inl (0, 3, .inl (A 136)), .inl (0, 3, .inl (A 137)), .inl (0, 40, .inl (A 138)), .inl (0, 1024, .inl (A 139)), .inr (7, [.ref 205, .ref 227, .ref 229, .ref 235, .long (J 140 4)]), .inr (4, [.ref 206, .ref 209, .ref 210, .ref 211, .ref 212, .ref 214, .ref 217, .ref 222, .long (J 141 8)]), .inr (10, [.ref 207, .ref 208]), .inl (0, 4096, .inl (A 143)), .inl (0, 48, .inl (A 144)), .inl (0, 512, .inl (A 145)), .inl (0, 2048, .inl (A 146)), .inl (0, 2, .inl (A 147)), .inr (11, [.ref 213, .int (I 148 1), .int (I 148 2), .int (I 148 3), .int (I 148 4)]), .inl (0, 40, .inl (A 149)), .inr (6, [.ref 215, .ref 216, .int (I 150 2)]), .inl (0, 4, .inl (A 151)), .inl (0, 16, .inl (A 152)), .inr (5, [.ref 218, .ref 221, .int (I 153 2), .int (I 153 3)]), .inr (10, [.ref 219, .ref 220]), .inl (0, 4096, .inl (A 155)), .inl (0, 48, .inl (A 156)), .inl (0, 3072, .inl (A 157)), .inr (5, [.ref 223, .ref 226, .int (I 158 2), .int (I 158 3)]), .inr (10, [.ref 224, .ref 225]), .inl (0, 4096, .inl (A 160)), .inl (0, 48, .inl (A 161)), .inl (0, 3072, .inl (A 162)), .inr (8, [.int (I 163 0), .int (I 163 1), .int (I 163 2), .int (I 163 3), .int (I 163 4), .int (I 163 5), .int (I 163 6), .int (I 163 7), .int (I 163 8), .int (I 163 9), .int (I 163 10), .int (I 163 11), .ref 228]), .inl (0, 16, .inl (A 164)), .inr (12, [.ref 230, .ref 231, .ref 232, .ref 233, .ref 234]), .inl (0, 3, .inl (A 166)), .inl (0, 3, .inl (A 167)), .inl (0, 3, .inl (A 168)), .inl (0, 3, .inl (A 169)), .inl (0, 40, .inl (A 170)), .inl (0, 1024, .inl (A 171)), .inr (14, [.ref 237, .ref 238, .ref 239, .ref 240, .ref 241, .ref 242, .ref 243, .ref 244, .ref 245, .ref 246, .ref 247, .ref 248, .ref 249, .ref 250, .ref 251, .long (J 172 15), .long (J 172 16), .int (I 172 17), .ref 252, .ref 253, .ref 254, .ref 255, .ref 256, .ref 257, .ref 258, .ref 259, .ref 260, .ref 261, .ref 262, .ref 263, .ref 264, .ref 265, .ref 266, .ref 267, .int (I 172 34), .int (I 172 35), .ref 268, .ref 269, .int (I 172 38), .int (I 172 39)]), .inl (0, 4096, .inl (A 173)), .inl (0, 512, .inl (A 174)), .inl (0, 2048, .inl (A 175)), .inl (0, 48, .inl (A 176)), .inl (0, 1024, .inl (A 177)), .inl (0, 40, .inl (A 178)), .inl (1, 16, .inl (A 179)), .inl (0, 40, .inl (A 180)), .inl (0, 16, .inl (A 181)), .inl (0, 3, .inl (A 182)), .inl (0, 3, .inl (A 183)), .inl (0, 3, .inl (A 184)), .inl (0, 3, .inl (A 185)), .inl (0, 24, .inl (A 186)), .inl (1, 8, .inl (A 187)), .inl (0, 12288, .inl (A 188)), .inl (0, 1536, .inl (A 189)), .inl (0, 6144, .inl (A 190)), .inl (0, 144, .inl (A 191)), .inl (0, 3072, .inl (A 192)), .inl (0, 120, .inl (A 193)), .inl (1, 48, .inl (A 194)), .inl (0, 120, .inl (A 195)), .inl (0, 48, .inl (A 196)), .inl (0, 9, .inl (A 197)), .inl (0, 9, .inl (A 198)), .inl (0, 9, .inl (A 199)), .inl (0, 9, .inl (A 200)), .inl (0, 72, .inl (A 201)), .inl (1, 24, .inl (A 202)), .inl (2, 6, .inr (.inl (J 203))), .inl (3, 40, .inl (A 204)), .inl (1, 8, .inl (A 205)), .inl (2, 1, .inr (.inl (J 206)))]
def q_kL (s : q_S) (c n : Nat) : q_H := (q_cL s.1 s.2.1 s.2.2, c, n)
def q_let {T U : Type} (x : T) (f : T → U) : U := f x
def q_b (b : Bool) : Int32 := cond b 1 0
def q_oP (h : q_H) (r : Int32) : q_Out := (.inl (some (.int r)), h)
def q_oB (h : q_H) (r : Bool) : q_Out := (.inl (some (.int (q_b r))), h)
def q_oL (h : q_H) (r : Int64) : q_Out := (.inl (some (.long r)), h)
def q_oSN (c n : Nat) (s : q_S) : q_Out := (.inl none, q_kN s c n)
def q_oIN (c n : Nat) (x : q_S × Int32) : q_Out := (.inl (some (.int x.2)), q_kN x.1 c n)
def q_oJN (c n : Nat) (x : q_S × Bool) : q_Out := (.inl (some (.int (q_b x.2))), q_kN x.1 c n)
def q_oKN (c n : Nat) (x : q_S × Int64) : q_Out := (.inl (some (.long x.2)), q_kN x.1 c n)
def q_oFN (c n : Nat) (x : q_S × UInt32) : q_Out := (.inl (some (.float x.2)), q_kN x.1 c n)
def q_oDN (c n : Nat) (x : q_S × UInt64) : q_Out := (.inl (some (.double x.2)), q_kN x.1 c n)
def q_oSW (c n : Nat) (s : q_S) : q_Out := (.inl none, q_kW s c n)
def q_oIW (c n : Nat) (x : q_S × Int32) : q_Out := (.inl (some (.int x.2)), q_kW x.1 c n)
def q_oJW (c n : Nat) (x : q_S × Bool) : q_Out := (.inl (some (.int (q_b x.2))), q_kW x.1 c n)
def q_oKW (c n : Nat) (x : q_S × Int64) : q_Out := (.inl (some (.long x.2)), q_kW x.1 c n)
def q_oFW (c n : Nat) (x : q_S × UInt32) : q_Out := (.inl (some (.float x.2)), q_kW x.1 c n)
def q_oDW (c n : Nat) (x : q_S × UInt64) : q_Out := (.inl (some (.double x.2)), q_kW x.1 c n)
def q_oSB (c n : Nat) (s : q_S) : q_Out := (.inl none, q_kB s c n)
def q_oIB (c n : Nat) (x : q_S × Int32) : q_Out := (.inl (some (.int x.2)), q_kB x.1 c n)
def q_oJB (c n : Nat) (x : q_S × Bool) : q_Out := (.inl (some (.int (q_b x.2))), q_kB x.1 c n)
def q_oKB (c n : Nat) (x : q_S × Int64) : q_Out := (.inl (some (.long x.2)), q_kB x.1 c n)
def q_oFB (c n : Nat) (x : q_S × UInt32) : q_Out := (.inl (some (.float x.2)), q_kB x.1 c n)
def q_oDB (c n : Nat) (x : q_S × UInt64) : q_Out := (.inl (some (.double x.2)), q_kB x.1 c n)
def q_oSX (c n : Nat) (s : q_S) : q_Out := (.inl none, q_kX s c n)
def q_oIX (c n : Nat) (x : q_S × Int32) : q_Out := (.inl (some (.int x.2)), q_kX x.1 c n)
def q_oJX (c n : Nat) (x : q_S × Bool) : q_Out := (.inl (some (.int (q_b x.2))), q_kX x.1 c n)
def q_oKX (c n : Nat) (x : q_S × Int64) : q_Out := (.inl (some (.long x.2)), q_kX x.1 c n)
def q_oFX (c n : Nat) (x : q_S × UInt32) : q_Out := (.inl (some (.float x.2)), q_kX x.1 c n)
def q_oDX (c n : Nat) (x : q_S × UInt64) : q_Out := (.inl (some (.double x.2)), q_kX x.1 c n)
def q_oSM (c n : Nat) (s : q_S) : q_Out := (.inl none, q_kM s c n)
def q_oIM (c n : Nat) (x : q_S × Int32) : q_Out := (.inl (some (.int x.2)), q_kM x.1 c n)
def q_oJM (c n : Nat) (x : q_S × Bool) : q_Out := (.inl (some (.int (q_b x.2))), q_kM x.1 c n)
def q_oKM (c n : Nat) (x : q_S × Int64) : q_Out := (.inl (some (.long x.2)), q_kM x.1 c n)
def q_oFM (c n : Nat) (x : q_S × UInt32) : q_Out := (.inl (some (.float x.2)), q_kM x.1 c n)
def q_oDM (c n : Nat) (x : q_S × UInt64) : q_Out := (.inl (some (.double x.2)), q_kM x.1 c n)
def q_oSL (c n : Nat) (s : q_S) : q_Out := (.inl none, q_kL s c n)
def q_oIL (c n : Nat) (x : q_S × Int32) : q_Out := (.inl (some (.int x.2)), q_kL x.1 c n)
def q_oJL (c n : Nat) (x : q_S × Bool) : q_Out := (.inl (some (.int (q_b x.2))), q_kL x.1 c n)
def q_oKL (c n : Nat) (x : q_S × Int64) : q_Out := (.inl (some (.long x.2)), q_kL x.1 c n)
def q_oFL (c n : Nat) (x : q_S × UInt32) : q_Out := (.inl (some (.float x.2)), q_kL x.1 c n)
def q_oDL (c n : Nat) (x : q_S × UInt64) : q_Out := (.inl (some (.double x.2)), q_kL x.1 c n)
def q_oEX (c n : Nat) (x : q_S × Int32 × Nat) : q_Out := (.inl (some (.int x.2.1)), q_kX x.1 (c + x.2.2) (n + 6 * x.2.2))
def q_oF (h : q_H) (r : UInt32) : q_Out := (.inl (some (.float r)), h)
def q_oD (h : q_H) (r : UInt64) : q_Out := (.inl (some (.double r)), h)
def q_oU (h : q_H) (_ : Unit) : q_Out := (.inl none, h)
theorem q_wN3 {nx pc : Nat} {L : q_L} {v i : Int32} {r : List Value} {s : q_S} {c n : Nat} : q_ast nx 0 (fun x => x) (pc, L, .int v :: .int i :: .ref 67 :: r, q_kN s c n) = some (q_in i 4096, (nx, L, r, q_kN (q_sA s 3 (upd (s.1 3) i.toNatClampNeg v)) c n), none) := rfl
theorem q_wN4 {nx pc : Nat} {L : q_L} {v i : Int32} {r : List Value} {s : q_S} {c n : Nat} : q_ast nx 0 (fun x => x) (pc, L, .int v :: .int i :: .ref 68 :: r, q_kN s c n) = some (q_in i 48, (nx, L, r, q_kN (q_sA s 4 (upd (s.1 4) i.toNatClampNeg v)) c n), none) := rfl
theorem q_wN5 {nx pc : Nat} {L : q_L} {v i : Int32} {r : List Value} {s : q_S} {c n : Nat} : q_ast nx 0 (fun x => x) (pc, L, .int v :: .int i :: .ref 69 :: r, q_kN s c n) = some (q_in i 512, (nx, L, r, q_kN (q_sA s 5 (upd (s.1 5) i.toNatClampNeg v)) c n), none) := rfl
theorem q_wN6 {nx pc : Nat} {L : q_L} {v i : Int32} {r : List Value} {s : q_S} {c n : Nat} : q_ast nx 0 (fun x => x) (pc, L, .int v :: .int i :: .ref 70 :: r, q_kN s c n) = some (q_in i 2048, (nx, L, r, q_kN (q_sA s 6 (upd (s.1 6) i.toNatClampNeg v)) c n), none) := rfl
theorem q_wN7 {nx pc : Nat} {L : q_L} {v i : Int32} {r : List Value} {s : q_S} {c n : Nat} : q_ast nx 0 (fun x => x) (pc, L, .int v :: .int i :: .ref 71 :: r, q_kN s c n) = some (q_in i 2, (nx, L, r, q_kN (q_sA s 7 (upd (s.1 7) i.toNatClampNeg v)) c n), none) := rfl
theorem q_wN9 {nx pc : Nat} {L : q_L} {v i : Int32} {r : List Value} {s : q_S} {c n : Nat} : q_ast nx 0 (fun x => x) (pc, L, .int v :: .int i :: .ref 73 :: r, q_kN s c n) = some (q_in i 40, (nx, L, r, q_kN (q_sA s 9 (upd (s.1 9) i.toNatClampNeg v)) c n), none) := rfl
theorem q_wN11 {nx pc : Nat} {L : q_L} {v i : Int32} {r : List Value} {s : q_S} {c n : Nat} : q_ast nx 0 (fun x => x) (pc, L, .int v :: .int i :: .ref 75 :: r, q_kN s c n) = some (q_in i 4, (nx, L, r, q_kN (q_sA s 11 (upd (s.1 11) i.toNatClampNeg v)) c n), none) := rfl
theorem q_wN12 {nx pc : Nat} {L : q_L} {v i : Int32} {r : List Value} {s : q_S} {c n : Nat} : q_ast nx 0 (fun x => x) (pc, L, .int v :: .int i :: .ref 76 :: r, q_kN s c n) = some (q_in i 16, (nx, L, r, q_kN (q_sA s 12 (upd (s.1 12) i.toNatClampNeg v)) c n), none) := rfl
theorem q_wN15 {nx pc : Nat} {L : q_L} {v i : Int32} {r : List Value} {s : q_S} {c n : Nat} : q_ast nx 0 (fun x => x) (pc, L, .int v :: .int i :: .ref 79 :: r, q_kN s c n) = some (q_in i 4096, (nx, L, r, q_kN (q_sA s 15 (upd (s.1 15) i.toNatClampNeg v)) c n), none) := rfl
theorem q_wN16 {nx pc : Nat} {L : q_L} {v i : Int32} {r : List Value} {s : q_S} {c n : Nat} : q_ast nx 0 (fun x => x) (pc, L, .int v :: .int i :: .ref 80 :: r, q_kN s c n) = some (q_in i 48, (nx, L, r, q_kN (q_sA s 16 (upd (s.1 16) i.toNatClampNeg v)) c n), none) := rfl
theorem q_wN17 {nx pc : Nat} {L : q_L} {v i : Int32} {r : List Value} {s : q_S} {c n : Nat} : q_ast nx 0 (fun x => x) (pc, L, .int v :: .int i :: .ref 81 :: r, q_kN s c n) = some (q_in i 3072, (nx, L, r, q_kN (q_sA s 17 (upd (s.1 17) i.toNatClampNeg v)) c n), none) := rfl
theorem q_wN20 {nx pc : Nat} {L : q_L} {v i : Int32} {r : List Value} {s : q_S} {c n : Nat} : q_ast nx 0 (fun x => x) (pc, L, .int v :: .int i :: .ref 84 :: r, q_kN s c n) = some (q_in i 4096, (nx, L, r, q_kN (q_sA s 20 (upd (s.1 20) i.toNatClampNeg v)) c n), none) := rfl
theorem q_wN21 {nx pc : Nat} {L : q_L} {v i : Int32} {r : List Value} {s : q_S} {c n : Nat} : q_ast nx 0 (fun x => x) (pc, L, .int v :: .int i :: .ref 85 :: r, q_kN s c n) = some (q_in i 48, (nx, L, r, q_kN (q_sA s 21 (upd (s.1 21) i.toNatClampNeg v)) c n), none) := rfl
theorem q_wN22 {nx pc : Nat} {L : q_L} {v i : Int32} {r : List Value} {s : q_S} {c n : Nat} : q_ast nx 0 (fun x => x) (pc, L, .int v :: .int i :: .ref 86 :: r, q_kN s c n) = some (q_in i 3072, (nx, L, r, q_kN (q_sA s 22 (upd (s.1 22) i.toNatClampNeg v)) c n), none) := rfl
theorem q_wN24 {nx pc : Nat} {L : q_L} {v i : Int32} {r : List Value} {s : q_S} {c n : Nat} : q_ast nx 0 (fun x => x) (pc, L, .int v :: .int i :: .ref 88 :: r, q_kN s c n) = some (q_in i 16, (nx, L, r, q_kN (q_sA s 24 (upd (s.1 24) i.toNatClampNeg v)) c n), none) := rfl
theorem q_wN26 {nx pc : Nat} {L : q_L} {v i : Int32} {r : List Value} {s : q_S} {c n : Nat} : q_ast nx 0 (fun x => x) (pc, L, .int v :: .int i :: .ref 90 :: r, q_kN s c n) = some (q_in i 3, (nx, L, r, q_kN (q_sA s 26 (upd (s.1 26) i.toNatClampNeg v)) c n), none) := rfl
theorem q_wN27 {nx pc : Nat} {L : q_L} {v i : Int32} {r : List Value} {s : q_S} {c n : Nat} : q_ast nx 0 (fun x => x) (pc, L, .int v :: .int i :: .ref 91 :: r, q_kN s c n) = some (q_in i 3, (nx, L, r, q_kN (q_sA s 27 (upd (s.1 27) i.toNatClampNeg v)) c n), none) := rfl
theorem q_wN28 {nx pc : Nat} {L : q_L} {v i : Int32} {r : List Value} {s : q_S} {c n : Nat} : q_ast nx 0 (fun x => x) (pc, L, .int v :: .int i :: .ref 92 :: r, q_kN s c n) = some (q_in i 3, (nx, L, r, q_kN (q_sA s 28 (upd (s.1 28) i.toNatClampNeg v)) c n), none) := rfl
theorem q_wN29 {nx pc : Nat} {L : q_L} {v i : Int32} {r : List Value} {s : q_S} {c n : Nat} : q_ast nx 0 (fun x => x) (pc, L, .int v :: .int i :: .ref 93 :: r, q_kN s c n) = some (q_in i 3, (nx, L, r, q_kN (q_sA s 29 (upd (s.1 29) i.toNatClampNeg v)) c n), none) := rfl
theorem q_wN30 {nx pc : Nat} {L : q_L} {v i : Int32} {r : List Value} {s : q_S} {c n : Nat} : q_ast nx 0 (fun x => x) (pc, L, .int v :: .int i :: .ref 94 :: r, q_kN s c n) = some (q_in i 40, (nx, L, r, q_kN (q_sA s 30 (upd (s.1 30) i.toNatClampNeg v)) c n), none) := rfl
theorem q_wN31 {nx pc : Nat} {L : q_L} {v i : Int32} {r : List Value} {s : q_S} {c n : Nat} : q_ast nx 0 (fun x => x) (pc, L, .int v :: .int i :: .ref 95 :: r, q_kN s c n) = some (q_in i 1024, (nx, L, r, q_kN (q_sA s 31 (upd (s.1 31) i.toNatClampNeg v)) c n), none) := rfl
theorem q_wN33 {nx pc : Nat} {L : q_L} {v i : Int32} {r : List Value} {s : q_S} {c n : Nat} : q_ast nx 0 (fun x => x) (pc, L, .int v :: .int i :: .ref 97 :: r, q_kN s c n) = some (q_in i 4096, (nx, L, r, q_kN (q_sA s 33 (upd (s.1 33) i.toNatClampNeg v)) c n), none) := rfl
theorem q_wN34 {nx pc : Nat} {L : q_L} {v i : Int32} {r : List Value} {s : q_S} {c n : Nat} : q_ast nx 0 (fun x => x) (pc, L, .int v :: .int i :: .ref 98 :: r, q_kN s c n) = some (q_in i 48, (nx, L, r, q_kN (q_sA s 34 (upd (s.1 34) i.toNatClampNeg v)) c n), none) := rfl
theorem q_wW3 {nx pc : Nat} {L : q_L} {v i : Int32} {r : List Value} {s : q_S} {c n : Nat} : q_ast nx 0 (fun x => x) (pc, L, .int v :: .int i :: .ref 67 :: r, q_kW s c n) = some (q_in i 4096, (nx, L, r, q_kW (q_sA s 3 (upd (s.1 3) i.toNatClampNeg v)) c n), none) := rfl
theorem q_wW4 {nx pc : Nat} {L : q_L} {v i : Int32} {r : List Value} {s : q_S} {c n : Nat} : q_ast nx 0 (fun x => x) (pc, L, .int v :: .int i :: .ref 68 :: r, q_kW s c n) = some (q_in i 48, (nx, L, r, q_kW (q_sA s 4 (upd (s.1 4) i.toNatClampNeg v)) c n), none) := rfl
theorem q_wW5 {nx pc : Nat} {L : q_L} {v i : Int32} {r : List Value} {s : q_S} {c n : Nat} : q_ast nx 0 (fun x => x) (pc, L, .int v :: .int i :: .ref 69 :: r, q_kW s c n) = some (q_in i 512, (nx, L, r, q_kW (q_sA s 5 (upd (s.1 5) i.toNatClampNeg v)) c n), none) := rfl
theorem q_wW6 {nx pc : Nat} {L : q_L} {v i : Int32} {r : List Value} {s : q_S} {c n : Nat} : q_ast nx 0 (fun x => x) (pc, L, .int v :: .int i :: .ref 70 :: r, q_kW s c n) = some (q_in i 2048, (nx, L, r, q_kW (q_sA s 6 (upd (s.1 6) i.toNatClampNeg v)) c n), none) := rfl
theorem q_wW7 {nx pc : Nat} {L : q_L} {v i : Int32} {r : List Value} {s : q_S} {c n : Nat} : q_ast nx 0 (fun x => x) (pc, L, .int v :: .int i :: .ref 71 :: r, q_kW s c n) = some (q_in i 2, (nx, L, r, q_kW (q_sA s 7 (upd (s.1 7) i.toNatClampNeg v)) c n), none) := rfl
theorem q_wW9 {nx pc : Nat} {L : q_L} {v i : Int32} {r : List Value} {s : q_S} {c n : Nat} : q_ast nx 0 (fun x => x) (pc, L, .int v :: .int i :: .ref 73 :: r, q_kW s c n) = some (q_in i 40, (nx, L, r, q_kW (q_sA s 9 (upd (s.1 9) i.toNatClampNeg v)) c n), none) := rfl
theorem q_wW11 {nx pc : Nat} {L : q_L} {v i : Int32} {r : List Value} {s : q_S} {c n : Nat} : q_ast nx 0 (fun x => x) (pc, L, .int v :: .int i :: .ref 75 :: r, q_kW s c n) = some (q_in i 4, (nx, L, r, q_kW (q_sA s 11 (upd (s.1 11) i.toNatClampNeg v)) c n), none) := rfl
theorem q_wW12 {nx pc : Nat} {L : q_L} {v i : Int32} {r : List Value} {s : q_S} {c n : Nat} : q_ast nx 0 (fun x => x) (pc, L, .int v :: .int i :: .ref 76 :: r, q_kW s c n) = some (q_in i 16, (nx, L, r, q_kW (q_sA s 12 (upd (s.1 12) i.toNatClampNeg v)) c n), none) := rfl
theorem q_wW15 {nx pc : Nat} {L : q_L} {v i : Int32} {r : List Value} {s : q_S} {c n : Nat} : q_ast nx 0 (fun x => x) (pc, L, .int v :: .int i :: .ref 79 :: r, q_kW s c n) = some (q_in i 4096, (nx, L, r, q_kW (q_sA s 15 (upd (s.1 15) i.toNatClampNeg v)) c n), none) := rfl
theorem q_wW16 {nx pc : Nat} {L : q_L} {v i : Int32} {r : List Value} {s : q_S} {c n : Nat} : q_ast nx 0 (fun x => x) (pc, L, .int v :: .int i :: .ref 80 :: r, q_kW s c n) = some (q_in i 48, (nx, L, r, q_kW (q_sA s 16 (upd (s.1 16) i.toNatClampNeg v)) c n), none) := rfl
theorem q_wW17 {nx pc : Nat} {L : q_L} {v i : Int32} {r : List Value} {s : q_S} {c n : Nat} : q_ast nx 0 (fun x => x) (pc, L, .int v :: .int i :: .ref 81 :: r, q_kW s c n) = some (q_in i 3072, (nx, L, r, q_kW (q_sA s 17 (upd (s.1 17) i.toNatClampNeg v)) c n), none) := rfl
theorem q_wW20 {nx pc : Nat} {L : q_L} {v i : Int32} {r : List Value} {s : q_S} {c n : Nat} : q_ast nx 0 (fun x => x) (pc, L, .int v :: .int i :: .ref 84 :: r, q_kW s c n) = some (q_in i 4096, (nx, L, r, q_kW (q_sA s 20 (upd (s.1 20) i.toNatClampNeg v)) c n), none) := rfl
theorem q_wW21 {nx pc : Nat} {L : q_L} {v i : Int32} {r : List Value} {s : q_S} {c n : Nat} : q_ast nx 0 (fun x => x) (pc, L, .int v :: .int i :: .ref 85 :: r, q_kW s c n) = some (q_in i 48, (nx, L, r, q_kW (q_sA s 21 (upd (s.1 21) i.toNatClampNeg v)) c n), none) := rfl
theorem q_wW22 {nx pc : Nat} {L : q_L} {v i : Int32} {r : List Value} {s : q_S} {c n : Nat} : q_ast nx 0 (fun x => x) (pc, L, .int v :: .int i :: .ref 86 :: r, q_kW s c n) = some (q_in i 3072, (nx, L, r, q_kW (q_sA s 22 (upd (s.1 22) i.toNatClampNeg v)) c n), none) := rfl
theorem q_wW24 {nx pc : Nat} {L : q_L} {v i : Int32} {r : List Value} {s : q_S} {c n : Nat} : q_ast nx 0 (fun x => x) (pc, L, .int v :: .int i :: .ref 88 :: r, q_kW s c n) = some (q_in i 16, (nx, L, r, q_kW (q_sA s 24 (upd (s.1 24) i.toNatClampNeg v)) c n), none) := rfl
theorem q_wW26 {nx pc : Nat} {L : q_L} {v i : Int32} {r : List Value} {s : q_S} {c n : Nat} : q_ast nx 0 (fun x => x) (pc, L, .int v :: .int i :: .ref 90 :: r, q_kW s c n) = some (q_in i 3, (nx, L, r, q_kW (q_sA s 26 (upd (s.1 26) i.toNatClampNeg v)) c n), none) := rfl
theorem q_wW27 {nx pc : Nat} {L : q_L} {v i : Int32} {r : List Value} {s : q_S} {c n : Nat} : q_ast nx 0 (fun x => x) (pc, L, .int v :: .int i :: .ref 91 :: r, q_kW s c n) = some (q_in i 3, (nx, L, r, q_kW (q_sA s 27 (upd (s.1 27) i.toNatClampNeg v)) c n), none) := rfl
theorem q_wW28 {nx pc : Nat} {L : q_L} {v i : Int32} {r : List Value} {s : q_S} {c n : Nat} : q_ast nx 0 (fun x => x) (pc, L, .int v :: .int i :: .ref 92 :: r, q_kW s c n) = some (q_in i 3, (nx, L, r, q_kW (q_sA s 28 (upd (s.1 28) i.toNatClampNeg v)) c n), none) := rfl
theorem q_wW29 {nx pc : Nat} {L : q_L} {v i : Int32} {r : List Value} {s : q_S} {c n : Nat} : q_ast nx 0 (fun x => x) (pc, L, .int v :: .int i :: .ref 93 :: r, q_kW s c n) = some (q_in i 3, (nx, L, r, q_kW (q_sA s 29 (upd (s.1 29) i.toNatClampNeg v)) c n), none) := rfl
theorem q_wW30 {nx pc : Nat} {L : q_L} {v i : Int32} {r : List Value} {s : q_S} {c n : Nat} : q_ast nx 0 (fun x => x) (pc, L, .int v :: .int i :: .ref 94 :: r, q_kW s c n) = some (q_in i 40, (nx, L, r, q_kW (q_sA s 30 (upd (s.1 30) i.toNatClampNeg v)) c n), none) := rfl
theorem q_wW31 {nx pc : Nat} {L : q_L} {v i : Int32} {r : List Value} {s : q_S} {c n : Nat} : q_ast nx 0 (fun x => x) (pc, L, .int v :: .int i :: .ref 95 :: r, q_kW s c n) = some (q_in i 1024, (nx, L, r, q_kW (q_sA s 31 (upd (s.1 31) i.toNatClampNeg v)) c n), none) := rfl
theorem q_wW35 {nx pc : Nat} {L : q_L} {v i : Int32} {r : List Value} {s : q_S} {c n : Nat} : q_ast nx 0 (fun x => x) (pc, L, .int v :: .int i :: .ref 99 :: r, q_kW s c n) = some (q_in i 4096, (nx, L, r, q_kW (q_sA s 35 (upd (s.1 35) i.toNatClampNeg v)) c n), none) := rfl
theorem q_wW36 {nx pc : Nat} {L : q_L} {v i : Int32} {r : List Value} {s : q_S} {c n : Nat} : q_ast nx 0 (fun x => x) (pc, L, .int v :: .int i :: .ref 100 :: r, q_kW s c n) = some (q_in i 48, (nx, L, r, q_kW (q_sA s 36 (upd (s.1 36) i.toNatClampNeg v)) c n), none) := rfl
theorem q_wW37 {nx pc : Nat} {L : q_L} {v i : Int32} {r : List Value} {s : q_S} {c n : Nat} : q_ast nx 0 (fun x => x) (pc, L, .int v :: .int i :: .ref 101 :: r, q_kW s c n) = some (q_in i 512, (nx, L, r, q_kW (q_sA s 37 (upd (s.1 37) i.toNatClampNeg v)) c n), none) := rfl
theorem q_wW38 {nx pc : Nat} {L : q_L} {v i : Int32} {r : List Value} {s : q_S} {c n : Nat} : q_ast nx 0 (fun x => x) (pc, L, .int v :: .int i :: .ref 102 :: r, q_kW s c n) = some (q_in i 2048, (nx, L, r, q_kW (q_sA s 38 (upd (s.1 38) i.toNatClampNeg v)) c n), none) := rfl
theorem q_wW39 {nx pc : Nat} {L : q_L} {v i : Int32} {r : List Value} {s : q_S} {c n : Nat} : q_ast nx 0 (fun x => x) (pc, L, .int v :: .int i :: .ref 103 :: r, q_kW s c n) = some (q_in i 2, (nx, L, r, q_kW (q_sA s 39 (upd (s.1 39) i.toNatClampNeg v)) c n), none) := rfl
theorem q_wW41 {nx pc : Nat} {L : q_L} {v i : Int32} {r : List Value} {s : q_S} {c n : Nat} : q_ast nx 0 (fun x => x) (pc, L, .int v :: .int i :: .ref 105 :: r, q_kW s c n) = some (q_in i 40, (nx, L, r, q_kW (q_sA s 41 (upd (s.1 41) i.toNatClampNeg v)) c n), none) := rfl
theorem q_wW43 {nx pc : Nat} {L : q_L} {v i : Int32} {r : List Value} {s : q_S} {c n : Nat} : q_ast nx 0 (fun x => x) (pc, L, .int v :: .int i :: .ref 107 :: r, q_kW s c n) = some (q_in i 4, (nx, L, r, q_kW (q_sA s 43 (upd (s.1 43) i.toNatClampNeg v)) c n), none) := rfl
theorem q_wW44 {nx pc : Nat} {L : q_L} {v i : Int32} {r : List Value} {s : q_S} {c n : Nat} : q_ast nx 0 (fun x => x) (pc, L, .int v :: .int i :: .ref 108 :: r, q_kW s c n) = some (q_in i 16, (nx, L, r, q_kW (q_sA s 44 (upd (s.1 44) i.toNatClampNeg v)) c n), none) := rfl
theorem q_wW47 {nx pc : Nat} {L : q_L} {v i : Int32} {r : List Value} {s : q_S} {c n : Nat} : q_ast nx 0 (fun x => x) (pc, L, .int v :: .int i :: .ref 111 :: r, q_kW s c n) = some (q_in i 4096, (nx, L, r, q_kW (q_sA s 47 (upd (s.1 47) i.toNatClampNeg v)) c n), none) := rfl
theorem q_wW48 {nx pc : Nat} {L : q_L} {v i : Int32} {r : List Value} {s : q_S} {c n : Nat} : q_ast nx 0 (fun x => x) (pc, L, .int v :: .int i :: .ref 112 :: r, q_kW s c n) = some (q_in i 48, (nx, L, r, q_kW (q_sA s 48 (upd (s.1 48) i.toNatClampNeg v)) c n), none) := rfl
theorem q_wW49 {nx pc : Nat} {L : q_L} {v i : Int32} {r : List Value} {s : q_S} {c n : Nat} : q_ast nx 0 (fun x => x) (pc, L, .int v :: .int i :: .ref 113 :: r, q_kW s c n) = some (q_in i 3072, (nx, L, r, q_kW (q_sA s 49 (upd (s.1 49) i.toNatClampNeg v)) c n), none) := rfl
theorem q_wW52 {nx pc : Nat} {L : q_L} {v i : Int32} {r : List Value} {s : q_S} {c n : Nat} : q_ast nx 0 (fun x => x) (pc, L, .int v :: .int i :: .ref 116 :: r, q_kW s c n) = some (q_in i 4096, (nx, L, r, q_kW (q_sA s 52 (upd (s.1 52) i.toNatClampNeg v)) c n), none) := rfl
theorem q_wW53 {nx pc : Nat} {L : q_L} {v i : Int32} {r : List Value} {s : q_S} {c n : Nat} : q_ast nx 0 (fun x => x) (pc, L, .int v :: .int i :: .ref 117 :: r, q_kW s c n) = some (q_in i 48, (nx, L, r, q_kW (q_sA s 53 (upd (s.1 53) i.toNatClampNeg v)) c n), none) := rfl
theorem q_wW54 {nx pc : Nat} {L : q_L} {v i : Int32} {r : List Value} {s : q_S} {c n : Nat} : q_ast nx 0 (fun x => x) (pc, L, .int v :: .int i :: .ref 118 :: r, q_kW s c n) = some (q_in i 3072, (nx, L, r, q_kW (q_sA s 54 (upd (s.1 54) i.toNatClampNeg v)) c n), none) := rfl
theorem q_wW56 {nx pc : Nat} {L : q_L} {v i : Int32} {r : List Value} {s : q_S} {c n : Nat} : q_ast nx 0 (fun x => x) (pc, L, .int v :: .int i :: .ref 120 :: r, q_kW s c n) = some (q_in i 16, (nx, L, r, q_kW (q_sA s 56 (upd (s.1 56) i.toNatClampNeg v)) c n), none) := rfl
theorem q_wW58 {nx pc : Nat} {L : q_L} {v i : Int32} {r : List Value} {s : q_S} {c n : Nat} : q_ast nx 0 (fun x => x) (pc, L, .int v :: .int i :: .ref 122 :: r, q_kW s c n) = some (q_in i 3, (nx, L, r, q_kW (q_sA s 58 (upd (s.1 58) i.toNatClampNeg v)) c n), none) := rfl
theorem q_wW59 {nx pc : Nat} {L : q_L} {v i : Int32} {r : List Value} {s : q_S} {c n : Nat} : q_ast nx 0 (fun x => x) (pc, L, .int v :: .int i :: .ref 123 :: r, q_kW s c n) = some (q_in i 3, (nx, L, r, q_kW (q_sA s 59 (upd (s.1 59) i.toNatClampNeg v)) c n), none) := rfl
theorem q_wW60 {nx pc : Nat} {L : q_L} {v i : Int32} {r : List Value} {s : q_S} {c n : Nat} : q_ast nx 0 (fun x => x) (pc, L, .int v :: .int i :: .ref 124 :: r, q_kW s c n) = some (q_in i 3, (nx, L, r, q_kW (q_sA s 60 (upd (s.1 60) i.toNatClampNeg v)) c n), none) := rfl
theorem q_wW61 {nx pc : Nat} {L : q_L} {v i : Int32} {r : List Value} {s : q_S} {c n : Nat} : q_ast nx 0 (fun x => x) (pc, L, .int v :: .int i :: .ref 125 :: r, q_kW s c n) = some (q_in i 3, (nx, L, r, q_kW (q_sA s 61 (upd (s.1 61) i.toNatClampNeg v)) c n), none) := rfl
theorem q_wW62 {nx pc : Nat} {L : q_L} {v i : Int32} {r : List Value} {s : q_S} {c n : Nat} : q_ast nx 0 (fun x => x) (pc, L, .int v :: .int i :: .ref 126 :: r, q_kW s c n) = some (q_in i 40, (nx, L, r, q_kW (q_sA s 62 (upd (s.1 62) i.toNatClampNeg v)) c n), none) := rfl
theorem q_wW63 {nx pc : Nat} {L : q_L} {v i : Int32} {r : List Value} {s : q_S} {c n : Nat} : q_ast nx 0 (fun x => x) (pc, L, .int v :: .int i :: .ref 127 :: r, q_kW s c n) = some (q_in i 1024, (nx, L, r, q_kW (q_sA s 63 (upd (s.1 63) i.toNatClampNeg v)) c n), none) := rfl
theorem q_wB1 {nx pc : Nat} {L : q_L} {v i : Int32} {r : List Value} {s : q_S} {c n : Nat} : q_ast nx 4 (vp_nar .byte) (pc, L, .int v :: .int i :: .ref 65 :: r, q_kB s c n) = some (q_in i 16, (nx, L, r, q_kB (q_sA s 1 (upd (s.1 1) i.toNatClampNeg (vp_nar .byte v))) c n), none) := rfl
set_option maxRecDepth 100000 in
theorem q_wX67 {nx pc : Nat} {L : q_L} {v i : Int32} {r : List Value} {s : q_S} {c n : Nat} : q_ast nx 0 (fun x => x) (pc, L, .int v :: .int i :: .ref 131 :: r, q_kX s c n) = some (q_in i 512, (nx, L, r, q_kX (q_sA s 67 (upd (s.1 67) i.toNatClampNeg v)) c n), none) := rfl
set_option maxRecDepth 100000 in
theorem q_wX68 {nx pc : Nat} {L : q_L} {v i : Int32} {r : List Value} {s : q_S} {c n : Nat} : q_ast nx 0 (fun x => x) (pc, L, .int v :: .int i :: .ref 132 :: r, q_kX s c n) = some (q_in i 512, (nx, L, r, q_kX (q_sA s 68 (upd (s.1 68) i.toNatClampNeg v)) c n), none) := rfl
set_option maxRecDepth 100000 in
theorem q_wX69 {nx pc : Nat} {L : q_L} {v i : Int32} {r : List Value} {s : q_S} {c n : Nat} : q_ast nx 0 (fun x => x) (pc, L, .int v :: .int i :: .ref 133 :: r, q_kX s c n) = some (q_in i 512, (nx, L, r, q_kX (q_sA s 69 (upd (s.1 69) i.toNatClampNeg v)) c n), none) := rfl
set_option maxRecDepth 100000 in
theorem q_wX70 {nx pc : Nat} {L : q_L} {v i : Int32} {r : List Value} {s : q_S} {c n : Nat} : q_ast nx 0 (fun x => x) (pc, L, .int v :: .int i :: .ref 134 :: r, q_kX s c n) = some (q_in i 512, (nx, L, r, q_kX (q_sA s 70 (upd (s.1 70) i.toNatClampNeg v)) c n), none) := rfl
set_option maxRecDepth 100000 in
theorem q_wX172 {nx pc : Nat} {L : q_L} {v : Int64} {i : Int32} {r : List Value} {s : q_S} {c n : Nat} : q_lst nx 2 (pc, L, .long v :: .int i :: .ref 236 :: r, q_kX s c n) = some (q_in i 1, (nx, L, r, q_kX (q_sL s 172 (vp_updL (s.2.2 172) i.toNatClampNeg v)) c n), none) := rfl
theorem q_wM1 {nx pc : Nat} {L : q_L} {v i : Int32} {r : List Value} {s : q_S} {c n : Nat} : q_ast nx 0 (fun x => x) (pc, L, .int v :: .int i :: .ref 65 :: r, q_kM s c n) = some (q_in i 4096, (nx, L, r, q_kM (q_sA s 1 (upd (s.1 1) i.toNatClampNeg v)) c n), none) := rfl
theorem q_wM2 {nx pc : Nat} {L : q_L} {v i : Int32} {r : List Value} {s : q_S} {c n : Nat} : q_ast nx 0 (fun x => x) (pc, L, .int v :: .int i :: .ref 66 :: r, q_kM s c n) = some (q_in i 512, (nx, L, r, q_kM (q_sA s 2 (upd (s.1 2) i.toNatClampNeg v)) c n), none) := rfl
theorem q_wM3 {nx pc : Nat} {L : q_L} {v i : Int32} {r : List Value} {s : q_S} {c n : Nat} : q_ast nx 0 (fun x => x) (pc, L, .int v :: .int i :: .ref 67 :: r, q_kM s c n) = some (q_in i 2048, (nx, L, r, q_kM (q_sA s 3 (upd (s.1 3) i.toNatClampNeg v)) c n), none) := rfl
theorem q_wM4 {nx pc : Nat} {L : q_L} {v i : Int32} {r : List Value} {s : q_S} {c n : Nat} : q_ast nx 0 (fun x => x) (pc, L, .int v :: .int i :: .ref 68 :: r, q_kM s c n) = some (q_in i 48, (nx, L, r, q_kM (q_sA s 4 (upd (s.1 4) i.toNatClampNeg v)) c n), none) := rfl
theorem q_wM5 {nx pc : Nat} {L : q_L} {v i : Int32} {r : List Value} {s : q_S} {c n : Nat} : q_ast nx 0 (fun x => x) (pc, L, .int v :: .int i :: .ref 69 :: r, q_kM s c n) = some (q_in i 1024, (nx, L, r, q_kM (q_sA s 5 (upd (s.1 5) i.toNatClampNeg v)) c n), none) := rfl
theorem q_wM6 {nx pc : Nat} {L : q_L} {v i : Int32} {r : List Value} {s : q_S} {c n : Nat} : q_ast nx 0 (fun x => x) (pc, L, .int v :: .int i :: .ref 70 :: r, q_kM s c n) = some (q_in i 40, (nx, L, r, q_kM (q_sA s 6 (upd (s.1 6) i.toNatClampNeg v)) c n), none) := rfl
theorem q_wM7 {nx pc : Nat} {L : q_L} {v i : Int32} {r : List Value} {s : q_S} {c n : Nat} : q_ast nx 1 (vp_nar .boolean) (pc, L, .int v :: .int i :: .ref 71 :: r, q_kM s c n) = some (q_in i 16, (nx, L, r, q_kM (q_sA s 7 (upd (s.1 7) i.toNatClampNeg (vp_nar .boolean v))) c n), none) := rfl
theorem q_wM8 {nx pc : Nat} {L : q_L} {v i : Int32} {r : List Value} {s : q_S} {c n : Nat} : q_ast nx 0 (fun x => x) (pc, L, .int v :: .int i :: .ref 72 :: r, q_kM s c n) = some (q_in i 40, (nx, L, r, q_kM (q_sA s 8 (upd (s.1 8) i.toNatClampNeg v)) c n), none) := rfl
theorem q_wM9 {nx pc : Nat} {L : q_L} {v i : Int32} {r : List Value} {s : q_S} {c n : Nat} : q_ast nx 0 (fun x => x) (pc, L, .int v :: .int i :: .ref 73 :: r, q_kM s c n) = some (q_in i 16, (nx, L, r, q_kM (q_sA s 9 (upd (s.1 9) i.toNatClampNeg v)) c n), none) := rfl
theorem q_wM10 {nx pc : Nat} {L : q_L} {v i : Int32} {r : List Value} {s : q_S} {c n : Nat} : q_ast nx 0 (fun x => x) (pc, L, .int v :: .int i :: .ref 74 :: r, q_kM s c n) = some (q_in i 3, (nx, L, r, q_kM (q_sA s 10 (upd (s.1 10) i.toNatClampNeg v)) c n), none) := rfl
theorem q_wM11 {nx pc : Nat} {L : q_L} {v i : Int32} {r : List Value} {s : q_S} {c n : Nat} : q_ast nx 0 (fun x => x) (pc, L, .int v :: .int i :: .ref 75 :: r, q_kM s c n) = some (q_in i 3, (nx, L, r, q_kM (q_sA s 11 (upd (s.1 11) i.toNatClampNeg v)) c n), none) := rfl
theorem q_wM12 {nx pc : Nat} {L : q_L} {v i : Int32} {r : List Value} {s : q_S} {c n : Nat} : q_ast nx 0 (fun x => x) (pc, L, .int v :: .int i :: .ref 76 :: r, q_kM s c n) = some (q_in i 3, (nx, L, r, q_kM (q_sA s 12 (upd (s.1 12) i.toNatClampNeg v)) c n), none) := rfl
theorem q_wM13 {nx pc : Nat} {L : q_L} {v i : Int32} {r : List Value} {s : q_S} {c n : Nat} : q_ast nx 0 (fun x => x) (pc, L, .int v :: .int i :: .ref 77 :: r, q_kM s c n) = some (q_in i 3, (nx, L, r, q_kM (q_sA s 13 (upd (s.1 13) i.toNatClampNeg v)) c n), none) := rfl
theorem q_wM14 {nx pc : Nat} {L : q_L} {v i : Int32} {r : List Value} {s : q_S} {c n : Nat} : q_ast nx 0 (fun x => x) (pc, L, .int v :: .int i :: .ref 78 :: r, q_kM s c n) = some (q_in i 24, (nx, L, r, q_kM (q_sA s 14 (upd (s.1 14) i.toNatClampNeg v)) c n), none) := rfl
theorem q_wM15 {nx pc : Nat} {L : q_L} {v i : Int32} {r : List Value} {s : q_S} {c n : Nat} : q_ast nx 1 (vp_nar .boolean) (pc, L, .int v :: .int i :: .ref 79 :: r, q_kM s c n) = some (q_in i 8, (nx, L, r, q_kM (q_sA s 15 (upd (s.1 15) i.toNatClampNeg (vp_nar .boolean v))) c n), none) := rfl
theorem q_wM16 {nx pc : Nat} {L : q_L} {v i : Int32} {r : List Value} {s : q_S} {c n : Nat} : q_ast nx 0 (fun x => x) (pc, L, .int v :: .int i :: .ref 80 :: r, q_kM s c n) = some (q_in i 12288, (nx, L, r, q_kM (q_sA s 16 (upd (s.1 16) i.toNatClampNeg v)) c n), none) := rfl
theorem q_wM17 {nx pc : Nat} {L : q_L} {v i : Int32} {r : List Value} {s : q_S} {c n : Nat} : q_ast nx 0 (fun x => x) (pc, L, .int v :: .int i :: .ref 81 :: r, q_kM s c n) = some (q_in i 1536, (nx, L, r, q_kM (q_sA s 17 (upd (s.1 17) i.toNatClampNeg v)) c n), none) := rfl
theorem q_wM18 {nx pc : Nat} {L : q_L} {v i : Int32} {r : List Value} {s : q_S} {c n : Nat} : q_ast nx 0 (fun x => x) (pc, L, .int v :: .int i :: .ref 82 :: r, q_kM s c n) = some (q_in i 6144, (nx, L, r, q_kM (q_sA s 18 (upd (s.1 18) i.toNatClampNeg v)) c n), none) := rfl
theorem q_wM19 {nx pc : Nat} {L : q_L} {v i : Int32} {r : List Value} {s : q_S} {c n : Nat} : q_ast nx 0 (fun x => x) (pc, L, .int v :: .int i :: .ref 83 :: r, q_kM s c n) = some (q_in i 144, (nx, L, r, q_kM (q_sA s 19 (upd (s.1 19) i.toNatClampNeg v)) c n), none) := rfl
theorem q_wM20 {nx pc : Nat} {L : q_L} {v i : Int32} {r : List Value} {s : q_S} {c n : Nat} : q_ast nx 0 (fun x => x) (pc, L, .int v :: .int i :: .ref 84 :: r, q_kM s c n) = some (q_in i 3072, (nx, L, r, q_kM (q_sA s 20 (upd (s.1 20) i.toNatClampNeg v)) c n), none) := rfl
theorem q_wM21 {nx pc : Nat} {L : q_L} {v i : Int32} {r : List Value} {s : q_S} {c n : Nat} : q_ast nx 0 (fun x => x) (pc, L, .int v :: .int i :: .ref 85 :: r, q_kM s c n) = some (q_in i 120, (nx, L, r, q_kM (q_sA s 21 (upd (s.1 21) i.toNatClampNeg v)) c n), none) := rfl
theorem q_wM22 {nx pc : Nat} {L : q_L} {v i : Int32} {r : List Value} {s : q_S} {c n : Nat} : q_ast nx 1 (vp_nar .boolean) (pc, L, .int v :: .int i :: .ref 86 :: r, q_kM s c n) = some (q_in i 48, (nx, L, r, q_kM (q_sA s 22 (upd (s.1 22) i.toNatClampNeg (vp_nar .boolean v))) c n), none) := rfl
theorem q_wM23 {nx pc : Nat} {L : q_L} {v i : Int32} {r : List Value} {s : q_S} {c n : Nat} : q_ast nx 0 (fun x => x) (pc, L, .int v :: .int i :: .ref 87 :: r, q_kM s c n) = some (q_in i 120, (nx, L, r, q_kM (q_sA s 23 (upd (s.1 23) i.toNatClampNeg v)) c n), none) := rfl
theorem q_wM24 {nx pc : Nat} {L : q_L} {v i : Int32} {r : List Value} {s : q_S} {c n : Nat} : q_ast nx 0 (fun x => x) (pc, L, .int v :: .int i :: .ref 88 :: r, q_kM s c n) = some (q_in i 48, (nx, L, r, q_kM (q_sA s 24 (upd (s.1 24) i.toNatClampNeg v)) c n), none) := rfl
theorem q_wM25 {nx pc : Nat} {L : q_L} {v i : Int32} {r : List Value} {s : q_S} {c n : Nat} : q_ast nx 0 (fun x => x) (pc, L, .int v :: .int i :: .ref 89 :: r, q_kM s c n) = some (q_in i 9, (nx, L, r, q_kM (q_sA s 25 (upd (s.1 25) i.toNatClampNeg v)) c n), none) := rfl
theorem q_wM26 {nx pc : Nat} {L : q_L} {v i : Int32} {r : List Value} {s : q_S} {c n : Nat} : q_ast nx 0 (fun x => x) (pc, L, .int v :: .int i :: .ref 90 :: r, q_kM s c n) = some (q_in i 9, (nx, L, r, q_kM (q_sA s 26 (upd (s.1 26) i.toNatClampNeg v)) c n), none) := rfl
theorem q_wM27 {nx pc : Nat} {L : q_L} {v i : Int32} {r : List Value} {s : q_S} {c n : Nat} : q_ast nx 0 (fun x => x) (pc, L, .int v :: .int i :: .ref 91 :: r, q_kM s c n) = some (q_in i 9, (nx, L, r, q_kM (q_sA s 27 (upd (s.1 27) i.toNatClampNeg v)) c n), none) := rfl
theorem q_wM28 {nx pc : Nat} {L : q_L} {v i : Int32} {r : List Value} {s : q_S} {c n : Nat} : q_ast nx 0 (fun x => x) (pc, L, .int v :: .int i :: .ref 92 :: r, q_kM s c n) = some (q_in i 9, (nx, L, r, q_kM (q_sA s 28 (upd (s.1 28) i.toNatClampNeg v)) c n), none) := rfl
theorem q_wM29 {nx pc : Nat} {L : q_L} {v i : Int32} {r : List Value} {s : q_S} {c n : Nat} : q_ast nx 0 (fun x => x) (pc, L, .int v :: .int i :: .ref 93 :: r, q_kM s c n) = some (q_in i 72, (nx, L, r, q_kM (q_sA s 29 (upd (s.1 29) i.toNatClampNeg v)) c n), none) := rfl
theorem q_wM30 {nx pc : Nat} {L : q_L} {v i : Int32} {r : List Value} {s : q_S} {c n : Nat} : q_ast nx 1 (vp_nar .boolean) (pc, L, .int v :: .int i :: .ref 94 :: r, q_kM s c n) = some (q_in i 24, (nx, L, r, q_kM (q_sA s 30 (upd (s.1 30) i.toNatClampNeg (vp_nar .boolean v))) c n), none) := rfl
theorem q_wM31 {nx pc : Nat} {L : q_L} {v : Int64} {i : Int32} {r : List Value} {s : q_S} {c n : Nat} : q_lst nx 2 (pc, L, .long v :: .int i :: .ref 95 :: r, q_kM s c n) = some (q_in i 6, (nx, L, r, q_kM (q_sL s 31 (vp_updL (s.2.2 31) i.toNatClampNeg v)) c n), none) := rfl
theorem q_wM32 {nx pc : Nat} {L : q_L} {v i : Int32} {r : List Value} {s : q_S} {c n : Nat} : q_ast nx 3 (vp_nar .char) (pc, L, .int v :: .int i :: .ref 96 :: r, q_kM s c n) = some (q_in i 40, (nx, L, r, q_kM (q_sA s 32 (upd (s.1 32) i.toNatClampNeg (vp_nar .char v))) c n), none) := rfl
theorem q_wM33 {nx pc : Nat} {L : q_L} {v i : Int32} {r : List Value} {s : q_S} {c n : Nat} : q_ast nx 1 (vp_nar .boolean) (pc, L, .int v :: .int i :: .ref 97 :: r, q_kM s c n) = some (q_in i 8, (nx, L, r, q_kM (q_sA s 33 (upd (s.1 33) i.toNatClampNeg (vp_nar .boolean v))) c n), none) := rfl
set_option maxRecDepth 100000 in
theorem q_pX0_2 {nx pc : Nat} {L : q_L} {v : Int32} {r : List Value} {s : q_S} {c n : Nat} : q_pf nx 13 2 q_ck_i (pc, L, .int v :: .ref 64 :: r, q_kX s c n) = some (nx, L, r, q_kX (q_sI s 0 2 v) c n) := rfl
set_option maxRecDepth 100000 in
theorem q_pX34_5 {nx pc : Nat} {L : q_L} {v : Int32} {r : List Value} {s : q_S} {c n : Nat} : q_pf nx 9 5 q_ck_i (pc, L, .int v :: .ref 98 :: r, q_kX s c n) = some (nx, L, r, q_kX (q_sI s 34 5 v) c n) := rfl
set_option maxRecDepth 100000 in
theorem q_pX34_6 {nx pc : Nat} {L : q_L} {v : Int32} {r : List Value} {s : q_S} {c n : Nat} : q_pf nx 9 6 q_ck_i (pc, L, .int v :: .ref 98 :: r, q_kX s c n) = some (nx, L, r, q_kX (q_sI s 34 6 v) c n) := rfl
set_option maxRecDepth 100000 in
theorem q_pX34_7t {nx pc : Nat} {L : q_L} {r : List Value} {s : q_S} {c n : Nat} : q_pf nx 9 7 q_ck_z (pc, L, .int 1 :: .ref 98 :: r, q_kX s c n) = some (nx, L, r, q_kX (q_sI s 34 7 1) c n) := rfl
set_option maxRecDepth 100000 in
theorem q_pX34_7f {nx pc : Nat} {L : q_L} {r : List Value} {s : q_S} {c n : Nat} : q_pf nx 9 7 q_ck_z (pc, L, .int 0 :: .ref 98 :: r, q_kX s c n) = some (nx, L, r, q_kX (q_sI s 34 7 0) c n) := rfl
theorem q_pM0_15 {nx pc : Nat} {L : q_L} {v : Int64} {r : List Value} {s : q_S} {c n : Nat} : q_pf nx 14 15 q_ck_l (pc, L, .long v :: .ref 64 :: r, q_kM s c n) = some (nx, L, r, q_kM (q_sJ s 0 15 v) c n) := rfl
theorem q_pM0_16 {nx pc : Nat} {L : q_L} {v : Int64} {r : List Value} {s : q_S} {c n : Nat} : q_pf nx 14 16 q_ck_l (pc, L, .long v :: .ref 64 :: r, q_kM s c n) = some (nx, L, r, q_kM (q_sJ s 0 16 v) c n) := rfl
theorem q_pM0_34 {nx pc : Nat} {L : q_L} {v : Int32} {r : List Value} {s : q_S} {c n : Nat} : q_pf nx 14 34 q_ck_i (pc, L, .int v :: .ref 64 :: r, q_kM s c n) = some (nx, L, r, q_kM (q_sI s 0 34 v) c n) := rfl
def q_RT {T : Type} (TB : Nat → Option (Nat × Nat × (Nat → Int32))) (d k : Nat) (g : q_G) (φ : T → q_Out) (x : T) : Prop := q_Ru TB d k g (φ x)
def q_RP {T : Type} (TB : Nat → Option (Nat × Nat × (Nat → Int32))) (d k : Nat) (g : q_G) (φ : T → q_Out) (o : Option T) : Prop := ∀ x, o = some x → q_Ru TB d k g (φ x)
def q_nd9 : List Nat → Bool
  | [] => true
  | a :: r => !(r.any (Nat.beq a)) && q_nd9 r
theorem q_nd9_ok : ∀ {l : List Nat}, q_nd9 l = true → l.Nodup
  | [], _ => List.Pairwise.nil
  | a :: r, h => by
    unfold q_nd9 at h
    rw [Bool.and_eq_true] at h
    obtain ⟨h1, h2⟩ := h
    rw [List.nodup_cons]
    refine ⟨fun hm => ?_, q_nd9_ok h2⟩
    have h3 : r.any (Nat.beq a) = true := List.any_eq_true.mpr ⟨a, hm, Nat.beq_refl a⟩
    rw [h3] at h1
    cases h1
theorem q_xt_mk {L L' : q_L} (h1 : ∀ q ∈ L', q ∈ L) (h2 : q_nd9 (L.map fun q => q.1) = true) : q_xt L L' := ⟨h1, q_nd9_ok h2⟩
theorem q_mn0 {L : q_L} : ∀ q ∈ ([] : q_L), q ∈ L := fun _ h => by cases h
theorem q_mn1 {L L' : q_L} {q : Nat × Value} (i : Nat) (h : L[i]? = some q) (h2 : ∀ q ∈ L', q ∈ L) : ∀ r ∈ q :: L', r ∈ L := fun r hr => by
  rcases List.mem_cons.mp hr with rfl | e
  · exact List.mem_of_getElem? h
  · exact h2 r e
section
variable {T : Type} {TB : Nat → Option (Nat × Nat × (Nat → Int32))} {d k : Nat} {g g2 : q_G} {φ : T → q_Out} {x : T} {o : Option T}
theorem q_Ru_xt {pc : Nat} {L L' : q_L} {st : List Value} {hp : q_H} {o : q_Out} (hx : q_xt L L') (h : q_Ru TB d k (pc, L', st, hp) o) : q_Ru TB d k (pc, L, st, hp) o := by
  obtain ⟨n, h⟩ := h
  exact ⟨n, q_xt_loop (q_mtab_xt k) n hx h⟩
theorem q_RT_xt {pc : Nat} {L L' : q_L} {st : List Value} {hp : q_H} (hx : q_xt L L') (h : q_RT TB d k (pc, L', st, hp) φ x) : q_RT TB d k (pc, L, st, hp) φ x := q_Ru_xt hx h
theorem q_RP_xt {pc : Nat} {L L' : q_L} {st : List Value} {hp : q_H} (hx : q_xt L L') (h : q_RP TB d k (pc, L', st, hp) φ o) : q_RP TB d k (pc, L, st, hp) φ o := fun x e => q_Ru_xt hx (h x e)
theorem q_RT_seg (j : Nat) (e : ∀ ex n, q_loop ex (q_mtab TB k) (n + j) g = q_loop ex (q_mtab TB k) n g2) (h : q_RT TB d k g2 φ x) : q_RT TB d k g φ x := q_Ru_seg j e h
theorem q_RP_seg (j : Nat) (e : ∀ ex n, q_loop ex (q_mtab TB k) (n + j) g = q_loop ex (q_mtab TB k) n g2) (h : q_RP TB d k g2 φ o) : q_RP TB d k g φ o := fun x hx => q_Ru_seg j e (h x hx)
theorem q_RT_rsT {f : q_G → Option (Bool × q_G × Option q_G)} {b : Bool} {g3 : Option q_G} (ht : q_mtab TB k g.1 = some (.inr (.inl f))) (hf : f g = some (b, g2, g3)) (hb : b = true) (h : q_RT TB d k g2 φ x) : q_RT TB d k g φ x := q_Ru_rsT ht hf hb h
theorem q_RP_rsT {f : q_G → Option (Bool × q_G × Option q_G)} {b : Bool} {g3 : Option q_G} (ht : q_mtab TB k g.1 = some (.inr (.inl f))) (hf : f g = some (b, g2, g3)) (hb : b = true) (h : q_RP TB d k g2 φ o) : q_RP TB d k g φ o := fun x hx => q_Ru_rsT ht hf hb (h x hx)
theorem q_RT_rsF {f : q_G → Option (Bool × q_G × Option q_G)} {b : Bool} {g1 : q_G} (ht : q_mtab TB k g.1 = some (.inr (.inl f))) (hf : f g = some (b, g1, some g2)) (hb : b = false) (h : q_RT TB d k g2 φ x) : q_RT TB d k g φ x := q_Ru_rsF ht hf hb h
theorem q_RP_rsF {f : q_G → Option (Bool × q_G × Option q_G)} {b : Bool} {g1 : q_G} (ht : q_mtab TB k g.1 = some (.inr (.inl f))) (hf : f g = some (b, g1, some g2)) (hb : b = false) (h : q_RP TB d k g2 φ o) : q_RP TB d k g φ o := fun x hx => q_Ru_rsF ht hf hb (h x hx)
theorem q_Ru_st1 {f : q_G → Option q_G} {o : q_Out} (ht : q_mtab TB k g.1 = some (.inl f)) (hf : f g = some g2) (h : q_Ru TB d k g2 o) : q_Ru TB d k g o := q_Ru_step (fun ex => by
  unfold q_step
  rw [ht]
  dsimp only
  rw [hf]) h
theorem q_RT_st1 {f : q_G → Option q_G} (ht : q_mtab TB k g.1 = some (.inl f)) (hf : f g = some g2) (h : q_RT TB d k g2 φ x) : q_RT TB d k g φ x := q_Ru_st1 ht hf h
theorem q_RP_st1 {f : q_G → Option q_G} (ht : q_mtab TB k g.1 = some (.inl f)) (hf : f g = some g2) (h : q_RP TB d k g2 φ o) : q_RP TB d k g φ o := fun x hx => q_Ru_st1 ht hf (h x hx)
theorem q_RT_call {nx k2 : Nat} {f : q_G → Option (Nat × List Value × List Value)} {hd : Option (String → Option (Nat × Nat))} {as rest : List Value} {v : Option Value} {h2 : q_H} (ht : q_mtab TB k g.1 = some (.inr (.inr (.inr (.inr (nx, f, hd)))))) (hf : f g = some (k2, as, rest)) (hc : q_Ca TB d k2 as g.2.2.2 (.inl v, h2)) (h : q_RT TB d k (nx, g.2.1, v.toList ++ rest, h2) φ x) : q_RT TB d k g φ x := q_Ru_call ht hf hc h
theorem q_RP_call {nx k2 : Nat} {f : q_G → Option (Nat × List Value × List Value)} {hd : Option (String → Option (Nat × Nat))} {as rest : List Value} {v : Option Value} {h2 : q_H} (ht : q_mtab TB k g.1 = some (.inr (.inr (.inr (.inr (nx, f, hd)))))) (hf : f g = some (k2, as, rest)) (hc : q_Ca TB d k2 as g.2.2.2 (.inl v, h2)) (h : q_RP TB d k (nx, g.2.1, v.toList ++ rest, h2) φ o) : q_RP TB d k g φ o := fun x hx => q_Ru_call ht hf hc (h x hx)
theorem q_RT_ret {f : q_G → Option (Option Value)} {v : Option Value} (ht : q_mtab TB k g.1 = some (.inr (.inr (.inl f)))) (hf : f g = some v) (hφ : φ x = (.inl v, g.2.2.2)) : q_RT TB d k g φ x := by
  unfold q_RT
  rw [hφ]
  exact q_Ru_ret ht hf
theorem q_RP_ret {f : q_G → Option (Option Value)} {v : Option Value} (ht : q_mtab TB k g.1 = some (.inr (.inr (.inl f)))) (hf : f g = some v) (hφ : φ x = (.inl v, g.2.2.2)) : q_RP TB d k g φ (some x) := fun y hy => by
  cases hy
  rw [hφ]
  exact q_Ru_ret ht hf
theorem q_RT_cT {a b : T} (h : q_RT TB d k g φ a) : q_RT TB d k g φ (cond true a b) := h
theorem q_RT_cF {a b : T} (h : q_RT TB d k g φ b) : q_RT TB d k g φ (cond false a b) := h
theorem q_RP_cT {a b : Option T} (h : q_RP TB d k g φ a) : q_RP TB d k g φ (cond true a b) := h
theorem q_RP_cF {a b : Option T} (h : q_RP TB d k g φ b) : q_RP TB d k g φ (cond false a b) := h
theorem q_RT_let {U : Type} {u : U} {f : U → T} (h : q_RT TB d k g φ (f u)) : q_RT TB d k g φ (q_let u f) := h
theorem q_RP_let {U : Type} {u : U} {f : U → Option T} (h : q_RP TB d k g φ (f u)) : q_RP TB d k g φ (q_let u f) := h
theorem q_RP_bd {U : Type} {u : Option U} {f : U → Option T} (h : ∀ y, u = some y → q_RP TB d k g φ (f y)) : q_RP TB d k g φ (u.bind f) := fun x hx => by
  cases hu : u with
  | none => rw [hu] at hx; cases hx
  | some y => rw [hu] at hx; exact h y hu x hx
theorem q_RP_as {b : Bool} (h : b = true → q_RP TB d k g φ o) : q_RP TB d k g φ (cond b o none) := fun x hx => by
  cases hb : b with
  | false => rw [hb] at hx; cases hx
  | true => rw [hb] at hx; exact h hb x hx
theorem q_RP_no : q_RP TB d k g φ none := fun x hx => by cases hx
theorem q_CaT_of {as : List Value} {h : q_H} (hw : q_wd as ≤ (q_mt k).2.2.1) (e : q_RT TB d k (0, lv_args 0 as, [], h) φ x) : q_Ca TB (d + 1) k as h (φ x) := q_Ca_of hw e
theorem q_CaP_of {as : List Value} {h : q_H} (hw : q_wd as ≤ (q_mt k).2.2.1) (e : q_RP TB d k (0, lv_args 0 as, [], h) φ o) (hx : o = some x) : q_Ca TB (d + 1) k as h (φ x) := q_Ca_of hw (e x hx)
end
theorem q_neI {x : Int32} {c : Int32} {n : Int} (h : decide (x = c) = false) (hc : c.toInt = n := by rfl) : ¬ x.toInt = n := fun e => of_decide_eq_false h (Int32.toInt_inj.mp (by rw [e, hc]))
theorem q_neJ {x : Int32} {c : Int32} {n : Int} (h : decide (x = c) = false) (hc : c.toInt = n := by rfl) : ¬ n = x.toInt := fun e => q_neI h hc e.symm
def q_z1 (x : Int32) : Bool := decide (x = 0) || decide (x = 1)
theorem q_ck01 {x : Int32} (h : q_z1 x = true) : x = 0 ∨ x = 1 := by
  unfold q_z1 at h
  rw [Bool.or_eq_true] at h
  rcases h with h | h
  · exact Or.inl (of_decide_eq_true h)
  · exact Or.inr (of_decide_eq_true h)
theorem q_rz01 {pc : Nat} {L : q_L} {hp : q_H} {x : Int32} (h : q_z1 x = true) : q_rz (pc, L, [.int x], hp) = some (some (.int x)) := by
  unfold q_rz
  exact if_pos (q_ck01 h)
theorem q_b01 {x : Int32} (h : q_z1 x = true) : q_b (decide (x = 1)) = x := by
  rcases q_ck01 h with e | e <;> rw [e] <;> rfl
theorem q_exT {T : Type} {a b : Option T} (h : ∃ x, a = some x) : ∃ x, cond true a b = some x := h
theorem q_exF {T : Type} {a b : Option T} (h : ∃ x, b = some x) : ∃ x, cond false a b = some x := h
theorem q_exL {T U : Type} {u : U} {f : U → Option T} (h : ∃ x, f u = some x) : ∃ x, q_let u f = some x := h
theorem q_exB {T U : Type} {u : U} {f : U → Option T} (h : ∃ x, f u = some x) : ∃ x, (some u).bind f = some x := h
theorem q_exA {T : Type} {b : Bool} {o : Option T} (hb : b = true) (h : ∃ x, o = some x) : ∃ x, cond b o none = some x := by
  rw [hb]; exact h
theorem q_add9 {a c : Int32} (h1 : -2147483648 ≤ a.toInt + c.toInt) (h2 : a.toInt + c.toInt ≤ 2147483647) : (a + c).toInt = a.toInt + c.toInt := by
  rw [Int32.toInt_add]
  exact Int.bmod_eq_of_le (by omega) (by omega)
theorem q_in_om {x : Int32} {n : Nat} (h1 : 0 ≤ x.toInt) (h2 : x.toInt < (n : Int)) : q_in x n = true := q_in_bd (L := 0) (U := (n : Int) - 1) h1 (by omega) (Int.le_refl 0) (by omega)
theorem q_in_ca {c x m : Int32} {n : Nat} (hm : ¬ m < 0 := by decide) (h0 : 0 ≤ c.toInt := by decide) (h : c.toInt + m.toInt < (n : Int) := by decide) (hn : n < 1000000 := by decide) : q_in (c + (x &&& m)) n = true := by
  obtain ⟨h1, h2⟩ := q_and_bd x m hm
  have e : (c + (x &&& m)).toInt = c.toInt + (x &&& m).toInt := q_add9 (by omega) (by omega)
  exact q_in_om (by omega) (by omega)
theorem q_in_m1 {x : Int32} {n : Nat} (h1 : 1 ≤ x.toInt) (h2 : x.toInt ≤ (n : Int)) : q_in (x - 1) n = true := by
  have h9 := Int32.toInt_lt x
  have e : (x - 1).toInt = x.toInt - 1 := by
    rw [Int32.toInt_sub]
    show Int.bmod (x.toInt - 1) _ = _
    exact Int.bmod_eq_of_le (by omega) (by omega)
  exact q_in_om (by omega) (by omega)
theorem q_in_cart {x v : Int32} (h1 : 2048 ≤ v.toInt) (h2 : v.toInt < 2560) : q_in (((512 * (x &&& 3)) + v) - 2048) 2048 = true := by
  obtain ⟨a1, a2⟩ := q_and_bd x 3 (by decide)
  have a2 : (x &&& 3).toInt ≤ 3 := a2
  have e1 : (512 * (x &&& 3)).toInt = 512 * (x &&& 3).toInt := by
    rw [Int32.toInt_mul]
    show Int.bmod (512 * (x &&& 3).toInt) _ = _
    exact Int.bmod_eq_of_le (by omega) (by omega)
  have e2 : ((512 * (x &&& 3)) + v).toInt = 512 * (x &&& 3).toInt + v.toInt := by
    rw [q_add9 (by omega) (by omega), e1]
  have e3 : (((512 * (x &&& 3)) + v) - 2048).toInt = 512 * (x &&& 3).toInt + v.toInt - 2048 := by
    rw [Int32.toInt_sub, e2]
    show Int.bmod (512 * (x &&& 3).toInt + v.toInt - 2048) _ = _
    exact Int.bmod_eq_of_le (by omega) (by omega)
  exact q_in_om (by omega) (by omega)
theorem q_acb {a b c d e : Bool} {m : Nat} (h : (a && (b && (c && (d && e)))) = true) : (a && (b && (c && (d && (e && (List.range m).all fun _ => true))))) = true := by
  have h1 : ((List.range m).all fun _ => true) = true := List.all_eq_true.mpr fun _ _ => rfl
  rw [h1, Bool.and_true]
  exact h
section
variable {T : Type} {TB : Nat → Option (Nat × Nat × (Nat → Int32))} {d k : Nat} {g g2 : q_G} {φ : T → q_Out} {x : T} {o : Option T}
theorem q_Ru_le {o : q_Out} {d9 : Nat} (hd : d ≤ d9) (e : q_Ru TB d k g o) : q_Ru TB d9 k g o := by
  obtain ⟨n, e⟩ := e
  exact ⟨n, q_loop_le (q_up_x (Nat.le_refl n) hd) q_LeT_rf n n (Nat.le_refl n) _ _ e⟩
theorem q_RT_callH {nx k2 tg i : Nat} {f : q_G → Option (Nat × List Value × List Value)} {hd : String → Option (Nat × Nat)} {as rest : List Value} {E : String} {h2 : q_H} (ht : q_mtab TB k g.1 = some (.inr (.inr (.inr (.inr (nx, f, some hd)))))) (hf : f g = some (k2, as, rest)) (hc : q_Ca TB d k2 as g.2.2.2 (.inr E, h2)) (hh : hd E = some (tg, i)) (h : q_RT TB d k (tg, q_drop g.2.1 i, [], h2) φ x) : q_RT TB d k g φ x := q_Ru_callH ht hf hc hh h
theorem q_RP_callH {nx k2 tg i : Nat} {f : q_G → Option (Nat × List Value × List Value)} {hd : String → Option (Nat × Nat)} {as rest : List Value} {E : String} {h2 : q_H} (ht : q_mtab TB k g.1 = some (.inr (.inr (.inr (.inr (nx, f, some hd)))))) (hf : f g = some (k2, as, rest)) (hc : q_Ca TB d k2 as g.2.2.2 (.inr E, h2)) (hh : hd E = some (tg, i)) (h : q_RP TB d k (tg, q_drop g.2.1 i, [], h2) φ o) : q_RP TB d k g φ o := fun x hx => q_Ru_callH ht hf hc hh (h x hx)
end
/-- a copy of m to place x of a row of n -/
def q_cpk (x : Int32) (m n : Nat) : Bool := !(decide (x < 0)) && decide (x.toNatClampNeg + m ≤ n)
theorem q_acbB {x : Int32} {m n : Nat} {a b c e : Bool} (h : q_cpk x m n = true) (h2 : (a && (b && (c && e))) = true) : (a && (!(decide (x < 0)) && (b && (c && (decide (x.toNatClampNeg + m ≤ n) && e))))) = true := by
  unfold q_cpk at h
  simp only [Bool.and_eq_true] at h h2 ⊢
  exact ⟨h2.1, h.1, h2.2.1, h2.2.2.1, h.2, h2.2.2.2⟩
/-- not a NaN -/
def q_nnf (x : UInt32) : Bool := decide (x &&& 0x7fffffff ≤ 0x7f800000)
def q_nnd (x : UInt64) : Bool := decide (x &&& 0x7fffffffffffffff ≤ 0x7ff0000000000000)
theorem q_fdv {nx pc : Nat} {L : q_L} {x y : UInt32} {r : List Value} {hp : q_H} (h : q_nnf (FP.fdiv x y) = true) : q_st nx (q_f2 q_o_fdiv) (pc, L, .float y :: .float x :: r, hp) = some (nx, L, .float (FP.fdiv x y) :: r, hp) := by
  have e : q_o_fdiv (.float x) (.float y) = some (.float (FP.fdiv x y)) := if_pos (of_decide_eq_true h)
  unfold q_st q_f2
  dsimp only
  rw [e]
theorem q_ddv {nx pc : Nat} {L : q_L} {x y : UInt64} {r : List Value} {hp : q_H} (h : q_nnd (FP.ddiv x y) = true) : q_st nx (q_f2 q_o_ddiv) (pc, L, .double y :: .double x :: r, hp) = some (nx, L, .double (FP.ddiv x y) :: r, hp) := by
  have e : q_o_ddiv (.double x) (.double y) = some (.double (FP.ddiv x y)) := if_pos (of_decide_eq_true h)
  unfold q_st q_f2
  dsimp only
  rw [e]
theorem q_f2dv {nx pc : Nat} {L : q_L} {x : UInt32} {r : List Value} {hp : q_H} (h : q_nnd (FP.f2d x) = true) : q_st nx (q_f1 q_o_f2d) (pc, L, .float x :: r, hp) = some (nx, L, .double (FP.f2d x) :: r, hp) := by
  have e : q_o_f2d (.float x) = some (.double (FP.f2d x)) := if_pos (of_decide_eq_true h)
  unfold q_st q_f1
  dsimp only
  rw [e]
theorem q_cE {T : Type} {TB : Nat → Option (Nat × Nat × (Nat → Int32))} {d k : Nat} {as : List Value} {h : q_H} {φ : T → q_Out} {x y : T} (e : x = y) (c : q_Ca TB d k as h (φ x)) : q_Ca TB d k as h (φ y) := e ▸ c
theorem q_vS_wd (TB : Nat → Option (Nat × Nat × (Nat → Int32))) (r : List Value) : q_wd (q_vS TB :: r) = q_wd r + 1 := by
  unfold q_vS
  split
  · rfl
  · rename_i x _
    cases Nat.beq x.1 99 <;> rfl
