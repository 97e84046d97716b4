/-! the static layout -/
def NST : Nat := 326
def shl0 : List (Nat × Nat) := [(15, 0), (14, 0), (0, 10), (0, 10), (0, 16), (5, 0), (0, 16), (0, 16), (0, 16), (0, 16), (0, 10), (12, 0), (4, 20), (5, 0), (0, 16), (0, 16), (0, 16), (0, 16), (0, 10), (5, 0), (0, 16), (0, 16), (0, 16), (0, 16), (0, 10), (5, 0), (0, 16), (0, 16), (0, 16), (0, 16), (0, 10), (5, 0), (0, 16), (0, 16), (0, 16), (0, 16), (0, 10), (5, 0), (0, 16), (0, 16), (0, 16), (0, 16), (0, 10), (5, 0), (0, 16), (0, 16), (0, 16), (0, 16), (0, 10), (5, 0), (0, 16), (0, 16), (0, 16), (0, 16), (0, 10), (5, 0), (0, 16), (0, 16), (0, 16), (0, 16), (0, 10), (5, 0), (0, 16), (0, 16), (0, 16), (0, 16), (0, 10), (5, 0), (0, 16), (0, 16), (0, 16), (0, 16), (0, 10), (5, 0), (0, 16), (0, 16), (0, 16), (0, 16), (0, 10), (5, 0), (0, 16), (0, 16), (0, 16), (0, 16), (0, 10), (5, 0), (0, 16), (0, 16), (0, 16), (0, 16), (0, 10), (5, 0), (0, 16), (0, 16), (0, 16), (0, 16), (0, 10), (5, 0), (0, 16), (0, 16), (0, 16), (0, 16), (0, 10), (5, 0), (0, 16), (0, 16), (0, 16), (0, 16), (0, 10), (5, 0), (0, 16), (0, 16), (0, 16), (0, 16), (0, 10), (5, 0), (0, 16), (0, 16), (0, 16), (0, 16), (0, 10), (5, 0), (0, 16), (0, 16), (0, 16), (0, 16), (0, 10), (5, 0), (0, 16), (0, 16), (0, 16), (0, 16), (0, 10), (3, 4), (10, 0), (0, 12), (0, 12), (0, 12), (0, 12), (14, 0), (0, 10), (0, 10), (0, 16), (5, 0), (0, 16), (0, 16), (0, 16), (0, 16), (0, 10), (12, 0), (4, 20), (5, 0), (0, 16), (0, 16), (0, 16), (0, 16), (0, 10), (5, 0), (0, 16), (0, 16), (0, 16), (0, 16), (0, 10), (5, 0), (0, 16), (0, 16), (0, 16), (0, 16), (0, 10), (5, 0), (0, 16), (0, 16), (0, 16), (0, 16), (0, 10), (5, 0), (0, 16), (0, 16), (0, 16), (0, 16), (0, 10), (5, 0), (0, 16), (0, 16), (0, 16), (0, 16), (0, 10), (5, 0), (0, 16), (0, 16), (0, 16), (0, 16), (0, 10), (5, 0), (0, 16), (0, 16), (0, 16), (0, 16), (0, 10), (5, 0), (0, 16), (0, 16), (0, 16), (0, 16), (0, 10), (5, 0), (0, 16), (0, 16), (0, 16), (0, 16), (0, 10), (5, 0), (0, 16), (0, 16), (0, 16), (0, 16), (0, 10), (5, 0), (0, 16), (0, 16), (0, 16), (0, 16), (0, 10), (5, 0), (0, 16), (0, 16), (0, 16), (0, 16), (0, 10), (5, 0), (0, 16), (0, 16), (0, 16), (0, 16), (0, 10), (5, 0), (0, 16), (0, 16), (0, 16), (0, 16), (0, 10), (5, 0), (0, 16), (0, 16), (0, 16), (0, 16), (0, 10), (5, 0), (0, 16), (0, 16), (0, 16), (0, 16), (0, 10), (5, 0), (0, 16), (0, 16), (0, 16), (0, 16), (0, 10), (5, 0), (0, 16), (0, 16), (0, 16), (0, 16), (0, 10), (5, 0), (0, 16), (0, 16), (0, 16), (0, 16), (0, 10), (3, 4), (10, 0), (0, 12), (0, 12), (0, 12), (0, 12), (8, 0), (0, 300), (0, 301), (0, 301), (0, 301), (0, 96), (0, 300), (0, 3), (0, 3), (0, 20), (7, 0), (0, 301), (11, 0), (0, 12), (0, 12), (0, 12), (0, 12), (0, 12), (0, 12), (0, 12), (6, 0), (0, 12), (0, 12), (1, 12), (1, 2048), (1, 2048), (9, 0), (0, 8), (0, 8), (0, 64), (0, 1024), (16, 0), (0, 1814), (0, 1814), (0, 2800), (0, 300), (0, 160), (0, 8), (1, 330), (2, 330), (0, 16), (0, 16), (0, 16), (0, 17), (0, 53248), (1, 53248), (2, 144), (0, 8), (0, 8)]
def sh0 (i : Nat) : Nat × Nat := shl0.getD i (0, 0)
def rfl0 : List (Nat × Int × Nat) := [(0, 0, 1), (0, 1, 139), (0, 2, 277), (0, 3, 287), (0, 4, 289), (0, 5, 297), (0, 6, 303), (1, 0, 2), (1, 1, 3), (1, 2, 4), (1, 3, 5), (1, 4, 11), (1, 5, 133), (1, 6, 134), (5, 0, 6), (5, 1, 7), (5, 2, 8), (5, 3, 9), (5, 4, 10), (11, 0, 12), (12, 0, 13), (12, 1, 19), (12, 2, 25), (12, 3, 31), (12, 4, 37), (12, 5, 43), (12, 6, 49), (12, 7, 55), (12, 8, 61), (12, 9, 67), (12, 10, 73), (12, 11, 79), (12, 12, 85), (12, 13, 91), (12, 14, 97), (12, 15, 103), (12, 16, 109), (12, 17, 115), (12, 18, 121), (12, 19, 127), (13, 0, 14), (13, 1, 15), (13, 2, 16), (13, 3, 17), (13, 4, 18), (19, 0, 20), (19, 1, 21), (19, 2, 22), (19, 3, 23), (19, 4, 24), (25, 0, 26), (25, 1, 27), (25, 2, 28), (25, 3, 29), (25, 4, 30), (31, 0, 32), (31, 1, 33), (31, 2, 34), (31, 3, 35), (31, 4, 36), (37, 0, 38), (37, 1, 39), (37, 2, 40), (37, 3, 41), (37, 4, 42), (43, 0, 44), (43, 1, 45), (43, 2, 46), (43, 3, 47), (43, 4, 48), (49, 0, 50), (49, 1, 51), (49, 2, 52), (49, 3, 53), (49, 4, 54), (55, 0, 56), (55, 1, 57), (55, 2, 58), (55, 3, 59), (55, 4, 60), (61, 0, 62), (61, 1, 63), (61, 2, 64), (61, 3, 65), (61, 4, 66), (67, 0, 68), (67, 1, 69), (67, 2, 70), (67, 3, 71), (67, 4, 72), (73, 0, 74), (73, 1, 75), (73, 2, 76), (73, 3, 77), (73, 4, 78), (79, 0, 80), (79, 1, 81), (79, 2, 82), (79, 3, 83), (79, 4, 84), (85, 0, 86), (85, 1, 87), (85, 2, 88), (85, 3, 89), (85, 4, 90), (91, 0, 92), (91, 1, 93), (91, 2, 94), (91, 3, 95), (91, 4, 96), (97, 0, 98), (97, 1, 99), (97, 2, 100), (97, 3, 101), (97, 4, 102), (103, 0, 104), (103, 1, 105), (103, 2, 106), (103, 3, 107), (103, 4, 108), (109, 0, 110), (109, 1, 111), (109, 2, 112), (109, 3, 113), (109, 4, 114), (115, 0, 116), (115, 1, 117), (115, 2, 118), (115, 3, 119), (115, 4, 120), (121, 0, 122), (121, 1, 123), (121, 2, 124), (121, 3, 125), (121, 4, 126), (127, 0, 128), (127, 1, 129), (127, 2, 130), (127, 3, 131), (127, 4, 132), (134, 0, 135), (134, 1, 136), (134, 2, 137), (134, 3, 138), (139, 0, 140), (139, 1, 141), (139, 2, 142), (139, 3, 143), (139, 4, 149), (139, 5, 271), (139, 6, 272), (143, 0, 144), (143, 1, 145), (143, 2, 146), (143, 3, 147), (143, 4, 148), (149, 0, 150), (150, 0, 151), (150, 1, 157), (150, 2, 163), (150, 3, 169), (150, 4, 175), (150, 5, 181), (150, 6, 187), (150, 7, 193), (150, 8, 199), (150, 9, 205), (150, 10, 211), (150, 11, 217), (150, 12, 223), (150, 13, 229), (150, 14, 235), (150, 15, 241), (150, 16, 247), (150, 17, 253), (150, 18, 259), (150, 19, 265), (151, 0, 152), (151, 1, 153), (151, 2, 154), (151, 3, 155), (151, 4, 156), (157, 0, 158), (157, 1, 159), (157, 2, 160), (157, 3, 161), (157, 4, 162), (163, 0, 164), (163, 1, 165), (163, 2, 166), (163, 3, 167), (163, 4, 168), (169, 0, 170), (169, 1, 171), (169, 2, 172), (169, 3, 173), (169, 4, 174), (175, 0, 176), (175, 1, 177), (175, 2, 178), (175, 3, 179), (175, 4, 180), (181, 0, 182), (181, 1, 183), (181, 2, 184), (181, 3, 185), (181, 4, 186), (187, 0, 188), (187, 1, 189), (187, 2, 190), (187, 3, 191), (187, 4, 192), (193, 0, 194), (193, 1, 195), (193, 2, 196), (193, 3, 197), (193, 4, 198), (199, 0, 200), (199, 1, 201), (199, 2, 202), (199, 3, 203), (199, 4, 204), (205, 0, 206), (205, 1, 207), (205, 2, 208), (205, 3, 209), (205, 4, 210), (211, 0, 212), (211, 1, 213), (211, 2, 214), (211, 3, 215), (211, 4, 216), (217, 0, 218), (217, 1, 219), (217, 2, 220), (217, 3, 221), (217, 4, 222), (223, 0, 224), (223, 1, 225), (223, 2, 226), (223, 3, 227), (223, 4, 228), (229, 0, 230), (229, 1, 231), (229, 2, 232), (229, 3, 233), (229, 4, 234), (235, 0, 236), (235, 1, 237), (235, 2, 238), (235, 3, 239), (235, 4, 240), (241, 0, 242), (241, 1, 243), (241, 2, 244), (241, 3, 245), (241, 4, 246), (247, 0, 248), (247, 1, 249), (247, 2, 250), (247, 3, 251), (247, 4, 252), (253, 0, 254), (253, 1, 255), (253, 2, 256), (253, 3, 257), (253, 4, 258), (259, 0, 260), (259, 1, 261), (259, 2, 262), (259, 3, 263), (259, 4, 264), (265, 0, 266), (265, 1, 267), (265, 2, 268), (265, 3, 269), (265, 4, 270), (272, 0, 273), (272, 1, 274), (272, 2, 275), (272, 3, 276), (277, 0, 278), (277, 4, 279), (277, 5, 280), (277, 6, 281), (277, 10, 282), (277, 12, 283), (277, 14, 284), (277, 15, 285), (277, 16, 286), (287, 0, 1), (287, 1, 288), (289, 0, 1), (289, 1, 287), (289, 2, 290), (289, 3, 291), (289, 4, 292), (289, 5, 293), (289, 6, 294), (289, 7, 295), (289, 8, 296), (297, 0, 1), (297, 1, 298), (297, 2, 299), (297, 3, 300), (297, 5, 301), (297, 6, 302), (303, 0, 1), (303, 1, 304), (303, 2, 305), (303, 3, 306), (303, 4, 307), (308, 0, 309), (308, 1, 310), (308, 2, 311), (308, 3, 312), (308, 16, 313), (308, 22, 314), (308, 23, 315), (308, 24, 316), (308, 25, 317), (308, 26, 318), (308, 27, 319), (308, 28, 320), (308, 30, 321), (308, 31, 322), (308, 32, 323), (308, 33, 324), (308, 34, 325)]
def Stat (S : Stt) : Prop := (∀ i, i < 326 → S.1 i = sh0 i) ∧ (∀ q ∈ rfl0, S.2.1 q.1 q.2.1 = some q.2.2) ∧ 326 ≤ S.2.2
theorem sh_0 {S : Stt} (h : Stat S) : S.1 0 = (15, 0) := (h.1 0 (by decide)).trans (by decide +kernel)
theorem lq_0 {S : Stt} (h : Stat S) : 0 < S.2.2 := Nat.lt_of_lt_of_le (by decide) h.2.2
theorem sh_1 {S : Stt} (h : Stat S) : S.1 1 = (14, 0) := (h.1 1 (by decide)).trans (by decide +kernel)
theorem lq_1 {S : Stt} (h : Stat S) : 1 < S.2.2 := Nat.lt_of_lt_of_le (by decide) h.2.2
theorem sh_2 {S : Stt} (h : Stat S) : S.1 2 = (0, 10) := (h.1 2 (by decide)).trans (by decide +kernel)
theorem lq_2 {S : Stt} (h : Stat S) : 2 < S.2.2 := Nat.lt_of_lt_of_le (by decide) h.2.2
theorem sh_3 {S : Stt} (h : Stat S) : S.1 3 = (0, 10) := (h.1 3 (by decide)).trans (by decide +kernel)
theorem lq_3 {S : Stt} (h : Stat S) : 3 < S.2.2 := Nat.lt_of_lt_of_le (by decide) h.2.2
theorem sh_4 {S : Stt} (h : Stat S) : S.1 4 = (0, 16) := (h.1 4 (by decide)).trans (by decide +kernel)
theorem lq_4 {S : Stt} (h : Stat S) : 4 < S.2.2 := Nat.lt_of_lt_of_le (by decide) h.2.2
theorem sh_5 {S : Stt} (h : Stat S) : S.1 5 = (5, 0) := (h.1 5 (by decide)).trans (by decide +kernel)
theorem lq_5 {S : Stt} (h : Stat S) : 5 < S.2.2 := Nat.lt_of_lt_of_le (by decide) h.2.2
theorem sh_6 {S : Stt} (h : Stat S) : S.1 6 = (0, 16) := (h.1 6 (by decide)).trans (by decide +kernel)
theorem lq_6 {S : Stt} (h : Stat S) : 6 < S.2.2 := Nat.lt_of_lt_of_le (by decide) h.2.2
theorem sh_7 {S : Stt} (h : Stat S) : S.1 7 = (0, 16) := (h.1 7 (by decide)).trans (by decide +kernel)
theorem lq_7 {S : Stt} (h : Stat S) : 7 < S.2.2 := Nat.lt_of_lt_of_le (by decide) h.2.2
theorem sh_8 {S : Stt} (h : Stat S) : S.1 8 = (0, 16) := (h.1 8 (by decide)).trans (by decide +kernel)
theorem lq_8 {S : Stt} (h : Stat S) : 8 < S.2.2 := Nat.lt_of_lt_of_le (by decide) h.2.2
theorem sh_9 {S : Stt} (h : Stat S) : S.1 9 = (0, 16) := (h.1 9 (by decide)).trans (by decide +kernel)
theorem lq_9 {S : Stt} (h : Stat S) : 9 < S.2.2 := Nat.lt_of_lt_of_le (by decide) h.2.2
theorem sh_10 {S : Stt} (h : Stat S) : S.1 10 = (0, 10) := (h.1 10 (by decide)).trans (by decide +kernel)
theorem lq_10 {S : Stt} (h : Stat S) : 10 < S.2.2 := Nat.lt_of_lt_of_le (by decide) h.2.2
theorem sh_11 {S : Stt} (h : Stat S) : S.1 11 = (12, 0) := (h.1 11 (by decide)).trans (by decide +kernel)
theorem lq_11 {S : Stt} (h : Stat S) : 11 < S.2.2 := Nat.lt_of_lt_of_le (by decide) h.2.2
theorem sh_12 {S : Stt} (h : Stat S) : S.1 12 = (4, 20) := (h.1 12 (by decide)).trans (by decide +kernel)
theorem lq_12 {S : Stt} (h : Stat S) : 12 < S.2.2 := Nat.lt_of_lt_of_le (by decide) h.2.2
theorem sh_13 {S : Stt} (h : Stat S) : S.1 13 = (5, 0) := (h.1 13 (by decide)).trans (by decide +kernel)
theorem lq_13 {S : Stt} (h : Stat S) : 13 < S.2.2 := Nat.lt_of_lt_of_le (by decide) h.2.2
theorem sh_14 {S : Stt} (h : Stat S) : S.1 14 = (0, 16) := (h.1 14 (by decide)).trans (by decide +kernel)
theorem lq_14 {S : Stt} (h : Stat S) : 14 < S.2.2 := Nat.lt_of_lt_of_le (by decide) h.2.2
theorem sh_15 {S : Stt} (h : Stat S) : S.1 15 = (0, 16) := (h.1 15 (by decide)).trans (by decide +kernel)
theorem lq_15 {S : Stt} (h : Stat S) : 15 < S.2.2 := Nat.lt_of_lt_of_le (by decide) h.2.2
theorem sh_16 {S : Stt} (h : Stat S) : S.1 16 = (0, 16) := (h.1 16 (by decide)).trans (by decide +kernel)
theorem lq_16 {S : Stt} (h : Stat S) : 16 < S.2.2 := Nat.lt_of_lt_of_le (by decide) h.2.2
theorem sh_17 {S : Stt} (h : Stat S) : S.1 17 = (0, 16) := (h.1 17 (by decide)).trans (by decide +kernel)
theorem lq_17 {S : Stt} (h : Stat S) : 17 < S.2.2 := Nat.lt_of_lt_of_le (by decide) h.2.2
theorem sh_18 {S : Stt} (h : Stat S) : S.1 18 = (0, 10) := (h.1 18 (by decide)).trans (by decide +kernel)
theorem lq_18 {S : Stt} (h : Stat S) : 18 < S.2.2 := Nat.lt_of_lt_of_le (by decide) h.2.2
theorem sh_19 {S : Stt} (h : Stat S) : S.1 19 = (5, 0) := (h.1 19 (by decide)).trans (by decide +kernel)
theorem lq_19 {S : Stt} (h : Stat S) : 19 < S.2.2 := Nat.lt_of_lt_of_le (by decide) h.2.2
theorem sh_20 {S : Stt} (h : Stat S) : S.1 20 = (0, 16) := (h.1 20 (by decide)).trans (by decide +kernel)
theorem lq_20 {S : Stt} (h : Stat S) : 20 < S.2.2 := Nat.lt_of_lt_of_le (by decide) h.2.2
theorem sh_21 {S : Stt} (h : Stat S) : S.1 21 = (0, 16) := (h.1 21 (by decide)).trans (by decide +kernel)
theorem lq_21 {S : Stt} (h : Stat S) : 21 < S.2.2 := Nat.lt_of_lt_of_le (by decide) h.2.2
theorem sh_22 {S : Stt} (h : Stat S) : S.1 22 = (0, 16) := (h.1 22 (by decide)).trans (by decide +kernel)
theorem lq_22 {S : Stt} (h : Stat S) : 22 < S.2.2 := Nat.lt_of_lt_of_le (by decide) h.2.2
theorem sh_23 {S : Stt} (h : Stat S) : S.1 23 = (0, 16) := (h.1 23 (by decide)).trans (by decide +kernel)
theorem lq_23 {S : Stt} (h : Stat S) : 23 < S.2.2 := Nat.lt_of_lt_of_le (by decide) h.2.2
theorem sh_24 {S : Stt} (h : Stat S) : S.1 24 = (0, 10) := (h.1 24 (by decide)).trans (by decide +kernel)
theorem lq_24 {S : Stt} (h : Stat S) : 24 < S.2.2 := Nat.lt_of_lt_of_le (by decide) h.2.2
theorem sh_25 {S : Stt} (h : Stat S) : S.1 25 = (5, 0) := (h.1 25 (by decide)).trans (by decide +kernel)
theorem lq_25 {S : Stt} (h : Stat S) : 25 < S.2.2 := Nat.lt_of_lt_of_le (by decide) h.2.2
theorem sh_26 {S : Stt} (h : Stat S) : S.1 26 = (0, 16) := (h.1 26 (by decide)).trans (by decide +kernel)
theorem lq_26 {S : Stt} (h : Stat S) : 26 < S.2.2 := Nat.lt_of_lt_of_le (by decide) h.2.2
theorem sh_27 {S : Stt} (h : Stat S) : S.1 27 = (0, 16) := (h.1 27 (by decide)).trans (by decide +kernel)
theorem lq_27 {S : Stt} (h : Stat S) : 27 < S.2.2 := Nat.lt_of_lt_of_le (by decide) h.2.2
theorem sh_28 {S : Stt} (h : Stat S) : S.1 28 = (0, 16) := (h.1 28 (by decide)).trans (by decide +kernel)
theorem lq_28 {S : Stt} (h : Stat S) : 28 < S.2.2 := Nat.lt_of_lt_of_le (by decide) h.2.2
theorem sh_29 {S : Stt} (h : Stat S) : S.1 29 = (0, 16) := (h.1 29 (by decide)).trans (by decide +kernel)
theorem lq_29 {S : Stt} (h : Stat S) : 29 < S.2.2 := Nat.lt_of_lt_of_le (by decide) h.2.2
theorem sh_30 {S : Stt} (h : Stat S) : S.1 30 = (0, 10) := (h.1 30 (by decide)).trans (by decide +kernel)
theorem lq_30 {S : Stt} (h : Stat S) : 30 < S.2.2 := Nat.lt_of_lt_of_le (by decide) h.2.2
theorem sh_31 {S : Stt} (h : Stat S) : S.1 31 = (5, 0) := (h.1 31 (by decide)).trans (by decide +kernel)
theorem lq_31 {S : Stt} (h : Stat S) : 31 < S.2.2 := Nat.lt_of_lt_of_le (by decide) h.2.2
theorem sh_32 {S : Stt} (h : Stat S) : S.1 32 = (0, 16) := (h.1 32 (by decide)).trans (by decide +kernel)
theorem lq_32 {S : Stt} (h : Stat S) : 32 < S.2.2 := Nat.lt_of_lt_of_le (by decide) h.2.2
theorem sh_33 {S : Stt} (h : Stat S) : S.1 33 = (0, 16) := (h.1 33 (by decide)).trans (by decide +kernel)
theorem lq_33 {S : Stt} (h : Stat S) : 33 < S.2.2 := Nat.lt_of_lt_of_le (by decide) h.2.2
theorem sh_34 {S : Stt} (h : Stat S) : S.1 34 = (0, 16) := (h.1 34 (by decide)).trans (by decide +kernel)
theorem lq_34 {S : Stt} (h : Stat S) : 34 < S.2.2 := Nat.lt_of_lt_of_le (by decide) h.2.2
theorem sh_35 {S : Stt} (h : Stat S) : S.1 35 = (0, 16) := (h.1 35 (by decide)).trans (by decide +kernel)
theorem lq_35 {S : Stt} (h : Stat S) : 35 < S.2.2 := Nat.lt_of_lt_of_le (by decide) h.2.2
theorem sh_36 {S : Stt} (h : Stat S) : S.1 36 = (0, 10) := (h.1 36 (by decide)).trans (by decide +kernel)
theorem lq_36 {S : Stt} (h : Stat S) : 36 < S.2.2 := Nat.lt_of_lt_of_le (by decide) h.2.2
theorem sh_37 {S : Stt} (h : Stat S) : S.1 37 = (5, 0) := (h.1 37 (by decide)).trans (by decide +kernel)
theorem lq_37 {S : Stt} (h : Stat S) : 37 < S.2.2 := Nat.lt_of_lt_of_le (by decide) h.2.2
theorem sh_38 {S : Stt} (h : Stat S) : S.1 38 = (0, 16) := (h.1 38 (by decide)).trans (by decide +kernel)
theorem lq_38 {S : Stt} (h : Stat S) : 38 < S.2.2 := Nat.lt_of_lt_of_le (by decide) h.2.2
theorem sh_39 {S : Stt} (h : Stat S) : S.1 39 = (0, 16) := (h.1 39 (by decide)).trans (by decide +kernel)
theorem lq_39 {S : Stt} (h : Stat S) : 39 < S.2.2 := Nat.lt_of_lt_of_le (by decide) h.2.2
theorem sh_40 {S : Stt} (h : Stat S) : S.1 40 = (0, 16) := (h.1 40 (by decide)).trans (by decide +kernel)
theorem lq_40 {S : Stt} (h : Stat S) : 40 < S.2.2 := Nat.lt_of_lt_of_le (by decide) h.2.2
theorem sh_41 {S : Stt} (h : Stat S) : S.1 41 = (0, 16) := (h.1 41 (by decide)).trans (by decide +kernel)
theorem lq_41 {S : Stt} (h : Stat S) : 41 < S.2.2 := Nat.lt_of_lt_of_le (by decide) h.2.2
theorem sh_42 {S : Stt} (h : Stat S) : S.1 42 = (0, 10) := (h.1 42 (by decide)).trans (by decide +kernel)
theorem lq_42 {S : Stt} (h : Stat S) : 42 < S.2.2 := Nat.lt_of_lt_of_le (by decide) h.2.2
theorem sh_43 {S : Stt} (h : Stat S) : S.1 43 = (5, 0) := (h.1 43 (by decide)).trans (by decide +kernel)
theorem lq_43 {S : Stt} (h : Stat S) : 43 < S.2.2 := Nat.lt_of_lt_of_le (by decide) h.2.2
theorem sh_44 {S : Stt} (h : Stat S) : S.1 44 = (0, 16) := (h.1 44 (by decide)).trans (by decide +kernel)
theorem lq_44 {S : Stt} (h : Stat S) : 44 < S.2.2 := Nat.lt_of_lt_of_le (by decide) h.2.2
theorem sh_45 {S : Stt} (h : Stat S) : S.1 45 = (0, 16) := (h.1 45 (by decide)).trans (by decide +kernel)
theorem lq_45 {S : Stt} (h : Stat S) : 45 < S.2.2 := Nat.lt_of_lt_of_le (by decide) h.2.2
theorem sh_46 {S : Stt} (h : Stat S) : S.1 46 = (0, 16) := (h.1 46 (by decide)).trans (by decide +kernel)
theorem lq_46 {S : Stt} (h : Stat S) : 46 < S.2.2 := Nat.lt_of_lt_of_le (by decide) h.2.2
theorem sh_47 {S : Stt} (h : Stat S) : S.1 47 = (0, 16) := (h.1 47 (by decide)).trans (by decide +kernel)
theorem lq_47 {S : Stt} (h : Stat S) : 47 < S.2.2 := Nat.lt_of_lt_of_le (by decide) h.2.2
theorem sh_48 {S : Stt} (h : Stat S) : S.1 48 = (0, 10) := (h.1 48 (by decide)).trans (by decide +kernel)
theorem lq_48 {S : Stt} (h : Stat S) : 48 < S.2.2 := Nat.lt_of_lt_of_le (by decide) h.2.2
theorem sh_49 {S : Stt} (h : Stat S) : S.1 49 = (5, 0) := (h.1 49 (by decide)).trans (by decide +kernel)
theorem lq_49 {S : Stt} (h : Stat S) : 49 < S.2.2 := Nat.lt_of_lt_of_le (by decide) h.2.2
theorem sh_50 {S : Stt} (h : Stat S) : S.1 50 = (0, 16) := (h.1 50 (by decide)).trans (by decide +kernel)
theorem lq_50 {S : Stt} (h : Stat S) : 50 < S.2.2 := Nat.lt_of_lt_of_le (by decide) h.2.2
theorem sh_51 {S : Stt} (h : Stat S) : S.1 51 = (0, 16) := (h.1 51 (by decide)).trans (by decide +kernel)
theorem lq_51 {S : Stt} (h : Stat S) : 51 < S.2.2 := Nat.lt_of_lt_of_le (by decide) h.2.2
theorem sh_52 {S : Stt} (h : Stat S) : S.1 52 = (0, 16) := (h.1 52 (by decide)).trans (by decide +kernel)
theorem lq_52 {S : Stt} (h : Stat S) : 52 < S.2.2 := Nat.lt_of_lt_of_le (by decide) h.2.2
theorem sh_53 {S : Stt} (h : Stat S) : S.1 53 = (0, 16) := (h.1 53 (by decide)).trans (by decide +kernel)
theorem lq_53 {S : Stt} (h : Stat S) : 53 < S.2.2 := Nat.lt_of_lt_of_le (by decide) h.2.2
theorem sh_54 {S : Stt} (h : Stat S) : S.1 54 = (0, 10) := (h.1 54 (by decide)).trans (by decide +kernel)
theorem lq_54 {S : Stt} (h : Stat S) : 54 < S.2.2 := Nat.lt_of_lt_of_le (by decide) h.2.2
theorem sh_55 {S : Stt} (h : Stat S) : S.1 55 = (5, 0) := (h.1 55 (by decide)).trans (by decide +kernel)
theorem lq_55 {S : Stt} (h : Stat S) : 55 < S.2.2 := Nat.lt_of_lt_of_le (by decide) h.2.2
theorem sh_56 {S : Stt} (h : Stat S) : S.1 56 = (0, 16) := (h.1 56 (by decide)).trans (by decide +kernel)
theorem lq_56 {S : Stt} (h : Stat S) : 56 < S.2.2 := Nat.lt_of_lt_of_le (by decide) h.2.2
theorem sh_57 {S : Stt} (h : Stat S) : S.1 57 = (0, 16) := (h.1 57 (by decide)).trans (by decide +kernel)
theorem lq_57 {S : Stt} (h : Stat S) : 57 < S.2.2 := Nat.lt_of_lt_of_le (by decide) h.2.2
theorem sh_58 {S : Stt} (h : Stat S) : S.1 58 = (0, 16) := (h.1 58 (by decide)).trans (by decide +kernel)
theorem lq_58 {S : Stt} (h : Stat S) : 58 < S.2.2 := Nat.lt_of_lt_of_le (by decide) h.2.2
theorem sh_59 {S : Stt} (h : Stat S) : S.1 59 = (0, 16) := (h.1 59 (by decide)).trans (by decide +kernel)
theorem lq_59 {S : Stt} (h : Stat S) : 59 < S.2.2 := Nat.lt_of_lt_of_le (by decide) h.2.2
theorem sh_60 {S : Stt} (h : Stat S) : S.1 60 = (0, 10) := (h.1 60 (by decide)).trans (by decide +kernel)
theorem lq_60 {S : Stt} (h : Stat S) : 60 < S.2.2 := Nat.lt_of_lt_of_le (by decide) h.2.2
theorem sh_61 {S : Stt} (h : Stat S) : S.1 61 = (5, 0) := (h.1 61 (by decide)).trans (by decide +kernel)
theorem lq_61 {S : Stt} (h : Stat S) : 61 < S.2.2 := Nat.lt_of_lt_of_le (by decide) h.2.2
theorem sh_62 {S : Stt} (h : Stat S) : S.1 62 = (0, 16) := (h.1 62 (by decide)).trans (by decide +kernel)
theorem lq_62 {S : Stt} (h : Stat S) : 62 < S.2.2 := Nat.lt_of_lt_of_le (by decide) h.2.2
theorem sh_63 {S : Stt} (h : Stat S) : S.1 63 = (0, 16) := (h.1 63 (by decide)).trans (by decide +kernel)
theorem lq_63 {S : Stt} (h : Stat S) : 63 < S.2.2 := Nat.lt_of_lt_of_le (by decide) h.2.2
theorem sh_64 {S : Stt} (h : Stat S) : S.1 64 = (0, 16) := (h.1 64 (by decide)).trans (by decide +kernel)
theorem lq_64 {S : Stt} (h : Stat S) : 64 < S.2.2 := Nat.lt_of_lt_of_le (by decide) h.2.2
theorem sh_65 {S : Stt} (h : Stat S) : S.1 65 = (0, 16) := (h.1 65 (by decide)).trans (by decide +kernel)
theorem lq_65 {S : Stt} (h : Stat S) : 65 < S.2.2 := Nat.lt_of_lt_of_le (by decide) h.2.2
theorem sh_66 {S : Stt} (h : Stat S) : S.1 66 = (0, 10) := (h.1 66 (by decide)).trans (by decide +kernel)
theorem lq_66 {S : Stt} (h : Stat S) : 66 < S.2.2 := Nat.lt_of_lt_of_le (by decide) h.2.2
theorem sh_67 {S : Stt} (h : Stat S) : S.1 67 = (5, 0) := (h.1 67 (by decide)).trans (by decide +kernel)
theorem lq_67 {S : Stt} (h : Stat S) : 67 < S.2.2 := Nat.lt_of_lt_of_le (by decide) h.2.2
theorem sh_68 {S : Stt} (h : Stat S) : S.1 68 = (0, 16) := (h.1 68 (by decide)).trans (by decide +kernel)
theorem lq_68 {S : Stt} (h : Stat S) : 68 < S.2.2 := Nat.lt_of_lt_of_le (by decide) h.2.2
theorem sh_69 {S : Stt} (h : Stat S) : S.1 69 = (0, 16) := (h.1 69 (by decide)).trans (by decide +kernel)
theorem lq_69 {S : Stt} (h : Stat S) : 69 < S.2.2 := Nat.lt_of_lt_of_le (by decide) h.2.2
theorem sh_70 {S : Stt} (h : Stat S) : S.1 70 = (0, 16) := (h.1 70 (by decide)).trans (by decide +kernel)
theorem lq_70 {S : Stt} (h : Stat S) : 70 < S.2.2 := Nat.lt_of_lt_of_le (by decide) h.2.2
theorem sh_71 {S : Stt} (h : Stat S) : S.1 71 = (0, 16) := (h.1 71 (by decide)).trans (by decide +kernel)
theorem lq_71 {S : Stt} (h : Stat S) : 71 < S.2.2 := Nat.lt_of_lt_of_le (by decide) h.2.2
theorem sh_72 {S : Stt} (h : Stat S) : S.1 72 = (0, 10) := (h.1 72 (by decide)).trans (by decide +kernel)
theorem lq_72 {S : Stt} (h : Stat S) : 72 < S.2.2 := Nat.lt_of_lt_of_le (by decide) h.2.2
theorem sh_73 {S : Stt} (h : Stat S) : S.1 73 = (5, 0) := (h.1 73 (by decide)).trans (by decide +kernel)
theorem lq_73 {S : Stt} (h : Stat S) : 73 < S.2.2 := Nat.lt_of_lt_of_le (by decide) h.2.2
theorem sh_74 {S : Stt} (h : Stat S) : S.1 74 = (0, 16) := (h.1 74 (by decide)).trans (by decide +kernel)
theorem lq_74 {S : Stt} (h : Stat S) : 74 < S.2.2 := Nat.lt_of_lt_of_le (by decide) h.2.2
theorem sh_75 {S : Stt} (h : Stat S) : S.1 75 = (0, 16) := (h.1 75 (by decide)).trans (by decide +kernel)
theorem lq_75 {S : Stt} (h : Stat S) : 75 < S.2.2 := Nat.lt_of_lt_of_le (by decide) h.2.2
theorem sh_76 {S : Stt} (h : Stat S) : S.1 76 = (0, 16) := (h.1 76 (by decide)).trans (by decide +kernel)
theorem lq_76 {S : Stt} (h : Stat S) : 76 < S.2.2 := Nat.lt_of_lt_of_le (by decide) h.2.2
theorem sh_77 {S : Stt} (h : Stat S) : S.1 77 = (0, 16) := (h.1 77 (by decide)).trans (by decide +kernel)
theorem lq_77 {S : Stt} (h : Stat S) : 77 < S.2.2 := Nat.lt_of_lt_of_le (by decide) h.2.2
theorem sh_78 {S : Stt} (h : Stat S) : S.1 78 = (0, 10) := (h.1 78 (by decide)).trans (by decide +kernel)
theorem lq_78 {S : Stt} (h : Stat S) : 78 < S.2.2 := Nat.lt_of_lt_of_le (by decide) h.2.2
theorem sh_79 {S : Stt} (h : Stat S) : S.1 79 = (5, 0) := (h.1 79 (by decide)).trans (by decide +kernel)
theorem lq_79 {S : Stt} (h : Stat S) : 79 < S.2.2 := Nat.lt_of_lt_of_le (by decide) h.2.2
theorem sh_80 {S : Stt} (h : Stat S) : S.1 80 = (0, 16) := (h.1 80 (by decide)).trans (by decide +kernel)
theorem lq_80 {S : Stt} (h : Stat S) : 80 < S.2.2 := Nat.lt_of_lt_of_le (by decide) h.2.2
theorem sh_81 {S : Stt} (h : Stat S) : S.1 81 = (0, 16) := (h.1 81 (by decide)).trans (by decide +kernel)
theorem lq_81 {S : Stt} (h : Stat S) : 81 < S.2.2 := Nat.lt_of_lt_of_le (by decide) h.2.2
theorem sh_82 {S : Stt} (h : Stat S) : S.1 82 = (0, 16) := (h.1 82 (by decide)).trans (by decide +kernel)
theorem lq_82 {S : Stt} (h : Stat S) : 82 < S.2.2 := Nat.lt_of_lt_of_le (by decide) h.2.2
theorem sh_83 {S : Stt} (h : Stat S) : S.1 83 = (0, 16) := (h.1 83 (by decide)).trans (by decide +kernel)
theorem lq_83 {S : Stt} (h : Stat S) : 83 < S.2.2 := Nat.lt_of_lt_of_le (by decide) h.2.2
theorem sh_84 {S : Stt} (h : Stat S) : S.1 84 = (0, 10) := (h.1 84 (by decide)).trans (by decide +kernel)
theorem lq_84 {S : Stt} (h : Stat S) : 84 < S.2.2 := Nat.lt_of_lt_of_le (by decide) h.2.2
theorem sh_85 {S : Stt} (h : Stat S) : S.1 85 = (5, 0) := (h.1 85 (by decide)).trans (by decide +kernel)
theorem lq_85 {S : Stt} (h : Stat S) : 85 < S.2.2 := Nat.lt_of_lt_of_le (by decide) h.2.2
theorem sh_86 {S : Stt} (h : Stat S) : S.1 86 = (0, 16) := (h.1 86 (by decide)).trans (by decide +kernel)
theorem lq_86 {S : Stt} (h : Stat S) : 86 < S.2.2 := Nat.lt_of_lt_of_le (by decide) h.2.2
theorem sh_87 {S : Stt} (h : Stat S) : S.1 87 = (0, 16) := (h.1 87 (by decide)).trans (by decide +kernel)
theorem lq_87 {S : Stt} (h : Stat S) : 87 < S.2.2 := Nat.lt_of_lt_of_le (by decide) h.2.2
theorem sh_88 {S : Stt} (h : Stat S) : S.1 88 = (0, 16) := (h.1 88 (by decide)).trans (by decide +kernel)
theorem lq_88 {S : Stt} (h : Stat S) : 88 < S.2.2 := Nat.lt_of_lt_of_le (by decide) h.2.2
theorem sh_89 {S : Stt} (h : Stat S) : S.1 89 = (0, 16) := (h.1 89 (by decide)).trans (by decide +kernel)
theorem lq_89 {S : Stt} (h : Stat S) : 89 < S.2.2 := Nat.lt_of_lt_of_le (by decide) h.2.2
theorem sh_90 {S : Stt} (h : Stat S) : S.1 90 = (0, 10) := (h.1 90 (by decide)).trans (by decide +kernel)
theorem lq_90 {S : Stt} (h : Stat S) : 90 < S.2.2 := Nat.lt_of_lt_of_le (by decide) h.2.2
theorem sh_91 {S : Stt} (h : Stat S) : S.1 91 = (5, 0) := (h.1 91 (by decide)).trans (by decide +kernel)
theorem lq_91 {S : Stt} (h : Stat S) : 91 < S.2.2 := Nat.lt_of_lt_of_le (by decide) h.2.2
theorem sh_92 {S : Stt} (h : Stat S) : S.1 92 = (0, 16) := (h.1 92 (by decide)).trans (by decide +kernel)
theorem lq_92 {S : Stt} (h : Stat S) : 92 < S.2.2 := Nat.lt_of_lt_of_le (by decide) h.2.2
theorem sh_93 {S : Stt} (h : Stat S) : S.1 93 = (0, 16) := (h.1 93 (by decide)).trans (by decide +kernel)
theorem lq_93 {S : Stt} (h : Stat S) : 93 < S.2.2 := Nat.lt_of_lt_of_le (by decide) h.2.2
theorem sh_94 {S : Stt} (h : Stat S) : S.1 94 = (0, 16) := (h.1 94 (by decide)).trans (by decide +kernel)
theorem lq_94 {S : Stt} (h : Stat S) : 94 < S.2.2 := Nat.lt_of_lt_of_le (by decide) h.2.2
theorem sh_95 {S : Stt} (h : Stat S) : S.1 95 = (0, 16) := (h.1 95 (by decide)).trans (by decide +kernel)
theorem lq_95 {S : Stt} (h : Stat S) : 95 < S.2.2 := Nat.lt_of_lt_of_le (by decide) h.2.2
theorem sh_96 {S : Stt} (h : Stat S) : S.1 96 = (0, 10) := (h.1 96 (by decide)).trans (by decide +kernel)
theorem lq_96 {S : Stt} (h : Stat S) : 96 < S.2.2 := Nat.lt_of_lt_of_le (by decide) h.2.2
theorem sh_97 {S : Stt} (h : Stat S) : S.1 97 = (5, 0) := (h.1 97 (by decide)).trans (by decide +kernel)
theorem lq_97 {S : Stt} (h : Stat S) : 97 < S.2.2 := Nat.lt_of_lt_of_le (by decide) h.2.2
theorem sh_98 {S : Stt} (h : Stat S) : S.1 98 = (0, 16) := (h.1 98 (by decide)).trans (by decide +kernel)
theorem lq_98 {S : Stt} (h : Stat S) : 98 < S.2.2 := Nat.lt_of_lt_of_le (by decide) h.2.2
theorem sh_99 {S : Stt} (h : Stat S) : S.1 99 = (0, 16) := (h.1 99 (by decide)).trans (by decide +kernel)
theorem lq_99 {S : Stt} (h : Stat S) : 99 < S.2.2 := Nat.lt_of_lt_of_le (by decide) h.2.2
theorem sh_100 {S : Stt} (h : Stat S) : S.1 100 = (0, 16) := (h.1 100 (by decide)).trans (by decide +kernel)
theorem lq_100 {S : Stt} (h : Stat S) : 100 < S.2.2 := Nat.lt_of_lt_of_le (by decide) h.2.2
theorem sh_101 {S : Stt} (h : Stat S) : S.1 101 = (0, 16) := (h.1 101 (by decide)).trans (by decide +kernel)
theorem lq_101 {S : Stt} (h : Stat S) : 101 < S.2.2 := Nat.lt_of_lt_of_le (by decide) h.2.2
theorem sh_102 {S : Stt} (h : Stat S) : S.1 102 = (0, 10) := (h.1 102 (by decide)).trans (by decide +kernel)
theorem lq_102 {S : Stt} (h : Stat S) : 102 < S.2.2 := Nat.lt_of_lt_of_le (by decide) h.2.2
theorem sh_103 {S : Stt} (h : Stat S) : S.1 103 = (5, 0) := (h.1 103 (by decide)).trans (by decide +kernel)
theorem lq_103 {S : Stt} (h : Stat S) : 103 < S.2.2 := Nat.lt_of_lt_of_le (by decide) h.2.2
theorem sh_104 {S : Stt} (h : Stat S) : S.1 104 = (0, 16) := (h.1 104 (by decide)).trans (by decide +kernel)
theorem lq_104 {S : Stt} (h : Stat S) : 104 < S.2.2 := Nat.lt_of_lt_of_le (by decide) h.2.2
theorem sh_105 {S : Stt} (h : Stat S) : S.1 105 = (0, 16) := (h.1 105 (by decide)).trans (by decide +kernel)
theorem lq_105 {S : Stt} (h : Stat S) : 105 < S.2.2 := Nat.lt_of_lt_of_le (by decide) h.2.2
theorem sh_106 {S : Stt} (h : Stat S) : S.1 106 = (0, 16) := (h.1 106 (by decide)).trans (by decide +kernel)
theorem lq_106 {S : Stt} (h : Stat S) : 106 < S.2.2 := Nat.lt_of_lt_of_le (by decide) h.2.2
theorem sh_107 {S : Stt} (h : Stat S) : S.1 107 = (0, 16) := (h.1 107 (by decide)).trans (by decide +kernel)
theorem lq_107 {S : Stt} (h : Stat S) : 107 < S.2.2 := Nat.lt_of_lt_of_le (by decide) h.2.2
theorem sh_108 {S : Stt} (h : Stat S) : S.1 108 = (0, 10) := (h.1 108 (by decide)).trans (by decide +kernel)
theorem lq_108 {S : Stt} (h : Stat S) : 108 < S.2.2 := Nat.lt_of_lt_of_le (by decide) h.2.2
theorem sh_109 {S : Stt} (h : Stat S) : S.1 109 = (5, 0) := (h.1 109 (by decide)).trans (by decide +kernel)
theorem lq_109 {S : Stt} (h : Stat S) : 109 < S.2.2 := Nat.lt_of_lt_of_le (by decide) h.2.2
theorem sh_110 {S : Stt} (h : Stat S) : S.1 110 = (0, 16) := (h.1 110 (by decide)).trans (by decide +kernel)
theorem lq_110 {S : Stt} (h : Stat S) : 110 < S.2.2 := Nat.lt_of_lt_of_le (by decide) h.2.2
theorem sh_111 {S : Stt} (h : Stat S) : S.1 111 = (0, 16) := (h.1 111 (by decide)).trans (by decide +kernel)
theorem lq_111 {S : Stt} (h : Stat S) : 111 < S.2.2 := Nat.lt_of_lt_of_le (by decide) h.2.2
theorem sh_112 {S : Stt} (h : Stat S) : S.1 112 = (0, 16) := (h.1 112 (by decide)).trans (by decide +kernel)
theorem lq_112 {S : Stt} (h : Stat S) : 112 < S.2.2 := Nat.lt_of_lt_of_le (by decide) h.2.2
theorem sh_113 {S : Stt} (h : Stat S) : S.1 113 = (0, 16) := (h.1 113 (by decide)).trans (by decide +kernel)
theorem lq_113 {S : Stt} (h : Stat S) : 113 < S.2.2 := Nat.lt_of_lt_of_le (by decide) h.2.2
theorem sh_114 {S : Stt} (h : Stat S) : S.1 114 = (0, 10) := (h.1 114 (by decide)).trans (by decide +kernel)
theorem lq_114 {S : Stt} (h : Stat S) : 114 < S.2.2 := Nat.lt_of_lt_of_le (by decide) h.2.2
theorem sh_115 {S : Stt} (h : Stat S) : S.1 115 = (5, 0) := (h.1 115 (by decide)).trans (by decide +kernel)
theorem lq_115 {S : Stt} (h : Stat S) : 115 < S.2.2 := Nat.lt_of_lt_of_le (by decide) h.2.2
theorem sh_116 {S : Stt} (h : Stat S) : S.1 116 = (0, 16) := (h.1 116 (by decide)).trans (by decide +kernel)
theorem lq_116 {S : Stt} (h : Stat S) : 116 < S.2.2 := Nat.lt_of_lt_of_le (by decide) h.2.2
theorem sh_117 {S : Stt} (h : Stat S) : S.1 117 = (0, 16) := (h.1 117 (by decide)).trans (by decide +kernel)
theorem lq_117 {S : Stt} (h : Stat S) : 117 < S.2.2 := Nat.lt_of_lt_of_le (by decide) h.2.2
theorem sh_118 {S : Stt} (h : Stat S) : S.1 118 = (0, 16) := (h.1 118 (by decide)).trans (by decide +kernel)
theorem lq_118 {S : Stt} (h : Stat S) : 118 < S.2.2 := Nat.lt_of_lt_of_le (by decide) h.2.2
theorem sh_119 {S : Stt} (h : Stat S) : S.1 119 = (0, 16) := (h.1 119 (by decide)).trans (by decide +kernel)
theorem lq_119 {S : Stt} (h : Stat S) : 119 < S.2.2 := Nat.lt_of_lt_of_le (by decide) h.2.2
theorem sh_120 {S : Stt} (h : Stat S) : S.1 120 = (0, 10) := (h.1 120 (by decide)).trans (by decide +kernel)
theorem lq_120 {S : Stt} (h : Stat S) : 120 < S.2.2 := Nat.lt_of_lt_of_le (by decide) h.2.2
theorem sh_121 {S : Stt} (h : Stat S) : S.1 121 = (5, 0) := (h.1 121 (by decide)).trans (by decide +kernel)
theorem lq_121 {S : Stt} (h : Stat S) : 121 < S.2.2 := Nat.lt_of_lt_of_le (by decide) h.2.2
theorem sh_122 {S : Stt} (h : Stat S) : S.1 122 = (0, 16) := (h.1 122 (by decide)).trans (by decide +kernel)
theorem lq_122 {S : Stt} (h : Stat S) : 122 < S.2.2 := Nat.lt_of_lt_of_le (by decide) h.2.2
theorem sh_123 {S : Stt} (h : Stat S) : S.1 123 = (0, 16) := (h.1 123 (by decide)).trans (by decide +kernel)
theorem lq_123 {S : Stt} (h : Stat S) : 123 < S.2.2 := Nat.lt_of_lt_of_le (by decide) h.2.2
theorem sh_124 {S : Stt} (h : Stat S) : S.1 124 = (0, 16) := (h.1 124 (by decide)).trans (by decide +kernel)
theorem lq_124 {S : Stt} (h : Stat S) : 124 < S.2.2 := Nat.lt_of_lt_of_le (by decide) h.2.2
theorem sh_125 {S : Stt} (h : Stat S) : S.1 125 = (0, 16) := (h.1 125 (by decide)).trans (by decide +kernel)
theorem lq_125 {S : Stt} (h : Stat S) : 125 < S.2.2 := Nat.lt_of_lt_of_le (by decide) h.2.2
theorem sh_126 {S : Stt} (h : Stat S) : S.1 126 = (0, 10) := (h.1 126 (by decide)).trans (by decide +kernel)
theorem lq_126 {S : Stt} (h : Stat S) : 126 < S.2.2 := Nat.lt_of_lt_of_le (by decide) h.2.2
theorem sh_127 {S : Stt} (h : Stat S) : S.1 127 = (5, 0) := (h.1 127 (by decide)).trans (by decide +kernel)
theorem lq_127 {S : Stt} (h : Stat S) : 127 < S.2.2 := Nat.lt_of_lt_of_le (by decide) h.2.2
theorem sh_128 {S : Stt} (h : Stat S) : S.1 128 = (0, 16) := (h.1 128 (by decide)).trans (by decide +kernel)
theorem lq_128 {S : Stt} (h : Stat S) : 128 < S.2.2 := Nat.lt_of_lt_of_le (by decide) h.2.2
theorem sh_129 {S : Stt} (h : Stat S) : S.1 129 = (0, 16) := (h.1 129 (by decide)).trans (by decide +kernel)
theorem lq_129 {S : Stt} (h : Stat S) : 129 < S.2.2 := Nat.lt_of_lt_of_le (by decide) h.2.2
theorem sh_130 {S : Stt} (h : Stat S) : S.1 130 = (0, 16) := (h.1 130 (by decide)).trans (by decide +kernel)
theorem lq_130 {S : Stt} (h : Stat S) : 130 < S.2.2 := Nat.lt_of_lt_of_le (by decide) h.2.2
theorem sh_131 {S : Stt} (h : Stat S) : S.1 131 = (0, 16) := (h.1 131 (by decide)).trans (by decide +kernel)
theorem lq_131 {S : Stt} (h : Stat S) : 131 < S.2.2 := Nat.lt_of_lt_of_le (by decide) h.2.2
theorem sh_132 {S : Stt} (h : Stat S) : S.1 132 = (0, 10) := (h.1 132 (by decide)).trans (by decide +kernel)
theorem lq_132 {S : Stt} (h : Stat S) : 132 < S.2.2 := Nat.lt_of_lt_of_le (by decide) h.2.2
theorem sh_133 {S : Stt} (h : Stat S) : S.1 133 = (3, 4) := (h.1 133 (by decide)).trans (by decide +kernel)
theorem lq_133 {S : Stt} (h : Stat S) : 133 < S.2.2 := Nat.lt_of_lt_of_le (by decide) h.2.2
theorem sh_134 {S : Stt} (h : Stat S) : S.1 134 = (10, 0) := (h.1 134 (by decide)).trans (by decide +kernel)
theorem lq_134 {S : Stt} (h : Stat S) : 134 < S.2.2 := Nat.lt_of_lt_of_le (by decide) h.2.2
theorem sh_135 {S : Stt} (h : Stat S) : S.1 135 = (0, 12) := (h.1 135 (by decide)).trans (by decide +kernel)
theorem lq_135 {S : Stt} (h : Stat S) : 135 < S.2.2 := Nat.lt_of_lt_of_le (by decide) h.2.2
theorem sh_136 {S : Stt} (h : Stat S) : S.1 136 = (0, 12) := (h.1 136 (by decide)).trans (by decide +kernel)
theorem lq_136 {S : Stt} (h : Stat S) : 136 < S.2.2 := Nat.lt_of_lt_of_le (by decide) h.2.2
theorem sh_137 {S : Stt} (h : Stat S) : S.1 137 = (0, 12) := (h.1 137 (by decide)).trans (by decide +kernel)
theorem lq_137 {S : Stt} (h : Stat S) : 137 < S.2.2 := Nat.lt_of_lt_of_le (by decide) h.2.2
theorem sh_138 {S : Stt} (h : Stat S) : S.1 138 = (0, 12) := (h.1 138 (by decide)).trans (by decide +kernel)
theorem lq_138 {S : Stt} (h : Stat S) : 138 < S.2.2 := Nat.lt_of_lt_of_le (by decide) h.2.2
theorem sh_139 {S : Stt} (h : Stat S) : S.1 139 = (14, 0) := (h.1 139 (by decide)).trans (by decide +kernel)
theorem lq_139 {S : Stt} (h : Stat S) : 139 < S.2.2 := Nat.lt_of_lt_of_le (by decide) h.2.2
theorem sh_140 {S : Stt} (h : Stat S) : S.1 140 = (0, 10) := (h.1 140 (by decide)).trans (by decide +kernel)
theorem lq_140 {S : Stt} (h : Stat S) : 140 < S.2.2 := Nat.lt_of_lt_of_le (by decide) h.2.2
theorem sh_141 {S : Stt} (h : Stat S) : S.1 141 = (0, 10) := (h.1 141 (by decide)).trans (by decide +kernel)
theorem lq_141 {S : Stt} (h : Stat S) : 141 < S.2.2 := Nat.lt_of_lt_of_le (by decide) h.2.2
theorem sh_142 {S : Stt} (h : Stat S) : S.1 142 = (0, 16) := (h.1 142 (by decide)).trans (by decide +kernel)
theorem lq_142 {S : Stt} (h : Stat S) : 142 < S.2.2 := Nat.lt_of_lt_of_le (by decide) h.2.2
theorem sh_143 {S : Stt} (h : Stat S) : S.1 143 = (5, 0) := (h.1 143 (by decide)).trans (by decide +kernel)
theorem lq_143 {S : Stt} (h : Stat S) : 143 < S.2.2 := Nat.lt_of_lt_of_le (by decide) h.2.2
theorem sh_144 {S : Stt} (h : Stat S) : S.1 144 = (0, 16) := (h.1 144 (by decide)).trans (by decide +kernel)
theorem lq_144 {S : Stt} (h : Stat S) : 144 < S.2.2 := Nat.lt_of_lt_of_le (by decide) h.2.2
theorem sh_145 {S : Stt} (h : Stat S) : S.1 145 = (0, 16) := (h.1 145 (by decide)).trans (by decide +kernel)
theorem lq_145 {S : Stt} (h : Stat S) : 145 < S.2.2 := Nat.lt_of_lt_of_le (by decide) h.2.2
theorem sh_146 {S : Stt} (h : Stat S) : S.1 146 = (0, 16) := (h.1 146 (by decide)).trans (by decide +kernel)
theorem lq_146 {S : Stt} (h : Stat S) : 146 < S.2.2 := Nat.lt_of_lt_of_le (by decide) h.2.2
theorem sh_147 {S : Stt} (h : Stat S) : S.1 147 = (0, 16) := (h.1 147 (by decide)).trans (by decide +kernel)
theorem lq_147 {S : Stt} (h : Stat S) : 147 < S.2.2 := Nat.lt_of_lt_of_le (by decide) h.2.2
theorem sh_148 {S : Stt} (h : Stat S) : S.1 148 = (0, 10) := (h.1 148 (by decide)).trans (by decide +kernel)
theorem lq_148 {S : Stt} (h : Stat S) : 148 < S.2.2 := Nat.lt_of_lt_of_le (by decide) h.2.2
theorem sh_149 {S : Stt} (h : Stat S) : S.1 149 = (12, 0) := (h.1 149 (by decide)).trans (by decide +kernel)
theorem lq_149 {S : Stt} (h : Stat S) : 149 < S.2.2 := Nat.lt_of_lt_of_le (by decide) h.2.2
theorem sh_150 {S : Stt} (h : Stat S) : S.1 150 = (4, 20) := (h.1 150 (by decide)).trans (by decide +kernel)
theorem lq_150 {S : Stt} (h : Stat S) : 150 < S.2.2 := Nat.lt_of_lt_of_le (by decide) h.2.2
theorem sh_151 {S : Stt} (h : Stat S) : S.1 151 = (5, 0) := (h.1 151 (by decide)).trans (by decide +kernel)
theorem lq_151 {S : Stt} (h : Stat S) : 151 < S.2.2 := Nat.lt_of_lt_of_le (by decide) h.2.2
theorem sh_152 {S : Stt} (h : Stat S) : S.1 152 = (0, 16) := (h.1 152 (by decide)).trans (by decide +kernel)
theorem lq_152 {S : Stt} (h : Stat S) : 152 < S.2.2 := Nat.lt_of_lt_of_le (by decide) h.2.2
theorem sh_153 {S : Stt} (h : Stat S) : S.1 153 = (0, 16) := (h.1 153 (by decide)).trans (by decide +kernel)
theorem lq_153 {S : Stt} (h : Stat S) : 153 < S.2.2 := Nat.lt_of_lt_of_le (by decide) h.2.2
theorem sh_154 {S : Stt} (h : Stat S) : S.1 154 = (0, 16) := (h.1 154 (by decide)).trans (by decide +kernel)
theorem lq_154 {S : Stt} (h : Stat S) : 154 < S.2.2 := Nat.lt_of_lt_of_le (by decide) h.2.2
theorem sh_155 {S : Stt} (h : Stat S) : S.1 155 = (0, 16) := (h.1 155 (by decide)).trans (by decide +kernel)
theorem lq_155 {S : Stt} (h : Stat S) : 155 < S.2.2 := Nat.lt_of_lt_of_le (by decide) h.2.2
theorem sh_156 {S : Stt} (h : Stat S) : S.1 156 = (0, 10) := (h.1 156 (by decide)).trans (by decide +kernel)
theorem lq_156 {S : Stt} (h : Stat S) : 156 < S.2.2 := Nat.lt_of_lt_of_le (by decide) h.2.2
theorem sh_157 {S : Stt} (h : Stat S) : S.1 157 = (5, 0) := (h.1 157 (by decide)).trans (by decide +kernel)
theorem lq_157 {S : Stt} (h : Stat S) : 157 < S.2.2 := Nat.lt_of_lt_of_le (by decide) h.2.2
theorem sh_158 {S : Stt} (h : Stat S) : S.1 158 = (0, 16) := (h.1 158 (by decide)).trans (by decide +kernel)
theorem lq_158 {S : Stt} (h : Stat S) : 158 < S.2.2 := Nat.lt_of_lt_of_le (by decide) h.2.2
theorem sh_159 {S : Stt} (h : Stat S) : S.1 159 = (0, 16) := (h.1 159 (by decide)).trans (by decide +kernel)
theorem lq_159 {S : Stt} (h : Stat S) : 159 < S.2.2 := Nat.lt_of_lt_of_le (by decide) h.2.2
theorem sh_160 {S : Stt} (h : Stat S) : S.1 160 = (0, 16) := (h.1 160 (by decide)).trans (by decide +kernel)
theorem lq_160 {S : Stt} (h : Stat S) : 160 < S.2.2 := Nat.lt_of_lt_of_le (by decide) h.2.2
theorem sh_161 {S : Stt} (h : Stat S) : S.1 161 = (0, 16) := (h.1 161 (by decide)).trans (by decide +kernel)
theorem lq_161 {S : Stt} (h : Stat S) : 161 < S.2.2 := Nat.lt_of_lt_of_le (by decide) h.2.2
theorem sh_162 {S : Stt} (h : Stat S) : S.1 162 = (0, 10) := (h.1 162 (by decide)).trans (by decide +kernel)
theorem lq_162 {S : Stt} (h : Stat S) : 162 < S.2.2 := Nat.lt_of_lt_of_le (by decide) h.2.2
theorem sh_163 {S : Stt} (h : Stat S) : S.1 163 = (5, 0) := (h.1 163 (by decide)).trans (by decide +kernel)
theorem lq_163 {S : Stt} (h : Stat S) : 163 < S.2.2 := Nat.lt_of_lt_of_le (by decide) h.2.2
theorem sh_164 {S : Stt} (h : Stat S) : S.1 164 = (0, 16) := (h.1 164 (by decide)).trans (by decide +kernel)
theorem lq_164 {S : Stt} (h : Stat S) : 164 < S.2.2 := Nat.lt_of_lt_of_le (by decide) h.2.2
theorem sh_165 {S : Stt} (h : Stat S) : S.1 165 = (0, 16) := (h.1 165 (by decide)).trans (by decide +kernel)
theorem lq_165 {S : Stt} (h : Stat S) : 165 < S.2.2 := Nat.lt_of_lt_of_le (by decide) h.2.2
theorem sh_166 {S : Stt} (h : Stat S) : S.1 166 = (0, 16) := (h.1 166 (by decide)).trans (by decide +kernel)
theorem lq_166 {S : Stt} (h : Stat S) : 166 < S.2.2 := Nat.lt_of_lt_of_le (by decide) h.2.2
theorem sh_167 {S : Stt} (h : Stat S) : S.1 167 = (0, 16) := (h.1 167 (by decide)).trans (by decide +kernel)
theorem lq_167 {S : Stt} (h : Stat S) : 167 < S.2.2 := Nat.lt_of_lt_of_le (by decide) h.2.2
theorem sh_168 {S : Stt} (h : Stat S) : S.1 168 = (0, 10) := (h.1 168 (by decide)).trans (by decide +kernel)
theorem lq_168 {S : Stt} (h : Stat S) : 168 < S.2.2 := Nat.lt_of_lt_of_le (by decide) h.2.2
theorem sh_169 {S : Stt} (h : Stat S) : S.1 169 = (5, 0) := (h.1 169 (by decide)).trans (by decide +kernel)
theorem lq_169 {S : Stt} (h : Stat S) : 169 < S.2.2 := Nat.lt_of_lt_of_le (by decide) h.2.2
theorem sh_170 {S : Stt} (h : Stat S) : S.1 170 = (0, 16) := (h.1 170 (by decide)).trans (by decide +kernel)
theorem lq_170 {S : Stt} (h : Stat S) : 170 < S.2.2 := Nat.lt_of_lt_of_le (by decide) h.2.2
theorem sh_171 {S : Stt} (h : Stat S) : S.1 171 = (0, 16) := (h.1 171 (by decide)).trans (by decide +kernel)
theorem lq_171 {S : Stt} (h : Stat S) : 171 < S.2.2 := Nat.lt_of_lt_of_le (by decide) h.2.2
theorem sh_172 {S : Stt} (h : Stat S) : S.1 172 = (0, 16) := (h.1 172 (by decide)).trans (by decide +kernel)
theorem lq_172 {S : Stt} (h : Stat S) : 172 < S.2.2 := Nat.lt_of_lt_of_le (by decide) h.2.2
theorem sh_173 {S : Stt} (h : Stat S) : S.1 173 = (0, 16) := (h.1 173 (by decide)).trans (by decide +kernel)
theorem lq_173 {S : Stt} (h : Stat S) : 173 < S.2.2 := Nat.lt_of_lt_of_le (by decide) h.2.2
theorem sh_174 {S : Stt} (h : Stat S) : S.1 174 = (0, 10) := (h.1 174 (by decide)).trans (by decide +kernel)
theorem lq_174 {S : Stt} (h : Stat S) : 174 < S.2.2 := Nat.lt_of_lt_of_le (by decide) h.2.2
theorem sh_175 {S : Stt} (h : Stat S) : S.1 175 = (5, 0) := (h.1 175 (by decide)).trans (by decide +kernel)
theorem lq_175 {S : Stt} (h : Stat S) : 175 < S.2.2 := Nat.lt_of_lt_of_le (by decide) h.2.2
theorem sh_176 {S : Stt} (h : Stat S) : S.1 176 = (0, 16) := (h.1 176 (by decide)).trans (by decide +kernel)
theorem lq_176 {S : Stt} (h : Stat S) : 176 < S.2.2 := Nat.lt_of_lt_of_le (by decide) h.2.2
theorem sh_177 {S : Stt} (h : Stat S) : S.1 177 = (0, 16) := (h.1 177 (by decide)).trans (by decide +kernel)
theorem lq_177 {S : Stt} (h : Stat S) : 177 < S.2.2 := Nat.lt_of_lt_of_le (by decide) h.2.2
theorem sh_178 {S : Stt} (h : Stat S) : S.1 178 = (0, 16) := (h.1 178 (by decide)).trans (by decide +kernel)
theorem lq_178 {S : Stt} (h : Stat S) : 178 < S.2.2 := Nat.lt_of_lt_of_le (by decide) h.2.2
theorem sh_179 {S : Stt} (h : Stat S) : S.1 179 = (0, 16) := (h.1 179 (by decide)).trans (by decide +kernel)
theorem lq_179 {S : Stt} (h : Stat S) : 179 < S.2.2 := Nat.lt_of_lt_of_le (by decide) h.2.2
theorem sh_180 {S : Stt} (h : Stat S) : S.1 180 = (0, 10) := (h.1 180 (by decide)).trans (by decide +kernel)
theorem lq_180 {S : Stt} (h : Stat S) : 180 < S.2.2 := Nat.lt_of_lt_of_le (by decide) h.2.2
theorem sh_181 {S : Stt} (h : Stat S) : S.1 181 = (5, 0) := (h.1 181 (by decide)).trans (by decide +kernel)
theorem lq_181 {S : Stt} (h : Stat S) : 181 < S.2.2 := Nat.lt_of_lt_of_le (by decide) h.2.2
theorem sh_182 {S : Stt} (h : Stat S) : S.1 182 = (0, 16) := (h.1 182 (by decide)).trans (by decide +kernel)
theorem lq_182 {S : Stt} (h : Stat S) : 182 < S.2.2 := Nat.lt_of_lt_of_le (by decide) h.2.2
theorem sh_183 {S : Stt} (h : Stat S) : S.1 183 = (0, 16) := (h.1 183 (by decide)).trans (by decide +kernel)
theorem lq_183 {S : Stt} (h : Stat S) : 183 < S.2.2 := Nat.lt_of_lt_of_le (by decide) h.2.2
theorem sh_184 {S : Stt} (h : Stat S) : S.1 184 = (0, 16) := (h.1 184 (by decide)).trans (by decide +kernel)
theorem lq_184 {S : Stt} (h : Stat S) : 184 < S.2.2 := Nat.lt_of_lt_of_le (by decide) h.2.2
theorem sh_185 {S : Stt} (h : Stat S) : S.1 185 = (0, 16) := (h.1 185 (by decide)).trans (by decide +kernel)
theorem lq_185 {S : Stt} (h : Stat S) : 185 < S.2.2 := Nat.lt_of_lt_of_le (by decide) h.2.2
theorem sh_186 {S : Stt} (h : Stat S) : S.1 186 = (0, 10) := (h.1 186 (by decide)).trans (by decide +kernel)
theorem lq_186 {S : Stt} (h : Stat S) : 186 < S.2.2 := Nat.lt_of_lt_of_le (by decide) h.2.2
theorem sh_187 {S : Stt} (h : Stat S) : S.1 187 = (5, 0) := (h.1 187 (by decide)).trans (by decide +kernel)
theorem lq_187 {S : Stt} (h : Stat S) : 187 < S.2.2 := Nat.lt_of_lt_of_le (by decide) h.2.2
theorem sh_188 {S : Stt} (h : Stat S) : S.1 188 = (0, 16) := (h.1 188 (by decide)).trans (by decide +kernel)
theorem lq_188 {S : Stt} (h : Stat S) : 188 < S.2.2 := Nat.lt_of_lt_of_le (by decide) h.2.2
theorem sh_189 {S : Stt} (h : Stat S) : S.1 189 = (0, 16) := (h.1 189 (by decide)).trans (by decide +kernel)
theorem lq_189 {S : Stt} (h : Stat S) : 189 < S.2.2 := Nat.lt_of_lt_of_le (by decide) h.2.2
theorem sh_190 {S : Stt} (h : Stat S) : S.1 190 = (0, 16) := (h.1 190 (by decide)).trans (by decide +kernel)
theorem lq_190 {S : Stt} (h : Stat S) : 190 < S.2.2 := Nat.lt_of_lt_of_le (by decide) h.2.2
theorem sh_191 {S : Stt} (h : Stat S) : S.1 191 = (0, 16) := (h.1 191 (by decide)).trans (by decide +kernel)
theorem lq_191 {S : Stt} (h : Stat S) : 191 < S.2.2 := Nat.lt_of_lt_of_le (by decide) h.2.2
theorem sh_192 {S : Stt} (h : Stat S) : S.1 192 = (0, 10) := (h.1 192 (by decide)).trans (by decide +kernel)
theorem lq_192 {S : Stt} (h : Stat S) : 192 < S.2.2 := Nat.lt_of_lt_of_le (by decide) h.2.2
theorem sh_193 {S : Stt} (h : Stat S) : S.1 193 = (5, 0) := (h.1 193 (by decide)).trans (by decide +kernel)
theorem lq_193 {S : Stt} (h : Stat S) : 193 < S.2.2 := Nat.lt_of_lt_of_le (by decide) h.2.2
theorem sh_194 {S : Stt} (h : Stat S) : S.1 194 = (0, 16) := (h.1 194 (by decide)).trans (by decide +kernel)
theorem lq_194 {S : Stt} (h : Stat S) : 194 < S.2.2 := Nat.lt_of_lt_of_le (by decide) h.2.2
theorem sh_195 {S : Stt} (h : Stat S) : S.1 195 = (0, 16) := (h.1 195 (by decide)).trans (by decide +kernel)
theorem lq_195 {S : Stt} (h : Stat S) : 195 < S.2.2 := Nat.lt_of_lt_of_le (by decide) h.2.2
theorem sh_196 {S : Stt} (h : Stat S) : S.1 196 = (0, 16) := (h.1 196 (by decide)).trans (by decide +kernel)
theorem lq_196 {S : Stt} (h : Stat S) : 196 < S.2.2 := Nat.lt_of_lt_of_le (by decide) h.2.2
theorem sh_197 {S : Stt} (h : Stat S) : S.1 197 = (0, 16) := (h.1 197 (by decide)).trans (by decide +kernel)
theorem lq_197 {S : Stt} (h : Stat S) : 197 < S.2.2 := Nat.lt_of_lt_of_le (by decide) h.2.2
theorem sh_198 {S : Stt} (h : Stat S) : S.1 198 = (0, 10) := (h.1 198 (by decide)).trans (by decide +kernel)
theorem lq_198 {S : Stt} (h : Stat S) : 198 < S.2.2 := Nat.lt_of_lt_of_le (by decide) h.2.2
theorem sh_199 {S : Stt} (h : Stat S) : S.1 199 = (5, 0) := (h.1 199 (by decide)).trans (by decide +kernel)
theorem lq_199 {S : Stt} (h : Stat S) : 199 < S.2.2 := Nat.lt_of_lt_of_le (by decide) h.2.2
theorem sh_200 {S : Stt} (h : Stat S) : S.1 200 = (0, 16) := (h.1 200 (by decide)).trans (by decide +kernel)
theorem lq_200 {S : Stt} (h : Stat S) : 200 < S.2.2 := Nat.lt_of_lt_of_le (by decide) h.2.2
theorem sh_201 {S : Stt} (h : Stat S) : S.1 201 = (0, 16) := (h.1 201 (by decide)).trans (by decide +kernel)
theorem lq_201 {S : Stt} (h : Stat S) : 201 < S.2.2 := Nat.lt_of_lt_of_le (by decide) h.2.2
theorem sh_202 {S : Stt} (h : Stat S) : S.1 202 = (0, 16) := (h.1 202 (by decide)).trans (by decide +kernel)
theorem lq_202 {S : Stt} (h : Stat S) : 202 < S.2.2 := Nat.lt_of_lt_of_le (by decide) h.2.2
theorem sh_203 {S : Stt} (h : Stat S) : S.1 203 = (0, 16) := (h.1 203 (by decide)).trans (by decide +kernel)
theorem lq_203 {S : Stt} (h : Stat S) : 203 < S.2.2 := Nat.lt_of_lt_of_le (by decide) h.2.2
theorem sh_204 {S : Stt} (h : Stat S) : S.1 204 = (0, 10) := (h.1 204 (by decide)).trans (by decide +kernel)
theorem lq_204 {S : Stt} (h : Stat S) : 204 < S.2.2 := Nat.lt_of_lt_of_le (by decide) h.2.2
theorem sh_205 {S : Stt} (h : Stat S) : S.1 205 = (5, 0) := (h.1 205 (by decide)).trans (by decide +kernel)
theorem lq_205 {S : Stt} (h : Stat S) : 205 < S.2.2 := Nat.lt_of_lt_of_le (by decide) h.2.2
theorem sh_206 {S : Stt} (h : Stat S) : S.1 206 = (0, 16) := (h.1 206 (by decide)).trans (by decide +kernel)
theorem lq_206 {S : Stt} (h : Stat S) : 206 < S.2.2 := Nat.lt_of_lt_of_le (by decide) h.2.2
theorem sh_207 {S : Stt} (h : Stat S) : S.1 207 = (0, 16) := (h.1 207 (by decide)).trans (by decide +kernel)
theorem lq_207 {S : Stt} (h : Stat S) : 207 < S.2.2 := Nat.lt_of_lt_of_le (by decide) h.2.2
theorem sh_208 {S : Stt} (h : Stat S) : S.1 208 = (0, 16) := (h.1 208 (by decide)).trans (by decide +kernel)
theorem lq_208 {S : Stt} (h : Stat S) : 208 < S.2.2 := Nat.lt_of_lt_of_le (by decide) h.2.2
theorem sh_209 {S : Stt} (h : Stat S) : S.1 209 = (0, 16) := (h.1 209 (by decide)).trans (by decide +kernel)
theorem lq_209 {S : Stt} (h : Stat S) : 209 < S.2.2 := Nat.lt_of_lt_of_le (by decide) h.2.2
theorem sh_210 {S : Stt} (h : Stat S) : S.1 210 = (0, 10) := (h.1 210 (by decide)).trans (by decide +kernel)
theorem lq_210 {S : Stt} (h : Stat S) : 210 < S.2.2 := Nat.lt_of_lt_of_le (by decide) h.2.2
theorem sh_211 {S : Stt} (h : Stat S) : S.1 211 = (5, 0) := (h.1 211 (by decide)).trans (by decide +kernel)
theorem lq_211 {S : Stt} (h : Stat S) : 211 < S.2.2 := Nat.lt_of_lt_of_le (by decide) h.2.2
theorem sh_212 {S : Stt} (h : Stat S) : S.1 212 = (0, 16) := (h.1 212 (by decide)).trans (by decide +kernel)
theorem lq_212 {S : Stt} (h : Stat S) : 212 < S.2.2 := Nat.lt_of_lt_of_le (by decide) h.2.2
theorem sh_213 {S : Stt} (h : Stat S) : S.1 213 = (0, 16) := (h.1 213 (by decide)).trans (by decide +kernel)
theorem lq_213 {S : Stt} (h : Stat S) : 213 < S.2.2 := Nat.lt_of_lt_of_le (by decide) h.2.2
theorem sh_214 {S : Stt} (h : Stat S) : S.1 214 = (0, 16) := (h.1 214 (by decide)).trans (by decide +kernel)
theorem lq_214 {S : Stt} (h : Stat S) : 214 < S.2.2 := Nat.lt_of_lt_of_le (by decide) h.2.2
theorem sh_215 {S : Stt} (h : Stat S) : S.1 215 = (0, 16) := (h.1 215 (by decide)).trans (by decide +kernel)
theorem lq_215 {S : Stt} (h : Stat S) : 215 < S.2.2 := Nat.lt_of_lt_of_le (by decide) h.2.2
theorem sh_216 {S : Stt} (h : Stat S) : S.1 216 = (0, 10) := (h.1 216 (by decide)).trans (by decide +kernel)
theorem lq_216 {S : Stt} (h : Stat S) : 216 < S.2.2 := Nat.lt_of_lt_of_le (by decide) h.2.2
theorem sh_217 {S : Stt} (h : Stat S) : S.1 217 = (5, 0) := (h.1 217 (by decide)).trans (by decide +kernel)
theorem lq_217 {S : Stt} (h : Stat S) : 217 < S.2.2 := Nat.lt_of_lt_of_le (by decide) h.2.2
theorem sh_218 {S : Stt} (h : Stat S) : S.1 218 = (0, 16) := (h.1 218 (by decide)).trans (by decide +kernel)
theorem lq_218 {S : Stt} (h : Stat S) : 218 < S.2.2 := Nat.lt_of_lt_of_le (by decide) h.2.2
theorem sh_219 {S : Stt} (h : Stat S) : S.1 219 = (0, 16) := (h.1 219 (by decide)).trans (by decide +kernel)
theorem lq_219 {S : Stt} (h : Stat S) : 219 < S.2.2 := Nat.lt_of_lt_of_le (by decide) h.2.2
theorem sh_220 {S : Stt} (h : Stat S) : S.1 220 = (0, 16) := (h.1 220 (by decide)).trans (by decide +kernel)
theorem lq_220 {S : Stt} (h : Stat S) : 220 < S.2.2 := Nat.lt_of_lt_of_le (by decide) h.2.2
theorem sh_221 {S : Stt} (h : Stat S) : S.1 221 = (0, 16) := (h.1 221 (by decide)).trans (by decide +kernel)
theorem lq_221 {S : Stt} (h : Stat S) : 221 < S.2.2 := Nat.lt_of_lt_of_le (by decide) h.2.2
theorem sh_222 {S : Stt} (h : Stat S) : S.1 222 = (0, 10) := (h.1 222 (by decide)).trans (by decide +kernel)
theorem lq_222 {S : Stt} (h : Stat S) : 222 < S.2.2 := Nat.lt_of_lt_of_le (by decide) h.2.2
theorem sh_223 {S : Stt} (h : Stat S) : S.1 223 = (5, 0) := (h.1 223 (by decide)).trans (by decide +kernel)
theorem lq_223 {S : Stt} (h : Stat S) : 223 < S.2.2 := Nat.lt_of_lt_of_le (by decide) h.2.2
theorem sh_224 {S : Stt} (h : Stat S) : S.1 224 = (0, 16) := (h.1 224 (by decide)).trans (by decide +kernel)
theorem lq_224 {S : Stt} (h : Stat S) : 224 < S.2.2 := Nat.lt_of_lt_of_le (by decide) h.2.2
theorem sh_225 {S : Stt} (h : Stat S) : S.1 225 = (0, 16) := (h.1 225 (by decide)).trans (by decide +kernel)
theorem lq_225 {S : Stt} (h : Stat S) : 225 < S.2.2 := Nat.lt_of_lt_of_le (by decide) h.2.2
theorem sh_226 {S : Stt} (h : Stat S) : S.1 226 = (0, 16) := (h.1 226 (by decide)).trans (by decide +kernel)
theorem lq_226 {S : Stt} (h : Stat S) : 226 < S.2.2 := Nat.lt_of_lt_of_le (by decide) h.2.2
theorem sh_227 {S : Stt} (h : Stat S) : S.1 227 = (0, 16) := (h.1 227 (by decide)).trans (by decide +kernel)
theorem lq_227 {S : Stt} (h : Stat S) : 227 < S.2.2 := Nat.lt_of_lt_of_le (by decide) h.2.2
theorem sh_228 {S : Stt} (h : Stat S) : S.1 228 = (0, 10) := (h.1 228 (by decide)).trans (by decide +kernel)
theorem lq_228 {S : Stt} (h : Stat S) : 228 < S.2.2 := Nat.lt_of_lt_of_le (by decide) h.2.2
theorem sh_229 {S : Stt} (h : Stat S) : S.1 229 = (5, 0) := (h.1 229 (by decide)).trans (by decide +kernel)
theorem lq_229 {S : Stt} (h : Stat S) : 229 < S.2.2 := Nat.lt_of_lt_of_le (by decide) h.2.2
theorem sh_230 {S : Stt} (h : Stat S) : S.1 230 = (0, 16) := (h.1 230 (by decide)).trans (by decide +kernel)
theorem lq_230 {S : Stt} (h : Stat S) : 230 < S.2.2 := Nat.lt_of_lt_of_le (by decide) h.2.2
theorem sh_231 {S : Stt} (h : Stat S) : S.1 231 = (0, 16) := (h.1 231 (by decide)).trans (by decide +kernel)
theorem lq_231 {S : Stt} (h : Stat S) : 231 < S.2.2 := Nat.lt_of_lt_of_le (by decide) h.2.2
theorem sh_232 {S : Stt} (h : Stat S) : S.1 232 = (0, 16) := (h.1 232 (by decide)).trans (by decide +kernel)
theorem lq_232 {S : Stt} (h : Stat S) : 232 < S.2.2 := Nat.lt_of_lt_of_le (by decide) h.2.2
theorem sh_233 {S : Stt} (h : Stat S) : S.1 233 = (0, 16) := (h.1 233 (by decide)).trans (by decide +kernel)
theorem lq_233 {S : Stt} (h : Stat S) : 233 < S.2.2 := Nat.lt_of_lt_of_le (by decide) h.2.2
theorem sh_234 {S : Stt} (h : Stat S) : S.1 234 = (0, 10) := (h.1 234 (by decide)).trans (by decide +kernel)
theorem lq_234 {S : Stt} (h : Stat S) : 234 < S.2.2 := Nat.lt_of_lt_of_le (by decide) h.2.2
theorem sh_235 {S : Stt} (h : Stat S) : S.1 235 = (5, 0) := (h.1 235 (by decide)).trans (by decide +kernel)
theorem lq_235 {S : Stt} (h : Stat S) : 235 < S.2.2 := Nat.lt_of_lt_of_le (by decide) h.2.2
theorem sh_236 {S : Stt} (h : Stat S) : S.1 236 = (0, 16) := (h.1 236 (by decide)).trans (by decide +kernel)
theorem lq_236 {S : Stt} (h : Stat S) : 236 < S.2.2 := Nat.lt_of_lt_of_le (by decide) h.2.2
theorem sh_237 {S : Stt} (h : Stat S) : S.1 237 = (0, 16) := (h.1 237 (by decide)).trans (by decide +kernel)
theorem lq_237 {S : Stt} (h : Stat S) : 237 < S.2.2 := Nat.lt_of_lt_of_le (by decide) h.2.2
theorem sh_238 {S : Stt} (h : Stat S) : S.1 238 = (0, 16) := (h.1 238 (by decide)).trans (by decide +kernel)
theorem lq_238 {S : Stt} (h : Stat S) : 238 < S.2.2 := Nat.lt_of_lt_of_le (by decide) h.2.2
theorem sh_239 {S : Stt} (h : Stat S) : S.1 239 = (0, 16) := (h.1 239 (by decide)).trans (by decide +kernel)
theorem lq_239 {S : Stt} (h : Stat S) : 239 < S.2.2 := Nat.lt_of_lt_of_le (by decide) h.2.2
theorem sh_240 {S : Stt} (h : Stat S) : S.1 240 = (0, 10) := (h.1 240 (by decide)).trans (by decide +kernel)
theorem lq_240 {S : Stt} (h : Stat S) : 240 < S.2.2 := Nat.lt_of_lt_of_le (by decide) h.2.2
theorem sh_241 {S : Stt} (h : Stat S) : S.1 241 = (5, 0) := (h.1 241 (by decide)).trans (by decide +kernel)
theorem lq_241 {S : Stt} (h : Stat S) : 241 < S.2.2 := Nat.lt_of_lt_of_le (by decide) h.2.2
theorem sh_242 {S : Stt} (h : Stat S) : S.1 242 = (0, 16) := (h.1 242 (by decide)).trans (by decide +kernel)
theorem lq_242 {S : Stt} (h : Stat S) : 242 < S.2.2 := Nat.lt_of_lt_of_le (by decide) h.2.2
theorem sh_243 {S : Stt} (h : Stat S) : S.1 243 = (0, 16) := (h.1 243 (by decide)).trans (by decide +kernel)
theorem lq_243 {S : Stt} (h : Stat S) : 243 < S.2.2 := Nat.lt_of_lt_of_le (by decide) h.2.2
theorem sh_244 {S : Stt} (h : Stat S) : S.1 244 = (0, 16) := (h.1 244 (by decide)).trans (by decide +kernel)
theorem lq_244 {S : Stt} (h : Stat S) : 244 < S.2.2 := Nat.lt_of_lt_of_le (by decide) h.2.2
theorem sh_245 {S : Stt} (h : Stat S) : S.1 245 = (0, 16) := (h.1 245 (by decide)).trans (by decide +kernel)
theorem lq_245 {S : Stt} (h : Stat S) : 245 < S.2.2 := Nat.lt_of_lt_of_le (by decide) h.2.2
theorem sh_246 {S : Stt} (h : Stat S) : S.1 246 = (0, 10) := (h.1 246 (by decide)).trans (by decide +kernel)
theorem lq_246 {S : Stt} (h : Stat S) : 246 < S.2.2 := Nat.lt_of_lt_of_le (by decide) h.2.2
theorem sh_247 {S : Stt} (h : Stat S) : S.1 247 = (5, 0) := (h.1 247 (by decide)).trans (by decide +kernel)
theorem lq_247 {S : Stt} (h : Stat S) : 247 < S.2.2 := Nat.lt_of_lt_of_le (by decide) h.2.2
theorem sh_248 {S : Stt} (h : Stat S) : S.1 248 = (0, 16) := (h.1 248 (by decide)).trans (by decide +kernel)
theorem lq_248 {S : Stt} (h : Stat S) : 248 < S.2.2 := Nat.lt_of_lt_of_le (by decide) h.2.2
theorem sh_249 {S : Stt} (h : Stat S) : S.1 249 = (0, 16) := (h.1 249 (by decide)).trans (by decide +kernel)
theorem lq_249 {S : Stt} (h : Stat S) : 249 < S.2.2 := Nat.lt_of_lt_of_le (by decide) h.2.2
theorem sh_250 {S : Stt} (h : Stat S) : S.1 250 = (0, 16) := (h.1 250 (by decide)).trans (by decide +kernel)
theorem lq_250 {S : Stt} (h : Stat S) : 250 < S.2.2 := Nat.lt_of_lt_of_le (by decide) h.2.2
theorem sh_251 {S : Stt} (h : Stat S) : S.1 251 = (0, 16) := (h.1 251 (by decide)).trans (by decide +kernel)
theorem lq_251 {S : Stt} (h : Stat S) : 251 < S.2.2 := Nat.lt_of_lt_of_le (by decide) h.2.2
theorem sh_252 {S : Stt} (h : Stat S) : S.1 252 = (0, 10) := (h.1 252 (by decide)).trans (by decide +kernel)
theorem lq_252 {S : Stt} (h : Stat S) : 252 < S.2.2 := Nat.lt_of_lt_of_le (by decide) h.2.2
theorem sh_253 {S : Stt} (h : Stat S) : S.1 253 = (5, 0) := (h.1 253 (by decide)).trans (by decide +kernel)
theorem lq_253 {S : Stt} (h : Stat S) : 253 < S.2.2 := Nat.lt_of_lt_of_le (by decide) h.2.2
theorem sh_254 {S : Stt} (h : Stat S) : S.1 254 = (0, 16) := (h.1 254 (by decide)).trans (by decide +kernel)
theorem lq_254 {S : Stt} (h : Stat S) : 254 < S.2.2 := Nat.lt_of_lt_of_le (by decide) h.2.2
theorem sh_255 {S : Stt} (h : Stat S) : S.1 255 = (0, 16) := (h.1 255 (by decide)).trans (by decide +kernel)
theorem lq_255 {S : Stt} (h : Stat S) : 255 < S.2.2 := Nat.lt_of_lt_of_le (by decide) h.2.2
theorem sh_256 {S : Stt} (h : Stat S) : S.1 256 = (0, 16) := (h.1 256 (by decide)).trans (by decide +kernel)
theorem lq_256 {S : Stt} (h : Stat S) : 256 < S.2.2 := Nat.lt_of_lt_of_le (by decide) h.2.2
theorem sh_257 {S : Stt} (h : Stat S) : S.1 257 = (0, 16) := (h.1 257 (by decide)).trans (by decide +kernel)
theorem lq_257 {S : Stt} (h : Stat S) : 257 < S.2.2 := Nat.lt_of_lt_of_le (by decide) h.2.2
theorem sh_258 {S : Stt} (h : Stat S) : S.1 258 = (0, 10) := (h.1 258 (by decide)).trans (by decide +kernel)
theorem lq_258 {S : Stt} (h : Stat S) : 258 < S.2.2 := Nat.lt_of_lt_of_le (by decide) h.2.2
theorem sh_259 {S : Stt} (h : Stat S) : S.1 259 = (5, 0) := (h.1 259 (by decide)).trans (by decide +kernel)
theorem lq_259 {S : Stt} (h : Stat S) : 259 < S.2.2 := Nat.lt_of_lt_of_le (by decide) h.2.2
theorem sh_260 {S : Stt} (h : Stat S) : S.1 260 = (0, 16) := (h.1 260 (by decide)).trans (by decide +kernel)
theorem lq_260 {S : Stt} (h : Stat S) : 260 < S.2.2 := Nat.lt_of_lt_of_le (by decide) h.2.2
theorem sh_261 {S : Stt} (h : Stat S) : S.1 261 = (0, 16) := (h.1 261 (by decide)).trans (by decide +kernel)
theorem lq_261 {S : Stt} (h : Stat S) : 261 < S.2.2 := Nat.lt_of_lt_of_le (by decide) h.2.2
theorem sh_262 {S : Stt} (h : Stat S) : S.1 262 = (0, 16) := (h.1 262 (by decide)).trans (by decide +kernel)
theorem lq_262 {S : Stt} (h : Stat S) : 262 < S.2.2 := Nat.lt_of_lt_of_le (by decide) h.2.2
theorem sh_263 {S : Stt} (h : Stat S) : S.1 263 = (0, 16) := (h.1 263 (by decide)).trans (by decide +kernel)
theorem lq_263 {S : Stt} (h : Stat S) : 263 < S.2.2 := Nat.lt_of_lt_of_le (by decide) h.2.2
theorem sh_264 {S : Stt} (h : Stat S) : S.1 264 = (0, 10) := (h.1 264 (by decide)).trans (by decide +kernel)
theorem lq_264 {S : Stt} (h : Stat S) : 264 < S.2.2 := Nat.lt_of_lt_of_le (by decide) h.2.2
theorem sh_265 {S : Stt} (h : Stat S) : S.1 265 = (5, 0) := (h.1 265 (by decide)).trans (by decide +kernel)
theorem lq_265 {S : Stt} (h : Stat S) : 265 < S.2.2 := Nat.lt_of_lt_of_le (by decide) h.2.2
theorem sh_266 {S : Stt} (h : Stat S) : S.1 266 = (0, 16) := (h.1 266 (by decide)).trans (by decide +kernel)
theorem lq_266 {S : Stt} (h : Stat S) : 266 < S.2.2 := Nat.lt_of_lt_of_le (by decide) h.2.2
theorem sh_267 {S : Stt} (h : Stat S) : S.1 267 = (0, 16) := (h.1 267 (by decide)).trans (by decide +kernel)
theorem lq_267 {S : Stt} (h : Stat S) : 267 < S.2.2 := Nat.lt_of_lt_of_le (by decide) h.2.2
theorem sh_268 {S : Stt} (h : Stat S) : S.1 268 = (0, 16) := (h.1 268 (by decide)).trans (by decide +kernel)
theorem lq_268 {S : Stt} (h : Stat S) : 268 < S.2.2 := Nat.lt_of_lt_of_le (by decide) h.2.2
theorem sh_269 {S : Stt} (h : Stat S) : S.1 269 = (0, 16) := (h.1 269 (by decide)).trans (by decide +kernel)
theorem lq_269 {S : Stt} (h : Stat S) : 269 < S.2.2 := Nat.lt_of_lt_of_le (by decide) h.2.2
theorem sh_270 {S : Stt} (h : Stat S) : S.1 270 = (0, 10) := (h.1 270 (by decide)).trans (by decide +kernel)
theorem lq_270 {S : Stt} (h : Stat S) : 270 < S.2.2 := Nat.lt_of_lt_of_le (by decide) h.2.2
theorem sh_271 {S : Stt} (h : Stat S) : S.1 271 = (3, 4) := (h.1 271 (by decide)).trans (by decide +kernel)
theorem lq_271 {S : Stt} (h : Stat S) : 271 < S.2.2 := Nat.lt_of_lt_of_le (by decide) h.2.2
theorem sh_272 {S : Stt} (h : Stat S) : S.1 272 = (10, 0) := (h.1 272 (by decide)).trans (by decide +kernel)
theorem lq_272 {S : Stt} (h : Stat S) : 272 < S.2.2 := Nat.lt_of_lt_of_le (by decide) h.2.2
theorem sh_273 {S : Stt} (h : Stat S) : S.1 273 = (0, 12) := (h.1 273 (by decide)).trans (by decide +kernel)
theorem lq_273 {S : Stt} (h : Stat S) : 273 < S.2.2 := Nat.lt_of_lt_of_le (by decide) h.2.2
theorem sh_274 {S : Stt} (h : Stat S) : S.1 274 = (0, 12) := (h.1 274 (by decide)).trans (by decide +kernel)
theorem lq_274 {S : Stt} (h : Stat S) : 274 < S.2.2 := Nat.lt_of_lt_of_le (by decide) h.2.2
theorem sh_275 {S : Stt} (h : Stat S) : S.1 275 = (0, 12) := (h.1 275 (by decide)).trans (by decide +kernel)
theorem lq_275 {S : Stt} (h : Stat S) : 275 < S.2.2 := Nat.lt_of_lt_of_le (by decide) h.2.2
theorem sh_276 {S : Stt} (h : Stat S) : S.1 276 = (0, 12) := (h.1 276 (by decide)).trans (by decide +kernel)
theorem lq_276 {S : Stt} (h : Stat S) : 276 < S.2.2 := Nat.lt_of_lt_of_le (by decide) h.2.2
theorem sh_277 {S : Stt} (h : Stat S) : S.1 277 = (8, 0) := (h.1 277 (by decide)).trans (by decide +kernel)
theorem lq_277 {S : Stt} (h : Stat S) : 277 < S.2.2 := Nat.lt_of_lt_of_le (by decide) h.2.2
theorem sh_278 {S : Stt} (h : Stat S) : S.1 278 = (0, 300) := (h.1 278 (by decide)).trans (by decide +kernel)
theorem lq_278 {S : Stt} (h : Stat S) : 278 < S.2.2 := Nat.lt_of_lt_of_le (by decide) h.2.2
theorem sh_279 {S : Stt} (h : Stat S) : S.1 279 = (0, 301) := (h.1 279 (by decide)).trans (by decide +kernel)
theorem lq_279 {S : Stt} (h : Stat S) : 279 < S.2.2 := Nat.lt_of_lt_of_le (by decide) h.2.2
theorem sh_280 {S : Stt} (h : Stat S) : S.1 280 = (0, 301) := (h.1 280 (by decide)).trans (by decide +kernel)
theorem lq_280 {S : Stt} (h : Stat S) : 280 < S.2.2 := Nat.lt_of_lt_of_le (by decide) h.2.2
theorem sh_281 {S : Stt} (h : Stat S) : S.1 281 = (0, 301) := (h.1 281 (by decide)).trans (by decide +kernel)
theorem lq_281 {S : Stt} (h : Stat S) : 281 < S.2.2 := Nat.lt_of_lt_of_le (by decide) h.2.2
theorem sh_282 {S : Stt} (h : Stat S) : S.1 282 = (0, 96) := (h.1 282 (by decide)).trans (by decide +kernel)
theorem lq_282 {S : Stt} (h : Stat S) : 282 < S.2.2 := Nat.lt_of_lt_of_le (by decide) h.2.2
theorem sh_283 {S : Stt} (h : Stat S) : S.1 283 = (0, 300) := (h.1 283 (by decide)).trans (by decide +kernel)
theorem lq_283 {S : Stt} (h : Stat S) : 283 < S.2.2 := Nat.lt_of_lt_of_le (by decide) h.2.2
theorem sh_284 {S : Stt} (h : Stat S) : S.1 284 = (0, 3) := (h.1 284 (by decide)).trans (by decide +kernel)
theorem lq_284 {S : Stt} (h : Stat S) : 284 < S.2.2 := Nat.lt_of_lt_of_le (by decide) h.2.2
theorem sh_285 {S : Stt} (h : Stat S) : S.1 285 = (0, 3) := (h.1 285 (by decide)).trans (by decide +kernel)
theorem lq_285 {S : Stt} (h : Stat S) : 285 < S.2.2 := Nat.lt_of_lt_of_le (by decide) h.2.2
theorem sh_286 {S : Stt} (h : Stat S) : S.1 286 = (0, 20) := (h.1 286 (by decide)).trans (by decide +kernel)
theorem lq_286 {S : Stt} (h : Stat S) : 286 < S.2.2 := Nat.lt_of_lt_of_le (by decide) h.2.2
theorem sh_287 {S : Stt} (h : Stat S) : S.1 287 = (7, 0) := (h.1 287 (by decide)).trans (by decide +kernel)
theorem lq_287 {S : Stt} (h : Stat S) : 287 < S.2.2 := Nat.lt_of_lt_of_le (by decide) h.2.2
theorem sh_288 {S : Stt} (h : Stat S) : S.1 288 = (0, 301) := (h.1 288 (by decide)).trans (by decide +kernel)
theorem lq_288 {S : Stt} (h : Stat S) : 288 < S.2.2 := Nat.lt_of_lt_of_le (by decide) h.2.2
theorem sh_289 {S : Stt} (h : Stat S) : S.1 289 = (11, 0) := (h.1 289 (by decide)).trans (by decide +kernel)
theorem lq_289 {S : Stt} (h : Stat S) : 289 < S.2.2 := Nat.lt_of_lt_of_le (by decide) h.2.2
theorem sh_290 {S : Stt} (h : Stat S) : S.1 290 = (0, 12) := (h.1 290 (by decide)).trans (by decide +kernel)
theorem lq_290 {S : Stt} (h : Stat S) : 290 < S.2.2 := Nat.lt_of_lt_of_le (by decide) h.2.2
theorem sh_291 {S : Stt} (h : Stat S) : S.1 291 = (0, 12) := (h.1 291 (by decide)).trans (by decide +kernel)
theorem lq_291 {S : Stt} (h : Stat S) : 291 < S.2.2 := Nat.lt_of_lt_of_le (by decide) h.2.2
theorem sh_292 {S : Stt} (h : Stat S) : S.1 292 = (0, 12) := (h.1 292 (by decide)).trans (by decide +kernel)
theorem lq_292 {S : Stt} (h : Stat S) : 292 < S.2.2 := Nat.lt_of_lt_of_le (by decide) h.2.2
theorem sh_293 {S : Stt} (h : Stat S) : S.1 293 = (0, 12) := (h.1 293 (by decide)).trans (by decide +kernel)
theorem lq_293 {S : Stt} (h : Stat S) : 293 < S.2.2 := Nat.lt_of_lt_of_le (by decide) h.2.2
theorem sh_294 {S : Stt} (h : Stat S) : S.1 294 = (0, 12) := (h.1 294 (by decide)).trans (by decide +kernel)
theorem lq_294 {S : Stt} (h : Stat S) : 294 < S.2.2 := Nat.lt_of_lt_of_le (by decide) h.2.2
theorem sh_295 {S : Stt} (h : Stat S) : S.1 295 = (0, 12) := (h.1 295 (by decide)).trans (by decide +kernel)
theorem lq_295 {S : Stt} (h : Stat S) : 295 < S.2.2 := Nat.lt_of_lt_of_le (by decide) h.2.2
theorem sh_296 {S : Stt} (h : Stat S) : S.1 296 = (0, 12) := (h.1 296 (by decide)).trans (by decide +kernel)
theorem lq_296 {S : Stt} (h : Stat S) : 296 < S.2.2 := Nat.lt_of_lt_of_le (by decide) h.2.2
theorem sh_297 {S : Stt} (h : Stat S) : S.1 297 = (6, 0) := (h.1 297 (by decide)).trans (by decide +kernel)
theorem lq_297 {S : Stt} (h : Stat S) : 297 < S.2.2 := Nat.lt_of_lt_of_le (by decide) h.2.2
theorem sh_298 {S : Stt} (h : Stat S) : S.1 298 = (0, 12) := (h.1 298 (by decide)).trans (by decide +kernel)
theorem lq_298 {S : Stt} (h : Stat S) : 298 < S.2.2 := Nat.lt_of_lt_of_le (by decide) h.2.2
theorem sh_299 {S : Stt} (h : Stat S) : S.1 299 = (0, 12) := (h.1 299 (by decide)).trans (by decide +kernel)
theorem lq_299 {S : Stt} (h : Stat S) : 299 < S.2.2 := Nat.lt_of_lt_of_le (by decide) h.2.2
theorem sh_300 {S : Stt} (h : Stat S) : S.1 300 = (1, 12) := (h.1 300 (by decide)).trans (by decide +kernel)
theorem lq_300 {S : Stt} (h : Stat S) : 300 < S.2.2 := Nat.lt_of_lt_of_le (by decide) h.2.2
theorem sh_301 {S : Stt} (h : Stat S) : S.1 301 = (1, 2048) := (h.1 301 (by decide)).trans (by decide +kernel)
theorem lq_301 {S : Stt} (h : Stat S) : 301 < S.2.2 := Nat.lt_of_lt_of_le (by decide) h.2.2
theorem sh_302 {S : Stt} (h : Stat S) : S.1 302 = (1, 2048) := (h.1 302 (by decide)).trans (by decide +kernel)
theorem lq_302 {S : Stt} (h : Stat S) : 302 < S.2.2 := Nat.lt_of_lt_of_le (by decide) h.2.2
theorem sh_303 {S : Stt} (h : Stat S) : S.1 303 = (9, 0) := (h.1 303 (by decide)).trans (by decide +kernel)
theorem lq_303 {S : Stt} (h : Stat S) : 303 < S.2.2 := Nat.lt_of_lt_of_le (by decide) h.2.2
theorem sh_304 {S : Stt} (h : Stat S) : S.1 304 = (0, 8) := (h.1 304 (by decide)).trans (by decide +kernel)
theorem lq_304 {S : Stt} (h : Stat S) : 304 < S.2.2 := Nat.lt_of_lt_of_le (by decide) h.2.2
theorem sh_305 {S : Stt} (h : Stat S) : S.1 305 = (0, 8) := (h.1 305 (by decide)).trans (by decide +kernel)
theorem lq_305 {S : Stt} (h : Stat S) : 305 < S.2.2 := Nat.lt_of_lt_of_le (by decide) h.2.2
theorem sh_306 {S : Stt} (h : Stat S) : S.1 306 = (0, 64) := (h.1 306 (by decide)).trans (by decide +kernel)
theorem lq_306 {S : Stt} (h : Stat S) : 306 < S.2.2 := Nat.lt_of_lt_of_le (by decide) h.2.2
theorem sh_307 {S : Stt} (h : Stat S) : S.1 307 = (0, 1024) := (h.1 307 (by decide)).trans (by decide +kernel)
theorem lq_307 {S : Stt} (h : Stat S) : 307 < S.2.2 := Nat.lt_of_lt_of_le (by decide) h.2.2
theorem sh_308 {S : Stt} (h : Stat S) : S.1 308 = (16, 0) := (h.1 308 (by decide)).trans (by decide +kernel)
theorem lq_308 {S : Stt} (h : Stat S) : 308 < S.2.2 := Nat.lt_of_lt_of_le (by decide) h.2.2
theorem sh_309 {S : Stt} (h : Stat S) : S.1 309 = (0, 1814) := (h.1 309 (by decide)).trans (by decide +kernel)
theorem lq_309 {S : Stt} (h : Stat S) : 309 < S.2.2 := Nat.lt_of_lt_of_le (by decide) h.2.2
theorem sh_310 {S : Stt} (h : Stat S) : S.1 310 = (0, 1814) := (h.1 310 (by decide)).trans (by decide +kernel)
theorem lq_310 {S : Stt} (h : Stat S) : 310 < S.2.2 := Nat.lt_of_lt_of_le (by decide) h.2.2
theorem sh_311 {S : Stt} (h : Stat S) : S.1 311 = (0, 2800) := (h.1 311 (by decide)).trans (by decide +kernel)
theorem lq_311 {S : Stt} (h : Stat S) : 311 < S.2.2 := Nat.lt_of_lt_of_le (by decide) h.2.2
theorem sh_312 {S : Stt} (h : Stat S) : S.1 312 = (0, 300) := (h.1 312 (by decide)).trans (by decide +kernel)
theorem lq_312 {S : Stt} (h : Stat S) : 312 < S.2.2 := Nat.lt_of_lt_of_le (by decide) h.2.2
theorem sh_313 {S : Stt} (h : Stat S) : S.1 313 = (0, 160) := (h.1 313 (by decide)).trans (by decide +kernel)
theorem lq_313 {S : Stt} (h : Stat S) : 313 < S.2.2 := Nat.lt_of_lt_of_le (by decide) h.2.2
theorem sh_314 {S : Stt} (h : Stat S) : S.1 314 = (0, 8) := (h.1 314 (by decide)).trans (by decide +kernel)
theorem lq_314 {S : Stt} (h : Stat S) : 314 < S.2.2 := Nat.lt_of_lt_of_le (by decide) h.2.2
theorem sh_315 {S : Stt} (h : Stat S) : S.1 315 = (1, 330) := (h.1 315 (by decide)).trans (by decide +kernel)
theorem lq_315 {S : Stt} (h : Stat S) : 315 < S.2.2 := Nat.lt_of_lt_of_le (by decide) h.2.2
theorem sh_316 {S : Stt} (h : Stat S) : S.1 316 = (2, 330) := (h.1 316 (by decide)).trans (by decide +kernel)
theorem lq_316 {S : Stt} (h : Stat S) : 316 < S.2.2 := Nat.lt_of_lt_of_le (by decide) h.2.2
theorem sh_317 {S : Stt} (h : Stat S) : S.1 317 = (0, 16) := (h.1 317 (by decide)).trans (by decide +kernel)
theorem lq_317 {S : Stt} (h : Stat S) : 317 < S.2.2 := Nat.lt_of_lt_of_le (by decide) h.2.2
theorem sh_318 {S : Stt} (h : Stat S) : S.1 318 = (0, 16) := (h.1 318 (by decide)).trans (by decide +kernel)
theorem lq_318 {S : Stt} (h : Stat S) : 318 < S.2.2 := Nat.lt_of_lt_of_le (by decide) h.2.2
theorem sh_319 {S : Stt} (h : Stat S) : S.1 319 = (0, 16) := (h.1 319 (by decide)).trans (by decide +kernel)
theorem lq_319 {S : Stt} (h : Stat S) : 319 < S.2.2 := Nat.lt_of_lt_of_le (by decide) h.2.2
theorem sh_320 {S : Stt} (h : Stat S) : S.1 320 = (0, 17) := (h.1 320 (by decide)).trans (by decide +kernel)
theorem lq_320 {S : Stt} (h : Stat S) : 320 < S.2.2 := Nat.lt_of_lt_of_le (by decide) h.2.2
theorem sh_321 {S : Stt} (h : Stat S) : S.1 321 = (0, 53248) := (h.1 321 (by decide)).trans (by decide +kernel)
theorem lq_321 {S : Stt} (h : Stat S) : 321 < S.2.2 := Nat.lt_of_lt_of_le (by decide) h.2.2
theorem sh_322 {S : Stt} (h : Stat S) : S.1 322 = (1, 53248) := (h.1 322 (by decide)).trans (by decide +kernel)
theorem lq_322 {S : Stt} (h : Stat S) : 322 < S.2.2 := Nat.lt_of_lt_of_le (by decide) h.2.2
theorem sh_323 {S : Stt} (h : Stat S) : S.1 323 = (2, 144) := (h.1 323 (by decide)).trans (by decide +kernel)
theorem lq_323 {S : Stt} (h : Stat S) : 323 < S.2.2 := Nat.lt_of_lt_of_le (by decide) h.2.2
theorem sh_324 {S : Stt} (h : Stat S) : S.1 324 = (0, 8) := (h.1 324 (by decide)).trans (by decide +kernel)
theorem lq_324 {S : Stt} (h : Stat S) : 324 < S.2.2 := Nat.lt_of_lt_of_le (by decide) h.2.2
theorem sh_325 {S : Stt} (h : Stat S) : S.1 325 = (0, 8) := (h.1 325 (by decide)).trans (by decide +kernel)
theorem lq_325 {S : Stt} (h : Stat S) : 325 < S.2.2 := Nat.lt_of_lt_of_le (by decide) h.2.2
theorem rf_0_0 {S : Stt} (h : Stat S) : S.2.1 0 0 = some 1 := h.2.1 (0, 0, 1) (List.mem_of_getElem? (i := 0) (by decide +kernel))
theorem rf_0_1 {S : Stt} (h : Stat S) : S.2.1 0 1 = some 139 := h.2.1 (0, 1, 139) (List.mem_of_getElem? (i := 1) (by decide +kernel))
theorem rf_0_2 {S : Stt} (h : Stat S) : S.2.1 0 2 = some 277 := h.2.1 (0, 2, 277) (List.mem_of_getElem? (i := 2) (by decide +kernel))
theorem rf_0_3 {S : Stt} (h : Stat S) : S.2.1 0 3 = some 287 := h.2.1 (0, 3, 287) (List.mem_of_getElem? (i := 3) (by decide +kernel))
theorem rf_0_4 {S : Stt} (h : Stat S) : S.2.1 0 4 = some 289 := h.2.1 (0, 4, 289) (List.mem_of_getElem? (i := 4) (by decide +kernel))
theorem rf_0_5 {S : Stt} (h : Stat S) : S.2.1 0 5 = some 297 := h.2.1 (0, 5, 297) (List.mem_of_getElem? (i := 5) (by decide +kernel))
theorem rf_0_6 {S : Stt} (h : Stat S) : S.2.1 0 6 = some 303 := h.2.1 (0, 6, 303) (List.mem_of_getElem? (i := 6) (by decide +kernel))
theorem rf_1_0 {S : Stt} (h : Stat S) : S.2.1 1 0 = some 2 := h.2.1 (1, 0, 2) (List.mem_of_getElem? (i := 7) (by decide +kernel))
theorem rf_1_1 {S : Stt} (h : Stat S) : S.2.1 1 1 = some 3 := h.2.1 (1, 1, 3) (List.mem_of_getElem? (i := 8) (by decide +kernel))
theorem rf_1_2 {S : Stt} (h : Stat S) : S.2.1 1 2 = some 4 := h.2.1 (1, 2, 4) (List.mem_of_getElem? (i := 9) (by decide +kernel))
theorem rf_1_3 {S : Stt} (h : Stat S) : S.2.1 1 3 = some 5 := h.2.1 (1, 3, 5) (List.mem_of_getElem? (i := 10) (by decide +kernel))
theorem rf_1_4 {S : Stt} (h : Stat S) : S.2.1 1 4 = some 11 := h.2.1 (1, 4, 11) (List.mem_of_getElem? (i := 11) (by decide +kernel))
theorem rf_1_5 {S : Stt} (h : Stat S) : S.2.1 1 5 = some 133 := h.2.1 (1, 5, 133) (List.mem_of_getElem? (i := 12) (by decide +kernel))
theorem rf_1_6 {S : Stt} (h : Stat S) : S.2.1 1 6 = some 134 := h.2.1 (1, 6, 134) (List.mem_of_getElem? (i := 13) (by decide +kernel))
theorem rf_5_0 {S : Stt} (h : Stat S) : S.2.1 5 0 = some 6 := h.2.1 (5, 0, 6) (List.mem_of_getElem? (i := 14) (by decide +kernel))
theorem rf_5_1 {S : Stt} (h : Stat S) : S.2.1 5 1 = some 7 := h.2.1 (5, 1, 7) (List.mem_of_getElem? (i := 15) (by decide +kernel))
theorem rf_5_2 {S : Stt} (h : Stat S) : S.2.1 5 2 = some 8 := h.2.1 (5, 2, 8) (List.mem_of_getElem? (i := 16) (by decide +kernel))
theorem rf_5_3 {S : Stt} (h : Stat S) : S.2.1 5 3 = some 9 := h.2.1 (5, 3, 9) (List.mem_of_getElem? (i := 17) (by decide +kernel))
theorem rf_5_4 {S : Stt} (h : Stat S) : S.2.1 5 4 = some 10 := h.2.1 (5, 4, 10) (List.mem_of_getElem? (i := 18) (by decide +kernel))
theorem rf_11_0 {S : Stt} (h : Stat S) : S.2.1 11 0 = some 12 := h.2.1 (11, 0, 12) (List.mem_of_getElem? (i := 19) (by decide +kernel))
theorem rf_12_0 {S : Stt} (h : Stat S) : S.2.1 12 0 = some 13 := h.2.1 (12, 0, 13) (List.mem_of_getElem? (i := 20) (by decide +kernel))
theorem rf_12_1 {S : Stt} (h : Stat S) : S.2.1 12 1 = some 19 := h.2.1 (12, 1, 19) (List.mem_of_getElem? (i := 21) (by decide +kernel))
theorem rf_12_2 {S : Stt} (h : Stat S) : S.2.1 12 2 = some 25 := h.2.1 (12, 2, 25) (List.mem_of_getElem? (i := 22) (by decide +kernel))
theorem rf_12_3 {S : Stt} (h : Stat S) : S.2.1 12 3 = some 31 := h.2.1 (12, 3, 31) (List.mem_of_getElem? (i := 23) (by decide +kernel))
theorem rf_12_4 {S : Stt} (h : Stat S) : S.2.1 12 4 = some 37 := h.2.1 (12, 4, 37) (List.mem_of_getElem? (i := 24) (by decide +kernel))
theorem rf_12_5 {S : Stt} (h : Stat S) : S.2.1 12 5 = some 43 := h.2.1 (12, 5, 43) (List.mem_of_getElem? (i := 25) (by decide +kernel))
theorem rf_12_6 {S : Stt} (h : Stat S) : S.2.1 12 6 = some 49 := h.2.1 (12, 6, 49) (List.mem_of_getElem? (i := 26) (by decide +kernel))
theorem rf_12_7 {S : Stt} (h : Stat S) : S.2.1 12 7 = some 55 := h.2.1 (12, 7, 55) (List.mem_of_getElem? (i := 27) (by decide +kernel))
theorem rf_12_8 {S : Stt} (h : Stat S) : S.2.1 12 8 = some 61 := h.2.1 (12, 8, 61) (List.mem_of_getElem? (i := 28) (by decide +kernel))
theorem rf_12_9 {S : Stt} (h : Stat S) : S.2.1 12 9 = some 67 := h.2.1 (12, 9, 67) (List.mem_of_getElem? (i := 29) (by decide +kernel))
theorem rf_12_10 {S : Stt} (h : Stat S) : S.2.1 12 10 = some 73 := h.2.1 (12, 10, 73) (List.mem_of_getElem? (i := 30) (by decide +kernel))
theorem rf_12_11 {S : Stt} (h : Stat S) : S.2.1 12 11 = some 79 := h.2.1 (12, 11, 79) (List.mem_of_getElem? (i := 31) (by decide +kernel))
theorem rf_12_12 {S : Stt} (h : Stat S) : S.2.1 12 12 = some 85 := h.2.1 (12, 12, 85) (List.mem_of_getElem? (i := 32) (by decide +kernel))
theorem rf_12_13 {S : Stt} (h : Stat S) : S.2.1 12 13 = some 91 := h.2.1 (12, 13, 91) (List.mem_of_getElem? (i := 33) (by decide +kernel))
theorem rf_12_14 {S : Stt} (h : Stat S) : S.2.1 12 14 = some 97 := h.2.1 (12, 14, 97) (List.mem_of_getElem? (i := 34) (by decide +kernel))
theorem rf_12_15 {S : Stt} (h : Stat S) : S.2.1 12 15 = some 103 := h.2.1 (12, 15, 103) (List.mem_of_getElem? (i := 35) (by decide +kernel))
theorem rf_12_16 {S : Stt} (h : Stat S) : S.2.1 12 16 = some 109 := h.2.1 (12, 16, 109) (List.mem_of_getElem? (i := 36) (by decide +kernel))
theorem rf_12_17 {S : Stt} (h : Stat S) : S.2.1 12 17 = some 115 := h.2.1 (12, 17, 115) (List.mem_of_getElem? (i := 37) (by decide +kernel))
theorem rf_12_18 {S : Stt} (h : Stat S) : S.2.1 12 18 = some 121 := h.2.1 (12, 18, 121) (List.mem_of_getElem? (i := 38) (by decide +kernel))
theorem rf_12_19 {S : Stt} (h : Stat S) : S.2.1 12 19 = some 127 := h.2.1 (12, 19, 127) (List.mem_of_getElem? (i := 39) (by decide +kernel))
theorem rf_13_0 {S : Stt} (h : Stat S) : S.2.1 13 0 = some 14 := h.2.1 (13, 0, 14) (List.mem_of_getElem? (i := 40) (by decide +kernel))
theorem rf_13_1 {S : Stt} (h : Stat S) : S.2.1 13 1 = some 15 := h.2.1 (13, 1, 15) (List.mem_of_getElem? (i := 41) (by decide +kernel))
theorem rf_13_2 {S : Stt} (h : Stat S) : S.2.1 13 2 = some 16 := h.2.1 (13, 2, 16) (List.mem_of_getElem? (i := 42) (by decide +kernel))
theorem rf_13_3 {S : Stt} (h : Stat S) : S.2.1 13 3 = some 17 := h.2.1 (13, 3, 17) (List.mem_of_getElem? (i := 43) (by decide +kernel))
theorem rf_13_4 {S : Stt} (h : Stat S) : S.2.1 13 4 = some 18 := h.2.1 (13, 4, 18) (List.mem_of_getElem? (i := 44) (by decide +kernel))
theorem rf_19_0 {S : Stt} (h : Stat S) : S.2.1 19 0 = some 20 := h.2.1 (19, 0, 20) (List.mem_of_getElem? (i := 45) (by decide +kernel))
theorem rf_19_1 {S : Stt} (h : Stat S) : S.2.1 19 1 = some 21 := h.2.1 (19, 1, 21) (List.mem_of_getElem? (i := 46) (by decide +kernel))
theorem rf_19_2 {S : Stt} (h : Stat S) : S.2.1 19 2 = some 22 := h.2.1 (19, 2, 22) (List.mem_of_getElem? (i := 47) (by decide +kernel))
theorem rf_19_3 {S : Stt} (h : Stat S) : S.2.1 19 3 = some 23 := h.2.1 (19, 3, 23) (List.mem_of_getElem? (i := 48) (by decide +kernel))
theorem rf_19_4 {S : Stt} (h : Stat S) : S.2.1 19 4 = some 24 := h.2.1 (19, 4, 24) (List.mem_of_getElem? (i := 49) (by decide +kernel))
theorem rf_25_0 {S : Stt} (h : Stat S) : S.2.1 25 0 = some 26 := h.2.1 (25, 0, 26) (List.mem_of_getElem? (i := 50) (by decide +kernel))
theorem rf_25_1 {S : Stt} (h : Stat S) : S.2.1 25 1 = some 27 := h.2.1 (25, 1, 27) (List.mem_of_getElem? (i := 51) (by decide +kernel))
theorem rf_25_2 {S : Stt} (h : Stat S) : S.2.1 25 2 = some 28 := h.2.1 (25, 2, 28) (List.mem_of_getElem? (i := 52) (by decide +kernel))
theorem rf_25_3 {S : Stt} (h : Stat S) : S.2.1 25 3 = some 29 := h.2.1 (25, 3, 29) (List.mem_of_getElem? (i := 53) (by decide +kernel))
theorem rf_25_4 {S : Stt} (h : Stat S) : S.2.1 25 4 = some 30 := h.2.1 (25, 4, 30) (List.mem_of_getElem? (i := 54) (by decide +kernel))
theorem rf_31_0 {S : Stt} (h : Stat S) : S.2.1 31 0 = some 32 := h.2.1 (31, 0, 32) (List.mem_of_getElem? (i := 55) (by decide +kernel))
theorem rf_31_1 {S : Stt} (h : Stat S) : S.2.1 31 1 = some 33 := h.2.1 (31, 1, 33) (List.mem_of_getElem? (i := 56) (by decide +kernel))
theorem rf_31_2 {S : Stt} (h : Stat S) : S.2.1 31 2 = some 34 := h.2.1 (31, 2, 34) (List.mem_of_getElem? (i := 57) (by decide +kernel))
theorem rf_31_3 {S : Stt} (h : Stat S) : S.2.1 31 3 = some 35 := h.2.1 (31, 3, 35) (List.mem_of_getElem? (i := 58) (by decide +kernel))
theorem rf_31_4 {S : Stt} (h : Stat S) : S.2.1 31 4 = some 36 := h.2.1 (31, 4, 36) (List.mem_of_getElem? (i := 59) (by decide +kernel))
theorem rf_37_0 {S : Stt} (h : Stat S) : S.2.1 37 0 = some 38 := h.2.1 (37, 0, 38) (List.mem_of_getElem? (i := 60) (by decide +kernel))
theorem rf_37_1 {S : Stt} (h : Stat S) : S.2.1 37 1 = some 39 := h.2.1 (37, 1, 39) (List.mem_of_getElem? (i := 61) (by decide +kernel))
theorem rf_37_2 {S : Stt} (h : Stat S) : S.2.1 37 2 = some 40 := h.2.1 (37, 2, 40) (List.mem_of_getElem? (i := 62) (by decide +kernel))
theorem rf_37_3 {S : Stt} (h : Stat S) : S.2.1 37 3 = some 41 := h.2.1 (37, 3, 41) (List.mem_of_getElem? (i := 63) (by decide +kernel))
theorem rf_37_4 {S : Stt} (h : Stat S) : S.2.1 37 4 = some 42 := h.2.1 (37, 4, 42) (List.mem_of_getElem? (i := 64) (by decide +kernel))
theorem rf_43_0 {S : Stt} (h : Stat S) : S.2.1 43 0 = some 44 := h.2.1 (43, 0, 44) (List.mem_of_getElem? (i := 65) (by decide +kernel))
theorem rf_43_1 {S : Stt} (h : Stat S) : S.2.1 43 1 = some 45 := h.2.1 (43, 1, 45) (List.mem_of_getElem? (i := 66) (by decide +kernel))
theorem rf_43_2 {S : Stt} (h : Stat S) : S.2.1 43 2 = some 46 := h.2.1 (43, 2, 46) (List.mem_of_getElem? (i := 67) (by decide +kernel))
theorem rf_43_3 {S : Stt} (h : Stat S) : S.2.1 43 3 = some 47 := h.2.1 (43, 3, 47) (List.mem_of_getElem? (i := 68) (by decide +kernel))
theorem rf_43_4 {S : Stt} (h : Stat S) : S.2.1 43 4 = some 48 := h.2.1 (43, 4, 48) (List.mem_of_getElem? (i := 69) (by decide +kernel))
theorem rf_49_0 {S : Stt} (h : Stat S) : S.2.1 49 0 = some 50 := h.2.1 (49, 0, 50) (List.mem_of_getElem? (i := 70) (by decide +kernel))
theorem rf_49_1 {S : Stt} (h : Stat S) : S.2.1 49 1 = some 51 := h.2.1 (49, 1, 51) (List.mem_of_getElem? (i := 71) (by decide +kernel))
theorem rf_49_2 {S : Stt} (h : Stat S) : S.2.1 49 2 = some 52 := h.2.1 (49, 2, 52) (List.mem_of_getElem? (i := 72) (by decide +kernel))
theorem rf_49_3 {S : Stt} (h : Stat S) : S.2.1 49 3 = some 53 := h.2.1 (49, 3, 53) (List.mem_of_getElem? (i := 73) (by decide +kernel))
theorem rf_49_4 {S : Stt} (h : Stat S) : S.2.1 49 4 = some 54 := h.2.1 (49, 4, 54) (List.mem_of_getElem? (i := 74) (by decide +kernel))
theorem rf_55_0 {S : Stt} (h : Stat S) : S.2.1 55 0 = some 56 := h.2.1 (55, 0, 56) (List.mem_of_getElem? (i := 75) (by decide +kernel))
theorem rf_55_1 {S : Stt} (h : Stat S) : S.2.1 55 1 = some 57 := h.2.1 (55, 1, 57) (List.mem_of_getElem? (i := 76) (by decide +kernel))
theorem rf_55_2 {S : Stt} (h : Stat S) : S.2.1 55 2 = some 58 := h.2.1 (55, 2, 58) (List.mem_of_getElem? (i := 77) (by decide +kernel))
theorem rf_55_3 {S : Stt} (h : Stat S) : S.2.1 55 3 = some 59 := h.2.1 (55, 3, 59) (List.mem_of_getElem? (i := 78) (by decide +kernel))
theorem rf_55_4 {S : Stt} (h : Stat S) : S.2.1 55 4 = some 60 := h.2.1 (55, 4, 60) (List.mem_of_getElem? (i := 79) (by decide +kernel))
theorem rf_61_0 {S : Stt} (h : Stat S) : S.2.1 61 0 = some 62 := h.2.1 (61, 0, 62) (List.mem_of_getElem? (i := 80) (by decide +kernel))
theorem rf_61_1 {S : Stt} (h : Stat S) : S.2.1 61 1 = some 63 := h.2.1 (61, 1, 63) (List.mem_of_getElem? (i := 81) (by decide +kernel))
theorem rf_61_2 {S : Stt} (h : Stat S) : S.2.1 61 2 = some 64 := h.2.1 (61, 2, 64) (List.mem_of_getElem? (i := 82) (by decide +kernel))
theorem rf_61_3 {S : Stt} (h : Stat S) : S.2.1 61 3 = some 65 := h.2.1 (61, 3, 65) (List.mem_of_getElem? (i := 83) (by decide +kernel))
theorem rf_61_4 {S : Stt} (h : Stat S) : S.2.1 61 4 = some 66 := h.2.1 (61, 4, 66) (List.mem_of_getElem? (i := 84) (by decide +kernel))
theorem rf_67_0 {S : Stt} (h : Stat S) : S.2.1 67 0 = some 68 := h.2.1 (67, 0, 68) (List.mem_of_getElem? (i := 85) (by decide +kernel))
theorem rf_67_1 {S : Stt} (h : Stat S) : S.2.1 67 1 = some 69 := h.2.1 (67, 1, 69) (List.mem_of_getElem? (i := 86) (by decide +kernel))
theorem rf_67_2 {S : Stt} (h : Stat S) : S.2.1 67 2 = some 70 := h.2.1 (67, 2, 70) (List.mem_of_getElem? (i := 87) (by decide +kernel))
theorem rf_67_3 {S : Stt} (h : Stat S) : S.2.1 67 3 = some 71 := h.2.1 (67, 3, 71) (List.mem_of_getElem? (i := 88) (by decide +kernel))
theorem rf_67_4 {S : Stt} (h : Stat S) : S.2.1 67 4 = some 72 := h.2.1 (67, 4, 72) (List.mem_of_getElem? (i := 89) (by decide +kernel))
theorem rf_73_0 {S : Stt} (h : Stat S) : S.2.1 73 0 = some 74 := h.2.1 (73, 0, 74) (List.mem_of_getElem? (i := 90) (by decide +kernel))
theorem rf_73_1 {S : Stt} (h : Stat S) : S.2.1 73 1 = some 75 := h.2.1 (73, 1, 75) (List.mem_of_getElem? (i := 91) (by decide +kernel))
theorem rf_73_2 {S : Stt} (h : Stat S) : S.2.1 73 2 = some 76 := h.2.1 (73, 2, 76) (List.mem_of_getElem? (i := 92) (by decide +kernel))
theorem rf_73_3 {S : Stt} (h : Stat S) : S.2.1 73 3 = some 77 := h.2.1 (73, 3, 77) (List.mem_of_getElem? (i := 93) (by decide +kernel))
theorem rf_73_4 {S : Stt} (h : Stat S) : S.2.1 73 4 = some 78 := h.2.1 (73, 4, 78) (List.mem_of_getElem? (i := 94) (by decide +kernel))
theorem rf_79_0 {S : Stt} (h : Stat S) : S.2.1 79 0 = some 80 := h.2.1 (79, 0, 80) (List.mem_of_getElem? (i := 95) (by decide +kernel))
theorem rf_79_1 {S : Stt} (h : Stat S) : S.2.1 79 1 = some 81 := h.2.1 (79, 1, 81) (List.mem_of_getElem? (i := 96) (by decide +kernel))
theorem rf_79_2 {S : Stt} (h : Stat S) : S.2.1 79 2 = some 82 := h.2.1 (79, 2, 82) (List.mem_of_getElem? (i := 97) (by decide +kernel))
theorem rf_79_3 {S : Stt} (h : Stat S) : S.2.1 79 3 = some 83 := h.2.1 (79, 3, 83) (List.mem_of_getElem? (i := 98) (by decide +kernel))
theorem rf_79_4 {S : Stt} (h : Stat S) : S.2.1 79 4 = some 84 := h.2.1 (79, 4, 84) (List.mem_of_getElem? (i := 99) (by decide +kernel))
theorem rf_85_0 {S : Stt} (h : Stat S) : S.2.1 85 0 = some 86 := h.2.1 (85, 0, 86) (List.mem_of_getElem? (i := 100) (by decide +kernel))
theorem rf_85_1 {S : Stt} (h : Stat S) : S.2.1 85 1 = some 87 := h.2.1 (85, 1, 87) (List.mem_of_getElem? (i := 101) (by decide +kernel))
theorem rf_85_2 {S : Stt} (h : Stat S) : S.2.1 85 2 = some 88 := h.2.1 (85, 2, 88) (List.mem_of_getElem? (i := 102) (by decide +kernel))
theorem rf_85_3 {S : Stt} (h : Stat S) : S.2.1 85 3 = some 89 := h.2.1 (85, 3, 89) (List.mem_of_getElem? (i := 103) (by decide +kernel))
theorem rf_85_4 {S : Stt} (h : Stat S) : S.2.1 85 4 = some 90 := h.2.1 (85, 4, 90) (List.mem_of_getElem? (i := 104) (by decide +kernel))
theorem rf_91_0 {S : Stt} (h : Stat S) : S.2.1 91 0 = some 92 := h.2.1 (91, 0, 92) (List.mem_of_getElem? (i := 105) (by decide +kernel))
theorem rf_91_1 {S : Stt} (h : Stat S) : S.2.1 91 1 = some 93 := h.2.1 (91, 1, 93) (List.mem_of_getElem? (i := 106) (by decide +kernel))
theorem rf_91_2 {S : Stt} (h : Stat S) : S.2.1 91 2 = some 94 := h.2.1 (91, 2, 94) (List.mem_of_getElem? (i := 107) (by decide +kernel))
theorem rf_91_3 {S : Stt} (h : Stat S) : S.2.1 91 3 = some 95 := h.2.1 (91, 3, 95) (List.mem_of_getElem? (i := 108) (by decide +kernel))
theorem rf_91_4 {S : Stt} (h : Stat S) : S.2.1 91 4 = some 96 := h.2.1 (91, 4, 96) (List.mem_of_getElem? (i := 109) (by decide +kernel))
theorem rf_97_0 {S : Stt} (h : Stat S) : S.2.1 97 0 = some 98 := h.2.1 (97, 0, 98) (List.mem_of_getElem? (i := 110) (by decide +kernel))
theorem rf_97_1 {S : Stt} (h : Stat S) : S.2.1 97 1 = some 99 := h.2.1 (97, 1, 99) (List.mem_of_getElem? (i := 111) (by decide +kernel))
theorem rf_97_2 {S : Stt} (h : Stat S) : S.2.1 97 2 = some 100 := h.2.1 (97, 2, 100) (List.mem_of_getElem? (i := 112) (by decide +kernel))
theorem rf_97_3 {S : Stt} (h : Stat S) : S.2.1 97 3 = some 101 := h.2.1 (97, 3, 101) (List.mem_of_getElem? (i := 113) (by decide +kernel))
theorem rf_97_4 {S : Stt} (h : Stat S) : S.2.1 97 4 = some 102 := h.2.1 (97, 4, 102) (List.mem_of_getElem? (i := 114) (by decide +kernel))
theorem rf_103_0 {S : Stt} (h : Stat S) : S.2.1 103 0 = some 104 := h.2.1 (103, 0, 104) (List.mem_of_getElem? (i := 115) (by decide +kernel))
theorem rf_103_1 {S : Stt} (h : Stat S) : S.2.1 103 1 = some 105 := h.2.1 (103, 1, 105) (List.mem_of_getElem? (i := 116) (by decide +kernel))
theorem rf_103_2 {S : Stt} (h : Stat S) : S.2.1 103 2 = some 106 := h.2.1 (103, 2, 106) (List.mem_of_getElem? (i := 117) (by decide +kernel))
theorem rf_103_3 {S : Stt} (h : Stat S) : S.2.1 103 3 = some 107 := h.2.1 (103, 3, 107) (List.mem_of_getElem? (i := 118) (by decide +kernel))
theorem rf_103_4 {S : Stt} (h : Stat S) : S.2.1 103 4 = some 108 := h.2.1 (103, 4, 108) (List.mem_of_getElem? (i := 119) (by decide +kernel))
theorem rf_109_0 {S : Stt} (h : Stat S) : S.2.1 109 0 = some 110 := h.2.1 (109, 0, 110) (List.mem_of_getElem? (i := 120) (by decide +kernel))
theorem rf_109_1 {S : Stt} (h : Stat S) : S.2.1 109 1 = some 111 := h.2.1 (109, 1, 111) (List.mem_of_getElem? (i := 121) (by decide +kernel))
theorem rf_109_2 {S : Stt} (h : Stat S) : S.2.1 109 2 = some 112 := h.2.1 (109, 2, 112) (List.mem_of_getElem? (i := 122) (by decide +kernel))
theorem rf_109_3 {S : Stt} (h : Stat S) : S.2.1 109 3 = some 113 := h.2.1 (109, 3, 113) (List.mem_of_getElem? (i := 123) (by decide +kernel))
theorem rf_109_4 {S : Stt} (h : Stat S) : S.2.1 109 4 = some 114 := h.2.1 (109, 4, 114) (List.mem_of_getElem? (i := 124) (by decide +kernel))
theorem rf_115_0 {S : Stt} (h : Stat S) : S.2.1 115 0 = some 116 := h.2.1 (115, 0, 116) (List.mem_of_getElem? (i := 125) (by decide +kernel))
theorem rf_115_1 {S : Stt} (h : Stat S) : S.2.1 115 1 = some 117 := h.2.1 (115, 1, 117) (List.mem_of_getElem? (i := 126) (by decide +kernel))
theorem rf_115_2 {S : Stt} (h : Stat S) : S.2.1 115 2 = some 118 := h.2.1 (115, 2, 118) (List.mem_of_getElem? (i := 127) (by decide +kernel))
theorem rf_115_3 {S : Stt} (h : Stat S) : S.2.1 115 3 = some 119 := h.2.1 (115, 3, 119) (List.mem_of_getElem? (i := 128) (by decide +kernel))
theorem rf_115_4 {S : Stt} (h : Stat S) : S.2.1 115 4 = some 120 := h.2.1 (115, 4, 120) (List.mem_of_getElem? (i := 129) (by decide +kernel))
theorem rf_121_0 {S : Stt} (h : Stat S) : S.2.1 121 0 = some 122 := h.2.1 (121, 0, 122) (List.mem_of_getElem? (i := 130) (by decide +kernel))
theorem rf_121_1 {S : Stt} (h : Stat S) : S.2.1 121 1 = some 123 := h.2.1 (121, 1, 123) (List.mem_of_getElem? (i := 131) (by decide +kernel))
theorem rf_121_2 {S : Stt} (h : Stat S) : S.2.1 121 2 = some 124 := h.2.1 (121, 2, 124) (List.mem_of_getElem? (i := 132) (by decide +kernel))
theorem rf_121_3 {S : Stt} (h : Stat S) : S.2.1 121 3 = some 125 := h.2.1 (121, 3, 125) (List.mem_of_getElem? (i := 133) (by decide +kernel))
theorem rf_121_4 {S : Stt} (h : Stat S) : S.2.1 121 4 = some 126 := h.2.1 (121, 4, 126) (List.mem_of_getElem? (i := 134) (by decide +kernel))
theorem rf_127_0 {S : Stt} (h : Stat S) : S.2.1 127 0 = some 128 := h.2.1 (127, 0, 128) (List.mem_of_getElem? (i := 135) (by decide +kernel))
theorem rf_127_1 {S : Stt} (h : Stat S) : S.2.1 127 1 = some 129 := h.2.1 (127, 1, 129) (List.mem_of_getElem? (i := 136) (by decide +kernel))
theorem rf_127_2 {S : Stt} (h : Stat S) : S.2.1 127 2 = some 130 := h.2.1 (127, 2, 130) (List.mem_of_getElem? (i := 137) (by decide +kernel))
theorem rf_127_3 {S : Stt} (h : Stat S) : S.2.1 127 3 = some 131 := h.2.1 (127, 3, 131) (List.mem_of_getElem? (i := 138) (by decide +kernel))
theorem rf_127_4 {S : Stt} (h : Stat S) : S.2.1 127 4 = some 132 := h.2.1 (127, 4, 132) (List.mem_of_getElem? (i := 139) (by decide +kernel))
theorem rf_134_0 {S : Stt} (h : Stat S) : S.2.1 134 0 = some 135 := h.2.1 (134, 0, 135) (List.mem_of_getElem? (i := 140) (by decide +kernel))
theorem rf_134_1 {S : Stt} (h : Stat S) : S.2.1 134 1 = some 136 := h.2.1 (134, 1, 136) (List.mem_of_getElem? (i := 141) (by decide +kernel))
theorem rf_134_2 {S : Stt} (h : Stat S) : S.2.1 134 2 = some 137 := h.2.1 (134, 2, 137) (List.mem_of_getElem? (i := 142) (by decide +kernel))
theorem rf_134_3 {S : Stt} (h : Stat S) : S.2.1 134 3 = some 138 := h.2.1 (134, 3, 138) (List.mem_of_getElem? (i := 143) (by decide +kernel))
theorem rf_139_0 {S : Stt} (h : Stat S) : S.2.1 139 0 = some 140 := h.2.1 (139, 0, 140) (List.mem_of_getElem? (i := 144) (by decide +kernel))
theorem rf_139_1 {S : Stt} (h : Stat S) : S.2.1 139 1 = some 141 := h.2.1 (139, 1, 141) (List.mem_of_getElem? (i := 145) (by decide +kernel))
theorem rf_139_2 {S : Stt} (h : Stat S) : S.2.1 139 2 = some 142 := h.2.1 (139, 2, 142) (List.mem_of_getElem? (i := 146) (by decide +kernel))
theorem rf_139_3 {S : Stt} (h : Stat S) : S.2.1 139 3 = some 143 := h.2.1 (139, 3, 143) (List.mem_of_getElem? (i := 147) (by decide +kernel))
theorem rf_139_4 {S : Stt} (h : Stat S) : S.2.1 139 4 = some 149 := h.2.1 (139, 4, 149) (List.mem_of_getElem? (i := 148) (by decide +kernel))
theorem rf_139_5 {S : Stt} (h : Stat S) : S.2.1 139 5 = some 271 := h.2.1 (139, 5, 271) (List.mem_of_getElem? (i := 149) (by decide +kernel))
theorem rf_139_6 {S : Stt} (h : Stat S) : S.2.1 139 6 = some 272 := h.2.1 (139, 6, 272) (List.mem_of_getElem? (i := 150) (by decide +kernel))
theorem rf_143_0 {S : Stt} (h : Stat S) : S.2.1 143 0 = some 144 := h.2.1 (143, 0, 144) (List.mem_of_getElem? (i := 151) (by decide +kernel))
theorem rf_143_1 {S : Stt} (h : Stat S) : S.2.1 143 1 = some 145 := h.2.1 (143, 1, 145) (List.mem_of_getElem? (i := 152) (by decide +kernel))
theorem rf_143_2 {S : Stt} (h : Stat S) : S.2.1 143 2 = some 146 := h.2.1 (143, 2, 146) (List.mem_of_getElem? (i := 153) (by decide +kernel))
theorem rf_143_3 {S : Stt} (h : Stat S) : S.2.1 143 3 = some 147 := h.2.1 (143, 3, 147) (List.mem_of_getElem? (i := 154) (by decide +kernel))
theorem rf_143_4 {S : Stt} (h : Stat S) : S.2.1 143 4 = some 148 := h.2.1 (143, 4, 148) (List.mem_of_getElem? (i := 155) (by decide +kernel))
theorem rf_149_0 {S : Stt} (h : Stat S) : S.2.1 149 0 = some 150 := h.2.1 (149, 0, 150) (List.mem_of_getElem? (i := 156) (by decide +kernel))
theorem rf_150_0 {S : Stt} (h : Stat S) : S.2.1 150 0 = some 151 := h.2.1 (150, 0, 151) (List.mem_of_getElem? (i := 157) (by decide +kernel))
theorem rf_150_1 {S : Stt} (h : Stat S) : S.2.1 150 1 = some 157 := h.2.1 (150, 1, 157) (List.mem_of_getElem? (i := 158) (by decide +kernel))
theorem rf_150_2 {S : Stt} (h : Stat S) : S.2.1 150 2 = some 163 := h.2.1 (150, 2, 163) (List.mem_of_getElem? (i := 159) (by decide +kernel))
theorem rf_150_3 {S : Stt} (h : Stat S) : S.2.1 150 3 = some 169 := h.2.1 (150, 3, 169) (List.mem_of_getElem? (i := 160) (by decide +kernel))
theorem rf_150_4 {S : Stt} (h : Stat S) : S.2.1 150 4 = some 175 := h.2.1 (150, 4, 175) (List.mem_of_getElem? (i := 161) (by decide +kernel))
theorem rf_150_5 {S : Stt} (h : Stat S) : S.2.1 150 5 = some 181 := h.2.1 (150, 5, 181) (List.mem_of_getElem? (i := 162) (by decide +kernel))
theorem rf_150_6 {S : Stt} (h : Stat S) : S.2.1 150 6 = some 187 := h.2.1 (150, 6, 187) (List.mem_of_getElem? (i := 163) (by decide +kernel))
theorem rf_150_7 {S : Stt} (h : Stat S) : S.2.1 150 7 = some 193 := h.2.1 (150, 7, 193) (List.mem_of_getElem? (i := 164) (by decide +kernel))
theorem rf_150_8 {S : Stt} (h : Stat S) : S.2.1 150 8 = some 199 := h.2.1 (150, 8, 199) (List.mem_of_getElem? (i := 165) (by decide +kernel))
theorem rf_150_9 {S : Stt} (h : Stat S) : S.2.1 150 9 = some 205 := h.2.1 (150, 9, 205) (List.mem_of_getElem? (i := 166) (by decide +kernel))
theorem rf_150_10 {S : Stt} (h : Stat S) : S.2.1 150 10 = some 211 := h.2.1 (150, 10, 211) (List.mem_of_getElem? (i := 167) (by decide +kernel))
theorem rf_150_11 {S : Stt} (h : Stat S) : S.2.1 150 11 = some 217 := h.2.1 (150, 11, 217) (List.mem_of_getElem? (i := 168) (by decide +kernel))
theorem rf_150_12 {S : Stt} (h : Stat S) : S.2.1 150 12 = some 223 := h.2.1 (150, 12, 223) (List.mem_of_getElem? (i := 169) (by decide +kernel))
theorem rf_150_13 {S : Stt} (h : Stat S) : S.2.1 150 13 = some 229 := h.2.1 (150, 13, 229) (List.mem_of_getElem? (i := 170) (by decide +kernel))
theorem rf_150_14 {S : Stt} (h : Stat S) : S.2.1 150 14 = some 235 := h.2.1 (150, 14, 235) (List.mem_of_getElem? (i := 171) (by decide +kernel))
theorem rf_150_15 {S : Stt} (h : Stat S) : S.2.1 150 15 = some 241 := h.2.1 (150, 15, 241) (List.mem_of_getElem? (i := 172) (by decide +kernel))
theorem rf_150_16 {S : Stt} (h : Stat S) : S.2.1 150 16 = some 247 := h.2.1 (150, 16, 247) (List.mem_of_getElem? (i := 173) (by decide +kernel))
theorem rf_150_17 {S : Stt} (h : Stat S) : S.2.1 150 17 = some 253 := h.2.1 (150, 17, 253) (List.mem_of_getElem? (i := 174) (by decide +kernel))
theorem rf_150_18 {S : Stt} (h : Stat S) : S.2.1 150 18 = some 259 := h.2.1 (150, 18, 259) (List.mem_of_getElem? (i := 175) (by decide +kernel))
theorem rf_150_19 {S : Stt} (h : Stat S) : S.2.1 150 19 = some 265 := h.2.1 (150, 19, 265) (List.mem_of_getElem? (i := 176) (by decide +kernel))
theorem rf_151_0 {S : Stt} (h : Stat S) : S.2.1 151 0 = some 152 := h.2.1 (151, 0, 152) (List.mem_of_getElem? (i := 177) (by decide +kernel))
theorem rf_151_1 {S : Stt} (h : Stat S) : S.2.1 151 1 = some 153 := h.2.1 (151, 1, 153) (List.mem_of_getElem? (i := 178) (by decide +kernel))
theorem rf_151_2 {S : Stt} (h : Stat S) : S.2.1 151 2 = some 154 := h.2.1 (151, 2, 154) (List.mem_of_getElem? (i := 179) (by decide +kernel))
theorem rf_151_3 {S : Stt} (h : Stat S) : S.2.1 151 3 = some 155 := h.2.1 (151, 3, 155) (List.mem_of_getElem? (i := 180) (by decide +kernel))
theorem rf_151_4 {S : Stt} (h : Stat S) : S.2.1 151 4 = some 156 := h.2.1 (151, 4, 156) (List.mem_of_getElem? (i := 181) (by decide +kernel))
theorem rf_157_0 {S : Stt} (h : Stat S) : S.2.1 157 0 = some 158 := h.2.1 (157, 0, 158) (List.mem_of_getElem? (i := 182) (by decide +kernel))
theorem rf_157_1 {S : Stt} (h : Stat S) : S.2.1 157 1 = some 159 := h.2.1 (157, 1, 159) (List.mem_of_getElem? (i := 183) (by decide +kernel))
theorem rf_157_2 {S : Stt} (h : Stat S) : S.2.1 157 2 = some 160 := h.2.1 (157, 2, 160) (List.mem_of_getElem? (i := 184) (by decide +kernel))
theorem rf_157_3 {S : Stt} (h : Stat S) : S.2.1 157 3 = some 161 := h.2.1 (157, 3, 161) (List.mem_of_getElem? (i := 185) (by decide +kernel))
theorem rf_157_4 {S : Stt} (h : Stat S) : S.2.1 157 4 = some 162 := h.2.1 (157, 4, 162) (List.mem_of_getElem? (i := 186) (by decide +kernel))
theorem rf_163_0 {S : Stt} (h : Stat S) : S.2.1 163 0 = some 164 := h.2.1 (163, 0, 164) (List.mem_of_getElem? (i := 187) (by decide +kernel))
theorem rf_163_1 {S : Stt} (h : Stat S) : S.2.1 163 1 = some 165 := h.2.1 (163, 1, 165) (List.mem_of_getElem? (i := 188) (by decide +kernel))
theorem rf_163_2 {S : Stt} (h : Stat S) : S.2.1 163 2 = some 166 := h.2.1 (163, 2, 166) (List.mem_of_getElem? (i := 189) (by decide +kernel))
theorem rf_163_3 {S : Stt} (h : Stat S) : S.2.1 163 3 = some 167 := h.2.1 (163, 3, 167) (List.mem_of_getElem? (i := 190) (by decide +kernel))
theorem rf_163_4 {S : Stt} (h : Stat S) : S.2.1 163 4 = some 168 := h.2.1 (163, 4, 168) (List.mem_of_getElem? (i := 191) (by decide +kernel))
theorem rf_169_0 {S : Stt} (h : Stat S) : S.2.1 169 0 = some 170 := h.2.1 (169, 0, 170) (List.mem_of_getElem? (i := 192) (by decide +kernel))
theorem rf_169_1 {S : Stt} (h : Stat S) : S.2.1 169 1 = some 171 := h.2.1 (169, 1, 171) (List.mem_of_getElem? (i := 193) (by decide +kernel))
theorem rf_169_2 {S : Stt} (h : Stat S) : S.2.1 169 2 = some 172 := h.2.1 (169, 2, 172) (List.mem_of_getElem? (i := 194) (by decide +kernel))
theorem rf_169_3 {S : Stt} (h : Stat S) : S.2.1 169 3 = some 173 := h.2.1 (169, 3, 173) (List.mem_of_getElem? (i := 195) (by decide +kernel))
theorem rf_169_4 {S : Stt} (h : Stat S) : S.2.1 169 4 = some 174 := h.2.1 (169, 4, 174) (List.mem_of_getElem? (i := 196) (by decide +kernel))
theorem rf_175_0 {S : Stt} (h : Stat S) : S.2.1 175 0 = some 176 := h.2.1 (175, 0, 176) (List.mem_of_getElem? (i := 197) (by decide +kernel))
theorem rf_175_1 {S : Stt} (h : Stat S) : S.2.1 175 1 = some 177 := h.2.1 (175, 1, 177) (List.mem_of_getElem? (i := 198) (by decide +kernel))
theorem rf_175_2 {S : Stt} (h : Stat S) : S.2.1 175 2 = some 178 := h.2.1 (175, 2, 178) (List.mem_of_getElem? (i := 199) (by decide +kernel))
theorem rf_175_3 {S : Stt} (h : Stat S) : S.2.1 175 3 = some 179 := h.2.1 (175, 3, 179) (List.mem_of_getElem? (i := 200) (by decide +kernel))
theorem rf_175_4 {S : Stt} (h : Stat S) : S.2.1 175 4 = some 180 := h.2.1 (175, 4, 180) (List.mem_of_getElem? (i := 201) (by decide +kernel))
theorem rf_181_0 {S : Stt} (h : Stat S) : S.2.1 181 0 = some 182 := h.2.1 (181, 0, 182) (List.mem_of_getElem? (i := 202) (by decide +kernel))
theorem rf_181_1 {S : Stt} (h : Stat S) : S.2.1 181 1 = some 183 := h.2.1 (181, 1, 183) (List.mem_of_getElem? (i := 203) (by decide +kernel))
theorem rf_181_2 {S : Stt} (h : Stat S) : S.2.1 181 2 = some 184 := h.2.1 (181, 2, 184) (List.mem_of_getElem? (i := 204) (by decide +kernel))
theorem rf_181_3 {S : Stt} (h : Stat S) : S.2.1 181 3 = some 185 := h.2.1 (181, 3, 185) (List.mem_of_getElem? (i := 205) (by decide +kernel))
theorem rf_181_4 {S : Stt} (h : Stat S) : S.2.1 181 4 = some 186 := h.2.1 (181, 4, 186) (List.mem_of_getElem? (i := 206) (by decide +kernel))
theorem rf_187_0 {S : Stt} (h : Stat S) : S.2.1 187 0 = some 188 := h.2.1 (187, 0, 188) (List.mem_of_getElem? (i := 207) (by decide +kernel))
theorem rf_187_1 {S : Stt} (h : Stat S) : S.2.1 187 1 = some 189 := h.2.1 (187, 1, 189) (List.mem_of_getElem? (i := 208) (by decide +kernel))
theorem rf_187_2 {S : Stt} (h : Stat S) : S.2.1 187 2 = some 190 := h.2.1 (187, 2, 190) (List.mem_of_getElem? (i := 209) (by decide +kernel))
theorem rf_187_3 {S : Stt} (h : Stat S) : S.2.1 187 3 = some 191 := h.2.1 (187, 3, 191) (List.mem_of_getElem? (i := 210) (by decide +kernel))
theorem rf_187_4 {S : Stt} (h : Stat S) : S.2.1 187 4 = some 192 := h.2.1 (187, 4, 192) (List.mem_of_getElem? (i := 211) (by decide +kernel))
theorem rf_193_0 {S : Stt} (h : Stat S) : S.2.1 193 0 = some 194 := h.2.1 (193, 0, 194) (List.mem_of_getElem? (i := 212) (by decide +kernel))
theorem rf_193_1 {S : Stt} (h : Stat S) : S.2.1 193 1 = some 195 := h.2.1 (193, 1, 195) (List.mem_of_getElem? (i := 213) (by decide +kernel))
theorem rf_193_2 {S : Stt} (h : Stat S) : S.2.1 193 2 = some 196 := h.2.1 (193, 2, 196) (List.mem_of_getElem? (i := 214) (by decide +kernel))
theorem rf_193_3 {S : Stt} (h : Stat S) : S.2.1 193 3 = some 197 := h.2.1 (193, 3, 197) (List.mem_of_getElem? (i := 215) (by decide +kernel))
theorem rf_193_4 {S : Stt} (h : Stat S) : S.2.1 193 4 = some 198 := h.2.1 (193, 4, 198) (List.mem_of_getElem? (i := 216) (by decide +kernel))
theorem rf_199_0 {S : Stt} (h : Stat S) : S.2.1 199 0 = some 200 := h.2.1 (199, 0, 200) (List.mem_of_getElem? (i := 217) (by decide +kernel))
theorem rf_199_1 {S : Stt} (h : Stat S) : S.2.1 199 1 = some 201 := h.2.1 (199, 1, 201) (List.mem_of_getElem? (i := 218) (by decide +kernel))
theorem rf_199_2 {S : Stt} (h : Stat S) : S.2.1 199 2 = some 202 := h.2.1 (199, 2, 202) (List.mem_of_getElem? (i := 219) (by decide +kernel))
theorem rf_199_3 {S : Stt} (h : Stat S) : S.2.1 199 3 = some 203 := h.2.1 (199, 3, 203) (List.mem_of_getElem? (i := 220) (by decide +kernel))
theorem rf_199_4 {S : Stt} (h : Stat S) : S.2.1 199 4 = some 204 := h.2.1 (199, 4, 204) (List.mem_of_getElem? (i := 221) (by decide +kernel))
theorem rf_205_0 {S : Stt} (h : Stat S) : S.2.1 205 0 = some 206 := h.2.1 (205, 0, 206) (List.mem_of_getElem? (i := 222) (by decide +kernel))
theorem rf_205_1 {S : Stt} (h : Stat S) : S.2.1 205 1 = some 207 := h.2.1 (205, 1, 207) (List.mem_of_getElem? (i := 223) (by decide +kernel))
theorem rf_205_2 {S : Stt} (h : Stat S) : S.2.1 205 2 = some 208 := h.2.1 (205, 2, 208) (List.mem_of_getElem? (i := 224) (by decide +kernel))
theorem rf_205_3 {S : Stt} (h : Stat S) : S.2.1 205 3 = some 209 := h.2.1 (205, 3, 209) (List.mem_of_getElem? (i := 225) (by decide +kernel))
theorem rf_205_4 {S : Stt} (h : Stat S) : S.2.1 205 4 = some 210 := h.2.1 (205, 4, 210) (List.mem_of_getElem? (i := 226) (by decide +kernel))
theorem rf_211_0 {S : Stt} (h : Stat S) : S.2.1 211 0 = some 212 := h.2.1 (211, 0, 212) (List.mem_of_getElem? (i := 227) (by decide +kernel))
theorem rf_211_1 {S : Stt} (h : Stat S) : S.2.1 211 1 = some 213 := h.2.1 (211, 1, 213) (List.mem_of_getElem? (i := 228) (by decide +kernel))
theorem rf_211_2 {S : Stt} (h : Stat S) : S.2.1 211 2 = some 214 := h.2.1 (211, 2, 214) (List.mem_of_getElem? (i := 229) (by decide +kernel))
theorem rf_211_3 {S : Stt} (h : Stat S) : S.2.1 211 3 = some 215 := h.2.1 (211, 3, 215) (List.mem_of_getElem? (i := 230) (by decide +kernel))
theorem rf_211_4 {S : Stt} (h : Stat S) : S.2.1 211 4 = some 216 := h.2.1 (211, 4, 216) (List.mem_of_getElem? (i := 231) (by decide +kernel))
theorem rf_217_0 {S : Stt} (h : Stat S) : S.2.1 217 0 = some 218 := h.2.1 (217, 0, 218) (List.mem_of_getElem? (i := 232) (by decide +kernel))
theorem rf_217_1 {S : Stt} (h : Stat S) : S.2.1 217 1 = some 219 := h.2.1 (217, 1, 219) (List.mem_of_getElem? (i := 233) (by decide +kernel))
theorem rf_217_2 {S : Stt} (h : Stat S) : S.2.1 217 2 = some 220 := h.2.1 (217, 2, 220) (List.mem_of_getElem? (i := 234) (by decide +kernel))
theorem rf_217_3 {S : Stt} (h : Stat S) : S.2.1 217 3 = some 221 := h.2.1 (217, 3, 221) (List.mem_of_getElem? (i := 235) (by decide +kernel))
theorem rf_217_4 {S : Stt} (h : Stat S) : S.2.1 217 4 = some 222 := h.2.1 (217, 4, 222) (List.mem_of_getElem? (i := 236) (by decide +kernel))
theorem rf_223_0 {S : Stt} (h : Stat S) : S.2.1 223 0 = some 224 := h.2.1 (223, 0, 224) (List.mem_of_getElem? (i := 237) (by decide +kernel))
theorem rf_223_1 {S : Stt} (h : Stat S) : S.2.1 223 1 = some 225 := h.2.1 (223, 1, 225) (List.mem_of_getElem? (i := 238) (by decide +kernel))
theorem rf_223_2 {S : Stt} (h : Stat S) : S.2.1 223 2 = some 226 := h.2.1 (223, 2, 226) (List.mem_of_getElem? (i := 239) (by decide +kernel))
theorem rf_223_3 {S : Stt} (h : Stat S) : S.2.1 223 3 = some 227 := h.2.1 (223, 3, 227) (List.mem_of_getElem? (i := 240) (by decide +kernel))
theorem rf_223_4 {S : Stt} (h : Stat S) : S.2.1 223 4 = some 228 := h.2.1 (223, 4, 228) (List.mem_of_getElem? (i := 241) (by decide +kernel))
theorem rf_229_0 {S : Stt} (h : Stat S) : S.2.1 229 0 = some 230 := h.2.1 (229, 0, 230) (List.mem_of_getElem? (i := 242) (by decide +kernel))
theorem rf_229_1 {S : Stt} (h : Stat S) : S.2.1 229 1 = some 231 := h.2.1 (229, 1, 231) (List.mem_of_getElem? (i := 243) (by decide +kernel))
theorem rf_229_2 {S : Stt} (h : Stat S) : S.2.1 229 2 = some 232 := h.2.1 (229, 2, 232) (List.mem_of_getElem? (i := 244) (by decide +kernel))
theorem rf_229_3 {S : Stt} (h : Stat S) : S.2.1 229 3 = some 233 := h.2.1 (229, 3, 233) (List.mem_of_getElem? (i := 245) (by decide +kernel))
theorem rf_229_4 {S : Stt} (h : Stat S) : S.2.1 229 4 = some 234 := h.2.1 (229, 4, 234) (List.mem_of_getElem? (i := 246) (by decide +kernel))
theorem rf_235_0 {S : Stt} (h : Stat S) : S.2.1 235 0 = some 236 := h.2.1 (235, 0, 236) (List.mem_of_getElem? (i := 247) (by decide +kernel))
theorem rf_235_1 {S : Stt} (h : Stat S) : S.2.1 235 1 = some 237 := h.2.1 (235, 1, 237) (List.mem_of_getElem? (i := 248) (by decide +kernel))
theorem rf_235_2 {S : Stt} (h : Stat S) : S.2.1 235 2 = some 238 := h.2.1 (235, 2, 238) (List.mem_of_getElem? (i := 249) (by decide +kernel))
theorem rf_235_3 {S : Stt} (h : Stat S) : S.2.1 235 3 = some 239 := h.2.1 (235, 3, 239) (List.mem_of_getElem? (i := 250) (by decide +kernel))
theorem rf_235_4 {S : Stt} (h : Stat S) : S.2.1 235 4 = some 240 := h.2.1 (235, 4, 240) (List.mem_of_getElem? (i := 251) (by decide +kernel))
theorem rf_241_0 {S : Stt} (h : Stat S) : S.2.1 241 0 = some 242 := h.2.1 (241, 0, 242) (List.mem_of_getElem? (i := 252) (by decide +kernel))
theorem rf_241_1 {S : Stt} (h : Stat S) : S.2.1 241 1 = some 243 := h.2.1 (241, 1, 243) (List.mem_of_getElem? (i := 253) (by decide +kernel))
theorem rf_241_2 {S : Stt} (h : Stat S) : S.2.1 241 2 = some 244 := h.2.1 (241, 2, 244) (List.mem_of_getElem? (i := 254) (by decide +kernel))
theorem rf_241_3 {S : Stt} (h : Stat S) : S.2.1 241 3 = some 245 := h.2.1 (241, 3, 245) (List.mem_of_getElem? (i := 255) (by decide +kernel))
theorem rf_241_4 {S : Stt} (h : Stat S) : S.2.1 241 4 = some 246 := h.2.1 (241, 4, 246) (List.mem_of_getElem? (i := 256) (by decide +kernel))
theorem rf_247_0 {S : Stt} (h : Stat S) : S.2.1 247 0 = some 248 := h.2.1 (247, 0, 248) (List.mem_of_getElem? (i := 257) (by decide +kernel))
theorem rf_247_1 {S : Stt} (h : Stat S) : S.2.1 247 1 = some 249 := h.2.1 (247, 1, 249) (List.mem_of_getElem? (i := 258) (by decide +kernel))
theorem rf_247_2 {S : Stt} (h : Stat S) : S.2.1 247 2 = some 250 := h.2.1 (247, 2, 250) (List.mem_of_getElem? (i := 259) (by decide +kernel))
theorem rf_247_3 {S : Stt} (h : Stat S) : S.2.1 247 3 = some 251 := h.2.1 (247, 3, 251) (List.mem_of_getElem? (i := 260) (by decide +kernel))
theorem rf_247_4 {S : Stt} (h : Stat S) : S.2.1 247 4 = some 252 := h.2.1 (247, 4, 252) (List.mem_of_getElem? (i := 261) (by decide +kernel))
theorem rf_253_0 {S : Stt} (h : Stat S) : S.2.1 253 0 = some 254 := h.2.1 (253, 0, 254) (List.mem_of_getElem? (i := 262) (by decide +kernel))
theorem rf_253_1 {S : Stt} (h : Stat S) : S.2.1 253 1 = some 255 := h.2.1 (253, 1, 255) (List.mem_of_getElem? (i := 263) (by decide +kernel))
theorem rf_253_2 {S : Stt} (h : Stat S) : S.2.1 253 2 = some 256 := h.2.1 (253, 2, 256) (List.mem_of_getElem? (i := 264) (by decide +kernel))
theorem rf_253_3 {S : Stt} (h : Stat S) : S.2.1 253 3 = some 257 := h.2.1 (253, 3, 257) (List.mem_of_getElem? (i := 265) (by decide +kernel))
theorem rf_253_4 {S : Stt} (h : Stat S) : S.2.1 253 4 = some 258 := h.2.1 (253, 4, 258) (List.mem_of_getElem? (i := 266) (by decide +kernel))
theorem rf_259_0 {S : Stt} (h : Stat S) : S.2.1 259 0 = some 260 := h.2.1 (259, 0, 260) (List.mem_of_getElem? (i := 267) (by decide +kernel))
theorem rf_259_1 {S : Stt} (h : Stat S) : S.2.1 259 1 = some 261 := h.2.1 (259, 1, 261) (List.mem_of_getElem? (i := 268) (by decide +kernel))
theorem rf_259_2 {S : Stt} (h : Stat S) : S.2.1 259 2 = some 262 := h.2.1 (259, 2, 262) (List.mem_of_getElem? (i := 269) (by decide +kernel))
theorem rf_259_3 {S : Stt} (h : Stat S) : S.2.1 259 3 = some 263 := h.2.1 (259, 3, 263) (List.mem_of_getElem? (i := 270) (by decide +kernel))
theorem rf_259_4 {S : Stt} (h : Stat S) : S.2.1 259 4 = some 264 := h.2.1 (259, 4, 264) (List.mem_of_getElem? (i := 271) (by decide +kernel))
theorem rf_265_0 {S : Stt} (h : Stat S) : S.2.1 265 0 = some 266 := h.2.1 (265, 0, 266) (List.mem_of_getElem? (i := 272) (by decide +kernel))
theorem rf_265_1 {S : Stt} (h : Stat S) : S.2.1 265 1 = some 267 := h.2.1 (265, 1, 267) (List.mem_of_getElem? (i := 273) (by decide +kernel))
theorem rf_265_2 {S : Stt} (h : Stat S) : S.2.1 265 2 = some 268 := h.2.1 (265, 2, 268) (List.mem_of_getElem? (i := 274) (by decide +kernel))
theorem rf_265_3 {S : Stt} (h : Stat S) : S.2.1 265 3 = some 269 := h.2.1 (265, 3, 269) (List.mem_of_getElem? (i := 275) (by decide +kernel))
theorem rf_265_4 {S : Stt} (h : Stat S) : S.2.1 265 4 = some 270 := h.2.1 (265, 4, 270) (List.mem_of_getElem? (i := 276) (by decide +kernel))
theorem rf_272_0 {S : Stt} (h : Stat S) : S.2.1 272 0 = some 273 := h.2.1 (272, 0, 273) (List.mem_of_getElem? (i := 277) (by decide +kernel))
theorem rf_272_1 {S : Stt} (h : Stat S) : S.2.1 272 1 = some 274 := h.2.1 (272, 1, 274) (List.mem_of_getElem? (i := 278) (by decide +kernel))
theorem rf_272_2 {S : Stt} (h : Stat S) : S.2.1 272 2 = some 275 := h.2.1 (272, 2, 275) (List.mem_of_getElem? (i := 279) (by decide +kernel))
theorem rf_272_3 {S : Stt} (h : Stat S) : S.2.1 272 3 = some 276 := h.2.1 (272, 3, 276) (List.mem_of_getElem? (i := 280) (by decide +kernel))
theorem rf_277_0 {S : Stt} (h : Stat S) : S.2.1 277 0 = some 278 := h.2.1 (277, 0, 278) (List.mem_of_getElem? (i := 281) (by decide +kernel))
theorem rf_277_4 {S : Stt} (h : Stat S) : S.2.1 277 4 = some 279 := h.2.1 (277, 4, 279) (List.mem_of_getElem? (i := 282) (by decide +kernel))
theorem rf_277_5 {S : Stt} (h : Stat S) : S.2.1 277 5 = some 280 := h.2.1 (277, 5, 280) (List.mem_of_getElem? (i := 283) (by decide +kernel))
theorem rf_277_6 {S : Stt} (h : Stat S) : S.2.1 277 6 = some 281 := h.2.1 (277, 6, 281) (List.mem_of_getElem? (i := 284) (by decide +kernel))
theorem rf_277_10 {S : Stt} (h : Stat S) : S.2.1 277 10 = some 282 := h.2.1 (277, 10, 282) (List.mem_of_getElem? (i := 285) (by decide +kernel))
theorem rf_277_12 {S : Stt} (h : Stat S) : S.2.1 277 12 = some 283 := h.2.1 (277, 12, 283) (List.mem_of_getElem? (i := 286) (by decide +kernel))
theorem rf_277_14 {S : Stt} (h : Stat S) : S.2.1 277 14 = some 284 := h.2.1 (277, 14, 284) (List.mem_of_getElem? (i := 287) (by decide +kernel))
theorem rf_277_15 {S : Stt} (h : Stat S) : S.2.1 277 15 = some 285 := h.2.1 (277, 15, 285) (List.mem_of_getElem? (i := 288) (by decide +kernel))
theorem rf_277_16 {S : Stt} (h : Stat S) : S.2.1 277 16 = some 286 := h.2.1 (277, 16, 286) (List.mem_of_getElem? (i := 289) (by decide +kernel))
theorem rf_287_0 {S : Stt} (h : Stat S) : S.2.1 287 0 = some 1 := h.2.1 (287, 0, 1) (List.mem_of_getElem? (i := 290) (by decide +kernel))
theorem rf_287_1 {S : Stt} (h : Stat S) : S.2.1 287 1 = some 288 := h.2.1 (287, 1, 288) (List.mem_of_getElem? (i := 291) (by decide +kernel))
theorem rf_289_0 {S : Stt} (h : Stat S) : S.2.1 289 0 = some 1 := h.2.1 (289, 0, 1) (List.mem_of_getElem? (i := 292) (by decide +kernel))
theorem rf_289_1 {S : Stt} (h : Stat S) : S.2.1 289 1 = some 287 := h.2.1 (289, 1, 287) (List.mem_of_getElem? (i := 293) (by decide +kernel))
theorem rf_289_2 {S : Stt} (h : Stat S) : S.2.1 289 2 = some 290 := h.2.1 (289, 2, 290) (List.mem_of_getElem? (i := 294) (by decide +kernel))
theorem rf_289_3 {S : Stt} (h : Stat S) : S.2.1 289 3 = some 291 := h.2.1 (289, 3, 291) (List.mem_of_getElem? (i := 295) (by decide +kernel))
theorem rf_289_4 {S : Stt} (h : Stat S) : S.2.1 289 4 = some 292 := h.2.1 (289, 4, 292) (List.mem_of_getElem? (i := 296) (by decide +kernel))
theorem rf_289_5 {S : Stt} (h : Stat S) : S.2.1 289 5 = some 293 := h.2.1 (289, 5, 293) (List.mem_of_getElem? (i := 297) (by decide +kernel))
theorem rf_289_6 {S : Stt} (h : Stat S) : S.2.1 289 6 = some 294 := h.2.1 (289, 6, 294) (List.mem_of_getElem? (i := 298) (by decide +kernel))
theorem rf_289_7 {S : Stt} (h : Stat S) : S.2.1 289 7 = some 295 := h.2.1 (289, 7, 295) (List.mem_of_getElem? (i := 299) (by decide +kernel))
theorem rf_289_8 {S : Stt} (h : Stat S) : S.2.1 289 8 = some 296 := h.2.1 (289, 8, 296) (List.mem_of_getElem? (i := 300) (by decide +kernel))
theorem rf_297_0 {S : Stt} (h : Stat S) : S.2.1 297 0 = some 1 := h.2.1 (297, 0, 1) (List.mem_of_getElem? (i := 301) (by decide +kernel))
theorem rf_297_1 {S : Stt} (h : Stat S) : S.2.1 297 1 = some 298 := h.2.1 (297, 1, 298) (List.mem_of_getElem? (i := 302) (by decide +kernel))
theorem rf_297_2 {S : Stt} (h : Stat S) : S.2.1 297 2 = some 299 := h.2.1 (297, 2, 299) (List.mem_of_getElem? (i := 303) (by decide +kernel))
theorem rf_297_3 {S : Stt} (h : Stat S) : S.2.1 297 3 = some 300 := h.2.1 (297, 3, 300) (List.mem_of_getElem? (i := 304) (by decide +kernel))
theorem rf_297_5 {S : Stt} (h : Stat S) : S.2.1 297 5 = some 301 := h.2.1 (297, 5, 301) (List.mem_of_getElem? (i := 305) (by decide +kernel))
theorem rf_297_6 {S : Stt} (h : Stat S) : S.2.1 297 6 = some 302 := h.2.1 (297, 6, 302) (List.mem_of_getElem? (i := 306) (by decide +kernel))
theorem rf_303_0 {S : Stt} (h : Stat S) : S.2.1 303 0 = some 1 := h.2.1 (303, 0, 1) (List.mem_of_getElem? (i := 307) (by decide +kernel))
theorem rf_303_1 {S : Stt} (h : Stat S) : S.2.1 303 1 = some 304 := h.2.1 (303, 1, 304) (List.mem_of_getElem? (i := 308) (by decide +kernel))
theorem rf_303_2 {S : Stt} (h : Stat S) : S.2.1 303 2 = some 305 := h.2.1 (303, 2, 305) (List.mem_of_getElem? (i := 309) (by decide +kernel))
theorem rf_303_3 {S : Stt} (h : Stat S) : S.2.1 303 3 = some 306 := h.2.1 (303, 3, 306) (List.mem_of_getElem? (i := 310) (by decide +kernel))
theorem rf_303_4 {S : Stt} (h : Stat S) : S.2.1 303 4 = some 307 := h.2.1 (303, 4, 307) (List.mem_of_getElem? (i := 311) (by decide +kernel))
theorem rf_308_0 {S : Stt} (h : Stat S) : S.2.1 308 0 = some 309 := h.2.1 (308, 0, 309) (List.mem_of_getElem? (i := 312) (by decide +kernel))
theorem rf_308_1 {S : Stt} (h : Stat S) : S.2.1 308 1 = some 310 := h.2.1 (308, 1, 310) (List.mem_of_getElem? (i := 313) (by decide +kernel))
theorem rf_308_2 {S : Stt} (h : Stat S) : S.2.1 308 2 = some 311 := h.2.1 (308, 2, 311) (List.mem_of_getElem? (i := 314) (by decide +kernel))
theorem rf_308_3 {S : Stt} (h : Stat S) : S.2.1 308 3 = some 312 := h.2.1 (308, 3, 312) (List.mem_of_getElem? (i := 315) (by decide +kernel))
theorem rf_308_16 {S : Stt} (h : Stat S) : S.2.1 308 16 = some 313 := h.2.1 (308, 16, 313) (List.mem_of_getElem? (i := 316) (by decide +kernel))
theorem rf_308_22 {S : Stt} (h : Stat S) : S.2.1 308 22 = some 314 := h.2.1 (308, 22, 314) (List.mem_of_getElem? (i := 317) (by decide +kernel))
theorem rf_308_23 {S : Stt} (h : Stat S) : S.2.1 308 23 = some 315 := h.2.1 (308, 23, 315) (List.mem_of_getElem? (i := 318) (by decide +kernel))
theorem rf_308_24 {S : Stt} (h : Stat S) : S.2.1 308 24 = some 316 := h.2.1 (308, 24, 316) (List.mem_of_getElem? (i := 319) (by decide +kernel))
theorem rf_308_25 {S : Stt} (h : Stat S) : S.2.1 308 25 = some 317 := h.2.1 (308, 25, 317) (List.mem_of_getElem? (i := 320) (by decide +kernel))
theorem rf_308_26 {S : Stt} (h : Stat S) : S.2.1 308 26 = some 318 := h.2.1 (308, 26, 318) (List.mem_of_getElem? (i := 321) (by decide +kernel))
theorem rf_308_27 {S : Stt} (h : Stat S) : S.2.1 308 27 = some 319 := h.2.1 (308, 27, 319) (List.mem_of_getElem? (i := 322) (by decide +kernel))
theorem rf_308_28 {S : Stt} (h : Stat S) : S.2.1 308 28 = some 320 := h.2.1 (308, 28, 320) (List.mem_of_getElem? (i := 323) (by decide +kernel))
theorem rf_308_30 {S : Stt} (h : Stat S) : S.2.1 308 30 = some 321 := h.2.1 (308, 30, 321) (List.mem_of_getElem? (i := 324) (by decide +kernel))
theorem rf_308_31 {S : Stt} (h : Stat S) : S.2.1 308 31 = some 322 := h.2.1 (308, 31, 322) (List.mem_of_getElem? (i := 325) (by decide +kernel))
theorem rf_308_32 {S : Stt} (h : Stat S) : S.2.1 308 32 = some 323 := h.2.1 (308, 32, 323) (List.mem_of_getElem? (i := 326) (by decide +kernel))
theorem rf_308_33 {S : Stt} (h : Stat S) : S.2.1 308 33 = some 324 := h.2.1 (308, 33, 324) (List.mem_of_getElem? (i := 327) (by decide +kernel))
theorem rf_308_34 {S : Stt} (h : Stat S) : S.2.1 308 34 = some 325 := h.2.1 (308, 34, 325) (List.mem_of_getElem? (i := 328) (by decide +kernel))
