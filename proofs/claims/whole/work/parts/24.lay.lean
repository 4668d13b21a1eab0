/-! printed by wip/gen/red.py: THE FIXED LAYOUT of the cells that the two constructors make; objects at any address -/
def LSt : List (Nat × Nat) := [(0, 10), (0, 8), (3, 400), (0, 0), (0, 2), (1, 8), (1, 14), (1, 14), (1, 4), (1, 4), (1, 4), (1, 64), (1, 2), (1, 16), (1, 128), (9, 6), (0, 4), (1, 400), (1, 12), (1, 12), (2, 64), (0, 4), (1, 400), (1, 12), (1, 12), (2, 64), (0, 4), (1, 400), (1, 12), (1, 12), (2, 64), (0, 4), (1, 400), (1, 12), (1, 12), (2, 64), (0, 4), (1, 400), (1, 12), (1, 12), (2, 64), (0, 4), (1, 400), (1, 12), (1, 12), (2, 64), (0, 5), (0, 4), (1, 400), (1, 12), (1, 12), (2, 64), (0, 6), (0, 2), (1, 8), (1, 14), (1, 14), (1, 4), (1, 4), (1, 4), (1, 64), (1, 2), (1, 16), (1, 128), (0, 9), (1, 4), (1, 4), (1, 4), (1, 4), (1, 4), (1, 10), (1, 10), (1, 10), (11, 4), (0, 6), (0, 9), (1, 4), (1, 4), (1, 4), (1, 4), (1, 4), (1, 10), (1, 10), (1, 10), (0, 6), (0, 9), (1, 4), (1, 4), (1, 4), (1, 4), (1, 4), (1, 10), (1, 10), (1, 10), (0, 6), (0, 9), (1, 4), (1, 4), (1, 4), (1, 4), (1, 4), (1, 10), (1, 10), (1, 10), (0, 6), (0, 9), (1, 4), (1, 4), (1, 4), (1, 4), (1, 4), (1, 10), (1, 10), (1, 10), (0, 9), (1, 4), (1, 4), (1, 4), (1, 4), (1, 4), (14, 20), (0, 9), (1, 4), (1, 4), (1, 4), (1, 4), (1, 4), (0, 9), (1, 4), (1, 4), (1, 4), (1, 4), (1, 4), (0, 9), (1, 4), (1, 4), (1, 4), (1, 4), (1, 4), (0, 9), (1, 4), (1, 4), (1, 4), (1, 4), (1, 4), (0, 9), (1, 4), (1, 4), (1, 4), (1, 4), (1, 4), (0, 9), (1, 4), (1, 4), (1, 4), (1, 4), (1, 4), (0, 9), (1, 4), (1, 4), (1, 4), (1, 4), (1, 4), (0, 9), (1, 4), (1, 4), (1, 4), (1, 4), (1, 4), (0, 9), (1, 4), (1, 4), (1, 4), (1, 4), (1, 4), (0, 9), (1, 4), (1, 4), (1, 4), (1, 4), (1, 4), (0, 9), (1, 4), (1, 4), (1, 4), (1, 4), (1, 4), (0, 9), (1, 4), (1, 4), (1, 4), (1, 4), (1, 4), (0, 9), (1, 4), (1, 4), (1, 4), (1, 4), (1, 4), (0, 9), (1, 4), (1, 4), (1, 4), (1, 4), (1, 4), (0, 9), (1, 4), (1, 4), (1, 4), (1, 4), (1, 4), (0, 9), (1, 4), (1, 4), (1, 4), (1, 4), (1, 4), (0, 9), (1, 4), (1, 4), (1, 4), (1, 4), (1, 4), (0, 9), (1, 4), (1, 4), (1, 4), (1, 4), (1, 4), (0, 9), (1, 4), (1, 4), (1, 4), (1, 4), (1, 4), (0, 9), (1, 4), (1, 4), (1, 4), (1, 4), (1, 4), (0, 1), (1, 4), (1, 4), (1, 4), (1, 4), (1, 12), (0, 7), (1, 1), (1, 1), (0, 3), (1, 1), (1, 1), (1, 1), (1, 51), (1, 32), (0, 11), (3, 400), (1, 2400), (1, 7), (1, 288), (1, 6), (1, 84), (1, 400), (2, 64), (2, 12), (1, 123), (1, 8), (1, 4), (4, 4), (1, 680), (1, 34), (1, 32768), (1, 32768), (1, 4096), (4, 7), (1, 28), (1, 492), (1, 4), (1, 4), (4, 4)]
def LRt : List (Nat × Nat) := [(0, 1), (1, 3), (2, 46), (3, 15), (4, 47), (5, 52), (6, 73), (7, 114), (8, 120), (9, 241), (10, 247), (11, 250), (12, 255), (64, 2), (192, 1), (262, 5), (263, 6), (264, 7), (265, 8), (266, 9), (267, 10), (268, 11), (269, 12), (270, 13), (271, 14), (960, 16), (961, 21), (962, 26), (963, 31), (964, 36), (965, 41), (1024, 17), (1025, 18), (1026, 19), (1027, 20), (1344, 22), (1345, 23), (1346, 24), (1347, 25), (1664, 27), (1665, 28), (1666, 29), (1667, 30), (1984, 32), (1985, 33), (1986, 34), (1987, 35), (2304, 37), (2305, 38), (2306, 39), (2307, 40), (2624, 42), (2625, 43), (2626, 44), (2627, 45), (2944, 1), (3008, 48), (3009, 49), (3010, 50), (3011, 51), (3329, 64), (3334, 70), (3335, 71), (3336, 72), (3398, 54), (3399, 55), (3400, 56), (3401, 57), (3402, 58), (3403, 59), (3404, 60), (3405, 61), (3406, 62), (3407, 63), (4096, 65), (4097, 66), (4098, 67), (4099, 68), (4100, 69), (4672, 74), (4673, 84), (4674, 94), (4675, 104), (4737, 75), (4742, 81), (4743, 82), (4744, 83), (4800, 76), (4801, 77), (4802, 78), (4803, 79), (4804, 80), (5377, 85), (5382, 91), (5383, 92), (5384, 93), (5440, 86), (5441, 87), (5442, 88), (5443, 89), (5444, 90), (6017, 95), (6022, 101), (6023, 102), (6024, 103), (6080, 96), (6081, 97), (6082, 98), (6083, 99), (6084, 100), (6657, 105), (6662, 111), (6663, 112), (6664, 113), (6720, 106), (6721, 107), (6722, 108), (6723, 109), (6724, 110), (7296, 115), (7297, 116), (7298, 117), (7299, 118), (7300, 119), (7680, 121), (7681, 127), (7682, 133), (7683, 139), (7684, 145), (7685, 151), (7686, 157), (7687, 163), (7688, 169), (7689, 175), (7690, 181), (7691, 187), (7692, 193), (7693, 199), (7694, 205), (7695, 211), (7696, 217), (7697, 223), (7698, 229), (7699, 235), (7744, 122), (7745, 123), (7746, 124), (7747, 125), (7748, 126), (8128, 128), (8129, 129), (8130, 130), (8131, 131), (8132, 132), (8512, 134), (8513, 135), (8514, 136), (8515, 137), (8516, 138), (8896, 140), (8897, 141), (8898, 142), (8899, 143), (8900, 144), (9280, 146), (9281, 147), (9282, 148), (9283, 149), (9284, 150), (9664, 152), (9665, 153), (9666, 154), (9667, 155), (9668, 156), (10048, 158), (10049, 159), (10050, 160), (10051, 161), (10052, 162), (10432, 164), (10433, 165), (10434, 166), (10435, 167), (10436, 168), (10816, 170), (10817, 171), (10818, 172), (10819, 173), (10820, 174), (11200, 176), (11201, 177), (11202, 178), (11203, 179), (11204, 180), (11584, 182), (11585, 183), (11586, 184), (11587, 185), (11588, 186), (11968, 188), (11969, 189), (11970, 190), (11971, 191), (11972, 192), (12352, 194), (12353, 195), (12354, 196), (12355, 197), (12356, 198), (12736, 200), (12737, 201), (12738, 202), (12739, 203), (12740, 204), (13120, 206), (13121, 207), (13122, 208), (13123, 209), (13124, 210), (13504, 212), (13505, 213), (13506, 214), (13507, 215), (13508, 216), (13888, 218), (13889, 219), (13890, 220), (13891, 221), (13892, 222), (14272, 224), (14273, 225), (14274, 226), (14275, 227), (14276, 228), (14656, 230), (14657, 231), (14658, 232), (14659, 233), (14660, 234), (15040, 236), (15041, 237), (15042, 238), (15043, 239), (15044, 240), (15424, 242), (15425, 243), (15426, 244), (15427, 245), (15428, 246), (16007, 254), (16384, 257), (16387, 258), (16388, 259), (16389, 260), (16390, 261), (16391, 262), (16399, 263), (16401, 264), (16403, 265), (16404, 266), (16407, 267), (16408, 268), (16409, 269), (16410, 270), (16412, 271), (16413, 272), (16414, 273), (16420, 274), (16421, 275), (16422, 276), (16424, 277), (16425, 278), (16426, 279), (16427, 280)]
def Lay (h : AH) : Prop := (∀ k t, LSt[k]? = some t → hs h k = t) ∧ (∀ a k q, k < 64 → LRt.lookup (a * 64 + k) = some q → hR h a k = some q)
theorem Lay_SH {h h' : AH} (s : SH h h') (C : Lay h) : Lay h' := ⟨fun k t e => (congrFun s.hs k).trans (C.1 k t e), fun a k q l e => (congrFun (congrFun s.2 a) k).trans (C.2 a k q l e)⟩
theorem ls0 {h : AH} (C : Lay h) : hs h 0 = (0, 10) := C.1 0 _ rfl
theorem ls1 {h : AH} (C : Lay h) : hs h 1 = (0, 8) := C.1 1 _ rfl
theorem ls2 {h : AH} (C : Lay h) : hs h 2 = (3, 400) := C.1 2 _ rfl
theorem ls3 {h : AH} (C : Lay h) : hs h 3 = (0, 0) := C.1 3 _ rfl
theorem ls4 {h : AH} (C : Lay h) : hs h 4 = (0, 2) := C.1 4 _ rfl
theorem ls5 {h : AH} (C : Lay h) : hs h 5 = (1, 8) := C.1 5 _ rfl
theorem ls6 {h : AH} (C : Lay h) : hs h 6 = (1, 14) := C.1 6 _ rfl
theorem ls7 {h : AH} (C : Lay h) : hs h 7 = (1, 14) := C.1 7 _ rfl
theorem ls8 {h : AH} (C : Lay h) : hs h 8 = (1, 4) := C.1 8 _ rfl
theorem ls9 {h : AH} (C : Lay h) : hs h 9 = (1, 4) := C.1 9 _ rfl
theorem ls10 {h : AH} (C : Lay h) : hs h 10 = (1, 4) := C.1 10 _ rfl
theorem ls11 {h : AH} (C : Lay h) : hs h 11 = (1, 64) := C.1 11 _ rfl
theorem ls12 {h : AH} (C : Lay h) : hs h 12 = (1, 2) := C.1 12 _ rfl
theorem ls13 {h : AH} (C : Lay h) : hs h 13 = (1, 16) := C.1 13 _ rfl
theorem ls14 {h : AH} (C : Lay h) : hs h 14 = (1, 128) := C.1 14 _ rfl
theorem ls15 {h : AH} (C : Lay h) : hs h 15 = (9, 6) := C.1 15 _ rfl
theorem ls16 {h : AH} (C : Lay h) : hs h 16 = (0, 4) := C.1 16 _ rfl
theorem ls17 {h : AH} (C : Lay h) : hs h 17 = (1, 400) := C.1 17 _ rfl
theorem ls18 {h : AH} (C : Lay h) : hs h 18 = (1, 12) := C.1 18 _ rfl
theorem ls19 {h : AH} (C : Lay h) : hs h 19 = (1, 12) := C.1 19 _ rfl
theorem ls20 {h : AH} (C : Lay h) : hs h 20 = (2, 64) := C.1 20 _ rfl
theorem ls21 {h : AH} (C : Lay h) : hs h 21 = (0, 4) := C.1 21 _ rfl
theorem ls22 {h : AH} (C : Lay h) : hs h 22 = (1, 400) := C.1 22 _ rfl
theorem ls23 {h : AH} (C : Lay h) : hs h 23 = (1, 12) := C.1 23 _ rfl
theorem ls24 {h : AH} (C : Lay h) : hs h 24 = (1, 12) := C.1 24 _ rfl
theorem ls25 {h : AH} (C : Lay h) : hs h 25 = (2, 64) := C.1 25 _ rfl
theorem ls26 {h : AH} (C : Lay h) : hs h 26 = (0, 4) := C.1 26 _ rfl
theorem ls27 {h : AH} (C : Lay h) : hs h 27 = (1, 400) := C.1 27 _ rfl
theorem ls28 {h : AH} (C : Lay h) : hs h 28 = (1, 12) := C.1 28 _ rfl
theorem ls29 {h : AH} (C : Lay h) : hs h 29 = (1, 12) := C.1 29 _ rfl
theorem ls30 {h : AH} (C : Lay h) : hs h 30 = (2, 64) := C.1 30 _ rfl
theorem ls31 {h : AH} (C : Lay h) : hs h 31 = (0, 4) := C.1 31 _ rfl
theorem ls32 {h : AH} (C : Lay h) : hs h 32 = (1, 400) := C.1 32 _ rfl
theorem ls33 {h : AH} (C : Lay h) : hs h 33 = (1, 12) := C.1 33 _ rfl
theorem ls34 {h : AH} (C : Lay h) : hs h 34 = (1, 12) := C.1 34 _ rfl
theorem ls35 {h : AH} (C : Lay h) : hs h 35 = (2, 64) := C.1 35 _ rfl
theorem ls36 {h : AH} (C : Lay h) : hs h 36 = (0, 4) := C.1 36 _ rfl
theorem ls37 {h : AH} (C : Lay h) : hs h 37 = (1, 400) := C.1 37 _ rfl
theorem ls38 {h : AH} (C : Lay h) : hs h 38 = (1, 12) := C.1 38 _ rfl
theorem ls39 {h : AH} (C : Lay h) : hs h 39 = (1, 12) := C.1 39 _ rfl
theorem ls40 {h : AH} (C : Lay h) : hs h 40 = (2, 64) := C.1 40 _ rfl
theorem ls41 {h : AH} (C : Lay h) : hs h 41 = (0, 4) := C.1 41 _ rfl
theorem ls42 {h : AH} (C : Lay h) : hs h 42 = (1, 400) := C.1 42 _ rfl
theorem ls43 {h : AH} (C : Lay h) : hs h 43 = (1, 12) := C.1 43 _ rfl
theorem ls44 {h : AH} (C : Lay h) : hs h 44 = (1, 12) := C.1 44 _ rfl
theorem ls45 {h : AH} (C : Lay h) : hs h 45 = (2, 64) := C.1 45 _ rfl
theorem ls46 {h : AH} (C : Lay h) : hs h 46 = (0, 5) := C.1 46 _ rfl
theorem ls47 {h : AH} (C : Lay h) : hs h 47 = (0, 4) := C.1 47 _ rfl
theorem ls48 {h : AH} (C : Lay h) : hs h 48 = (1, 400) := C.1 48 _ rfl
theorem ls49 {h : AH} (C : Lay h) : hs h 49 = (1, 12) := C.1 49 _ rfl
theorem ls50 {h : AH} (C : Lay h) : hs h 50 = (1, 12) := C.1 50 _ rfl
theorem ls51 {h : AH} (C : Lay h) : hs h 51 = (2, 64) := C.1 51 _ rfl
theorem ls52 {h : AH} (C : Lay h) : hs h 52 = (0, 6) := C.1 52 _ rfl
theorem ls53 {h : AH} (C : Lay h) : hs h 53 = (0, 2) := C.1 53 _ rfl
theorem ls54 {h : AH} (C : Lay h) : hs h 54 = (1, 8) := C.1 54 _ rfl
theorem ls55 {h : AH} (C : Lay h) : hs h 55 = (1, 14) := C.1 55 _ rfl
theorem ls56 {h : AH} (C : Lay h) : hs h 56 = (1, 14) := C.1 56 _ rfl
theorem ls57 {h : AH} (C : Lay h) : hs h 57 = (1, 4) := C.1 57 _ rfl
theorem ls58 {h : AH} (C : Lay h) : hs h 58 = (1, 4) := C.1 58 _ rfl
theorem ls59 {h : AH} (C : Lay h) : hs h 59 = (1, 4) := C.1 59 _ rfl
theorem ls60 {h : AH} (C : Lay h) : hs h 60 = (1, 64) := C.1 60 _ rfl
theorem ls61 {h : AH} (C : Lay h) : hs h 61 = (1, 2) := C.1 61 _ rfl
theorem ls62 {h : AH} (C : Lay h) : hs h 62 = (1, 16) := C.1 62 _ rfl
theorem ls63 {h : AH} (C : Lay h) : hs h 63 = (1, 128) := C.1 63 _ rfl
theorem ls64 {h : AH} (C : Lay h) : hs h 64 = (0, 9) := C.1 64 _ rfl
theorem ls65 {h : AH} (C : Lay h) : hs h 65 = (1, 4) := C.1 65 _ rfl
theorem ls66 {h : AH} (C : Lay h) : hs h 66 = (1, 4) := C.1 66 _ rfl
theorem ls67 {h : AH} (C : Lay h) : hs h 67 = (1, 4) := C.1 67 _ rfl
theorem ls68 {h : AH} (C : Lay h) : hs h 68 = (1, 4) := C.1 68 _ rfl
theorem ls69 {h : AH} (C : Lay h) : hs h 69 = (1, 4) := C.1 69 _ rfl
theorem ls70 {h : AH} (C : Lay h) : hs h 70 = (1, 10) := C.1 70 _ rfl
theorem ls71 {h : AH} (C : Lay h) : hs h 71 = (1, 10) := C.1 71 _ rfl
theorem ls72 {h : AH} (C : Lay h) : hs h 72 = (1, 10) := C.1 72 _ rfl
theorem ls73 {h : AH} (C : Lay h) : hs h 73 = (11, 4) := C.1 73 _ rfl
theorem ls74 {h : AH} (C : Lay h) : hs h 74 = (0, 6) := C.1 74 _ rfl
theorem ls75 {h : AH} (C : Lay h) : hs h 75 = (0, 9) := C.1 75 _ rfl
theorem ls76 {h : AH} (C : Lay h) : hs h 76 = (1, 4) := C.1 76 _ rfl
theorem ls77 {h : AH} (C : Lay h) : hs h 77 = (1, 4) := C.1 77 _ rfl
theorem ls78 {h : AH} (C : Lay h) : hs h 78 = (1, 4) := C.1 78 _ rfl
theorem ls79 {h : AH} (C : Lay h) : hs h 79 = (1, 4) := C.1 79 _ rfl
theorem ls80 {h : AH} (C : Lay h) : hs h 80 = (1, 4) := C.1 80 _ rfl
theorem ls81 {h : AH} (C : Lay h) : hs h 81 = (1, 10) := C.1 81 _ rfl
theorem ls82 {h : AH} (C : Lay h) : hs h 82 = (1, 10) := C.1 82 _ rfl
theorem ls83 {h : AH} (C : Lay h) : hs h 83 = (1, 10) := C.1 83 _ rfl
theorem ls84 {h : AH} (C : Lay h) : hs h 84 = (0, 6) := C.1 84 _ rfl
theorem ls85 {h : AH} (C : Lay h) : hs h 85 = (0, 9) := C.1 85 _ rfl
theorem ls86 {h : AH} (C : Lay h) : hs h 86 = (1, 4) := C.1 86 _ rfl
theorem ls87 {h : AH} (C : Lay h) : hs h 87 = (1, 4) := C.1 87 _ rfl
theorem ls88 {h : AH} (C : Lay h) : hs h 88 = (1, 4) := C.1 88 _ rfl
theorem ls89 {h : AH} (C : Lay h) : hs h 89 = (1, 4) := C.1 89 _ rfl
theorem ls90 {h : AH} (C : Lay h) : hs h 90 = (1, 4) := C.1 90 _ rfl
theorem ls91 {h : AH} (C : Lay h) : hs h 91 = (1, 10) := C.1 91 _ rfl
theorem ls92 {h : AH} (C : Lay h) : hs h 92 = (1, 10) := C.1 92 _ rfl
theorem ls93 {h : AH} (C : Lay h) : hs h 93 = (1, 10) := C.1 93 _ rfl
theorem ls94 {h : AH} (C : Lay h) : hs h 94 = (0, 6) := C.1 94 _ rfl
theorem ls95 {h : AH} (C : Lay h) : hs h 95 = (0, 9) := C.1 95 _ rfl
theorem ls96 {h : AH} (C : Lay h) : hs h 96 = (1, 4) := C.1 96 _ rfl
theorem ls97 {h : AH} (C : Lay h) : hs h 97 = (1, 4) := C.1 97 _ rfl
theorem ls98 {h : AH} (C : Lay h) : hs h 98 = (1, 4) := C.1 98 _ rfl
theorem ls99 {h : AH} (C : Lay h) : hs h 99 = (1, 4) := C.1 99 _ rfl
theorem ls100 {h : AH} (C : Lay h) : hs h 100 = (1, 4) := C.1 100 _ rfl
theorem ls101 {h : AH} (C : Lay h) : hs h 101 = (1, 10) := C.1 101 _ rfl
theorem ls102 {h : AH} (C : Lay h) : hs h 102 = (1, 10) := C.1 102 _ rfl
theorem ls103 {h : AH} (C : Lay h) : hs h 103 = (1, 10) := C.1 103 _ rfl
theorem ls104 {h : AH} (C : Lay h) : hs h 104 = (0, 6) := C.1 104 _ rfl
theorem ls105 {h : AH} (C : Lay h) : hs h 105 = (0, 9) := C.1 105 _ rfl
theorem ls106 {h : AH} (C : Lay h) : hs h 106 = (1, 4) := C.1 106 _ rfl
theorem ls107 {h : AH} (C : Lay h) : hs h 107 = (1, 4) := C.1 107 _ rfl
theorem ls108 {h : AH} (C : Lay h) : hs h 108 = (1, 4) := C.1 108 _ rfl
theorem ls109 {h : AH} (C : Lay h) : hs h 109 = (1, 4) := C.1 109 _ rfl
theorem ls110 {h : AH} (C : Lay h) : hs h 110 = (1, 4) := C.1 110 _ rfl
theorem ls111 {h : AH} (C : Lay h) : hs h 111 = (1, 10) := C.1 111 _ rfl
theorem ls112 {h : AH} (C : Lay h) : hs h 112 = (1, 10) := C.1 112 _ rfl
theorem ls113 {h : AH} (C : Lay h) : hs h 113 = (1, 10) := C.1 113 _ rfl
theorem ls114 {h : AH} (C : Lay h) : hs h 114 = (0, 9) := C.1 114 _ rfl
theorem ls115 {h : AH} (C : Lay h) : hs h 115 = (1, 4) := C.1 115 _ rfl
theorem ls116 {h : AH} (C : Lay h) : hs h 116 = (1, 4) := C.1 116 _ rfl
theorem ls117 {h : AH} (C : Lay h) : hs h 117 = (1, 4) := C.1 117 _ rfl
theorem ls118 {h : AH} (C : Lay h) : hs h 118 = (1, 4) := C.1 118 _ rfl
theorem ls119 {h : AH} (C : Lay h) : hs h 119 = (1, 4) := C.1 119 _ rfl
theorem ls120 {h : AH} (C : Lay h) : hs h 120 = (14, 20) := C.1 120 _ rfl
theorem ls121 {h : AH} (C : Lay h) : hs h 121 = (0, 9) := C.1 121 _ rfl
theorem ls122 {h : AH} (C : Lay h) : hs h 122 = (1, 4) := C.1 122 _ rfl
theorem ls123 {h : AH} (C : Lay h) : hs h 123 = (1, 4) := C.1 123 _ rfl
theorem ls124 {h : AH} (C : Lay h) : hs h 124 = (1, 4) := C.1 124 _ rfl
theorem ls125 {h : AH} (C : Lay h) : hs h 125 = (1, 4) := C.1 125 _ rfl
theorem ls126 {h : AH} (C : Lay h) : hs h 126 = (1, 4) := C.1 126 _ rfl
theorem ls127 {h : AH} (C : Lay h) : hs h 127 = (0, 9) := C.1 127 _ rfl
theorem ls128 {h : AH} (C : Lay h) : hs h 128 = (1, 4) := C.1 128 _ rfl
theorem ls129 {h : AH} (C : Lay h) : hs h 129 = (1, 4) := C.1 129 _ rfl
theorem ls130 {h : AH} (C : Lay h) : hs h 130 = (1, 4) := C.1 130 _ rfl
theorem ls131 {h : AH} (C : Lay h) : hs h 131 = (1, 4) := C.1 131 _ rfl
theorem ls132 {h : AH} (C : Lay h) : hs h 132 = (1, 4) := C.1 132 _ rfl
theorem ls133 {h : AH} (C : Lay h) : hs h 133 = (0, 9) := C.1 133 _ rfl
theorem ls134 {h : AH} (C : Lay h) : hs h 134 = (1, 4) := C.1 134 _ rfl
theorem ls135 {h : AH} (C : Lay h) : hs h 135 = (1, 4) := C.1 135 _ rfl
theorem ls136 {h : AH} (C : Lay h) : hs h 136 = (1, 4) := C.1 136 _ rfl
theorem ls137 {h : AH} (C : Lay h) : hs h 137 = (1, 4) := C.1 137 _ rfl
theorem ls138 {h : AH} (C : Lay h) : hs h 138 = (1, 4) := C.1 138 _ rfl
theorem ls139 {h : AH} (C : Lay h) : hs h 139 = (0, 9) := C.1 139 _ rfl
theorem ls140 {h : AH} (C : Lay h) : hs h 140 = (1, 4) := C.1 140 _ rfl
theorem ls141 {h : AH} (C : Lay h) : hs h 141 = (1, 4) := C.1 141 _ rfl
theorem ls142 {h : AH} (C : Lay h) : hs h 142 = (1, 4) := C.1 142 _ rfl
theorem ls143 {h : AH} (C : Lay h) : hs h 143 = (1, 4) := C.1 143 _ rfl
theorem ls144 {h : AH} (C : Lay h) : hs h 144 = (1, 4) := C.1 144 _ rfl
theorem ls145 {h : AH} (C : Lay h) : hs h 145 = (0, 9) := C.1 145 _ rfl
theorem ls146 {h : AH} (C : Lay h) : hs h 146 = (1, 4) := C.1 146 _ rfl
theorem ls147 {h : AH} (C : Lay h) : hs h 147 = (1, 4) := C.1 147 _ rfl
theorem ls148 {h : AH} (C : Lay h) : hs h 148 = (1, 4) := C.1 148 _ rfl
theorem ls149 {h : AH} (C : Lay h) : hs h 149 = (1, 4) := C.1 149 _ rfl
theorem ls150 {h : AH} (C : Lay h) : hs h 150 = (1, 4) := C.1 150 _ rfl
theorem ls151 {h : AH} (C : Lay h) : hs h 151 = (0, 9) := C.1 151 _ rfl
theorem ls152 {h : AH} (C : Lay h) : hs h 152 = (1, 4) := C.1 152 _ rfl
theorem ls153 {h : AH} (C : Lay h) : hs h 153 = (1, 4) := C.1 153 _ rfl
theorem ls154 {h : AH} (C : Lay h) : hs h 154 = (1, 4) := C.1 154 _ rfl
theorem ls155 {h : AH} (C : Lay h) : hs h 155 = (1, 4) := C.1 155 _ rfl
theorem ls156 {h : AH} (C : Lay h) : hs h 156 = (1, 4) := C.1 156 _ rfl
theorem ls157 {h : AH} (C : Lay h) : hs h 157 = (0, 9) := C.1 157 _ rfl
theorem ls158 {h : AH} (C : Lay h) : hs h 158 = (1, 4) := C.1 158 _ rfl
theorem ls159 {h : AH} (C : Lay h) : hs h 159 = (1, 4) := C.1 159 _ rfl
theorem ls160 {h : AH} (C : Lay h) : hs h 160 = (1, 4) := C.1 160 _ rfl
theorem ls161 {h : AH} (C : Lay h) : hs h 161 = (1, 4) := C.1 161 _ rfl
theorem ls162 {h : AH} (C : Lay h) : hs h 162 = (1, 4) := C.1 162 _ rfl
theorem ls163 {h : AH} (C : Lay h) : hs h 163 = (0, 9) := C.1 163 _ rfl
theorem ls164 {h : AH} (C : Lay h) : hs h 164 = (1, 4) := C.1 164 _ rfl
theorem ls165 {h : AH} (C : Lay h) : hs h 165 = (1, 4) := C.1 165 _ rfl
theorem ls166 {h : AH} (C : Lay h) : hs h 166 = (1, 4) := C.1 166 _ rfl
theorem ls167 {h : AH} (C : Lay h) : hs h 167 = (1, 4) := C.1 167 _ rfl
theorem ls168 {h : AH} (C : Lay h) : hs h 168 = (1, 4) := C.1 168 _ rfl
theorem ls169 {h : AH} (C : Lay h) : hs h 169 = (0, 9) := C.1 169 _ rfl
theorem ls170 {h : AH} (C : Lay h) : hs h 170 = (1, 4) := C.1 170 _ rfl
theorem ls171 {h : AH} (C : Lay h) : hs h 171 = (1, 4) := C.1 171 _ rfl
theorem ls172 {h : AH} (C : Lay h) : hs h 172 = (1, 4) := C.1 172 _ rfl
theorem ls173 {h : AH} (C : Lay h) : hs h 173 = (1, 4) := C.1 173 _ rfl
theorem ls174 {h : AH} (C : Lay h) : hs h 174 = (1, 4) := C.1 174 _ rfl
theorem ls175 {h : AH} (C : Lay h) : hs h 175 = (0, 9) := C.1 175 _ rfl
theorem ls176 {h : AH} (C : Lay h) : hs h 176 = (1, 4) := C.1 176 _ rfl
theorem ls177 {h : AH} (C : Lay h) : hs h 177 = (1, 4) := C.1 177 _ rfl
theorem ls178 {h : AH} (C : Lay h) : hs h 178 = (1, 4) := C.1 178 _ rfl
theorem ls179 {h : AH} (C : Lay h) : hs h 179 = (1, 4) := C.1 179 _ rfl
theorem ls180 {h : AH} (C : Lay h) : hs h 180 = (1, 4) := C.1 180 _ rfl
theorem ls181 {h : AH} (C : Lay h) : hs h 181 = (0, 9) := C.1 181 _ rfl
theorem ls182 {h : AH} (C : Lay h) : hs h 182 = (1, 4) := C.1 182 _ rfl
theorem ls183 {h : AH} (C : Lay h) : hs h 183 = (1, 4) := C.1 183 _ rfl
theorem ls184 {h : AH} (C : Lay h) : hs h 184 = (1, 4) := C.1 184 _ rfl
theorem ls185 {h : AH} (C : Lay h) : hs h 185 = (1, 4) := C.1 185 _ rfl
theorem ls186 {h : AH} (C : Lay h) : hs h 186 = (1, 4) := C.1 186 _ rfl
theorem ls187 {h : AH} (C : Lay h) : hs h 187 = (0, 9) := C.1 187 _ rfl
theorem ls188 {h : AH} (C : Lay h) : hs h 188 = (1, 4) := C.1 188 _ rfl
theorem ls189 {h : AH} (C : Lay h) : hs h 189 = (1, 4) := C.1 189 _ rfl
theorem ls190 {h : AH} (C : Lay h) : hs h 190 = (1, 4) := C.1 190 _ rfl
theorem ls191 {h : AH} (C : Lay h) : hs h 191 = (1, 4) := C.1 191 _ rfl
theorem ls192 {h : AH} (C : Lay h) : hs h 192 = (1, 4) := C.1 192 _ rfl
theorem ls193 {h : AH} (C : Lay h) : hs h 193 = (0, 9) := C.1 193 _ rfl
theorem ls194 {h : AH} (C : Lay h) : hs h 194 = (1, 4) := C.1 194 _ rfl
theorem ls195 {h : AH} (C : Lay h) : hs h 195 = (1, 4) := C.1 195 _ rfl
theorem ls196 {h : AH} (C : Lay h) : hs h 196 = (1, 4) := C.1 196 _ rfl
theorem ls197 {h : AH} (C : Lay h) : hs h 197 = (1, 4) := C.1 197 _ rfl
theorem ls198 {h : AH} (C : Lay h) : hs h 198 = (1, 4) := C.1 198 _ rfl
theorem ls199 {h : AH} (C : Lay h) : hs h 199 = (0, 9) := C.1 199 _ rfl
theorem ls200 {h : AH} (C : Lay h) : hs h 200 = (1, 4) := C.1 200 _ rfl
theorem ls201 {h : AH} (C : Lay h) : hs h 201 = (1, 4) := C.1 201 _ rfl
theorem ls202 {h : AH} (C : Lay h) : hs h 202 = (1, 4) := C.1 202 _ rfl
theorem ls203 {h : AH} (C : Lay h) : hs h 203 = (1, 4) := C.1 203 _ rfl
theorem ls204 {h : AH} (C : Lay h) : hs h 204 = (1, 4) := C.1 204 _ rfl
theorem ls205 {h : AH} (C : Lay h) : hs h 205 = (0, 9) := C.1 205 _ rfl
theorem ls206 {h : AH} (C : Lay h) : hs h 206 = (1, 4) := C.1 206 _ rfl
theorem ls207 {h : AH} (C : Lay h) : hs h 207 = (1, 4) := C.1 207 _ rfl
theorem ls208 {h : AH} (C : Lay h) : hs h 208 = (1, 4) := C.1 208 _ rfl
theorem ls209 {h : AH} (C : Lay h) : hs h 209 = (1, 4) := C.1 209 _ rfl
theorem ls210 {h : AH} (C : Lay h) : hs h 210 = (1, 4) := C.1 210 _ rfl
theorem ls211 {h : AH} (C : Lay h) : hs h 211 = (0, 9) := C.1 211 _ rfl
theorem ls212 {h : AH} (C : Lay h) : hs h 212 = (1, 4) := C.1 212 _ rfl
theorem ls213 {h : AH} (C : Lay h) : hs h 213 = (1, 4) := C.1 213 _ rfl
theorem ls214 {h : AH} (C : Lay h) : hs h 214 = (1, 4) := C.1 214 _ rfl
theorem ls215 {h : AH} (C : Lay h) : hs h 215 = (1, 4) := C.1 215 _ rfl
theorem ls216 {h : AH} (C : Lay h) : hs h 216 = (1, 4) := C.1 216 _ rfl
theorem ls217 {h : AH} (C : Lay h) : hs h 217 = (0, 9) := C.1 217 _ rfl
theorem ls218 {h : AH} (C : Lay h) : hs h 218 = (1, 4) := C.1 218 _ rfl
theorem ls219 {h : AH} (C : Lay h) : hs h 219 = (1, 4) := C.1 219 _ rfl
theorem ls220 {h : AH} (C : Lay h) : hs h 220 = (1, 4) := C.1 220 _ rfl
theorem ls221 {h : AH} (C : Lay h) : hs h 221 = (1, 4) := C.1 221 _ rfl
theorem ls222 {h : AH} (C : Lay h) : hs h 222 = (1, 4) := C.1 222 _ rfl
theorem ls223 {h : AH} (C : Lay h) : hs h 223 = (0, 9) := C.1 223 _ rfl
theorem ls224 {h : AH} (C : Lay h) : hs h 224 = (1, 4) := C.1 224 _ rfl
theorem ls225 {h : AH} (C : Lay h) : hs h 225 = (1, 4) := C.1 225 _ rfl
theorem ls226 {h : AH} (C : Lay h) : hs h 226 = (1, 4) := C.1 226 _ rfl
theorem ls227 {h : AH} (C : Lay h) : hs h 227 = (1, 4) := C.1 227 _ rfl
theorem ls228 {h : AH} (C : Lay h) : hs h 228 = (1, 4) := C.1 228 _ rfl
theorem ls229 {h : AH} (C : Lay h) : hs h 229 = (0, 9) := C.1 229 _ rfl
theorem ls230 {h : AH} (C : Lay h) : hs h 230 = (1, 4) := C.1 230 _ rfl
theorem ls231 {h : AH} (C : Lay h) : hs h 231 = (1, 4) := C.1 231 _ rfl
theorem ls232 {h : AH} (C : Lay h) : hs h 232 = (1, 4) := C.1 232 _ rfl
theorem ls233 {h : AH} (C : Lay h) : hs h 233 = (1, 4) := C.1 233 _ rfl
theorem ls234 {h : AH} (C : Lay h) : hs h 234 = (1, 4) := C.1 234 _ rfl
theorem ls235 {h : AH} (C : Lay h) : hs h 235 = (0, 9) := C.1 235 _ rfl
theorem ls236 {h : AH} (C : Lay h) : hs h 236 = (1, 4) := C.1 236 _ rfl
theorem ls237 {h : AH} (C : Lay h) : hs h 237 = (1, 4) := C.1 237 _ rfl
theorem ls238 {h : AH} (C : Lay h) : hs h 238 = (1, 4) := C.1 238 _ rfl
theorem ls239 {h : AH} (C : Lay h) : hs h 239 = (1, 4) := C.1 239 _ rfl
theorem ls240 {h : AH} (C : Lay h) : hs h 240 = (1, 4) := C.1 240 _ rfl
theorem ls241 {h : AH} (C : Lay h) : hs h 241 = (0, 1) := C.1 241 _ rfl
theorem ls242 {h : AH} (C : Lay h) : hs h 242 = (1, 4) := C.1 242 _ rfl
theorem ls243 {h : AH} (C : Lay h) : hs h 243 = (1, 4) := C.1 243 _ rfl
theorem ls244 {h : AH} (C : Lay h) : hs h 244 = (1, 4) := C.1 244 _ rfl
theorem ls245 {h : AH} (C : Lay h) : hs h 245 = (1, 4) := C.1 245 _ rfl
theorem ls246 {h : AH} (C : Lay h) : hs h 246 = (1, 12) := C.1 246 _ rfl
theorem ls247 {h : AH} (C : Lay h) : hs h 247 = (0, 7) := C.1 247 _ rfl
theorem ls248 {h : AH} (C : Lay h) : hs h 248 = (1, 1) := C.1 248 _ rfl
theorem ls249 {h : AH} (C : Lay h) : hs h 249 = (1, 1) := C.1 249 _ rfl
theorem ls250 {h : AH} (C : Lay h) : hs h 250 = (0, 3) := C.1 250 _ rfl
theorem ls251 {h : AH} (C : Lay h) : hs h 251 = (1, 1) := C.1 251 _ rfl
theorem ls252 {h : AH} (C : Lay h) : hs h 252 = (1, 1) := C.1 252 _ rfl
theorem ls253 {h : AH} (C : Lay h) : hs h 253 = (1, 1) := C.1 253 _ rfl
theorem ls254 {h : AH} (C : Lay h) : hs h 254 = (1, 51) := C.1 254 _ rfl
theorem ls255 {h : AH} (C : Lay h) : hs h 255 = (1, 32) := C.1 255 _ rfl
theorem ls256 {h : AH} (C : Lay h) : hs h 256 = (0, 11) := C.1 256 _ rfl
theorem ls257 {h : AH} (C : Lay h) : hs h 257 = (3, 400) := C.1 257 _ rfl
theorem ls258 {h : AH} (C : Lay h) : hs h 258 = (1, 2400) := C.1 258 _ rfl
theorem ls259 {h : AH} (C : Lay h) : hs h 259 = (1, 7) := C.1 259 _ rfl
theorem ls260 {h : AH} (C : Lay h) : hs h 260 = (1, 288) := C.1 260 _ rfl
theorem ls261 {h : AH} (C : Lay h) : hs h 261 = (1, 6) := C.1 261 _ rfl
theorem ls262 {h : AH} (C : Lay h) : hs h 262 = (1, 84) := C.1 262 _ rfl
theorem ls263 {h : AH} (C : Lay h) : hs h 263 = (1, 400) := C.1 263 _ rfl
theorem ls264 {h : AH} (C : Lay h) : hs h 264 = (2, 64) := C.1 264 _ rfl
theorem ls265 {h : AH} (C : Lay h) : hs h 265 = (2, 12) := C.1 265 _ rfl
theorem ls266 {h : AH} (C : Lay h) : hs h 266 = (1, 123) := C.1 266 _ rfl
theorem ls267 {h : AH} (C : Lay h) : hs h 267 = (1, 8) := C.1 267 _ rfl
theorem ls268 {h : AH} (C : Lay h) : hs h 268 = (1, 4) := C.1 268 _ rfl
theorem ls269 {h : AH} (C : Lay h) : hs h 269 = (4, 4) := C.1 269 _ rfl
theorem ls270 {h : AH} (C : Lay h) : hs h 270 = (1, 680) := C.1 270 _ rfl
theorem ls271 {h : AH} (C : Lay h) : hs h 271 = (1, 34) := C.1 271 _ rfl
theorem ls272 {h : AH} (C : Lay h) : hs h 272 = (1, 32768) := C.1 272 _ rfl
theorem ls273 {h : AH} (C : Lay h) : hs h 273 = (1, 32768) := C.1 273 _ rfl
theorem ls274 {h : AH} (C : Lay h) : hs h 274 = (1, 4096) := C.1 274 _ rfl
theorem ls275 {h : AH} (C : Lay h) : hs h 275 = (4, 7) := C.1 275 _ rfl
theorem ls276 {h : AH} (C : Lay h) : hs h 276 = (1, 28) := C.1 276 _ rfl
theorem ls277 {h : AH} (C : Lay h) : hs h 277 = (1, 492) := C.1 277 _ rfl
theorem ls278 {h : AH} (C : Lay h) : hs h 278 = (1, 4) := C.1 278 _ rfl
theorem ls279 {h : AH} (C : Lay h) : hs h 279 = (1, 4) := C.1 279 _ rfl
theorem ls280 {h : AH} (C : Lay h) : hs h 280 = (4, 4) := C.1 280 _ rfl
set_option maxRecDepth 20000 in
theorem lr0_0 {h : AH} (C : Lay h) : hR h 0 0 = some 1 := C.2 0 0 1 (by decide) rfl
set_option maxRecDepth 20000 in
theorem lr0_1 {h : AH} (C : Lay h) : hR h 0 1 = some 3 := C.2 0 1 3 (by decide) rfl
set_option maxRecDepth 20000 in
theorem lr0_2 {h : AH} (C : Lay h) : hR h 0 2 = some 46 := C.2 0 2 46 (by decide) rfl
set_option maxRecDepth 20000 in
theorem lr0_3 {h : AH} (C : Lay h) : hR h 0 3 = some 15 := C.2 0 3 15 (by decide) rfl
set_option maxRecDepth 20000 in
theorem lr0_4 {h : AH} (C : Lay h) : hR h 0 4 = some 47 := C.2 0 4 47 (by decide) rfl
set_option maxRecDepth 20000 in
theorem lr0_5 {h : AH} (C : Lay h) : hR h 0 5 = some 52 := C.2 0 5 52 (by decide) rfl
set_option maxRecDepth 20000 in
theorem lr0_6 {h : AH} (C : Lay h) : hR h 0 6 = some 73 := C.2 0 6 73 (by decide) rfl
set_option maxRecDepth 20000 in
theorem lr0_7 {h : AH} (C : Lay h) : hR h 0 7 = some 114 := C.2 0 7 114 (by decide) rfl
set_option maxRecDepth 20000 in
theorem lr0_8 {h : AH} (C : Lay h) : hR h 0 8 = some 120 := C.2 0 8 120 (by decide) rfl
set_option maxRecDepth 20000 in
theorem lr0_9 {h : AH} (C : Lay h) : hR h 0 9 = some 241 := C.2 0 9 241 (by decide) rfl
set_option maxRecDepth 20000 in
theorem lr0_10 {h : AH} (C : Lay h) : hR h 0 10 = some 247 := C.2 0 10 247 (by decide) rfl
set_option maxRecDepth 20000 in
theorem lr0_11 {h : AH} (C : Lay h) : hR h 0 11 = some 250 := C.2 0 11 250 (by decide) rfl
set_option maxRecDepth 20000 in
theorem lr0_12 {h : AH} (C : Lay h) : hR h 0 12 = some 255 := C.2 0 12 255 (by decide) rfl
set_option maxRecDepth 20000 in
theorem lr1_0 {h : AH} (C : Lay h) : hR h 1 0 = some 2 := C.2 1 0 2 (by decide) rfl
set_option maxRecDepth 20000 in
theorem lr3_0 {h : AH} (C : Lay h) : hR h 3 0 = some 1 := C.2 3 0 1 (by decide) rfl
set_option maxRecDepth 20000 in
theorem lr4_6 {h : AH} (C : Lay h) : hR h 4 6 = some 5 := C.2 4 6 5 (by decide) rfl
set_option maxRecDepth 20000 in
theorem lr4_7 {h : AH} (C : Lay h) : hR h 4 7 = some 6 := C.2 4 7 6 (by decide) rfl
set_option maxRecDepth 20000 in
theorem lr4_8 {h : AH} (C : Lay h) : hR h 4 8 = some 7 := C.2 4 8 7 (by decide) rfl
set_option maxRecDepth 20000 in
theorem lr4_9 {h : AH} (C : Lay h) : hR h 4 9 = some 8 := C.2 4 9 8 (by decide) rfl
set_option maxRecDepth 20000 in
theorem lr4_10 {h : AH} (C : Lay h) : hR h 4 10 = some 9 := C.2 4 10 9 (by decide) rfl
set_option maxRecDepth 20000 in
theorem lr4_11 {h : AH} (C : Lay h) : hR h 4 11 = some 10 := C.2 4 11 10 (by decide) rfl
set_option maxRecDepth 20000 in
theorem lr4_12 {h : AH} (C : Lay h) : hR h 4 12 = some 11 := C.2 4 12 11 (by decide) rfl
set_option maxRecDepth 20000 in
theorem lr4_13 {h : AH} (C : Lay h) : hR h 4 13 = some 12 := C.2 4 13 12 (by decide) rfl
set_option maxRecDepth 20000 in
theorem lr4_14 {h : AH} (C : Lay h) : hR h 4 14 = some 13 := C.2 4 14 13 (by decide) rfl
set_option maxRecDepth 20000 in
theorem lr4_15 {h : AH} (C : Lay h) : hR h 4 15 = some 14 := C.2 4 15 14 (by decide) rfl
set_option maxRecDepth 20000 in
theorem lr15_0 {h : AH} (C : Lay h) : hR h 15 0 = some 16 := C.2 15 0 16 (by decide) rfl
set_option maxRecDepth 20000 in
theorem lr15_1 {h : AH} (C : Lay h) : hR h 15 1 = some 21 := C.2 15 1 21 (by decide) rfl
set_option maxRecDepth 20000 in
theorem lr15_2 {h : AH} (C : Lay h) : hR h 15 2 = some 26 := C.2 15 2 26 (by decide) rfl
set_option maxRecDepth 20000 in
theorem lr15_3 {h : AH} (C : Lay h) : hR h 15 3 = some 31 := C.2 15 3 31 (by decide) rfl
set_option maxRecDepth 20000 in
theorem lr15_4 {h : AH} (C : Lay h) : hR h 15 4 = some 36 := C.2 15 4 36 (by decide) rfl
set_option maxRecDepth 20000 in
theorem lr15_5 {h : AH} (C : Lay h) : hR h 15 5 = some 41 := C.2 15 5 41 (by decide) rfl
set_option maxRecDepth 20000 in
theorem lr16_0 {h : AH} (C : Lay h) : hR h 16 0 = some 17 := C.2 16 0 17 (by decide) rfl
set_option maxRecDepth 20000 in
theorem lr16_1 {h : AH} (C : Lay h) : hR h 16 1 = some 18 := C.2 16 1 18 (by decide) rfl
set_option maxRecDepth 20000 in
theorem lr16_2 {h : AH} (C : Lay h) : hR h 16 2 = some 19 := C.2 16 2 19 (by decide) rfl
set_option maxRecDepth 20000 in
theorem lr16_3 {h : AH} (C : Lay h) : hR h 16 3 = some 20 := C.2 16 3 20 (by decide) rfl
set_option maxRecDepth 20000 in
theorem lr21_0 {h : AH} (C : Lay h) : hR h 21 0 = some 22 := C.2 21 0 22 (by decide) rfl
set_option maxRecDepth 20000 in
theorem lr21_1 {h : AH} (C : Lay h) : hR h 21 1 = some 23 := C.2 21 1 23 (by decide) rfl
set_option maxRecDepth 20000 in
theorem lr21_2 {h : AH} (C : Lay h) : hR h 21 2 = some 24 := C.2 21 2 24 (by decide) rfl
set_option maxRecDepth 20000 in
theorem lr21_3 {h : AH} (C : Lay h) : hR h 21 3 = some 25 := C.2 21 3 25 (by decide) rfl
set_option maxRecDepth 20000 in
theorem lr26_0 {h : AH} (C : Lay h) : hR h 26 0 = some 27 := C.2 26 0 27 (by decide) rfl
set_option maxRecDepth 20000 in
theorem lr26_1 {h : AH} (C : Lay h) : hR h 26 1 = some 28 := C.2 26 1 28 (by decide) rfl
set_option maxRecDepth 20000 in
theorem lr26_2 {h : AH} (C : Lay h) : hR h 26 2 = some 29 := C.2 26 2 29 (by decide) rfl
set_option maxRecDepth 20000 in
theorem lr26_3 {h : AH} (C : Lay h) : hR h 26 3 = some 30 := C.2 26 3 30 (by decide) rfl
set_option maxRecDepth 20000 in
theorem lr31_0 {h : AH} (C : Lay h) : hR h 31 0 = some 32 := C.2 31 0 32 (by decide) rfl
set_option maxRecDepth 20000 in
theorem lr31_1 {h : AH} (C : Lay h) : hR h 31 1 = some 33 := C.2 31 1 33 (by decide) rfl
set_option maxRecDepth 20000 in
theorem lr31_2 {h : AH} (C : Lay h) : hR h 31 2 = some 34 := C.2 31 2 34 (by decide) rfl
set_option maxRecDepth 20000 in
theorem lr31_3 {h : AH} (C : Lay h) : hR h 31 3 = some 35 := C.2 31 3 35 (by decide) rfl
set_option maxRecDepth 20000 in
theorem lr36_0 {h : AH} (C : Lay h) : hR h 36 0 = some 37 := C.2 36 0 37 (by decide) rfl
set_option maxRecDepth 20000 in
theorem lr36_1 {h : AH} (C : Lay h) : hR h 36 1 = some 38 := C.2 36 1 38 (by decide) rfl
set_option maxRecDepth 20000 in
theorem lr36_2 {h : AH} (C : Lay h) : hR h 36 2 = some 39 := C.2 36 2 39 (by decide) rfl
set_option maxRecDepth 20000 in
theorem lr36_3 {h : AH} (C : Lay h) : hR h 36 3 = some 40 := C.2 36 3 40 (by decide) rfl
set_option maxRecDepth 20000 in
theorem lr41_0 {h : AH} (C : Lay h) : hR h 41 0 = some 42 := C.2 41 0 42 (by decide) rfl
set_option maxRecDepth 20000 in
theorem lr41_1 {h : AH} (C : Lay h) : hR h 41 1 = some 43 := C.2 41 1 43 (by decide) rfl
set_option maxRecDepth 20000 in
theorem lr41_2 {h : AH} (C : Lay h) : hR h 41 2 = some 44 := C.2 41 2 44 (by decide) rfl
set_option maxRecDepth 20000 in
theorem lr41_3 {h : AH} (C : Lay h) : hR h 41 3 = some 45 := C.2 41 3 45 (by decide) rfl
set_option maxRecDepth 20000 in
theorem lr46_0 {h : AH} (C : Lay h) : hR h 46 0 = some 1 := C.2 46 0 1 (by decide) rfl
set_option maxRecDepth 20000 in
theorem lr47_0 {h : AH} (C : Lay h) : hR h 47 0 = some 48 := C.2 47 0 48 (by decide) rfl
set_option maxRecDepth 20000 in
theorem lr47_1 {h : AH} (C : Lay h) : hR h 47 1 = some 49 := C.2 47 1 49 (by decide) rfl
set_option maxRecDepth 20000 in
theorem lr47_2 {h : AH} (C : Lay h) : hR h 47 2 = some 50 := C.2 47 2 50 (by decide) rfl
set_option maxRecDepth 20000 in
theorem lr47_3 {h : AH} (C : Lay h) : hR h 47 3 = some 51 := C.2 47 3 51 (by decide) rfl
set_option maxRecDepth 20000 in
theorem lr52_1 {h : AH} (C : Lay h) : hR h 52 1 = some 64 := C.2 52 1 64 (by decide) rfl
set_option maxRecDepth 20000 in
theorem lr52_6 {h : AH} (C : Lay h) : hR h 52 6 = some 70 := C.2 52 6 70 (by decide) rfl
set_option maxRecDepth 20000 in
theorem lr52_7 {h : AH} (C : Lay h) : hR h 52 7 = some 71 := C.2 52 7 71 (by decide) rfl
set_option maxRecDepth 20000 in
theorem lr52_8 {h : AH} (C : Lay h) : hR h 52 8 = some 72 := C.2 52 8 72 (by decide) rfl
set_option maxRecDepth 20000 in
theorem lr53_6 {h : AH} (C : Lay h) : hR h 53 6 = some 54 := C.2 53 6 54 (by decide) rfl
set_option maxRecDepth 20000 in
theorem lr53_7 {h : AH} (C : Lay h) : hR h 53 7 = some 55 := C.2 53 7 55 (by decide) rfl
set_option maxRecDepth 20000 in
theorem lr53_8 {h : AH} (C : Lay h) : hR h 53 8 = some 56 := C.2 53 8 56 (by decide) rfl
set_option maxRecDepth 20000 in
theorem lr53_9 {h : AH} (C : Lay h) : hR h 53 9 = some 57 := C.2 53 9 57 (by decide) rfl
set_option maxRecDepth 20000 in
theorem lr53_10 {h : AH} (C : Lay h) : hR h 53 10 = some 58 := C.2 53 10 58 (by decide) rfl
set_option maxRecDepth 20000 in
theorem lr53_11 {h : AH} (C : Lay h) : hR h 53 11 = some 59 := C.2 53 11 59 (by decide) rfl
set_option maxRecDepth 20000 in
theorem lr53_12 {h : AH} (C : Lay h) : hR h 53 12 = some 60 := C.2 53 12 60 (by decide) rfl
set_option maxRecDepth 20000 in
theorem lr53_13 {h : AH} (C : Lay h) : hR h 53 13 = some 61 := C.2 53 13 61 (by decide) rfl
set_option maxRecDepth 20000 in
theorem lr53_14 {h : AH} (C : Lay h) : hR h 53 14 = some 62 := C.2 53 14 62 (by decide) rfl
set_option maxRecDepth 20000 in
theorem lr53_15 {h : AH} (C : Lay h) : hR h 53 15 = some 63 := C.2 53 15 63 (by decide) rfl
set_option maxRecDepth 20000 in
theorem lr64_0 {h : AH} (C : Lay h) : hR h 64 0 = some 65 := C.2 64 0 65 (by decide) rfl
set_option maxRecDepth 20000 in
theorem lr64_1 {h : AH} (C : Lay h) : hR h 64 1 = some 66 := C.2 64 1 66 (by decide) rfl
set_option maxRecDepth 20000 in
theorem lr64_2 {h : AH} (C : Lay h) : hR h 64 2 = some 67 := C.2 64 2 67 (by decide) rfl
set_option maxRecDepth 20000 in
theorem lr64_3 {h : AH} (C : Lay h) : hR h 64 3 = some 68 := C.2 64 3 68 (by decide) rfl
set_option maxRecDepth 20000 in
theorem lr64_4 {h : AH} (C : Lay h) : hR h 64 4 = some 69 := C.2 64 4 69 (by decide) rfl
set_option maxRecDepth 20000 in
theorem lr73_0 {h : AH} (C : Lay h) : hR h 73 0 = some 74 := C.2 73 0 74 (by decide) rfl
set_option maxRecDepth 20000 in
theorem lr73_1 {h : AH} (C : Lay h) : hR h 73 1 = some 84 := C.2 73 1 84 (by decide) rfl
set_option maxRecDepth 20000 in
theorem lr73_2 {h : AH} (C : Lay h) : hR h 73 2 = some 94 := C.2 73 2 94 (by decide) rfl
set_option maxRecDepth 20000 in
theorem lr73_3 {h : AH} (C : Lay h) : hR h 73 3 = some 104 := C.2 73 3 104 (by decide) rfl
set_option maxRecDepth 20000 in
theorem lr74_1 {h : AH} (C : Lay h) : hR h 74 1 = some 75 := C.2 74 1 75 (by decide) rfl
set_option maxRecDepth 20000 in
theorem lr74_6 {h : AH} (C : Lay h) : hR h 74 6 = some 81 := C.2 74 6 81 (by decide) rfl
set_option maxRecDepth 20000 in
theorem lr74_7 {h : AH} (C : Lay h) : hR h 74 7 = some 82 := C.2 74 7 82 (by decide) rfl
set_option maxRecDepth 20000 in
theorem lr74_8 {h : AH} (C : Lay h) : hR h 74 8 = some 83 := C.2 74 8 83 (by decide) rfl
set_option maxRecDepth 20000 in
theorem lr75_0 {h : AH} (C : Lay h) : hR h 75 0 = some 76 := C.2 75 0 76 (by decide) rfl
set_option maxRecDepth 20000 in
theorem lr75_1 {h : AH} (C : Lay h) : hR h 75 1 = some 77 := C.2 75 1 77 (by decide) rfl
set_option maxRecDepth 20000 in
theorem lr75_2 {h : AH} (C : Lay h) : hR h 75 2 = some 78 := C.2 75 2 78 (by decide) rfl
set_option maxRecDepth 20000 in
theorem lr75_3 {h : AH} (C : Lay h) : hR h 75 3 = some 79 := C.2 75 3 79 (by decide) rfl
set_option maxRecDepth 20000 in
theorem lr75_4 {h : AH} (C : Lay h) : hR h 75 4 = some 80 := C.2 75 4 80 (by decide) rfl
set_option maxRecDepth 20000 in
theorem lr84_1 {h : AH} (C : Lay h) : hR h 84 1 = some 85 := C.2 84 1 85 (by decide) rfl
set_option maxRecDepth 20000 in
theorem lr84_6 {h : AH} (C : Lay h) : hR h 84 6 = some 91 := C.2 84 6 91 (by decide) rfl
set_option maxRecDepth 20000 in
theorem lr84_7 {h : AH} (C : Lay h) : hR h 84 7 = some 92 := C.2 84 7 92 (by decide) rfl
set_option maxRecDepth 20000 in
theorem lr84_8 {h : AH} (C : Lay h) : hR h 84 8 = some 93 := C.2 84 8 93 (by decide) rfl
set_option maxRecDepth 20000 in
theorem lr85_0 {h : AH} (C : Lay h) : hR h 85 0 = some 86 := C.2 85 0 86 (by decide) rfl
set_option maxRecDepth 20000 in
theorem lr85_1 {h : AH} (C : Lay h) : hR h 85 1 = some 87 := C.2 85 1 87 (by decide) rfl
set_option maxRecDepth 20000 in
theorem lr85_2 {h : AH} (C : Lay h) : hR h 85 2 = some 88 := C.2 85 2 88 (by decide) rfl
set_option maxRecDepth 20000 in
theorem lr85_3 {h : AH} (C : Lay h) : hR h 85 3 = some 89 := C.2 85 3 89 (by decide) rfl
set_option maxRecDepth 20000 in
theorem lr85_4 {h : AH} (C : Lay h) : hR h 85 4 = some 90 := C.2 85 4 90 (by decide) rfl
set_option maxRecDepth 20000 in
theorem lr94_1 {h : AH} (C : Lay h) : hR h 94 1 = some 95 := C.2 94 1 95 (by decide) rfl
set_option maxRecDepth 20000 in
theorem lr94_6 {h : AH} (C : Lay h) : hR h 94 6 = some 101 := C.2 94 6 101 (by decide) rfl
set_option maxRecDepth 20000 in
theorem lr94_7 {h : AH} (C : Lay h) : hR h 94 7 = some 102 := C.2 94 7 102 (by decide) rfl
set_option maxRecDepth 20000 in
theorem lr94_8 {h : AH} (C : Lay h) : hR h 94 8 = some 103 := C.2 94 8 103 (by decide) rfl
set_option maxRecDepth 20000 in
theorem lr95_0 {h : AH} (C : Lay h) : hR h 95 0 = some 96 := C.2 95 0 96 (by decide) rfl
set_option maxRecDepth 20000 in
theorem lr95_1 {h : AH} (C : Lay h) : hR h 95 1 = some 97 := C.2 95 1 97 (by decide) rfl
set_option maxRecDepth 20000 in
theorem lr95_2 {h : AH} (C : Lay h) : hR h 95 2 = some 98 := C.2 95 2 98 (by decide) rfl
set_option maxRecDepth 20000 in
theorem lr95_3 {h : AH} (C : Lay h) : hR h 95 3 = some 99 := C.2 95 3 99 (by decide) rfl
set_option maxRecDepth 20000 in
theorem lr95_4 {h : AH} (C : Lay h) : hR h 95 4 = some 100 := C.2 95 4 100 (by decide) rfl
set_option maxRecDepth 20000 in
theorem lr104_1 {h : AH} (C : Lay h) : hR h 104 1 = some 105 := C.2 104 1 105 (by decide) rfl
set_option maxRecDepth 20000 in
theorem lr104_6 {h : AH} (C : Lay h) : hR h 104 6 = some 111 := C.2 104 6 111 (by decide) rfl
set_option maxRecDepth 20000 in
theorem lr104_7 {h : AH} (C : Lay h) : hR h 104 7 = some 112 := C.2 104 7 112 (by decide) rfl
set_option maxRecDepth 20000 in
theorem lr104_8 {h : AH} (C : Lay h) : hR h 104 8 = some 113 := C.2 104 8 113 (by decide) rfl
set_option maxRecDepth 20000 in
theorem lr105_0 {h : AH} (C : Lay h) : hR h 105 0 = some 106 := C.2 105 0 106 (by decide) rfl
set_option maxRecDepth 20000 in
theorem lr105_1 {h : AH} (C : Lay h) : hR h 105 1 = some 107 := C.2 105 1 107 (by decide) rfl
set_option maxRecDepth 20000 in
theorem lr105_2 {h : AH} (C : Lay h) : hR h 105 2 = some 108 := C.2 105 2 108 (by decide) rfl
set_option maxRecDepth 20000 in
theorem lr105_3 {h : AH} (C : Lay h) : hR h 105 3 = some 109 := C.2 105 3 109 (by decide) rfl
set_option maxRecDepth 20000 in
theorem lr105_4 {h : AH} (C : Lay h) : hR h 105 4 = some 110 := C.2 105 4 110 (by decide) rfl
set_option maxRecDepth 20000 in
theorem lr114_0 {h : AH} (C : Lay h) : hR h 114 0 = some 115 := C.2 114 0 115 (by decide) rfl
set_option maxRecDepth 20000 in
theorem lr114_1 {h : AH} (C : Lay h) : hR h 114 1 = some 116 := C.2 114 1 116 (by decide) rfl
set_option maxRecDepth 20000 in
theorem lr114_2 {h : AH} (C : Lay h) : hR h 114 2 = some 117 := C.2 114 2 117 (by decide) rfl
set_option maxRecDepth 20000 in
theorem lr114_3 {h : AH} (C : Lay h) : hR h 114 3 = some 118 := C.2 114 3 118 (by decide) rfl
set_option maxRecDepth 20000 in
theorem lr114_4 {h : AH} (C : Lay h) : hR h 114 4 = some 119 := C.2 114 4 119 (by decide) rfl
set_option maxRecDepth 20000 in
theorem lr120_0 {h : AH} (C : Lay h) : hR h 120 0 = some 121 := C.2 120 0 121 (by decide) rfl
set_option maxRecDepth 20000 in
theorem lr120_1 {h : AH} (C : Lay h) : hR h 120 1 = some 127 := C.2 120 1 127 (by decide) rfl
set_option maxRecDepth 20000 in
theorem lr120_2 {h : AH} (C : Lay h) : hR h 120 2 = some 133 := C.2 120 2 133 (by decide) rfl
set_option maxRecDepth 20000 in
theorem lr120_3 {h : AH} (C : Lay h) : hR h 120 3 = some 139 := C.2 120 3 139 (by decide) rfl
set_option maxRecDepth 20000 in
theorem lr120_4 {h : AH} (C : Lay h) : hR h 120 4 = some 145 := C.2 120 4 145 (by decide) rfl
set_option maxRecDepth 20000 in
theorem lr120_5 {h : AH} (C : Lay h) : hR h 120 5 = some 151 := C.2 120 5 151 (by decide) rfl
set_option maxRecDepth 20000 in
theorem lr120_6 {h : AH} (C : Lay h) : hR h 120 6 = some 157 := C.2 120 6 157 (by decide) rfl
set_option maxRecDepth 20000 in
theorem lr120_7 {h : AH} (C : Lay h) : hR h 120 7 = some 163 := C.2 120 7 163 (by decide) rfl
set_option maxRecDepth 20000 in
theorem lr120_8 {h : AH} (C : Lay h) : hR h 120 8 = some 169 := C.2 120 8 169 (by decide) rfl
set_option maxRecDepth 20000 in
theorem lr120_9 {h : AH} (C : Lay h) : hR h 120 9 = some 175 := C.2 120 9 175 (by decide) rfl
set_option maxRecDepth 20000 in
theorem lr120_10 {h : AH} (C : Lay h) : hR h 120 10 = some 181 := C.2 120 10 181 (by decide) rfl
set_option maxRecDepth 20000 in
theorem lr120_11 {h : AH} (C : Lay h) : hR h 120 11 = some 187 := C.2 120 11 187 (by decide) rfl
set_option maxRecDepth 20000 in
theorem lr120_12 {h : AH} (C : Lay h) : hR h 120 12 = some 193 := C.2 120 12 193 (by decide) rfl
set_option maxRecDepth 20000 in
theorem lr120_13 {h : AH} (C : Lay h) : hR h 120 13 = some 199 := C.2 120 13 199 (by decide) rfl
set_option maxRecDepth 20000 in
theorem lr120_14 {h : AH} (C : Lay h) : hR h 120 14 = some 205 := C.2 120 14 205 (by decide) rfl
set_option maxRecDepth 20000 in
theorem lr120_15 {h : AH} (C : Lay h) : hR h 120 15 = some 211 := C.2 120 15 211 (by decide) rfl
set_option maxRecDepth 20000 in
theorem lr120_16 {h : AH} (C : Lay h) : hR h 120 16 = some 217 := C.2 120 16 217 (by decide) rfl
set_option maxRecDepth 20000 in
theorem lr120_17 {h : AH} (C : Lay h) : hR h 120 17 = some 223 := C.2 120 17 223 (by decide) rfl
set_option maxRecDepth 20000 in
theorem lr120_18 {h : AH} (C : Lay h) : hR h 120 18 = some 229 := C.2 120 18 229 (by decide) rfl
set_option maxRecDepth 20000 in
theorem lr120_19 {h : AH} (C : Lay h) : hR h 120 19 = some 235 := C.2 120 19 235 (by decide) rfl
set_option maxRecDepth 20000 in
theorem lr121_0 {h : AH} (C : Lay h) : hR h 121 0 = some 122 := C.2 121 0 122 (by decide) rfl
set_option maxRecDepth 20000 in
theorem lr121_1 {h : AH} (C : Lay h) : hR h 121 1 = some 123 := C.2 121 1 123 (by decide) rfl
set_option maxRecDepth 20000 in
theorem lr121_2 {h : AH} (C : Lay h) : hR h 121 2 = some 124 := C.2 121 2 124 (by decide) rfl
set_option maxRecDepth 20000 in
theorem lr121_3 {h : AH} (C : Lay h) : hR h 121 3 = some 125 := C.2 121 3 125 (by decide) rfl
set_option maxRecDepth 20000 in
theorem lr121_4 {h : AH} (C : Lay h) : hR h 121 4 = some 126 := C.2 121 4 126 (by decide) rfl
set_option maxRecDepth 20000 in
theorem lr127_0 {h : AH} (C : Lay h) : hR h 127 0 = some 128 := C.2 127 0 128 (by decide) rfl
set_option maxRecDepth 20000 in
theorem lr127_1 {h : AH} (C : Lay h) : hR h 127 1 = some 129 := C.2 127 1 129 (by decide) rfl
set_option maxRecDepth 20000 in
theorem lr127_2 {h : AH} (C : Lay h) : hR h 127 2 = some 130 := C.2 127 2 130 (by decide) rfl
set_option maxRecDepth 20000 in
theorem lr127_3 {h : AH} (C : Lay h) : hR h 127 3 = some 131 := C.2 127 3 131 (by decide) rfl
set_option maxRecDepth 20000 in
theorem lr127_4 {h : AH} (C : Lay h) : hR h 127 4 = some 132 := C.2 127 4 132 (by decide) rfl
set_option maxRecDepth 20000 in
theorem lr133_0 {h : AH} (C : Lay h) : hR h 133 0 = some 134 := C.2 133 0 134 (by decide) rfl
set_option maxRecDepth 20000 in
theorem lr133_1 {h : AH} (C : Lay h) : hR h 133 1 = some 135 := C.2 133 1 135 (by decide) rfl
set_option maxRecDepth 20000 in
theorem lr133_2 {h : AH} (C : Lay h) : hR h 133 2 = some 136 := C.2 133 2 136 (by decide) rfl
set_option maxRecDepth 20000 in
theorem lr133_3 {h : AH} (C : Lay h) : hR h 133 3 = some 137 := C.2 133 3 137 (by decide) rfl
set_option maxRecDepth 20000 in
theorem lr133_4 {h : AH} (C : Lay h) : hR h 133 4 = some 138 := C.2 133 4 138 (by decide) rfl
set_option maxRecDepth 20000 in
theorem lr139_0 {h : AH} (C : Lay h) : hR h 139 0 = some 140 := C.2 139 0 140 (by decide) rfl
set_option maxRecDepth 20000 in
theorem lr139_1 {h : AH} (C : Lay h) : hR h 139 1 = some 141 := C.2 139 1 141 (by decide) rfl
set_option maxRecDepth 20000 in
theorem lr139_2 {h : AH} (C : Lay h) : hR h 139 2 = some 142 := C.2 139 2 142 (by decide) rfl
set_option maxRecDepth 20000 in
theorem lr139_3 {h : AH} (C : Lay h) : hR h 139 3 = some 143 := C.2 139 3 143 (by decide) rfl
set_option maxRecDepth 20000 in
theorem lr139_4 {h : AH} (C : Lay h) : hR h 139 4 = some 144 := C.2 139 4 144 (by decide) rfl
set_option maxRecDepth 20000 in
theorem lr145_0 {h : AH} (C : Lay h) : hR h 145 0 = some 146 := C.2 145 0 146 (by decide) rfl
set_option maxRecDepth 20000 in
theorem lr145_1 {h : AH} (C : Lay h) : hR h 145 1 = some 147 := C.2 145 1 147 (by decide) rfl
set_option maxRecDepth 20000 in
theorem lr145_2 {h : AH} (C : Lay h) : hR h 145 2 = some 148 := C.2 145 2 148 (by decide) rfl
set_option maxRecDepth 20000 in
theorem lr145_3 {h : AH} (C : Lay h) : hR h 145 3 = some 149 := C.2 145 3 149 (by decide) rfl
set_option maxRecDepth 20000 in
theorem lr145_4 {h : AH} (C : Lay h) : hR h 145 4 = some 150 := C.2 145 4 150 (by decide) rfl
set_option maxRecDepth 20000 in
theorem lr151_0 {h : AH} (C : Lay h) : hR h 151 0 = some 152 := C.2 151 0 152 (by decide) rfl
set_option maxRecDepth 20000 in
theorem lr151_1 {h : AH} (C : Lay h) : hR h 151 1 = some 153 := C.2 151 1 153 (by decide) rfl
set_option maxRecDepth 20000 in
theorem lr151_2 {h : AH} (C : Lay h) : hR h 151 2 = some 154 := C.2 151 2 154 (by decide) rfl
set_option maxRecDepth 20000 in
theorem lr151_3 {h : AH} (C : Lay h) : hR h 151 3 = some 155 := C.2 151 3 155 (by decide) rfl
set_option maxRecDepth 20000 in
theorem lr151_4 {h : AH} (C : Lay h) : hR h 151 4 = some 156 := C.2 151 4 156 (by decide) rfl
set_option maxRecDepth 20000 in
theorem lr157_0 {h : AH} (C : Lay h) : hR h 157 0 = some 158 := C.2 157 0 158 (by decide) rfl
set_option maxRecDepth 20000 in
theorem lr157_1 {h : AH} (C : Lay h) : hR h 157 1 = some 159 := C.2 157 1 159 (by decide) rfl
set_option maxRecDepth 20000 in
theorem lr157_2 {h : AH} (C : Lay h) : hR h 157 2 = some 160 := C.2 157 2 160 (by decide) rfl
set_option maxRecDepth 20000 in
theorem lr157_3 {h : AH} (C : Lay h) : hR h 157 3 = some 161 := C.2 157 3 161 (by decide) rfl
set_option maxRecDepth 20000 in
theorem lr157_4 {h : AH} (C : Lay h) : hR h 157 4 = some 162 := C.2 157 4 162 (by decide) rfl
set_option maxRecDepth 20000 in
theorem lr163_0 {h : AH} (C : Lay h) : hR h 163 0 = some 164 := C.2 163 0 164 (by decide) rfl
set_option maxRecDepth 20000 in
theorem lr163_1 {h : AH} (C : Lay h) : hR h 163 1 = some 165 := C.2 163 1 165 (by decide) rfl
set_option maxRecDepth 20000 in
theorem lr163_2 {h : AH} (C : Lay h) : hR h 163 2 = some 166 := C.2 163 2 166 (by decide) rfl
set_option maxRecDepth 20000 in
theorem lr163_3 {h : AH} (C : Lay h) : hR h 163 3 = some 167 := C.2 163 3 167 (by decide) rfl
set_option maxRecDepth 20000 in
theorem lr163_4 {h : AH} (C : Lay h) : hR h 163 4 = some 168 := C.2 163 4 168 (by decide) rfl
set_option maxRecDepth 20000 in
theorem lr169_0 {h : AH} (C : Lay h) : hR h 169 0 = some 170 := C.2 169 0 170 (by decide) rfl
set_option maxRecDepth 20000 in
theorem lr169_1 {h : AH} (C : Lay h) : hR h 169 1 = some 171 := C.2 169 1 171 (by decide) rfl
set_option maxRecDepth 20000 in
theorem lr169_2 {h : AH} (C : Lay h) : hR h 169 2 = some 172 := C.2 169 2 172 (by decide) rfl
set_option maxRecDepth 20000 in
theorem lr169_3 {h : AH} (C : Lay h) : hR h 169 3 = some 173 := C.2 169 3 173 (by decide) rfl
set_option maxRecDepth 20000 in
theorem lr169_4 {h : AH} (C : Lay h) : hR h 169 4 = some 174 := C.2 169 4 174 (by decide) rfl
set_option maxRecDepth 20000 in
theorem lr175_0 {h : AH} (C : Lay h) : hR h 175 0 = some 176 := C.2 175 0 176 (by decide) rfl
set_option maxRecDepth 20000 in
theorem lr175_1 {h : AH} (C : Lay h) : hR h 175 1 = some 177 := C.2 175 1 177 (by decide) rfl
set_option maxRecDepth 20000 in
theorem lr175_2 {h : AH} (C : Lay h) : hR h 175 2 = some 178 := C.2 175 2 178 (by decide) rfl
set_option maxRecDepth 20000 in
theorem lr175_3 {h : AH} (C : Lay h) : hR h 175 3 = some 179 := C.2 175 3 179 (by decide) rfl
set_option maxRecDepth 20000 in
theorem lr175_4 {h : AH} (C : Lay h) : hR h 175 4 = some 180 := C.2 175 4 180 (by decide) rfl
set_option maxRecDepth 20000 in
theorem lr181_0 {h : AH} (C : Lay h) : hR h 181 0 = some 182 := C.2 181 0 182 (by decide) rfl
set_option maxRecDepth 20000 in
theorem lr181_1 {h : AH} (C : Lay h) : hR h 181 1 = some 183 := C.2 181 1 183 (by decide) rfl
set_option maxRecDepth 20000 in
theorem lr181_2 {h : AH} (C : Lay h) : hR h 181 2 = some 184 := C.2 181 2 184 (by decide) rfl
set_option maxRecDepth 20000 in
theorem lr181_3 {h : AH} (C : Lay h) : hR h 181 3 = some 185 := C.2 181 3 185 (by decide) rfl
set_option maxRecDepth 20000 in
theorem lr181_4 {h : AH} (C : Lay h) : hR h 181 4 = some 186 := C.2 181 4 186 (by decide) rfl
set_option maxRecDepth 20000 in
theorem lr187_0 {h : AH} (C : Lay h) : hR h 187 0 = some 188 := C.2 187 0 188 (by decide) rfl
set_option maxRecDepth 20000 in
theorem lr187_1 {h : AH} (C : Lay h) : hR h 187 1 = some 189 := C.2 187 1 189 (by decide) rfl
set_option maxRecDepth 20000 in
theorem lr187_2 {h : AH} (C : Lay h) : hR h 187 2 = some 190 := C.2 187 2 190 (by decide) rfl
set_option maxRecDepth 20000 in
theorem lr187_3 {h : AH} (C : Lay h) : hR h 187 3 = some 191 := C.2 187 3 191 (by decide) rfl
set_option maxRecDepth 20000 in
theorem lr187_4 {h : AH} (C : Lay h) : hR h 187 4 = some 192 := C.2 187 4 192 (by decide) rfl
set_option maxRecDepth 20000 in
theorem lr193_0 {h : AH} (C : Lay h) : hR h 193 0 = some 194 := C.2 193 0 194 (by decide) rfl
set_option maxRecDepth 20000 in
theorem lr193_1 {h : AH} (C : Lay h) : hR h 193 1 = some 195 := C.2 193 1 195 (by decide) rfl
set_option maxRecDepth 20000 in
theorem lr193_2 {h : AH} (C : Lay h) : hR h 193 2 = some 196 := C.2 193 2 196 (by decide) rfl
set_option maxRecDepth 20000 in
theorem lr193_3 {h : AH} (C : Lay h) : hR h 193 3 = some 197 := C.2 193 3 197 (by decide) rfl
set_option maxRecDepth 20000 in
theorem lr193_4 {h : AH} (C : Lay h) : hR h 193 4 = some 198 := C.2 193 4 198 (by decide) rfl
set_option maxRecDepth 20000 in
theorem lr199_0 {h : AH} (C : Lay h) : hR h 199 0 = some 200 := C.2 199 0 200 (by decide) rfl
set_option maxRecDepth 20000 in
theorem lr199_1 {h : AH} (C : Lay h) : hR h 199 1 = some 201 := C.2 199 1 201 (by decide) rfl
set_option maxRecDepth 20000 in
theorem lr199_2 {h : AH} (C : Lay h) : hR h 199 2 = some 202 := C.2 199 2 202 (by decide) rfl
set_option maxRecDepth 20000 in
theorem lr199_3 {h : AH} (C : Lay h) : hR h 199 3 = some 203 := C.2 199 3 203 (by decide) rfl
set_option maxRecDepth 20000 in
theorem lr199_4 {h : AH} (C : Lay h) : hR h 199 4 = some 204 := C.2 199 4 204 (by decide) rfl
set_option maxRecDepth 20000 in
theorem lr205_0 {h : AH} (C : Lay h) : hR h 205 0 = some 206 := C.2 205 0 206 (by decide) rfl
set_option maxRecDepth 20000 in
theorem lr205_1 {h : AH} (C : Lay h) : hR h 205 1 = some 207 := C.2 205 1 207 (by decide) rfl
set_option maxRecDepth 20000 in
theorem lr205_2 {h : AH} (C : Lay h) : hR h 205 2 = some 208 := C.2 205 2 208 (by decide) rfl
set_option maxRecDepth 20000 in
theorem lr205_3 {h : AH} (C : Lay h) : hR h 205 3 = some 209 := C.2 205 3 209 (by decide) rfl
set_option maxRecDepth 20000 in
theorem lr205_4 {h : AH} (C : Lay h) : hR h 205 4 = some 210 := C.2 205 4 210 (by decide) rfl
set_option maxRecDepth 20000 in
theorem lr211_0 {h : AH} (C : Lay h) : hR h 211 0 = some 212 := C.2 211 0 212 (by decide) rfl
set_option maxRecDepth 20000 in
theorem lr211_1 {h : AH} (C : Lay h) : hR h 211 1 = some 213 := C.2 211 1 213 (by decide) rfl
set_option maxRecDepth 20000 in
theorem lr211_2 {h : AH} (C : Lay h) : hR h 211 2 = some 214 := C.2 211 2 214 (by decide) rfl
set_option maxRecDepth 20000 in
theorem lr211_3 {h : AH} (C : Lay h) : hR h 211 3 = some 215 := C.2 211 3 215 (by decide) rfl
set_option maxRecDepth 20000 in
theorem lr211_4 {h : AH} (C : Lay h) : hR h 211 4 = some 216 := C.2 211 4 216 (by decide) rfl
set_option maxRecDepth 20000 in
theorem lr217_0 {h : AH} (C : Lay h) : hR h 217 0 = some 218 := C.2 217 0 218 (by decide) rfl
set_option maxRecDepth 20000 in
theorem lr217_1 {h : AH} (C : Lay h) : hR h 217 1 = some 219 := C.2 217 1 219 (by decide) rfl
set_option maxRecDepth 20000 in
theorem lr217_2 {h : AH} (C : Lay h) : hR h 217 2 = some 220 := C.2 217 2 220 (by decide) rfl
set_option maxRecDepth 20000 in
theorem lr217_3 {h : AH} (C : Lay h) : hR h 217 3 = some 221 := C.2 217 3 221 (by decide) rfl
set_option maxRecDepth 20000 in
theorem lr217_4 {h : AH} (C : Lay h) : hR h 217 4 = some 222 := C.2 217 4 222 (by decide) rfl
set_option maxRecDepth 20000 in
theorem lr223_0 {h : AH} (C : Lay h) : hR h 223 0 = some 224 := C.2 223 0 224 (by decide) rfl
set_option maxRecDepth 20000 in
theorem lr223_1 {h : AH} (C : Lay h) : hR h 223 1 = some 225 := C.2 223 1 225 (by decide) rfl
set_option maxRecDepth 20000 in
theorem lr223_2 {h : AH} (C : Lay h) : hR h 223 2 = some 226 := C.2 223 2 226 (by decide) rfl
set_option maxRecDepth 20000 in
theorem lr223_3 {h : AH} (C : Lay h) : hR h 223 3 = some 227 := C.2 223 3 227 (by decide) rfl
set_option maxRecDepth 20000 in
theorem lr223_4 {h : AH} (C : Lay h) : hR h 223 4 = some 228 := C.2 223 4 228 (by decide) rfl
set_option maxRecDepth 20000 in
theorem lr229_0 {h : AH} (C : Lay h) : hR h 229 0 = some 230 := C.2 229 0 230 (by decide) rfl
set_option maxRecDepth 20000 in
theorem lr229_1 {h : AH} (C : Lay h) : hR h 229 1 = some 231 := C.2 229 1 231 (by decide) rfl
set_option maxRecDepth 20000 in
theorem lr229_2 {h : AH} (C : Lay h) : hR h 229 2 = some 232 := C.2 229 2 232 (by decide) rfl
set_option maxRecDepth 20000 in
theorem lr229_3 {h : AH} (C : Lay h) : hR h 229 3 = some 233 := C.2 229 3 233 (by decide) rfl
set_option maxRecDepth 20000 in
theorem lr229_4 {h : AH} (C : Lay h) : hR h 229 4 = some 234 := C.2 229 4 234 (by decide) rfl
set_option maxRecDepth 20000 in
theorem lr235_0 {h : AH} (C : Lay h) : hR h 235 0 = some 236 := C.2 235 0 236 (by decide) rfl
set_option maxRecDepth 20000 in
theorem lr235_1 {h : AH} (C : Lay h) : hR h 235 1 = some 237 := C.2 235 1 237 (by decide) rfl
set_option maxRecDepth 20000 in
theorem lr235_2 {h : AH} (C : Lay h) : hR h 235 2 = some 238 := C.2 235 2 238 (by decide) rfl
set_option maxRecDepth 20000 in
theorem lr235_3 {h : AH} (C : Lay h) : hR h 235 3 = some 239 := C.2 235 3 239 (by decide) rfl
set_option maxRecDepth 20000 in
theorem lr235_4 {h : AH} (C : Lay h) : hR h 235 4 = some 240 := C.2 235 4 240 (by decide) rfl
set_option maxRecDepth 20000 in
theorem lr241_0 {h : AH} (C : Lay h) : hR h 241 0 = some 242 := C.2 241 0 242 (by decide) rfl
set_option maxRecDepth 20000 in
theorem lr241_1 {h : AH} (C : Lay h) : hR h 241 1 = some 243 := C.2 241 1 243 (by decide) rfl
set_option maxRecDepth 20000 in
theorem lr241_2 {h : AH} (C : Lay h) : hR h 241 2 = some 244 := C.2 241 2 244 (by decide) rfl
set_option maxRecDepth 20000 in
theorem lr241_3 {h : AH} (C : Lay h) : hR h 241 3 = some 245 := C.2 241 3 245 (by decide) rfl
set_option maxRecDepth 20000 in
theorem lr241_4 {h : AH} (C : Lay h) : hR h 241 4 = some 246 := C.2 241 4 246 (by decide) rfl
set_option maxRecDepth 20000 in
theorem lr250_7 {h : AH} (C : Lay h) : hR h 250 7 = some 254 := C.2 250 7 254 (by decide) rfl
set_option maxRecDepth 20000 in
theorem lr256_0 {h : AH} (C : Lay h) : hR h 256 0 = some 257 := C.2 256 0 257 (by decide) rfl
set_option maxRecDepth 20000 in
theorem lr256_3 {h : AH} (C : Lay h) : hR h 256 3 = some 258 := C.2 256 3 258 (by decide) rfl
set_option maxRecDepth 20000 in
theorem lr256_4 {h : AH} (C : Lay h) : hR h 256 4 = some 259 := C.2 256 4 259 (by decide) rfl
set_option maxRecDepth 20000 in
theorem lr256_5 {h : AH} (C : Lay h) : hR h 256 5 = some 260 := C.2 256 5 260 (by decide) rfl
set_option maxRecDepth 20000 in
theorem lr256_6 {h : AH} (C : Lay h) : hR h 256 6 = some 261 := C.2 256 6 261 (by decide) rfl
set_option maxRecDepth 20000 in
theorem lr256_7 {h : AH} (C : Lay h) : hR h 256 7 = some 262 := C.2 256 7 262 (by decide) rfl
set_option maxRecDepth 20000 in
theorem lr256_15 {h : AH} (C : Lay h) : hR h 256 15 = some 263 := C.2 256 15 263 (by decide) rfl
set_option maxRecDepth 20000 in
theorem lr256_17 {h : AH} (C : Lay h) : hR h 256 17 = some 264 := C.2 256 17 264 (by decide) rfl
set_option maxRecDepth 20000 in
theorem lr256_19 {h : AH} (C : Lay h) : hR h 256 19 = some 265 := C.2 256 19 265 (by decide) rfl
set_option maxRecDepth 20000 in
theorem lr256_20 {h : AH} (C : Lay h) : hR h 256 20 = some 266 := C.2 256 20 266 (by decide) rfl
set_option maxRecDepth 20000 in
theorem lr256_23 {h : AH} (C : Lay h) : hR h 256 23 = some 267 := C.2 256 23 267 (by decide) rfl
set_option maxRecDepth 20000 in
theorem lr256_24 {h : AH} (C : Lay h) : hR h 256 24 = some 268 := C.2 256 24 268 (by decide) rfl
set_option maxRecDepth 20000 in
theorem lr256_25 {h : AH} (C : Lay h) : hR h 256 25 = some 269 := C.2 256 25 269 (by decide) rfl
set_option maxRecDepth 20000 in
theorem lr256_26 {h : AH} (C : Lay h) : hR h 256 26 = some 270 := C.2 256 26 270 (by decide) rfl
set_option maxRecDepth 20000 in
theorem lr256_28 {h : AH} (C : Lay h) : hR h 256 28 = some 271 := C.2 256 28 271 (by decide) rfl
set_option maxRecDepth 20000 in
theorem lr256_29 {h : AH} (C : Lay h) : hR h 256 29 = some 272 := C.2 256 29 272 (by decide) rfl
set_option maxRecDepth 20000 in
theorem lr256_30 {h : AH} (C : Lay h) : hR h 256 30 = some 273 := C.2 256 30 273 (by decide) rfl
set_option maxRecDepth 20000 in
theorem lr256_36 {h : AH} (C : Lay h) : hR h 256 36 = some 274 := C.2 256 36 274 (by decide) rfl
set_option maxRecDepth 20000 in
theorem lr256_37 {h : AH} (C : Lay h) : hR h 256 37 = some 275 := C.2 256 37 275 (by decide) rfl
set_option maxRecDepth 20000 in
theorem lr256_38 {h : AH} (C : Lay h) : hR h 256 38 = some 276 := C.2 256 38 276 (by decide) rfl
set_option maxRecDepth 20000 in
theorem lr256_40 {h : AH} (C : Lay h) : hR h 256 40 = some 277 := C.2 256 40 277 (by decide) rfl
set_option maxRecDepth 20000 in
theorem lr256_41 {h : AH} (C : Lay h) : hR h 256 41 = some 278 := C.2 256 41 278 (by decide) rfl
set_option maxRecDepth 20000 in
theorem lr256_42 {h : AH} (C : Lay h) : hR h 256 42 = some 279 := C.2 256 42 279 (by decide) rfl
set_option maxRecDepth 20000 in
theorem lr256_43 {h : AH} (C : Lay h) : hR h 256 43 = some 280 := C.2 256 43 280 (by decide) rfl
def PlanAt (h : AH) (a : Nat) : Prop := hs h a = (0, 2) ∧ hs h (a + 1) = (1, 8) ∧ hs h (a + 2) = (1, 14) ∧ hs h (a + 3) = (1, 14) ∧ hs h (a + 4) = (1, 4) ∧ hs h (a + 5) = (1, 4) ∧ hs h (a + 6) = (1, 4) ∧ hs h (a + 7) = (1, 64) ∧ hs h (a + 8) = (1, 2) ∧ hs h (a + 9) = (1, 16) ∧ hs h (a + 10) = (1, 128) ∧ hR h a 6 = some (a + 1) ∧ hR h a 7 = some (a + 2) ∧ hR h a 8 = some (a + 3) ∧ hR h a 9 = some (a + 4) ∧ hR h a 10 = some (a + 5) ∧ hR h a 11 = some (a + 6) ∧ hR h a 12 = some (a + 7) ∧ hR h a 13 = some (a + 8) ∧ hR h a 14 = some (a + 9) ∧ hR h a 15 = some (a + 10)
theorem PlanAt_SH {h h' : AH} {a : Nat} (s : SH h h') (C : PlanAt h a) : PlanAt h' a := by
  unfold PlanAt
  rw [s.hs, s.2]
  exact C
theorem plan_0 {h : AH} {a : Nat} (C : PlanAt h a) : hs h a = (0, 2) := C.1
theorem plan_1 {h : AH} {a : Nat} (C : PlanAt h a) : hs h (a + 1) = (1, 8) := C.2.1
theorem plan_2 {h : AH} {a : Nat} (C : PlanAt h a) : hs h (a + 2) = (1, 14) := C.2.2.1
theorem plan_3 {h : AH} {a : Nat} (C : PlanAt h a) : hs h (a + 3) = (1, 14) := C.2.2.2.1
theorem plan_4 {h : AH} {a : Nat} (C : PlanAt h a) : hs h (a + 4) = (1, 4) := C.2.2.2.2.1
theorem plan_5 {h : AH} {a : Nat} (C : PlanAt h a) : hs h (a + 5) = (1, 4) := C.2.2.2.2.2.1
theorem plan_6 {h : AH} {a : Nat} (C : PlanAt h a) : hs h (a + 6) = (1, 4) := C.2.2.2.2.2.2.1
theorem plan_7 {h : AH} {a : Nat} (C : PlanAt h a) : hs h (a + 7) = (1, 64) := C.2.2.2.2.2.2.2.1
theorem plan_8 {h : AH} {a : Nat} (C : PlanAt h a) : hs h (a + 8) = (1, 2) := C.2.2.2.2.2.2.2.2.1
theorem plan_9 {h : AH} {a : Nat} (C : PlanAt h a) : hs h (a + 9) = (1, 16) := C.2.2.2.2.2.2.2.2.2.1
theorem plan_10 {h : AH} {a : Nat} (C : PlanAt h a) : hs h (a + 10) = (1, 128) := C.2.2.2.2.2.2.2.2.2.2.1
theorem plan_11 {h : AH} {a : Nat} (C : PlanAt h a) : hR h a 6 = some (a + 1) := C.2.2.2.2.2.2.2.2.2.2.2.1
theorem plan_12 {h : AH} {a : Nat} (C : PlanAt h a) : hR h a 7 = some (a + 2) := C.2.2.2.2.2.2.2.2.2.2.2.2.1
theorem plan_13 {h : AH} {a : Nat} (C : PlanAt h a) : hR h a 8 = some (a + 3) := C.2.2.2.2.2.2.2.2.2.2.2.2.2.1
theorem plan_14 {h : AH} {a : Nat} (C : PlanAt h a) : hR h a 9 = some (a + 4) := C.2.2.2.2.2.2.2.2.2.2.2.2.2.2.1
theorem plan_15 {h : AH} {a : Nat} (C : PlanAt h a) : hR h a 10 = some (a + 5) := C.2.2.2.2.2.2.2.2.2.2.2.2.2.2.2.1
theorem plan_16 {h : AH} {a : Nat} (C : PlanAt h a) : hR h a 11 = some (a + 6) := C.2.2.2.2.2.2.2.2.2.2.2.2.2.2.2.2.1
theorem plan_17 {h : AH} {a : Nat} (C : PlanAt h a) : hR h a 12 = some (a + 7) := C.2.2.2.2.2.2.2.2.2.2.2.2.2.2.2.2.2.1
theorem plan_18 {h : AH} {a : Nat} (C : PlanAt h a) : hR h a 13 = some (a + 8) := C.2.2.2.2.2.2.2.2.2.2.2.2.2.2.2.2.2.2.1
theorem plan_19 {h : AH} {a : Nat} (C : PlanAt h a) : hR h a 14 = some (a + 9) := C.2.2.2.2.2.2.2.2.2.2.2.2.2.2.2.2.2.2.2.1
theorem plan_20 {h : AH} {a : Nat} (C : PlanAt h a) : hR h a 15 = some (a + 10) := C.2.2.2.2.2.2.2.2.2.2.2.2.2.2.2.2.2.2.2.2
def WorldAt (h : AH) (a : Nat) : Prop := hs h a = (0, 9) ∧ hs h (a + 1) = (1, 4) ∧ hs h (a + 2) = (1, 4) ∧ hs h (a + 3) = (1, 4) ∧ hs h (a + 4) = (1, 4) ∧ hs h (a + 5) = (1, 4) ∧ hR h a 0 = some (a + 1) ∧ hR h a 1 = some (a + 2) ∧ hR h a 2 = some (a + 3) ∧ hR h a 3 = some (a + 4) ∧ hR h a 4 = some (a + 5)
theorem WorldAt_SH {h h' : AH} {a : Nat} (s : SH h h') (C : WorldAt h a) : WorldAt h' a := by
  unfold WorldAt
  rw [s.hs, s.2]
  exact C
theorem world_0 {h : AH} {a : Nat} (C : WorldAt h a) : hs h a = (0, 9) := C.1
theorem world_1 {h : AH} {a : Nat} (C : WorldAt h a) : hs h (a + 1) = (1, 4) := C.2.1
theorem world_2 {h : AH} {a : Nat} (C : WorldAt h a) : hs h (a + 2) = (1, 4) := C.2.2.1
theorem world_3 {h : AH} {a : Nat} (C : WorldAt h a) : hs h (a + 3) = (1, 4) := C.2.2.2.1
theorem world_4 {h : AH} {a : Nat} (C : WorldAt h a) : hs h (a + 4) = (1, 4) := C.2.2.2.2.1
theorem world_5 {h : AH} {a : Nat} (C : WorldAt h a) : hs h (a + 5) = (1, 4) := C.2.2.2.2.2.1
theorem world_6 {h : AH} {a : Nat} (C : WorldAt h a) : hR h a 0 = some (a + 1) := C.2.2.2.2.2.2.1
theorem world_7 {h : AH} {a : Nat} (C : WorldAt h a) : hR h a 1 = some (a + 2) := C.2.2.2.2.2.2.2.1
theorem world_8 {h : AH} {a : Nat} (C : WorldAt h a) : hR h a 2 = some (a + 3) := C.2.2.2.2.2.2.2.2.1
theorem world_9 {h : AH} {a : Nat} (C : WorldAt h a) : hR h a 3 = some (a + 4) := C.2.2.2.2.2.2.2.2.2.1
theorem world_10 {h : AH} {a : Nat} (C : WorldAt h a) : hR h a 4 = some (a + 5) := C.2.2.2.2.2.2.2.2.2.2
def RuleAt (h : AH) (a : Nat) : Prop := hs h a = (0, 4) ∧ hs h (a + 1) = (1, 400) ∧ hs h (a + 2) = (1, 12) ∧ hs h (a + 3) = (1, 12) ∧ hs h (a + 4) = (2, 64) ∧ hR h a 0 = some (a + 1) ∧ hR h a 1 = some (a + 2) ∧ hR h a 2 = some (a + 3) ∧ hR h a 3 = some (a + 4)
theorem RuleAt_SH {h h' : AH} {a : Nat} (s : SH h h') (C : RuleAt h a) : RuleAt h' a := by
  unfold RuleAt
  rw [s.hs, s.2]
  exact C
theorem rule_0 {h : AH} {a : Nat} (C : RuleAt h a) : hs h a = (0, 4) := C.1
theorem rule_1 {h : AH} {a : Nat} (C : RuleAt h a) : hs h (a + 1) = (1, 400) := C.2.1
theorem rule_2 {h : AH} {a : Nat} (C : RuleAt h a) : hs h (a + 2) = (1, 12) := C.2.2.1
theorem rule_3 {h : AH} {a : Nat} (C : RuleAt h a) : hs h (a + 3) = (1, 12) := C.2.2.2.1
theorem rule_4 {h : AH} {a : Nat} (C : RuleAt h a) : hs h (a + 4) = (2, 64) := C.2.2.2.2.1
theorem rule_5 {h : AH} {a : Nat} (C : RuleAt h a) : hR h a 0 = some (a + 1) := C.2.2.2.2.2.1
theorem rule_6 {h : AH} {a : Nat} (C : RuleAt h a) : hR h a 1 = some (a + 2) := C.2.2.2.2.2.2.1
theorem rule_7 {h : AH} {a : Nat} (C : RuleAt h a) : hR h a 2 = some (a + 3) := C.2.2.2.2.2.2.2.1
theorem rule_8 {h : AH} {a : Nat} (C : RuleAt h a) : hR h a 3 = some (a + 4) := C.2.2.2.2.2.2.2.2
theorem RuleAt_16 {h : AH} (C : Lay h) : RuleAt h 16 := ⟨ls16 C, ls17 C, ls18 C, ls19 C, ls20 C, lr16_0 C, lr16_1 C, lr16_2 C, lr16_3 C⟩
theorem RuleAt_21 {h : AH} (C : Lay h) : RuleAt h 21 := ⟨ls21 C, ls22 C, ls23 C, ls24 C, ls25 C, lr21_0 C, lr21_1 C, lr21_2 C, lr21_3 C⟩
theorem RuleAt_26 {h : AH} (C : Lay h) : RuleAt h 26 := ⟨ls26 C, ls27 C, ls28 C, ls29 C, ls30 C, lr26_0 C, lr26_1 C, lr26_2 C, lr26_3 C⟩
theorem RuleAt_31 {h : AH} (C : Lay h) : RuleAt h 31 := ⟨ls31 C, ls32 C, ls33 C, ls34 C, ls35 C, lr31_0 C, lr31_1 C, lr31_2 C, lr31_3 C⟩
theorem RuleAt_36 {h : AH} (C : Lay h) : RuleAt h 36 := ⟨ls36 C, ls37 C, ls38 C, ls39 C, ls40 C, lr36_0 C, lr36_1 C, lr36_2 C, lr36_3 C⟩
theorem RuleAt_41 {h : AH} (C : Lay h) : RuleAt h 41 := ⟨ls41 C, ls42 C, ls43 C, ls44 C, ls45 C, lr41_0 C, lr41_1 C, lr41_2 C, lr41_3 C⟩
theorem RuleAt_47 {h : AH} (C : Lay h) : RuleAt h 47 := ⟨ls47 C, ls48 C, ls49 C, ls50 C, ls51 C, lr47_0 C, lr47_1 C, lr47_2 C, lr47_3 C⟩
theorem WorldAt_64 {h : AH} (C : Lay h) : WorldAt h 64 := ⟨ls64 C, ls65 C, ls66 C, ls67 C, ls68 C, ls69 C, lr64_0 C, lr64_1 C, lr64_2 C, lr64_3 C, lr64_4 C⟩
theorem WorldAt_114 {h : AH} (C : Lay h) : WorldAt h 114 := ⟨ls114 C, ls115 C, ls116 C, ls117 C, ls118 C, ls119 C, lr114_0 C, lr114_1 C, lr114_2 C, lr114_3 C, lr114_4 C⟩
theorem WorldAt_75 {h : AH} (C : Lay h) : WorldAt h 75 := ⟨ls75 C, ls76 C, ls77 C, ls78 C, ls79 C, ls80 C, lr75_0 C, lr75_1 C, lr75_2 C, lr75_3 C, lr75_4 C⟩
theorem WorldAt_85 {h : AH} (C : Lay h) : WorldAt h 85 := ⟨ls85 C, ls86 C, ls87 C, ls88 C, ls89 C, ls90 C, lr85_0 C, lr85_1 C, lr85_2 C, lr85_3 C, lr85_4 C⟩
theorem WorldAt_95 {h : AH} (C : Lay h) : WorldAt h 95 := ⟨ls95 C, ls96 C, ls97 C, ls98 C, ls99 C, ls100 C, lr95_0 C, lr95_1 C, lr95_2 C, lr95_3 C, lr95_4 C⟩
theorem WorldAt_105 {h : AH} (C : Lay h) : WorldAt h 105 := ⟨ls105 C, ls106 C, ls107 C, ls108 C, ls109 C, ls110 C, lr105_0 C, lr105_1 C, lr105_2 C, lr105_3 C, lr105_4 C⟩
theorem WorldAt_121 {h : AH} (C : Lay h) : WorldAt h 121 := ⟨ls121 C, ls122 C, ls123 C, ls124 C, ls125 C, ls126 C, lr121_0 C, lr121_1 C, lr121_2 C, lr121_3 C, lr121_4 C⟩
theorem WorldAt_127 {h : AH} (C : Lay h) : WorldAt h 127 := ⟨ls127 C, ls128 C, ls129 C, ls130 C, ls131 C, ls132 C, lr127_0 C, lr127_1 C, lr127_2 C, lr127_3 C, lr127_4 C⟩
theorem WorldAt_133 {h : AH} (C : Lay h) : WorldAt h 133 := ⟨ls133 C, ls134 C, ls135 C, ls136 C, ls137 C, ls138 C, lr133_0 C, lr133_1 C, lr133_2 C, lr133_3 C, lr133_4 C⟩
theorem WorldAt_139 {h : AH} (C : Lay h) : WorldAt h 139 := ⟨ls139 C, ls140 C, ls141 C, ls142 C, ls143 C, ls144 C, lr139_0 C, lr139_1 C, lr139_2 C, lr139_3 C, lr139_4 C⟩
theorem WorldAt_145 {h : AH} (C : Lay h) : WorldAt h 145 := ⟨ls145 C, ls146 C, ls147 C, ls148 C, ls149 C, ls150 C, lr145_0 C, lr145_1 C, lr145_2 C, lr145_3 C, lr145_4 C⟩
theorem WorldAt_151 {h : AH} (C : Lay h) : WorldAt h 151 := ⟨ls151 C, ls152 C, ls153 C, ls154 C, ls155 C, ls156 C, lr151_0 C, lr151_1 C, lr151_2 C, lr151_3 C, lr151_4 C⟩
theorem WorldAt_157 {h : AH} (C : Lay h) : WorldAt h 157 := ⟨ls157 C, ls158 C, ls159 C, ls160 C, ls161 C, ls162 C, lr157_0 C, lr157_1 C, lr157_2 C, lr157_3 C, lr157_4 C⟩
theorem WorldAt_163 {h : AH} (C : Lay h) : WorldAt h 163 := ⟨ls163 C, ls164 C, ls165 C, ls166 C, ls167 C, ls168 C, lr163_0 C, lr163_1 C, lr163_2 C, lr163_3 C, lr163_4 C⟩
theorem WorldAt_169 {h : AH} (C : Lay h) : WorldAt h 169 := ⟨ls169 C, ls170 C, ls171 C, ls172 C, ls173 C, ls174 C, lr169_0 C, lr169_1 C, lr169_2 C, lr169_3 C, lr169_4 C⟩
theorem WorldAt_175 {h : AH} (C : Lay h) : WorldAt h 175 := ⟨ls175 C, ls176 C, ls177 C, ls178 C, ls179 C, ls180 C, lr175_0 C, lr175_1 C, lr175_2 C, lr175_3 C, lr175_4 C⟩
theorem WorldAt_181 {h : AH} (C : Lay h) : WorldAt h 181 := ⟨ls181 C, ls182 C, ls183 C, ls184 C, ls185 C, ls186 C, lr181_0 C, lr181_1 C, lr181_2 C, lr181_3 C, lr181_4 C⟩
theorem WorldAt_187 {h : AH} (C : Lay h) : WorldAt h 187 := ⟨ls187 C, ls188 C, ls189 C, ls190 C, ls191 C, ls192 C, lr187_0 C, lr187_1 C, lr187_2 C, lr187_3 C, lr187_4 C⟩
theorem WorldAt_193 {h : AH} (C : Lay h) : WorldAt h 193 := ⟨ls193 C, ls194 C, ls195 C, ls196 C, ls197 C, ls198 C, lr193_0 C, lr193_1 C, lr193_2 C, lr193_3 C, lr193_4 C⟩
theorem WorldAt_199 {h : AH} (C : Lay h) : WorldAt h 199 := ⟨ls199 C, ls200 C, ls201 C, ls202 C, ls203 C, ls204 C, lr199_0 C, lr199_1 C, lr199_2 C, lr199_3 C, lr199_4 C⟩
theorem WorldAt_205 {h : AH} (C : Lay h) : WorldAt h 205 := ⟨ls205 C, ls206 C, ls207 C, ls208 C, ls209 C, ls210 C, lr205_0 C, lr205_1 C, lr205_2 C, lr205_3 C, lr205_4 C⟩
theorem WorldAt_211 {h : AH} (C : Lay h) : WorldAt h 211 := ⟨ls211 C, ls212 C, ls213 C, ls214 C, ls215 C, ls216 C, lr211_0 C, lr211_1 C, lr211_2 C, lr211_3 C, lr211_4 C⟩
theorem WorldAt_217 {h : AH} (C : Lay h) : WorldAt h 217 := ⟨ls217 C, ls218 C, ls219 C, ls220 C, ls221 C, ls222 C, lr217_0 C, lr217_1 C, lr217_2 C, lr217_3 C, lr217_4 C⟩
theorem WorldAt_223 {h : AH} (C : Lay h) : WorldAt h 223 := ⟨ls223 C, ls224 C, ls225 C, ls226 C, ls227 C, ls228 C, lr223_0 C, lr223_1 C, lr223_2 C, lr223_3 C, lr223_4 C⟩
theorem WorldAt_229 {h : AH} (C : Lay h) : WorldAt h 229 := ⟨ls229 C, ls230 C, ls231 C, ls232 C, ls233 C, ls234 C, lr229_0 C, lr229_1 C, lr229_2 C, lr229_3 C, lr229_4 C⟩
theorem WorldAt_235 {h : AH} (C : Lay h) : WorldAt h 235 := ⟨ls235 C, ls236 C, ls237 C, ls238 C, ls239 C, ls240 C, lr235_0 C, lr235_1 C, lr235_2 C, lr235_3 C, lr235_4 C⟩
