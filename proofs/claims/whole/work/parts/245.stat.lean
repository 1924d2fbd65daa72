/-! ===== the cells of both objects, behind the two constructors: shapes, and references that never change ===== -/
def st_sh : List ((Nat × Nat) ⊕ Nat) := [.inr 11, .inr 1, .inr 8, .inl (0, 36), .inl (0, 6), .inl (0, 6), .inl (0, 6), .inl (0, 6), .inl (0, 6), .inl (0, 5), .inl (0, 5), .inl (0, 5), .inl (0, 5), .inl (0, 5), .inl (0, 6), .inl (0, 6), .inl (0, 3), .inl (4, 6), .inl (5, 2), .inl (2, 2), .inr 4, .inl (0, 16), .inl (0, 16), .inl (0, 16), .inr 3, .inl (0, 9), .inl (0, 32), .inr 2, .inr 5, .inr 1, .inr 8, .inl (0, 36), .inl (0, 6), .inl (0, 6), .inl (0, 6), .inl (0, 6), .inl (0, 6), .inl (0, 5), .inl (0, 5), .inl (0, 5), .inl (0, 5), .inl (0, 5), .inl (0, 6), .inl (0, 6), .inl (0, 3), .inl (4, 6), .inr 4, .inl (0, 16), .inl (0, 16), .inl (0, 16), .inl (0, 16), .inl (0, 32), .inr 0, .inl (0, 30), .inl (0, 224), .inl (0, 11), .inl (0, 5), .inr 6, .inr 1, .inr 8, .inl (0, 36), .inl (0, 6), .inl (0, 6), .inl (0, 6), .inl (0, 6), .inl (0, 6), .inl (0, 5), .inl (0, 5), .inl (0, 5), .inl (0, 5), .inl (0, 5), .inl (0, 6), .inl (0, 6), .inl (0, 3), .inl (4, 6), .inr 1, .inr 8, .inl (0, 36), .inl (0, 6), .inl (0, 6), .inl (0, 6), .inl (0, 6), .inl (0, 6), .inl (0, 5), .inl (0, 5), .inl (0, 5), .inl (0, 5), .inl (0, 5), .inl (0, 6), .inl (0, 6), .inl (0, 3), .inl (4, 6), .inr 2, .inr 4, .inl (0, 16), .inl (0, 16), .inl (0, 16), .inr 7, .inr 9, .inl (0, 12), .inl (0, 12), .inl (0, 12), .inl (0, 12), .inl (0, 12), .inl (0, 436), .inr 10, .inl (1, 0), .inl (1, 400), .inl (3, 20), .inl (0, 7), .inr 1, .inr 8, .inl (0, 36), .inl (0, 6), .inl (0, 6), .inl (0, 6), .inl (0, 6), .inl (0, 6), .inl (0, 5), .inl (0, 5), .inl (0, 5), .inl (0, 5), .inl (0, 5), .inl (0, 6), .inl (0, 6), .inl (0, 3), .inl (4, 6), .inr 1, .inr 8, .inl (0, 36), .inl (0, 6), .inl (0, 6), .inl (0, 6), .inl (0, 6), .inl (0, 6), .inl (0, 5), .inl (0, 5), .inl (0, 5), .inl (0, 5), .inl (0, 5), .inl (0, 6), .inl (0, 6), .inl (0, 3), .inl (4, 6), .inr 12, .inl (0, 7), .inl (0, 5500), .inl (0, 11000), .inl (2, 2), .inl (0, 450), .inl (0, 16), .inl (0, 400), .inl (0, 16), .inl (0, 400), .inl (0, 96), .inl (0, 400), .inl (0, 400), .inl (0, 400), .inl (0, 400), .inl (3, 9), .inl (3, 7), .inl (3, 4), .inl (3, 13), .inl (3, 13), .inl (3, 400), .inl (0, 6), .inl (0, 6), .inl (0, 224), .inl (0, 36), .inl (0, 11), .inl (0, 6), .inl (0, 5), .inl (3, 21), .inl (3, 4), .inl (0, 96), .inl (0, 25)]
def st_pt : List (Nat × Nat × Nat) := [(64, 0, 65), (64, 1, 82), (64, 2, 83), (64, 3, 84), (64, 4, 88), (64, 5, 91), (64, 6, 92), (64, 7, 116), (64, 8, 121), (64, 9, 161), (64, 10, 171), (64, 11, 172), (64, 12, 173), (65, 0, 66), (65, 1, 70), (65, 2, 71), (65, 3, 72), (65, 5, 73), (65, 6, 74), (65, 7, 75), (65, 8, 76), (65, 9, 77), (65, 11, 78), (65, 12, 79), (65, 14, 80), (65, 15, 81), (66, 0, 67), (66, 1, 68), (66, 2, 69), (82, 0, 174), (82, 1, 191), (84, 0, 85), (84, 1, 86), (84, 2, 87), (88, 0, 89), (88, 1, 90), (91, 0, 65), (91, 1, 84), (91, 2, 88), (92, 0, 91), (92, 1, 93), (92, 2, 110), (92, 3, 114), (92, 4, 115), (93, 0, 94), (93, 1, 98), (93, 2, 99), (93, 3, 100), (93, 5, 101), (93, 6, 102), (93, 7, 103), (93, 8, 104), (93, 9, 105), (93, 11, 106), (93, 12, 107), (93, 14, 108), (93, 15, 109), (94, 0, 95), (94, 1, 96), (94, 2, 97), (110, 0, 111), (110, 1, 112), (110, 2, 113), (116, 0, 88), (116, 1, 117), (116, 2, 118), (116, 3, 119), (116, 4, 120), (121, 0, 88), (121, 1, 122), (121, 2, 139), (121, 3, 156), (122, 0, 123), (122, 1, 127), (122, 2, 128), (122, 3, 129), (122, 5, 130), (122, 6, 131), (122, 7, 132), (122, 8, 133), (122, 9, 134), (122, 11, 135), (122, 12, 136), (122, 14, 137), (122, 15, 138), (123, 0, 124), (123, 1, 125), (123, 2, 126), (139, 0, 140), (139, 1, 144), (139, 2, 145), (139, 3, 146), (139, 5, 147), (139, 6, 148), (139, 7, 149), (139, 8, 150), (139, 9, 151), (139, 11, 152), (139, 12, 153), (139, 14, 154), (139, 15, 155), (140, 0, 141), (140, 1, 142), (140, 2, 143), (156, 0, 139), (156, 1, 157), (156, 2, 88), (157, 0, 158), (157, 1, 159), (157, 2, 160), (161, 0, 162), (161, 1, 169), (162, 0, 163), (162, 1, 164), (162, 2, 165), (162, 3, 166), (162, 4, 167), (162, 6, 168), (174, 0, 175), (174, 1, 179), (174, 2, 180), (174, 3, 181), (174, 5, 182), (174, 6, 183), (174, 7, 184), (174, 8, 185), (174, 9, 186), (174, 11, 187), (174, 12, 188), (174, 14, 189), (174, 15, 190), (175, 0, 176), (175, 1, 177), (175, 2, 178), (191, 0, 192), (191, 1, 196), (191, 2, 197), (191, 3, 198), (191, 5, 199), (191, 6, 200), (191, 7, 201), (191, 8, 202), (191, 9, 203), (191, 11, 204), (191, 12, 205), (191, 14, 206), (191, 15, 207), (192, 0, 193), (192, 1, 194), (192, 2, 195), (208, 2, 209), (208, 3, 210), (208, 4, 211), (208, 5, 212), (208, 6, 213), (208, 7, 214), (208, 9, 215), (208, 10, 216), (208, 12, 217), (208, 22, 218), (208, 24, 219), (208, 25, 220), (208, 27, 221), (208, 28, 222), (208, 31, 223), (208, 32, 224), (208, 33, 225), (208, 35, 226), (208, 36, 227), (208, 37, 228), (208, 41, 229), (208, 42, 230), (208, 43, 231), (208, 44, 232), (208, 45, 233), (208, 46, 234), (208, 47, 235), (208, 48, 236), (208, 49, 237), (208, 50, 238), (208, 56, 239)]
def st_s0 : List ((Nat × Nat) ⊕ Nat) := [.inl (7, 3), .inl (7, 5), .inl (8, 22), .inl (8, 21), .inl (8, 1), .inl (8, 1), .inl (8, 39), .inl (8, 45), .inl (8, 5), .inl (8, 3), .inl (8, 2), .inl (8, 5), .inl (8, 2), .inl (8, 3), .inl (8, 1), .inl (8, 1), .inl (8, 5), .inl (8, 3), .inl (8, 2), .inl (8, 1)]
def ST (G : am_G) (P : Nat → Nat → Option Nat) : Prop := (∀ j s, st_sh[j]? = some s → G.2.2 (64 + j) = s) ∧ (∀ j s, st_s0[j]? = some s → G.2.2 (1 + j) = s) ∧ (∀ w ∈ st_pt, P w.1 w.2.1 = some w.2.2)
section ST
variable {G : am_G} {P : Nat → Nat → Option Nat}
theorem sh_1 (hS : ST G P) : G.2.2 1 = .inl (7, 3) := hS.2.1 0 _ rfl
theorem sh_2 (hS : ST G P) : G.2.2 2 = .inl (7, 5) := hS.2.1 1 _ rfl
theorem sh_3 (hS : ST G P) : G.2.2 3 = .inl (8, 22) := hS.2.1 2 _ rfl
theorem sh_4 (hS : ST G P) : G.2.2 4 = .inl (8, 21) := hS.2.1 3 _ rfl
theorem sh_5 (hS : ST G P) : G.2.2 5 = .inl (8, 1) := hS.2.1 4 _ rfl
theorem sh_6 (hS : ST G P) : G.2.2 6 = .inl (8, 1) := hS.2.1 5 _ rfl
theorem sh_7 (hS : ST G P) : G.2.2 7 = .inl (8, 39) := hS.2.1 6 _ rfl
theorem sh_8 (hS : ST G P) : G.2.2 8 = .inl (8, 45) := hS.2.1 7 _ rfl
theorem sh_9 (hS : ST G P) : G.2.2 9 = .inl (8, 5) := hS.2.1 8 _ rfl
theorem sh_10 (hS : ST G P) : G.2.2 10 = .inl (8, 3) := hS.2.1 9 _ rfl
theorem sh_11 (hS : ST G P) : G.2.2 11 = .inl (8, 2) := hS.2.1 10 _ rfl
theorem sh_12 (hS : ST G P) : G.2.2 12 = .inl (8, 5) := hS.2.1 11 _ rfl
theorem sh_13 (hS : ST G P) : G.2.2 13 = .inl (8, 2) := hS.2.1 12 _ rfl
theorem sh_14 (hS : ST G P) : G.2.2 14 = .inl (8, 3) := hS.2.1 13 _ rfl
theorem sh_15 (hS : ST G P) : G.2.2 15 = .inl (8, 1) := hS.2.1 14 _ rfl
theorem sh_16 (hS : ST G P) : G.2.2 16 = .inl (8, 1) := hS.2.1 15 _ rfl
theorem sh_17 (hS : ST G P) : G.2.2 17 = .inl (8, 5) := hS.2.1 16 _ rfl
theorem sh_18 (hS : ST G P) : G.2.2 18 = .inl (8, 3) := hS.2.1 17 _ rfl
theorem sh_19 (hS : ST G P) : G.2.2 19 = .inl (8, 2) := hS.2.1 18 _ rfl
theorem sh_20 (hS : ST G P) : G.2.2 20 = .inl (8, 1) := hS.2.1 19 _ rfl
theorem sh_64 (hS : ST G P) : G.2.2 64 = .inr 11 := hS.1 0 _ rfl
theorem sh_65 (hS : ST G P) : G.2.2 65 = .inr 1 := hS.1 1 _ rfl
theorem sh_66 (hS : ST G P) : G.2.2 66 = .inr 8 := hS.1 2 _ rfl
theorem sh_67 (hS : ST G P) : G.2.2 67 = .inl (0, 36) := hS.1 3 _ rfl
theorem sh_68 (hS : ST G P) : G.2.2 68 = .inl (0, 6) := hS.1 4 _ rfl
theorem sh_69 (hS : ST G P) : G.2.2 69 = .inl (0, 6) := hS.1 5 _ rfl
theorem sh_70 (hS : ST G P) : G.2.2 70 = .inl (0, 6) := hS.1 6 _ rfl
theorem sh_71 (hS : ST G P) : G.2.2 71 = .inl (0, 6) := hS.1 7 _ rfl
theorem sh_72 (hS : ST G P) : G.2.2 72 = .inl (0, 6) := hS.1 8 _ rfl
theorem sh_73 (hS : ST G P) : G.2.2 73 = .inl (0, 5) := hS.1 9 _ rfl
theorem sh_74 (hS : ST G P) : G.2.2 74 = .inl (0, 5) := hS.1 10 _ rfl
theorem sh_75 (hS : ST G P) : G.2.2 75 = .inl (0, 5) := hS.1 11 _ rfl
theorem sh_76 (hS : ST G P) : G.2.2 76 = .inl (0, 5) := hS.1 12 _ rfl
theorem sh_77 (hS : ST G P) : G.2.2 77 = .inl (0, 5) := hS.1 13 _ rfl
theorem sh_78 (hS : ST G P) : G.2.2 78 = .inl (0, 6) := hS.1 14 _ rfl
theorem sh_79 (hS : ST G P) : G.2.2 79 = .inl (0, 6) := hS.1 15 _ rfl
theorem sh_80 (hS : ST G P) : G.2.2 80 = .inl (0, 3) := hS.1 16 _ rfl
theorem sh_81 (hS : ST G P) : G.2.2 81 = .inl (4, 6) := hS.1 17 _ rfl
theorem sh_82 (hS : ST G P) : G.2.2 82 = .inl (5, 2) := hS.1 18 _ rfl
theorem sh_83 (hS : ST G P) : G.2.2 83 = .inl (2, 2) := hS.1 19 _ rfl
theorem sh_84 (hS : ST G P) : G.2.2 84 = .inr 4 := hS.1 20 _ rfl
theorem sh_85 (hS : ST G P) : G.2.2 85 = .inl (0, 16) := hS.1 21 _ rfl
theorem sh_86 (hS : ST G P) : G.2.2 86 = .inl (0, 16) := hS.1 22 _ rfl
theorem sh_87 (hS : ST G P) : G.2.2 87 = .inl (0, 16) := hS.1 23 _ rfl
theorem sh_88 (hS : ST G P) : G.2.2 88 = .inr 3 := hS.1 24 _ rfl
theorem sh_89 (hS : ST G P) : G.2.2 89 = .inl (0, 9) := hS.1 25 _ rfl
theorem sh_90 (hS : ST G P) : G.2.2 90 = .inl (0, 32) := hS.1 26 _ rfl
theorem sh_91 (hS : ST G P) : G.2.2 91 = .inr 2 := hS.1 27 _ rfl
theorem sh_92 (hS : ST G P) : G.2.2 92 = .inr 5 := hS.1 28 _ rfl
theorem sh_93 (hS : ST G P) : G.2.2 93 = .inr 1 := hS.1 29 _ rfl
theorem sh_94 (hS : ST G P) : G.2.2 94 = .inr 8 := hS.1 30 _ rfl
theorem sh_95 (hS : ST G P) : G.2.2 95 = .inl (0, 36) := hS.1 31 _ rfl
theorem sh_96 (hS : ST G P) : G.2.2 96 = .inl (0, 6) := hS.1 32 _ rfl
theorem sh_97 (hS : ST G P) : G.2.2 97 = .inl (0, 6) := hS.1 33 _ rfl
theorem sh_98 (hS : ST G P) : G.2.2 98 = .inl (0, 6) := hS.1 34 _ rfl
theorem sh_99 (hS : ST G P) : G.2.2 99 = .inl (0, 6) := hS.1 35 _ rfl
theorem sh_100 (hS : ST G P) : G.2.2 100 = .inl (0, 6) := hS.1 36 _ rfl
theorem sh_101 (hS : ST G P) : G.2.2 101 = .inl (0, 5) := hS.1 37 _ rfl
theorem sh_102 (hS : ST G P) : G.2.2 102 = .inl (0, 5) := hS.1 38 _ rfl
theorem sh_103 (hS : ST G P) : G.2.2 103 = .inl (0, 5) := hS.1 39 _ rfl
theorem sh_104 (hS : ST G P) : G.2.2 104 = .inl (0, 5) := hS.1 40 _ rfl
theorem sh_105 (hS : ST G P) : G.2.2 105 = .inl (0, 5) := hS.1 41 _ rfl
theorem sh_106 (hS : ST G P) : G.2.2 106 = .inl (0, 6) := hS.1 42 _ rfl
theorem sh_107 (hS : ST G P) : G.2.2 107 = .inl (0, 6) := hS.1 43 _ rfl
theorem sh_108 (hS : ST G P) : G.2.2 108 = .inl (0, 3) := hS.1 44 _ rfl
theorem sh_109 (hS : ST G P) : G.2.2 109 = .inl (4, 6) := hS.1 45 _ rfl
theorem sh_110 (hS : ST G P) : G.2.2 110 = .inr 4 := hS.1 46 _ rfl
theorem sh_111 (hS : ST G P) : G.2.2 111 = .inl (0, 16) := hS.1 47 _ rfl
theorem sh_112 (hS : ST G P) : G.2.2 112 = .inl (0, 16) := hS.1 48 _ rfl
theorem sh_113 (hS : ST G P) : G.2.2 113 = .inl (0, 16) := hS.1 49 _ rfl
theorem sh_114 (hS : ST G P) : G.2.2 114 = .inl (0, 16) := hS.1 50 _ rfl
theorem sh_115 (hS : ST G P) : G.2.2 115 = .inl (0, 32) := hS.1 51 _ rfl
theorem sh_116 (hS : ST G P) : G.2.2 116 = .inr 0 := hS.1 52 _ rfl
theorem sh_117 (hS : ST G P) : G.2.2 117 = .inl (0, 30) := hS.1 53 _ rfl
theorem sh_118 (hS : ST G P) : G.2.2 118 = .inl (0, 224) := hS.1 54 _ rfl
theorem sh_119 (hS : ST G P) : G.2.2 119 = .inl (0, 11) := hS.1 55 _ rfl
theorem sh_120 (hS : ST G P) : G.2.2 120 = .inl (0, 5) := hS.1 56 _ rfl
theorem sh_121 (hS : ST G P) : G.2.2 121 = .inr 6 := hS.1 57 _ rfl
theorem sh_122 (hS : ST G P) : G.2.2 122 = .inr 1 := hS.1 58 _ rfl
theorem sh_123 (hS : ST G P) : G.2.2 123 = .inr 8 := hS.1 59 _ rfl
theorem sh_124 (hS : ST G P) : G.2.2 124 = .inl (0, 36) := hS.1 60 _ rfl
theorem sh_125 (hS : ST G P) : G.2.2 125 = .inl (0, 6) := hS.1 61 _ rfl
theorem sh_126 (hS : ST G P) : G.2.2 126 = .inl (0, 6) := hS.1 62 _ rfl
theorem sh_127 (hS : ST G P) : G.2.2 127 = .inl (0, 6) := hS.1 63 _ rfl
theorem sh_128 (hS : ST G P) : G.2.2 128 = .inl (0, 6) := hS.1 64 _ rfl
theorem sh_129 (hS : ST G P) : G.2.2 129 = .inl (0, 6) := hS.1 65 _ rfl
theorem sh_130 (hS : ST G P) : G.2.2 130 = .inl (0, 5) := hS.1 66 _ rfl
theorem sh_131 (hS : ST G P) : G.2.2 131 = .inl (0, 5) := hS.1 67 _ rfl
theorem sh_132 (hS : ST G P) : G.2.2 132 = .inl (0, 5) := hS.1 68 _ rfl
theorem sh_133 (hS : ST G P) : G.2.2 133 = .inl (0, 5) := hS.1 69 _ rfl
theorem sh_134 (hS : ST G P) : G.2.2 134 = .inl (0, 5) := hS.1 70 _ rfl
theorem sh_135 (hS : ST G P) : G.2.2 135 = .inl (0, 6) := hS.1 71 _ rfl
theorem sh_136 (hS : ST G P) : G.2.2 136 = .inl (0, 6) := hS.1 72 _ rfl
theorem sh_137 (hS : ST G P) : G.2.2 137 = .inl (0, 3) := hS.1 73 _ rfl
theorem sh_138 (hS : ST G P) : G.2.2 138 = .inl (4, 6) := hS.1 74 _ rfl
theorem sh_139 (hS : ST G P) : G.2.2 139 = .inr 1 := hS.1 75 _ rfl
theorem sh_140 (hS : ST G P) : G.2.2 140 = .inr 8 := hS.1 76 _ rfl
theorem sh_141 (hS : ST G P) : G.2.2 141 = .inl (0, 36) := hS.1 77 _ rfl
theorem sh_142 (hS : ST G P) : G.2.2 142 = .inl (0, 6) := hS.1 78 _ rfl
theorem sh_143 (hS : ST G P) : G.2.2 143 = .inl (0, 6) := hS.1 79 _ rfl
theorem sh_144 (hS : ST G P) : G.2.2 144 = .inl (0, 6) := hS.1 80 _ rfl
theorem sh_145 (hS : ST G P) : G.2.2 145 = .inl (0, 6) := hS.1 81 _ rfl
theorem sh_146 (hS : ST G P) : G.2.2 146 = .inl (0, 6) := hS.1 82 _ rfl
theorem sh_147 (hS : ST G P) : G.2.2 147 = .inl (0, 5) := hS.1 83 _ rfl
theorem sh_148 (hS : ST G P) : G.2.2 148 = .inl (0, 5) := hS.1 84 _ rfl
theorem sh_149 (hS : ST G P) : G.2.2 149 = .inl (0, 5) := hS.1 85 _ rfl
theorem sh_150 (hS : ST G P) : G.2.2 150 = .inl (0, 5) := hS.1 86 _ rfl
theorem sh_151 (hS : ST G P) : G.2.2 151 = .inl (0, 5) := hS.1 87 _ rfl
theorem sh_152 (hS : ST G P) : G.2.2 152 = .inl (0, 6) := hS.1 88 _ rfl
theorem sh_153 (hS : ST G P) : G.2.2 153 = .inl (0, 6) := hS.1 89 _ rfl
theorem sh_154 (hS : ST G P) : G.2.2 154 = .inl (0, 3) := hS.1 90 _ rfl
theorem sh_155 (hS : ST G P) : G.2.2 155 = .inl (4, 6) := hS.1 91 _ rfl
theorem sh_156 (hS : ST G P) : G.2.2 156 = .inr 2 := hS.1 92 _ rfl
theorem sh_157 (hS : ST G P) : G.2.2 157 = .inr 4 := hS.1 93 _ rfl
theorem sh_158 (hS : ST G P) : G.2.2 158 = .inl (0, 16) := hS.1 94 _ rfl
theorem sh_159 (hS : ST G P) : G.2.2 159 = .inl (0, 16) := hS.1 95 _ rfl
theorem sh_160 (hS : ST G P) : G.2.2 160 = .inl (0, 16) := hS.1 96 _ rfl
theorem sh_161 (hS : ST G P) : G.2.2 161 = .inr 7 := hS.1 97 _ rfl
theorem sh_162 (hS : ST G P) : G.2.2 162 = .inr 9 := hS.1 98 _ rfl
theorem sh_163 (hS : ST G P) : G.2.2 163 = .inl (0, 12) := hS.1 99 _ rfl
theorem sh_164 (hS : ST G P) : G.2.2 164 = .inl (0, 12) := hS.1 100 _ rfl
theorem sh_165 (hS : ST G P) : G.2.2 165 = .inl (0, 12) := hS.1 101 _ rfl
theorem sh_166 (hS : ST G P) : G.2.2 166 = .inl (0, 12) := hS.1 102 _ rfl
theorem sh_167 (hS : ST G P) : G.2.2 167 = .inl (0, 12) := hS.1 103 _ rfl
theorem sh_168 (hS : ST G P) : G.2.2 168 = .inl (0, 436) := hS.1 104 _ rfl
theorem sh_169 (hS : ST G P) : G.2.2 169 = .inr 10 := hS.1 105 _ rfl
theorem sh_170 (hS : ST G P) : G.2.2 170 = .inl (1, 0) := hS.1 106 _ rfl
theorem sh_171 (hS : ST G P) : G.2.2 171 = .inl (1, 400) := hS.1 107 _ rfl
theorem sh_172 (hS : ST G P) : G.2.2 172 = .inl (3, 20) := hS.1 108 _ rfl
theorem sh_173 (hS : ST G P) : G.2.2 173 = .inl (0, 7) := hS.1 109 _ rfl
theorem sh_174 (hS : ST G P) : G.2.2 174 = .inr 1 := hS.1 110 _ rfl
theorem sh_175 (hS : ST G P) : G.2.2 175 = .inr 8 := hS.1 111 _ rfl
theorem sh_176 (hS : ST G P) : G.2.2 176 = .inl (0, 36) := hS.1 112 _ rfl
theorem sh_177 (hS : ST G P) : G.2.2 177 = .inl (0, 6) := hS.1 113 _ rfl
theorem sh_178 (hS : ST G P) : G.2.2 178 = .inl (0, 6) := hS.1 114 _ rfl
theorem sh_179 (hS : ST G P) : G.2.2 179 = .inl (0, 6) := hS.1 115 _ rfl
theorem sh_180 (hS : ST G P) : G.2.2 180 = .inl (0, 6) := hS.1 116 _ rfl
theorem sh_181 (hS : ST G P) : G.2.2 181 = .inl (0, 6) := hS.1 117 _ rfl
theorem sh_182 (hS : ST G P) : G.2.2 182 = .inl (0, 5) := hS.1 118 _ rfl
theorem sh_183 (hS : ST G P) : G.2.2 183 = .inl (0, 5) := hS.1 119 _ rfl
theorem sh_184 (hS : ST G P) : G.2.2 184 = .inl (0, 5) := hS.1 120 _ rfl
theorem sh_185 (hS : ST G P) : G.2.2 185 = .inl (0, 5) := hS.1 121 _ rfl
theorem sh_186 (hS : ST G P) : G.2.2 186 = .inl (0, 5) := hS.1 122 _ rfl
theorem sh_187 (hS : ST G P) : G.2.2 187 = .inl (0, 6) := hS.1 123 _ rfl
theorem sh_188 (hS : ST G P) : G.2.2 188 = .inl (0, 6) := hS.1 124 _ rfl
theorem sh_189 (hS : ST G P) : G.2.2 189 = .inl (0, 3) := hS.1 125 _ rfl
theorem sh_190 (hS : ST G P) : G.2.2 190 = .inl (4, 6) := hS.1 126 _ rfl
theorem sh_191 (hS : ST G P) : G.2.2 191 = .inr 1 := hS.1 127 _ rfl
theorem sh_192 (hS : ST G P) : G.2.2 192 = .inr 8 := hS.1 128 _ rfl
theorem sh_193 (hS : ST G P) : G.2.2 193 = .inl (0, 36) := hS.1 129 _ rfl
theorem sh_194 (hS : ST G P) : G.2.2 194 = .inl (0, 6) := hS.1 130 _ rfl
theorem sh_195 (hS : ST G P) : G.2.2 195 = .inl (0, 6) := hS.1 131 _ rfl
theorem sh_196 (hS : ST G P) : G.2.2 196 = .inl (0, 6) := hS.1 132 _ rfl
theorem sh_197 (hS : ST G P) : G.2.2 197 = .inl (0, 6) := hS.1 133 _ rfl
theorem sh_198 (hS : ST G P) : G.2.2 198 = .inl (0, 6) := hS.1 134 _ rfl
theorem sh_199 (hS : ST G P) : G.2.2 199 = .inl (0, 5) := hS.1 135 _ rfl
theorem sh_200 (hS : ST G P) : G.2.2 200 = .inl (0, 5) := hS.1 136 _ rfl
theorem sh_201 (hS : ST G P) : G.2.2 201 = .inl (0, 5) := hS.1 137 _ rfl
theorem sh_202 (hS : ST G P) : G.2.2 202 = .inl (0, 5) := hS.1 138 _ rfl
theorem sh_203 (hS : ST G P) : G.2.2 203 = .inl (0, 5) := hS.1 139 _ rfl
theorem sh_204 (hS : ST G P) : G.2.2 204 = .inl (0, 6) := hS.1 140 _ rfl
theorem sh_205 (hS : ST G P) : G.2.2 205 = .inl (0, 6) := hS.1 141 _ rfl
theorem sh_206 (hS : ST G P) : G.2.2 206 = .inl (0, 3) := hS.1 142 _ rfl
theorem sh_207 (hS : ST G P) : G.2.2 207 = .inl (4, 6) := hS.1 143 _ rfl
theorem sh_208 (hS : ST G P) : G.2.2 208 = .inr 12 := hS.1 144 _ rfl
theorem sh_209 (hS : ST G P) : G.2.2 209 = .inl (0, 7) := hS.1 145 _ rfl
theorem sh_210 (hS : ST G P) : G.2.2 210 = .inl (0, 5500) := hS.1 146 _ rfl
theorem sh_211 (hS : ST G P) : G.2.2 211 = .inl (0, 11000) := hS.1 147 _ rfl
theorem sh_212 (hS : ST G P) : G.2.2 212 = .inl (2, 2) := hS.1 148 _ rfl
theorem sh_213 (hS : ST G P) : G.2.2 213 = .inl (0, 450) := hS.1 149 _ rfl
theorem sh_214 (hS : ST G P) : G.2.2 214 = .inl (0, 16) := hS.1 150 _ rfl
theorem sh_215 (hS : ST G P) : G.2.2 215 = .inl (0, 400) := hS.1 151 _ rfl
theorem sh_216 (hS : ST G P) : G.2.2 216 = .inl (0, 16) := hS.1 152 _ rfl
theorem sh_217 (hS : ST G P) : G.2.2 217 = .inl (0, 400) := hS.1 153 _ rfl
theorem sh_218 (hS : ST G P) : G.2.2 218 = .inl (0, 96) := hS.1 154 _ rfl
theorem sh_219 (hS : ST G P) : G.2.2 219 = .inl (0, 400) := hS.1 155 _ rfl
theorem sh_220 (hS : ST G P) : G.2.2 220 = .inl (0, 400) := hS.1 156 _ rfl
theorem sh_221 (hS : ST G P) : G.2.2 221 = .inl (0, 400) := hS.1 157 _ rfl
theorem sh_222 (hS : ST G P) : G.2.2 222 = .inl (0, 400) := hS.1 158 _ rfl
theorem sh_223 (hS : ST G P) : G.2.2 223 = .inl (3, 9) := hS.1 159 _ rfl
theorem sh_224 (hS : ST G P) : G.2.2 224 = .inl (3, 7) := hS.1 160 _ rfl
theorem sh_225 (hS : ST G P) : G.2.2 225 = .inl (3, 4) := hS.1 161 _ rfl
theorem sh_226 (hS : ST G P) : G.2.2 226 = .inl (3, 13) := hS.1 162 _ rfl
theorem sh_227 (hS : ST G P) : G.2.2 227 = .inl (3, 13) := hS.1 163 _ rfl
theorem sh_228 (hS : ST G P) : G.2.2 228 = .inl (3, 400) := hS.1 164 _ rfl
theorem sh_229 (hS : ST G P) : G.2.2 229 = .inl (0, 6) := hS.1 165 _ rfl
theorem sh_230 (hS : ST G P) : G.2.2 230 = .inl (0, 6) := hS.1 166 _ rfl
theorem sh_231 (hS : ST G P) : G.2.2 231 = .inl (0, 224) := hS.1 167 _ rfl
theorem sh_232 (hS : ST G P) : G.2.2 232 = .inl (0, 36) := hS.1 168 _ rfl
theorem sh_233 (hS : ST G P) : G.2.2 233 = .inl (0, 11) := hS.1 169 _ rfl
theorem sh_234 (hS : ST G P) : G.2.2 234 = .inl (0, 6) := hS.1 170 _ rfl
theorem sh_235 (hS : ST G P) : G.2.2 235 = .inl (0, 5) := hS.1 171 _ rfl
theorem sh_236 (hS : ST G P) : G.2.2 236 = .inl (3, 21) := hS.1 172 _ rfl
theorem sh_237 (hS : ST G P) : G.2.2 237 = .inl (3, 4) := hS.1 173 _ rfl
theorem sh_238 (hS : ST G P) : G.2.2 238 = .inl (0, 96) := hS.1 174 _ rfl
theorem sh_239 (hS : ST G P) : G.2.2 239 = .inl (0, 25) := hS.1 175 _ rfl
theorem pt_64_0 (hS : ST G P) : P 64 0 = some 65 := hS.2.2 (64, 0, 65) (by decide)
theorem pt_64_1 (hS : ST G P) : P 64 1 = some 82 := hS.2.2 (64, 1, 82) (by decide)
theorem pt_64_2 (hS : ST G P) : P 64 2 = some 83 := hS.2.2 (64, 2, 83) (by decide)
theorem pt_64_3 (hS : ST G P) : P 64 3 = some 84 := hS.2.2 (64, 3, 84) (by decide)
theorem pt_64_4 (hS : ST G P) : P 64 4 = some 88 := hS.2.2 (64, 4, 88) (by decide)
theorem pt_64_5 (hS : ST G P) : P 64 5 = some 91 := hS.2.2 (64, 5, 91) (by decide)
theorem pt_64_6 (hS : ST G P) : P 64 6 = some 92 := hS.2.2 (64, 6, 92) (by decide)
theorem pt_64_7 (hS : ST G P) : P 64 7 = some 116 := hS.2.2 (64, 7, 116) (by decide)
theorem pt_64_8 (hS : ST G P) : P 64 8 = some 121 := hS.2.2 (64, 8, 121) (by decide)
theorem pt_64_9 (hS : ST G P) : P 64 9 = some 161 := hS.2.2 (64, 9, 161) (by decide)
theorem pt_64_10 (hS : ST G P) : P 64 10 = some 171 := hS.2.2 (64, 10, 171) (by decide)
theorem pt_64_11 (hS : ST G P) : P 64 11 = some 172 := hS.2.2 (64, 11, 172) (by decide)
theorem pt_64_12 (hS : ST G P) : P 64 12 = some 173 := hS.2.2 (64, 12, 173) (by decide)
theorem pt_65_0 (hS : ST G P) : P 65 0 = some 66 := hS.2.2 (65, 0, 66) (by decide)
theorem pt_65_1 (hS : ST G P) : P 65 1 = some 70 := hS.2.2 (65, 1, 70) (by decide)
theorem pt_65_2 (hS : ST G P) : P 65 2 = some 71 := hS.2.2 (65, 2, 71) (by decide)
theorem pt_65_3 (hS : ST G P) : P 65 3 = some 72 := hS.2.2 (65, 3, 72) (by decide)
theorem pt_65_5 (hS : ST G P) : P 65 5 = some 73 := hS.2.2 (65, 5, 73) (by decide)
theorem pt_65_6 (hS : ST G P) : P 65 6 = some 74 := hS.2.2 (65, 6, 74) (by decide)
theorem pt_65_7 (hS : ST G P) : P 65 7 = some 75 := hS.2.2 (65, 7, 75) (by decide)
theorem pt_65_8 (hS : ST G P) : P 65 8 = some 76 := hS.2.2 (65, 8, 76) (by decide)
theorem pt_65_9 (hS : ST G P) : P 65 9 = some 77 := hS.2.2 (65, 9, 77) (by decide)
theorem pt_65_11 (hS : ST G P) : P 65 11 = some 78 := hS.2.2 (65, 11, 78) (by decide)
theorem pt_65_12 (hS : ST G P) : P 65 12 = some 79 := hS.2.2 (65, 12, 79) (by decide)
theorem pt_65_14 (hS : ST G P) : P 65 14 = some 80 := hS.2.2 (65, 14, 80) (by decide)
theorem pt_65_15 (hS : ST G P) : P 65 15 = some 81 := hS.2.2 (65, 15, 81) (by decide)
theorem pt_66_0 (hS : ST G P) : P 66 0 = some 67 := hS.2.2 (66, 0, 67) (by decide)
theorem pt_66_1 (hS : ST G P) : P 66 1 = some 68 := hS.2.2 (66, 1, 68) (by decide)
theorem pt_66_2 (hS : ST G P) : P 66 2 = some 69 := hS.2.2 (66, 2, 69) (by decide)
theorem pt_82_0 (hS : ST G P) : P 82 0 = some 174 := hS.2.2 (82, 0, 174) (by decide)
theorem pt_82_1 (hS : ST G P) : P 82 1 = some 191 := hS.2.2 (82, 1, 191) (by decide)
theorem pt_84_0 (hS : ST G P) : P 84 0 = some 85 := hS.2.2 (84, 0, 85) (by decide)
theorem pt_84_1 (hS : ST G P) : P 84 1 = some 86 := hS.2.2 (84, 1, 86) (by decide)
theorem pt_84_2 (hS : ST G P) : P 84 2 = some 87 := hS.2.2 (84, 2, 87) (by decide)
theorem pt_88_0 (hS : ST G P) : P 88 0 = some 89 := hS.2.2 (88, 0, 89) (by decide)
theorem pt_88_1 (hS : ST G P) : P 88 1 = some 90 := hS.2.2 (88, 1, 90) (by decide)
theorem pt_91_0 (hS : ST G P) : P 91 0 = some 65 := hS.2.2 (91, 0, 65) (by decide)
theorem pt_91_1 (hS : ST G P) : P 91 1 = some 84 := hS.2.2 (91, 1, 84) (by decide)
theorem pt_91_2 (hS : ST G P) : P 91 2 = some 88 := hS.2.2 (91, 2, 88) (by decide)
theorem pt_92_0 (hS : ST G P) : P 92 0 = some 91 := hS.2.2 (92, 0, 91) (by decide)
theorem pt_92_1 (hS : ST G P) : P 92 1 = some 93 := hS.2.2 (92, 1, 93) (by decide)
theorem pt_92_2 (hS : ST G P) : P 92 2 = some 110 := hS.2.2 (92, 2, 110) (by decide)
theorem pt_92_3 (hS : ST G P) : P 92 3 = some 114 := hS.2.2 (92, 3, 114) (by decide)
theorem pt_92_4 (hS : ST G P) : P 92 4 = some 115 := hS.2.2 (92, 4, 115) (by decide)
theorem pt_93_0 (hS : ST G P) : P 93 0 = some 94 := hS.2.2 (93, 0, 94) (by decide)
theorem pt_93_1 (hS : ST G P) : P 93 1 = some 98 := hS.2.2 (93, 1, 98) (by decide)
theorem pt_93_2 (hS : ST G P) : P 93 2 = some 99 := hS.2.2 (93, 2, 99) (by decide)
theorem pt_93_3 (hS : ST G P) : P 93 3 = some 100 := hS.2.2 (93, 3, 100) (by decide)
theorem pt_93_5 (hS : ST G P) : P 93 5 = some 101 := hS.2.2 (93, 5, 101) (by decide)
theorem pt_93_6 (hS : ST G P) : P 93 6 = some 102 := hS.2.2 (93, 6, 102) (by decide)
theorem pt_93_7 (hS : ST G P) : P 93 7 = some 103 := hS.2.2 (93, 7, 103) (by decide)
theorem pt_93_8 (hS : ST G P) : P 93 8 = some 104 := hS.2.2 (93, 8, 104) (by decide)
theorem pt_93_9 (hS : ST G P) : P 93 9 = some 105 := hS.2.2 (93, 9, 105) (by decide)
theorem pt_93_11 (hS : ST G P) : P 93 11 = some 106 := hS.2.2 (93, 11, 106) (by decide)
theorem pt_93_12 (hS : ST G P) : P 93 12 = some 107 := hS.2.2 (93, 12, 107) (by decide)
theorem pt_93_14 (hS : ST G P) : P 93 14 = some 108 := hS.2.2 (93, 14, 108) (by decide)
theorem pt_93_15 (hS : ST G P) : P 93 15 = some 109 := hS.2.2 (93, 15, 109) (by decide)
theorem pt_94_0 (hS : ST G P) : P 94 0 = some 95 := hS.2.2 (94, 0, 95) (by decide)
theorem pt_94_1 (hS : ST G P) : P 94 1 = some 96 := hS.2.2 (94, 1, 96) (by decide)
theorem pt_94_2 (hS : ST G P) : P 94 2 = some 97 := hS.2.2 (94, 2, 97) (by decide)
theorem pt_110_0 (hS : ST G P) : P 110 0 = some 111 := hS.2.2 (110, 0, 111) (by decide)
theorem pt_110_1 (hS : ST G P) : P 110 1 = some 112 := hS.2.2 (110, 1, 112) (by decide)
theorem pt_110_2 (hS : ST G P) : P 110 2 = some 113 := hS.2.2 (110, 2, 113) (by decide)
theorem pt_116_0 (hS : ST G P) : P 116 0 = some 88 := hS.2.2 (116, 0, 88) (by decide)
theorem pt_116_1 (hS : ST G P) : P 116 1 = some 117 := hS.2.2 (116, 1, 117) (by decide)
theorem pt_116_2 (hS : ST G P) : P 116 2 = some 118 := hS.2.2 (116, 2, 118) (by decide)
theorem pt_116_3 (hS : ST G P) : P 116 3 = some 119 := hS.2.2 (116, 3, 119) (by decide)
theorem pt_116_4 (hS : ST G P) : P 116 4 = some 120 := hS.2.2 (116, 4, 120) (by decide)
theorem pt_121_0 (hS : ST G P) : P 121 0 = some 88 := hS.2.2 (121, 0, 88) (by decide)
theorem pt_121_1 (hS : ST G P) : P 121 1 = some 122 := hS.2.2 (121, 1, 122) (by decide)
theorem pt_121_2 (hS : ST G P) : P 121 2 = some 139 := hS.2.2 (121, 2, 139) (by decide)
theorem pt_121_3 (hS : ST G P) : P 121 3 = some 156 := hS.2.2 (121, 3, 156) (by decide)
theorem pt_122_0 (hS : ST G P) : P 122 0 = some 123 := hS.2.2 (122, 0, 123) (by decide)
theorem pt_122_1 (hS : ST G P) : P 122 1 = some 127 := hS.2.2 (122, 1, 127) (by decide)
theorem pt_122_2 (hS : ST G P) : P 122 2 = some 128 := hS.2.2 (122, 2, 128) (by decide)
theorem pt_122_3 (hS : ST G P) : P 122 3 = some 129 := hS.2.2 (122, 3, 129) (by decide)
theorem pt_122_5 (hS : ST G P) : P 122 5 = some 130 := hS.2.2 (122, 5, 130) (by decide)
theorem pt_122_6 (hS : ST G P) : P 122 6 = some 131 := hS.2.2 (122, 6, 131) (by decide)
theorem pt_122_7 (hS : ST G P) : P 122 7 = some 132 := hS.2.2 (122, 7, 132) (by decide)
theorem pt_122_8 (hS : ST G P) : P 122 8 = some 133 := hS.2.2 (122, 8, 133) (by decide)
theorem pt_122_9 (hS : ST G P) : P 122 9 = some 134 := hS.2.2 (122, 9, 134) (by decide)
theorem pt_122_11 (hS : ST G P) : P 122 11 = some 135 := hS.2.2 (122, 11, 135) (by decide)
theorem pt_122_12 (hS : ST G P) : P 122 12 = some 136 := hS.2.2 (122, 12, 136) (by decide)
theorem pt_122_14 (hS : ST G P) : P 122 14 = some 137 := hS.2.2 (122, 14, 137) (by decide)
theorem pt_122_15 (hS : ST G P) : P 122 15 = some 138 := hS.2.2 (122, 15, 138) (by decide)
theorem pt_123_0 (hS : ST G P) : P 123 0 = some 124 := hS.2.2 (123, 0, 124) (by decide)
theorem pt_123_1 (hS : ST G P) : P 123 1 = some 125 := hS.2.2 (123, 1, 125) (by decide)
theorem pt_123_2 (hS : ST G P) : P 123 2 = some 126 := hS.2.2 (123, 2, 126) (by decide)
theorem pt_139_0 (hS : ST G P) : P 139 0 = some 140 := hS.2.2 (139, 0, 140) (by decide)
theorem pt_139_1 (hS : ST G P) : P 139 1 = some 144 := hS.2.2 (139, 1, 144) (by decide)
theorem pt_139_2 (hS : ST G P) : P 139 2 = some 145 := hS.2.2 (139, 2, 145) (by decide)
theorem pt_139_3 (hS : ST G P) : P 139 3 = some 146 := hS.2.2 (139, 3, 146) (by decide)
theorem pt_139_5 (hS : ST G P) : P 139 5 = some 147 := hS.2.2 (139, 5, 147) (by decide)
theorem pt_139_6 (hS : ST G P) : P 139 6 = some 148 := hS.2.2 (139, 6, 148) (by decide)
theorem pt_139_7 (hS : ST G P) : P 139 7 = some 149 := hS.2.2 (139, 7, 149) (by decide)
theorem pt_139_8 (hS : ST G P) : P 139 8 = some 150 := hS.2.2 (139, 8, 150) (by decide)
theorem pt_139_9 (hS : ST G P) : P 139 9 = some 151 := hS.2.2 (139, 9, 151) (by decide)
theorem pt_139_11 (hS : ST G P) : P 139 11 = some 152 := hS.2.2 (139, 11, 152) (by decide)
theorem pt_139_12 (hS : ST G P) : P 139 12 = some 153 := hS.2.2 (139, 12, 153) (by decide)
theorem pt_139_14 (hS : ST G P) : P 139 14 = some 154 := hS.2.2 (139, 14, 154) (by decide)
theorem pt_139_15 (hS : ST G P) : P 139 15 = some 155 := hS.2.2 (139, 15, 155) (by decide)
theorem pt_140_0 (hS : ST G P) : P 140 0 = some 141 := hS.2.2 (140, 0, 141) (by decide)
theorem pt_140_1 (hS : ST G P) : P 140 1 = some 142 := hS.2.2 (140, 1, 142) (by decide)
theorem pt_140_2 (hS : ST G P) : P 140 2 = some 143 := hS.2.2 (140, 2, 143) (by decide)
theorem pt_156_0 (hS : ST G P) : P 156 0 = some 139 := hS.2.2 (156, 0, 139) (by decide)
theorem pt_156_1 (hS : ST G P) : P 156 1 = some 157 := hS.2.2 (156, 1, 157) (by decide)
theorem pt_156_2 (hS : ST G P) : P 156 2 = some 88 := hS.2.2 (156, 2, 88) (by decide)
theorem pt_157_0 (hS : ST G P) : P 157 0 = some 158 := hS.2.2 (157, 0, 158) (by decide)
theorem pt_157_1 (hS : ST G P) : P 157 1 = some 159 := hS.2.2 (157, 1, 159) (by decide)
theorem pt_157_2 (hS : ST G P) : P 157 2 = some 160 := hS.2.2 (157, 2, 160) (by decide)
theorem pt_161_0 (hS : ST G P) : P 161 0 = some 162 := hS.2.2 (161, 0, 162) (by decide)
theorem pt_161_1 (hS : ST G P) : P 161 1 = some 169 := hS.2.2 (161, 1, 169) (by decide)
theorem pt_162_0 (hS : ST G P) : P 162 0 = some 163 := hS.2.2 (162, 0, 163) (by decide)
theorem pt_162_1 (hS : ST G P) : P 162 1 = some 164 := hS.2.2 (162, 1, 164) (by decide)
theorem pt_162_2 (hS : ST G P) : P 162 2 = some 165 := hS.2.2 (162, 2, 165) (by decide)
theorem pt_162_3 (hS : ST G P) : P 162 3 = some 166 := hS.2.2 (162, 3, 166) (by decide)
theorem pt_162_4 (hS : ST G P) : P 162 4 = some 167 := hS.2.2 (162, 4, 167) (by decide)
theorem pt_162_6 (hS : ST G P) : P 162 6 = some 168 := hS.2.2 (162, 6, 168) (by decide)
theorem pt_174_0 (hS : ST G P) : P 174 0 = some 175 := hS.2.2 (174, 0, 175) (by decide)
theorem pt_174_1 (hS : ST G P) : P 174 1 = some 179 := hS.2.2 (174, 1, 179) (by decide)
theorem pt_174_2 (hS : ST G P) : P 174 2 = some 180 := hS.2.2 (174, 2, 180) (by decide)
theorem pt_174_3 (hS : ST G P) : P 174 3 = some 181 := hS.2.2 (174, 3, 181) (by decide)
theorem pt_174_5 (hS : ST G P) : P 174 5 = some 182 := hS.2.2 (174, 5, 182) (by decide)
theorem pt_174_6 (hS : ST G P) : P 174 6 = some 183 := hS.2.2 (174, 6, 183) (by decide)
theorem pt_174_7 (hS : ST G P) : P 174 7 = some 184 := hS.2.2 (174, 7, 184) (by decide)
theorem pt_174_8 (hS : ST G P) : P 174 8 = some 185 := hS.2.2 (174, 8, 185) (by decide)
theorem pt_174_9 (hS : ST G P) : P 174 9 = some 186 := hS.2.2 (174, 9, 186) (by decide)
theorem pt_174_11 (hS : ST G P) : P 174 11 = some 187 := hS.2.2 (174, 11, 187) (by decide)
theorem pt_174_12 (hS : ST G P) : P 174 12 = some 188 := hS.2.2 (174, 12, 188) (by decide)
theorem pt_174_14 (hS : ST G P) : P 174 14 = some 189 := hS.2.2 (174, 14, 189) (by decide)
theorem pt_174_15 (hS : ST G P) : P 174 15 = some 190 := hS.2.2 (174, 15, 190) (by decide)
theorem pt_175_0 (hS : ST G P) : P 175 0 = some 176 := hS.2.2 (175, 0, 176) (by decide)
theorem pt_175_1 (hS : ST G P) : P 175 1 = some 177 := hS.2.2 (175, 1, 177) (by decide)
theorem pt_175_2 (hS : ST G P) : P 175 2 = some 178 := hS.2.2 (175, 2, 178) (by decide)
theorem pt_191_0 (hS : ST G P) : P 191 0 = some 192 := hS.2.2 (191, 0, 192) (by decide)
theorem pt_191_1 (hS : ST G P) : P 191 1 = some 196 := hS.2.2 (191, 1, 196) (by decide)
theorem pt_191_2 (hS : ST G P) : P 191 2 = some 197 := hS.2.2 (191, 2, 197) (by decide)
theorem pt_191_3 (hS : ST G P) : P 191 3 = some 198 := hS.2.2 (191, 3, 198) (by decide)
theorem pt_191_5 (hS : ST G P) : P 191 5 = some 199 := hS.2.2 (191, 5, 199) (by decide)
theorem pt_191_6 (hS : ST G P) : P 191 6 = some 200 := hS.2.2 (191, 6, 200) (by decide)
theorem pt_191_7 (hS : ST G P) : P 191 7 = some 201 := hS.2.2 (191, 7, 201) (by decide)
theorem pt_191_8 (hS : ST G P) : P 191 8 = some 202 := hS.2.2 (191, 8, 202) (by decide)
theorem pt_191_9 (hS : ST G P) : P 191 9 = some 203 := hS.2.2 (191, 9, 203) (by decide)
theorem pt_191_11 (hS : ST G P) : P 191 11 = some 204 := hS.2.2 (191, 11, 204) (by decide)
theorem pt_191_12 (hS : ST G P) : P 191 12 = some 205 := hS.2.2 (191, 12, 205) (by decide)
theorem pt_191_14 (hS : ST G P) : P 191 14 = some 206 := hS.2.2 (191, 14, 206) (by decide)
theorem pt_191_15 (hS : ST G P) : P 191 15 = some 207 := hS.2.2 (191, 15, 207) (by decide)
theorem pt_192_0 (hS : ST G P) : P 192 0 = some 193 := hS.2.2 (192, 0, 193) (by decide)
theorem pt_192_1 (hS : ST G P) : P 192 1 = some 194 := hS.2.2 (192, 1, 194) (by decide)
theorem pt_192_2 (hS : ST G P) : P 192 2 = some 195 := hS.2.2 (192, 2, 195) (by decide)
theorem pt_208_2 (hS : ST G P) : P 208 2 = some 209 := hS.2.2 (208, 2, 209) (by decide)
theorem pt_208_3 (hS : ST G P) : P 208 3 = some 210 := hS.2.2 (208, 3, 210) (by decide)
theorem pt_208_4 (hS : ST G P) : P 208 4 = some 211 := hS.2.2 (208, 4, 211) (by decide)
theorem pt_208_5 (hS : ST G P) : P 208 5 = some 212 := hS.2.2 (208, 5, 212) (by decide)
theorem pt_208_6 (hS : ST G P) : P 208 6 = some 213 := hS.2.2 (208, 6, 213) (by decide)
theorem pt_208_7 (hS : ST G P) : P 208 7 = some 214 := hS.2.2 (208, 7, 214) (by decide)
theorem pt_208_9 (hS : ST G P) : P 208 9 = some 215 := hS.2.2 (208, 9, 215) (by decide)
theorem pt_208_10 (hS : ST G P) : P 208 10 = some 216 := hS.2.2 (208, 10, 216) (by decide)
theorem pt_208_12 (hS : ST G P) : P 208 12 = some 217 := hS.2.2 (208, 12, 217) (by decide)
theorem pt_208_22 (hS : ST G P) : P 208 22 = some 218 := hS.2.2 (208, 22, 218) (by decide)
theorem pt_208_24 (hS : ST G P) : P 208 24 = some 219 := hS.2.2 (208, 24, 219) (by decide)
theorem pt_208_25 (hS : ST G P) : P 208 25 = some 220 := hS.2.2 (208, 25, 220) (by decide)
theorem pt_208_27 (hS : ST G P) : P 208 27 = some 221 := hS.2.2 (208, 27, 221) (by decide)
theorem pt_208_28 (hS : ST G P) : P 208 28 = some 222 := hS.2.2 (208, 28, 222) (by decide)
theorem pt_208_31 (hS : ST G P) : P 208 31 = some 223 := hS.2.2 (208, 31, 223) (by decide)
theorem pt_208_32 (hS : ST G P) : P 208 32 = some 224 := hS.2.2 (208, 32, 224) (by decide)
theorem pt_208_33 (hS : ST G P) : P 208 33 = some 225 := hS.2.2 (208, 33, 225) (by decide)
theorem pt_208_35 (hS : ST G P) : P 208 35 = some 226 := hS.2.2 (208, 35, 226) (by decide)
theorem pt_208_36 (hS : ST G P) : P 208 36 = some 227 := hS.2.2 (208, 36, 227) (by decide)
theorem pt_208_37 (hS : ST G P) : P 208 37 = some 228 := hS.2.2 (208, 37, 228) (by decide)
theorem pt_208_41 (hS : ST G P) : P 208 41 = some 229 := hS.2.2 (208, 41, 229) (by decide)
theorem pt_208_42 (hS : ST G P) : P 208 42 = some 230 := hS.2.2 (208, 42, 230) (by decide)
theorem pt_208_43 (hS : ST G P) : P 208 43 = some 231 := hS.2.2 (208, 43, 231) (by decide)
theorem pt_208_44 (hS : ST G P) : P 208 44 = some 232 := hS.2.2 (208, 44, 232) (by decide)
theorem pt_208_45 (hS : ST G P) : P 208 45 = some 233 := hS.2.2 (208, 45, 233) (by decide)
theorem pt_208_46 (hS : ST G P) : P 208 46 = some 234 := hS.2.2 (208, 46, 234) (by decide)
theorem pt_208_47 (hS : ST G P) : P 208 47 = some 235 := hS.2.2 (208, 47, 235) (by decide)
theorem pt_208_48 (hS : ST G P) : P 208 48 = some 236 := hS.2.2 (208, 48, 236) (by decide)
theorem pt_208_49 (hS : ST G P) : P 208 49 = some 237 := hS.2.2 (208, 49, 237) (by decide)
theorem pt_208_50 (hS : ST G P) : P 208 50 = some 238 := hS.2.2 (208, 50, 238) (by decide)
theorem pt_208_56 (hS : ST G P) : P 208 56 = some 239 := hS.2.2 (208, 56, 239) (by decide)
def CQ (c : Nat) : Prop := c = 65 ∨ c = 93 ∨ c = 122 ∨ c = 139 ∨ c = 174 ∨ c = 191
theorem CQ_lt {c : Nat} (h : CQ c) : 65 ≤ c ∧ c + 16 < 208 := by unfold CQ at h; omega
theorem CQ_ne {c : Nat} (h : CQ c) : (c + 16 < 82 ∨ 92 < c) ∧ (c + 16 < 110 ∨ 121 < c) ∧ (c + 16 < 156 ∨ 173 < c) ∧ c ≠ 64 := by unfold CQ at h; omega
theorem CQ_dis {c e : Nat} (h : CQ c) (h2 : CQ e) : c = e ∨ c + 16 < e ∨ e + 16 < c := by unfold CQ at h h2; omega
theorem cs_0 {c : Nat} (hS : ST G P) (hc : CQ c) : G.2.2 c = .inr 1 := by
  unfold CQ at hc
  rcases hc with rfl | rfl | rfl | rfl | rfl | rfl
  · exact sh_65 hS
  · exact sh_93 hS
  · exact sh_122 hS
  · exact sh_139 hS
  · exact sh_174 hS
  · exact sh_191 hS
theorem cp_0_0 {c : Nat} (hS : ST G P) (hc : CQ c) : P c 0 = some (c + 1) := by
  unfold CQ at hc
  rcases hc with rfl | rfl | rfl | rfl | rfl | rfl
  · exact pt_65_0 hS
  · exact pt_93_0 hS
  · exact pt_122_0 hS
  · exact pt_139_0 hS
  · exact pt_174_0 hS
  · exact pt_191_0 hS
theorem cp_0_1 {c : Nat} (hS : ST G P) (hc : CQ c) : P c 1 = some (c + 5) := by
  unfold CQ at hc
  rcases hc with rfl | rfl | rfl | rfl | rfl | rfl
  · exact pt_65_1 hS
  · exact pt_93_1 hS
  · exact pt_122_1 hS
  · exact pt_139_1 hS
  · exact pt_174_1 hS
  · exact pt_191_1 hS
theorem cp_0_2 {c : Nat} (hS : ST G P) (hc : CQ c) : P c 2 = some (c + 6) := by
  unfold CQ at hc
  rcases hc with rfl | rfl | rfl | rfl | rfl | rfl
  · exact pt_65_2 hS
  · exact pt_93_2 hS
  · exact pt_122_2 hS
  · exact pt_139_2 hS
  · exact pt_174_2 hS
  · exact pt_191_2 hS
theorem cp_0_3 {c : Nat} (hS : ST G P) (hc : CQ c) : P c 3 = some (c + 7) := by
  unfold CQ at hc
  rcases hc with rfl | rfl | rfl | rfl | rfl | rfl
  · exact pt_65_3 hS
  · exact pt_93_3 hS
  · exact pt_122_3 hS
  · exact pt_139_3 hS
  · exact pt_174_3 hS
  · exact pt_191_3 hS
theorem cp_0_5 {c : Nat} (hS : ST G P) (hc : CQ c) : P c 5 = some (c + 8) := by
  unfold CQ at hc
  rcases hc with rfl | rfl | rfl | rfl | rfl | rfl
  · exact pt_65_5 hS
  · exact pt_93_5 hS
  · exact pt_122_5 hS
  · exact pt_139_5 hS
  · exact pt_174_5 hS
  · exact pt_191_5 hS
theorem cp_0_6 {c : Nat} (hS : ST G P) (hc : CQ c) : P c 6 = some (c + 9) := by
  unfold CQ at hc
  rcases hc with rfl | rfl | rfl | rfl | rfl | rfl
  · exact pt_65_6 hS
  · exact pt_93_6 hS
  · exact pt_122_6 hS
  · exact pt_139_6 hS
  · exact pt_174_6 hS
  · exact pt_191_6 hS
theorem cp_0_7 {c : Nat} (hS : ST G P) (hc : CQ c) : P c 7 = some (c + 10) := by
  unfold CQ at hc
  rcases hc with rfl | rfl | rfl | rfl | rfl | rfl
  · exact pt_65_7 hS
  · exact pt_93_7 hS
  · exact pt_122_7 hS
  · exact pt_139_7 hS
  · exact pt_174_7 hS
  · exact pt_191_7 hS
theorem cp_0_8 {c : Nat} (hS : ST G P) (hc : CQ c) : P c 8 = some (c + 11) := by
  unfold CQ at hc
  rcases hc with rfl | rfl | rfl | rfl | rfl | rfl
  · exact pt_65_8 hS
  · exact pt_93_8 hS
  · exact pt_122_8 hS
  · exact pt_139_8 hS
  · exact pt_174_8 hS
  · exact pt_191_8 hS
theorem cp_0_9 {c : Nat} (hS : ST G P) (hc : CQ c) : P c 9 = some (c + 12) := by
  unfold CQ at hc
  rcases hc with rfl | rfl | rfl | rfl | rfl | rfl
  · exact pt_65_9 hS
  · exact pt_93_9 hS
  · exact pt_122_9 hS
  · exact pt_139_9 hS
  · exact pt_174_9 hS
  · exact pt_191_9 hS
theorem cp_0_11 {c : Nat} (hS : ST G P) (hc : CQ c) : P c 11 = some (c + 13) := by
  unfold CQ at hc
  rcases hc with rfl | rfl | rfl | rfl | rfl | rfl
  · exact pt_65_11 hS
  · exact pt_93_11 hS
  · exact pt_122_11 hS
  · exact pt_139_11 hS
  · exact pt_174_11 hS
  · exact pt_191_11 hS
theorem cp_0_12 {c : Nat} (hS : ST G P) (hc : CQ c) : P c 12 = some (c + 14) := by
  unfold CQ at hc
  rcases hc with rfl | rfl | rfl | rfl | rfl | rfl
  · exact pt_65_12 hS
  · exact pt_93_12 hS
  · exact pt_122_12 hS
  · exact pt_139_12 hS
  · exact pt_174_12 hS
  · exact pt_191_12 hS
theorem cp_0_14 {c : Nat} (hS : ST G P) (hc : CQ c) : P c 14 = some (c + 15) := by
  unfold CQ at hc
  rcases hc with rfl | rfl | rfl | rfl | rfl | rfl
  · exact pt_65_14 hS
  · exact pt_93_14 hS
  · exact pt_122_14 hS
  · exact pt_139_14 hS
  · exact pt_174_14 hS
  · exact pt_191_14 hS
theorem cp_0_15 {c : Nat} (hS : ST G P) (hc : CQ c) : P c 15 = some (c + 16) := by
  unfold CQ at hc
  rcases hc with rfl | rfl | rfl | rfl | rfl | rfl
  · exact pt_65_15 hS
  · exact pt_93_15 hS
  · exact pt_122_15 hS
  · exact pt_139_15 hS
  · exact pt_174_15 hS
  · exact pt_191_15 hS
theorem cs_1 {c : Nat} (hS : ST G P) (hc : CQ c) : G.2.2 (c + 1) = .inr 8 := by
  unfold CQ at hc
  rcases hc with rfl | rfl | rfl | rfl | rfl | rfl
  · exact sh_66 hS
  · exact sh_94 hS
  · exact sh_123 hS
  · exact sh_140 hS
  · exact sh_175 hS
  · exact sh_192 hS
theorem cp_1_0 {c : Nat} (hS : ST G P) (hc : CQ c) : P (c + 1) 0 = some (c + 2) := by
  unfold CQ at hc
  rcases hc with rfl | rfl | rfl | rfl | rfl | rfl
  · exact pt_66_0 hS
  · exact pt_94_0 hS
  · exact pt_123_0 hS
  · exact pt_140_0 hS
  · exact pt_175_0 hS
  · exact pt_192_0 hS
theorem cp_1_1 {c : Nat} (hS : ST G P) (hc : CQ c) : P (c + 1) 1 = some (c + 3) := by
  unfold CQ at hc
  rcases hc with rfl | rfl | rfl | rfl | rfl | rfl
  · exact pt_66_1 hS
  · exact pt_94_1 hS
  · exact pt_123_1 hS
  · exact pt_140_1 hS
  · exact pt_175_1 hS
  · exact pt_192_1 hS
theorem cp_1_2 {c : Nat} (hS : ST G P) (hc : CQ c) : P (c + 1) 2 = some (c + 4) := by
  unfold CQ at hc
  rcases hc with rfl | rfl | rfl | rfl | rfl | rfl
  · exact pt_66_2 hS
  · exact pt_94_2 hS
  · exact pt_123_2 hS
  · exact pt_140_2 hS
  · exact pt_175_2 hS
  · exact pt_192_2 hS
theorem cs_2 {c : Nat} (hS : ST G P) (hc : CQ c) : G.2.2 (c + 2) = .inl (0, 36) := by
  unfold CQ at hc
  rcases hc with rfl | rfl | rfl | rfl | rfl | rfl
  · exact sh_67 hS
  · exact sh_95 hS
  · exact sh_124 hS
  · exact sh_141 hS
  · exact sh_176 hS
  · exact sh_193 hS
theorem cs_3 {c : Nat} (hS : ST G P) (hc : CQ c) : G.2.2 (c + 3) = .inl (0, 6) := by
  unfold CQ at hc
  rcases hc with rfl | rfl | rfl | rfl | rfl | rfl
  · exact sh_68 hS
  · exact sh_96 hS
  · exact sh_125 hS
  · exact sh_142 hS
  · exact sh_177 hS
  · exact sh_194 hS
theorem cs_4 {c : Nat} (hS : ST G P) (hc : CQ c) : G.2.2 (c + 4) = .inl (0, 6) := by
  unfold CQ at hc
  rcases hc with rfl | rfl | rfl | rfl | rfl | rfl
  · exact sh_69 hS
  · exact sh_97 hS
  · exact sh_126 hS
  · exact sh_143 hS
  · exact sh_178 hS
  · exact sh_195 hS
theorem cs_5 {c : Nat} (hS : ST G P) (hc : CQ c) : G.2.2 (c + 5) = .inl (0, 6) := by
  unfold CQ at hc
  rcases hc with rfl | rfl | rfl | rfl | rfl | rfl
  · exact sh_70 hS
  · exact sh_98 hS
  · exact sh_127 hS
  · exact sh_144 hS
  · exact sh_179 hS
  · exact sh_196 hS
theorem cs_6 {c : Nat} (hS : ST G P) (hc : CQ c) : G.2.2 (c + 6) = .inl (0, 6) := by
  unfold CQ at hc
  rcases hc with rfl | rfl | rfl | rfl | rfl | rfl
  · exact sh_71 hS
  · exact sh_99 hS
  · exact sh_128 hS
  · exact sh_145 hS
  · exact sh_180 hS
  · exact sh_197 hS
theorem cs_7 {c : Nat} (hS : ST G P) (hc : CQ c) : G.2.2 (c + 7) = .inl (0, 6) := by
  unfold CQ at hc
  rcases hc with rfl | rfl | rfl | rfl | rfl | rfl
  · exact sh_72 hS
  · exact sh_100 hS
  · exact sh_129 hS
  · exact sh_146 hS
  · exact sh_181 hS
  · exact sh_198 hS
theorem cs_8 {c : Nat} (hS : ST G P) (hc : CQ c) : G.2.2 (c + 8) = .inl (0, 5) := by
  unfold CQ at hc
  rcases hc with rfl | rfl | rfl | rfl | rfl | rfl
  · exact sh_73 hS
  · exact sh_101 hS
  · exact sh_130 hS
  · exact sh_147 hS
  · exact sh_182 hS
  · exact sh_199 hS
theorem cs_9 {c : Nat} (hS : ST G P) (hc : CQ c) : G.2.2 (c + 9) = .inl (0, 5) := by
  unfold CQ at hc
  rcases hc with rfl | rfl | rfl | rfl | rfl | rfl
  · exact sh_74 hS
  · exact sh_102 hS
  · exact sh_131 hS
  · exact sh_148 hS
  · exact sh_183 hS
  · exact sh_200 hS
theorem cs_10 {c : Nat} (hS : ST G P) (hc : CQ c) : G.2.2 (c + 10) = .inl (0, 5) := by
  unfold CQ at hc
  rcases hc with rfl | rfl | rfl | rfl | rfl | rfl
  · exact sh_75 hS
  · exact sh_103 hS
  · exact sh_132 hS
  · exact sh_149 hS
  · exact sh_184 hS
  · exact sh_201 hS
theorem cs_11 {c : Nat} (hS : ST G P) (hc : CQ c) : G.2.2 (c + 11) = .inl (0, 5) := by
  unfold CQ at hc
  rcases hc with rfl | rfl | rfl | rfl | rfl | rfl
  · exact sh_76 hS
  · exact sh_104 hS
  · exact sh_133 hS
  · exact sh_150 hS
  · exact sh_185 hS
  · exact sh_202 hS
theorem cs_12 {c : Nat} (hS : ST G P) (hc : CQ c) : G.2.2 (c + 12) = .inl (0, 5) := by
  unfold CQ at hc
  rcases hc with rfl | rfl | rfl | rfl | rfl | rfl
  · exact sh_77 hS
  · exact sh_105 hS
  · exact sh_134 hS
  · exact sh_151 hS
  · exact sh_186 hS
  · exact sh_203 hS
theorem cs_13 {c : Nat} (hS : ST G P) (hc : CQ c) : G.2.2 (c + 13) = .inl (0, 6) := by
  unfold CQ at hc
  rcases hc with rfl | rfl | rfl | rfl | rfl | rfl
  · exact sh_78 hS
  · exact sh_106 hS
  · exact sh_135 hS
  · exact sh_152 hS
  · exact sh_187 hS
  · exact sh_204 hS
theorem cs_14 {c : Nat} (hS : ST G P) (hc : CQ c) : G.2.2 (c + 14) = .inl (0, 6) := by
  unfold CQ at hc
  rcases hc with rfl | rfl | rfl | rfl | rfl | rfl
  · exact sh_79 hS
  · exact sh_107 hS
  · exact sh_136 hS
  · exact sh_153 hS
  · exact sh_188 hS
  · exact sh_205 hS
theorem cs_15 {c : Nat} (hS : ST G P) (hc : CQ c) : G.2.2 (c + 15) = .inl (0, 3) := by
  unfold CQ at hc
  rcases hc with rfl | rfl | rfl | rfl | rfl | rfl
  · exact sh_80 hS
  · exact sh_108 hS
  · exact sh_137 hS
  · exact sh_154 hS
  · exact sh_189 hS
  · exact sh_206 hS
theorem cs_16 {c : Nat} (hS : ST G P) (hc : CQ c) : G.2.2 (c + 16) = .inl (4, 6) := by
  unfold CQ at hc
  rcases hc with rfl | rfl | rfl | rfl | rfl | rfl
  · exact sh_81 hS
  · exact sh_109 hS
  · exact sh_138 hS
  · exact sh_155 hS
  · exact sh_190 hS
  · exact sh_207 hS
end ST
