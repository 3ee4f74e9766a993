theorem vsh_0 : vsh 0 = (11, 16) := rfl
theorem vsh_1 : vsh 1 = (2, 3) := rfl
theorem vsh_2 : vsh 2 = (13, 2000) := rfl
theorem vsh_3 : vsh 3 = (4, 7) := rfl
theorem vsh_4 : vsh 4 = (10, 8) := rfl
theorem vsh_5 : vsh 5 = (13, 600) := rfl
theorem vsh_6 : vsh 6 = (13, 601) := rfl
theorem vsh_7 : vsh 7 = (13, 601) := rfl
theorem vsh_8 : vsh 8 = (13, 601) := rfl
theorem vsh_9 : vsh 9 = (13, 64) := rfl
theorem vsh_10 : vsh 10 = (14, 6) := rfl
theorem vsh_11 : vsh 11 = (3, 3) := rfl
theorem vsh_12 : vsh 12 = (13, 8) := rfl
theorem vsh_13 : vsh 13 = (3, 3) := rfl
theorem vsh_14 : vsh 14 = (13, 8) := rfl
theorem vsh_15 : vsh 15 = (3, 3) := rfl
theorem vsh_16 : vsh 16 = (13, 8) := rfl
theorem vsh_17 : vsh 17 = (3, 3) := rfl
theorem vsh_18 : vsh 18 = (13, 8) := rfl
theorem vsh_19 : vsh 19 = (3, 3) := rfl
theorem vsh_20 : vsh 20 = (13, 8) := rfl
theorem vsh_21 : vsh 21 = (3, 3) := rfl
theorem vsh_22 : vsh 22 = (13, 8) := rfl
theorem vsh_23 : vsh 23 = (16, 6) := rfl
theorem vsh_24 : vsh 24 = (7, 4) := rfl
theorem vsh_25 : vsh 25 = (13, 40) := rfl
theorem vsh_26 : vsh 26 = (13, 40) := rfl
theorem vsh_27 : vsh 27 = (13, 40) := rfl
theorem vsh_28 : vsh 28 = (7, 4) := rfl
theorem vsh_29 : vsh 29 = (13, 40) := rfl
theorem vsh_30 : vsh 30 = (13, 40) := rfl
theorem vsh_31 : vsh 31 = (13, 40) := rfl
theorem vsh_32 : vsh 32 = (7, 4) := rfl
theorem vsh_33 : vsh 33 = (13, 40) := rfl
theorem vsh_34 : vsh 34 = (13, 40) := rfl
theorem vsh_35 : vsh 35 = (13, 40) := rfl
theorem vsh_36 : vsh 36 = (7, 4) := rfl
theorem vsh_37 : vsh 37 = (13, 40) := rfl
theorem vsh_38 : vsh 38 = (13, 40) := rfl
theorem vsh_39 : vsh 39 = (13, 40) := rfl
theorem vsh_40 : vsh 40 = (7, 4) := rfl
theorem vsh_41 : vsh 41 = (13, 40) := rfl
theorem vsh_42 : vsh 42 = (13, 40) := rfl
theorem vsh_43 : vsh 43 = (13, 40) := rfl
theorem vsh_44 : vsh 44 = (7, 4) := rfl
theorem vsh_45 : vsh 45 = (13, 40) := rfl
theorem vsh_46 : vsh 46 = (13, 40) := rfl
theorem vsh_47 : vsh 47 = (13, 40) := rfl
theorem vsh_48 : vsh 48 = (15, 4) := rfl
theorem vsh_49 : vsh 49 = (5, 7) := rfl
theorem vsh_50 : vsh 50 = (13, 12) := rfl
theorem vsh_51 : vsh 51 = (13, 12) := rfl
theorem vsh_52 : vsh 52 = (13, 600) := rfl
theorem vsh_53 : vsh 53 = (13, 64) := rfl
theorem vsh_54 : vsh 54 = (5, 7) := rfl
theorem vsh_55 : vsh 55 = (13, 12) := rfl
theorem vsh_56 : vsh 56 = (13, 12) := rfl
theorem vsh_57 : vsh 57 = (13, 600) := rfl
theorem vsh_58 : vsh 58 = (13, 64) := rfl
theorem vsh_59 : vsh 59 = (5, 7) := rfl
theorem vsh_60 : vsh 60 = (13, 12) := rfl
theorem vsh_61 : vsh 61 = (13, 12) := rfl
theorem vsh_62 : vsh 62 = (13, 600) := rfl
theorem vsh_63 : vsh 63 = (13, 64) := rfl
theorem vsh_64 : vsh 64 = (5, 7) := rfl
theorem vsh_65 : vsh 65 = (13, 12) := rfl
theorem vsh_66 : vsh 66 = (13, 12) := rfl
theorem vsh_67 : vsh 67 = (13, 600) := rfl
theorem vsh_68 : vsh 68 = (13, 64) := rfl
theorem vsh_69 : vsh 69 = (17, 2) := rfl
theorem vsh_70 : vsh 70 = (17, 2) := rfl
theorem vsh_71 : vsh 71 = (9, 1) := rfl
theorem vsh_72 : vsh 72 = (18, 10) := rfl
theorem vsh_73 : vsh 73 = (13, 300) := rfl
theorem vsh_74 : vsh 74 = (13, 300) := rfl
theorem vsh_75 : vsh 75 = (13, 300) := rfl
theorem vsh_76 : vsh 76 = (13, 300) := rfl
theorem vsh_77 : vsh 77 = (13, 300) := rfl
theorem vsh_78 : vsh 78 = (13, 300) := rfl
theorem vsh_79 : vsh 79 = (13, 300) := rfl
theorem vsh_80 : vsh 80 = (13, 300) := rfl
theorem vsh_81 : vsh 81 = (13, 300) := rfl
theorem vsh_82 : vsh 82 = (13, 300) := rfl
theorem vsh_83 : vsh 83 = (9, 1) := rfl
theorem vsh_84 : vsh 84 = (18, 10) := rfl
theorem vsh_85 : vsh 85 = (13, 300) := rfl
theorem vsh_86 : vsh 86 = (13, 300) := rfl
theorem vsh_87 : vsh 87 = (13, 300) := rfl
theorem vsh_88 : vsh 88 = (13, 300) := rfl
theorem vsh_89 : vsh 89 = (13, 300) := rfl
theorem vsh_90 : vsh 90 = (13, 300) := rfl
theorem vsh_91 : vsh 91 = (13, 300) := rfl
theorem vsh_92 : vsh 92 = (13, 300) := rfl
theorem vsh_93 : vsh 93 = (13, 300) := rfl
theorem vsh_94 : vsh 94 = (13, 300) := rfl
theorem vsh_95 : vsh 95 = (9, 1) := rfl
theorem vsh_96 : vsh 96 = (18, 10) := rfl
theorem vsh_97 : vsh 97 = (13, 300) := rfl
theorem vsh_98 : vsh 98 = (13, 300) := rfl
theorem vsh_99 : vsh 99 = (13, 300) := rfl
theorem vsh_100 : vsh 100 = (13, 300) := rfl
theorem vsh_101 : vsh 101 = (13, 300) := rfl
theorem vsh_102 : vsh 102 = (13, 300) := rfl
theorem vsh_103 : vsh 103 = (13, 300) := rfl
theorem vsh_104 : vsh 104 = (13, 300) := rfl
theorem vsh_105 : vsh 105 = (13, 300) := rfl
theorem vsh_106 : vsh 106 = (13, 300) := rfl
theorem vsh_107 : vsh 107 = (9, 1) := rfl
theorem vsh_108 : vsh 108 = (18, 10) := rfl
theorem vsh_109 : vsh 109 = (13, 300) := rfl
theorem vsh_110 : vsh 110 = (13, 300) := rfl
theorem vsh_111 : vsh 111 = (13, 300) := rfl
theorem vsh_112 : vsh 112 = (13, 300) := rfl
theorem vsh_113 : vsh 113 = (13, 300) := rfl
theorem vsh_114 : vsh 114 = (13, 300) := rfl
theorem vsh_115 : vsh 115 = (13, 300) := rfl
theorem vsh_116 : vsh 116 = (13, 300) := rfl
theorem vsh_117 : vsh 117 = (13, 300) := rfl
theorem vsh_118 : vsh 118 = (13, 300) := rfl
theorem vsh_119 : vsh 119 = (1, 6) := rfl
theorem vsh_120 : vsh 120 = (6, 5) := rfl
theorem vsh_121 : vsh 121 = (13, 2000) := rfl
theorem vsh_122 : vsh 122 = (8, 2) := rfl
theorem vsh_123 : vsh 123 = (13, 40) := rfl
theorem vsh_124 : vsh 124 = (18, 40) := rfl
theorem vsh_125 : vsh 125 = (13, 40) := rfl
theorem vsh_126 : vsh 126 = (13, 40) := rfl
theorem vsh_127 : vsh 127 = (13, 40) := rfl
theorem vsh_128 : vsh 128 = (13, 40) := rfl
theorem vsh_129 : vsh 129 = (13, 40) := rfl
theorem vsh_130 : vsh 130 = (13, 40) := rfl
theorem vsh_131 : vsh 131 = (13, 40) := rfl
theorem vsh_132 : vsh 132 = (13, 40) := rfl
theorem vsh_133 : vsh 133 = (13, 40) := rfl
theorem vsh_134 : vsh 134 = (13, 40) := rfl
theorem vsh_135 : vsh 135 = (13, 40) := rfl
theorem vsh_136 : vsh 136 = (13, 40) := rfl
theorem vsh_137 : vsh 137 = (13, 40) := rfl
theorem vsh_138 : vsh 138 = (13, 40) := rfl
theorem vsh_139 : vsh 139 = (13, 40) := rfl
theorem vsh_140 : vsh 140 = (13, 40) := rfl
theorem vsh_141 : vsh 141 = (13, 40) := rfl
theorem vsh_142 : vsh 142 = (13, 40) := rfl
theorem vsh_143 : vsh 143 = (13, 40) := rfl
theorem vsh_144 : vsh 144 = (13, 40) := rfl
theorem vsh_145 : vsh 145 = (13, 40) := rfl
theorem vsh_146 : vsh 146 = (13, 40) := rfl
theorem vsh_147 : vsh 147 = (13, 40) := rfl
theorem vsh_148 : vsh 148 = (13, 40) := rfl
theorem vsh_149 : vsh 149 = (13, 40) := rfl
theorem vsh_150 : vsh 150 = (13, 40) := rfl
theorem vsh_151 : vsh 151 = (13, 40) := rfl
theorem vsh_152 : vsh 152 = (13, 40) := rfl
theorem vsh_153 : vsh 153 = (13, 40) := rfl
theorem vsh_154 : vsh 154 = (13, 40) := rfl
theorem vsh_155 : vsh 155 = (13, 40) := rfl
theorem vsh_156 : vsh 156 = (13, 40) := rfl
theorem vsh_157 : vsh 157 = (13, 40) := rfl
theorem vsh_158 : vsh 158 = (13, 40) := rfl
theorem vsh_159 : vsh 159 = (13, 40) := rfl
theorem vsh_160 : vsh 160 = (13, 40) := rfl
theorem vsh_161 : vsh 161 = (13, 40) := rfl
theorem vsh_162 : vsh 162 = (13, 40) := rfl
theorem vsh_163 : vsh 163 = (13, 40) := rfl
theorem vsh_164 : vsh 164 = (13, 40) := rfl
theorem vsh_165 : vsh 165 = (0, 4) := rfl
theorem vsh_166 : vsh 166 = (13, 8) := rfl
theorem vsh_167 : vsh 167 = (13, 100) := rfl
theorem vsh_168 : vsh 168 = (13, 9) := rfl
theorem vsh_169 : vsh 169 = (3, 3) := rfl
theorem vsh_170 : vsh 170 = (13, 8) := rfl
theorem vsh_171 : vsh 171 = (7, 4) := rfl
theorem vsh_172 : vsh 172 = (13, 40) := rfl
theorem vsh_173 : vsh 173 = (13, 40) := rfl
theorem vsh_174 : vsh 174 = (13, 40) := rfl
theorem vsh_175 : vsh 175 = (5, 7) := rfl
theorem vsh_176 : vsh 176 = (13, 12) := rfl
theorem vsh_177 : vsh 177 = (13, 12) := rfl
theorem vsh_178 : vsh 178 = (13, 600) := rfl
theorem vsh_179 : vsh 179 = (13, 64) := rfl
theorem vsh_180 : vsh 180 = (12, 60) := rfl
theorem vsh_181 : vsh 181 = (13, 2000) := rfl
theorem vsh_182 : vsh 182 = (13, 48) := rfl
theorem vsh_183 : vsh 183 = (13, 8) := rfl
theorem vsh_184 : vsh 184 = (13, 8) := rfl
theorem vsh_185 : vsh 185 = (13, 240) := rfl
theorem vsh_186 : vsh 186 = (13, 240) := rfl
theorem vsh_187 : vsh 187 = (13, 240) := rfl
theorem vsh_188 : vsh 188 = (13, 6) := rfl
theorem vsh_189 : vsh 189 = (13, 40) := rfl
theorem vsh_190 : vsh 190 = (13, 40) := rfl
theorem vsh_191 : vsh 191 = (13, 40) := rfl
theorem vsh_192 : vsh 192 = (13, 4) := rfl
theorem vsh_193 : vsh 193 = (13, 48) := rfl
theorem vsh_194 : vsh 194 = (13, 52) := rfl
theorem vsh_195 : vsh 195 = (13, 4880) := rfl
theorem vsh_196 : vsh 196 = (13, 12) := rfl
theorem vsh_197 : vsh 197 = (13, 13) := rfl
theorem vsh_198 : vsh 198 = (13, 1220) := rfl
theorem vsh_199 : vsh 199 = (13, 600) := rfl
theorem vsh_200 : vsh 200 = (13, 620) := rfl
theorem vsh_201 : vsh 201 = (13, 10) := rfl
theorem vsh_202 : vsh 202 = (13, 1200) := rfl
theorem vsh_203 : vsh 203 = (13, 1200) := rfl
theorem vsh_204 : vsh 204 = (13, 1200) := rfl
theorem vsh_205 : vsh 205 = (13, 1200) := rfl
theorem vsh_206 : vsh 206 = (13, 1200) := rfl
theorem vsh_207 : vsh 207 = (13, 1200) := rfl
theorem vsh_208 : vsh 208 = (13, 1200) := rfl
theorem vsh_209 : vsh 209 = (13, 1200) := rfl
theorem vsh_210 : vsh 210 = (13, 1200) := rfl
theorem vsh_211 : vsh 211 = (13, 1200) := rfl
theorem vsh_212 : vsh 212 = (13, 1681) := rfl
theorem vsh_213 : vsh 213 = (13, 2000) := rfl
theorem vsh_214 : vsh 214 = (13, 8) := rfl
/-- the references that stay once the objects are made -/
def vrefL : List (Nat × Nat × Nat) := [(0, 0, 1), (0, 1, 3), (0, 2, 10), (0, 3, 23), (0, 4, 48), (0, 5, 69), (0, 6, 70), (0, 7, 119), (0, 8, 120), (0, 9, 122), (0, 10, 165), (0, 11, 168), (1, 0, 2), (3, 0, 4), (3, 1, 9), (4, 0, 5), (4, 1, 6), (4, 2, 7), (4, 3, 8), (11, 0, 12), (13, 0, 14), (15, 0, 16), (17, 0, 18), (19, 0, 20), (21, 0, 22), (169, 0, 170), (24, 0, 25), (24, 1, 26), (24, 2, 27), (28, 0, 29), (28, 1, 30), (28, 2, 31), (32, 0, 33), (32, 1, 34), (32, 2, 35), (36, 0, 37), (36, 1, 38), (36, 2, 39), (40, 0, 41), (40, 1, 42), (40, 2, 43), (44, 0, 45), (44, 1, 46), (44, 2, 47), (171, 0, 172), (171, 1, 173), (171, 2, 174), (49, 0, 50), (49, 1, 51), (49, 2, 52), (49, 3, 53), (54, 0, 55), (54, 1, 56), (54, 2, 57), (54, 3, 58), (59, 0, 60), (59, 1, 61), (59, 2, 62), (59, 3, 63), (64, 0, 65), (64, 1, 66), (64, 2, 67), (64, 3, 68), (175, 0, 176), (175, 1, 177), (175, 2, 178), (175, 3, 179), (69, 0, 71), (69, 1, 95), (70, 0, 83), (70, 1, 107), (71, 0, 72), (72, 0, 73), (72, 1, 74), (72, 2, 75), (72, 3, 76), (72, 4, 77), (72, 5, 78), (72, 6, 79), (72, 7, 80), (72, 8, 81), (72, 9, 82), (83, 0, 84), (84, 0, 85), (84, 1, 86), (84, 2, 87), (84, 3, 88), (84, 4, 89), (84, 5, 90), (84, 6, 91), (84, 7, 92), (84, 8, 93), (84, 9, 94), (95, 0, 96), (96, 0, 97), (96, 1, 98), (96, 2, 99), (96, 3, 100), (96, 4, 101), (96, 5, 102), (96, 6, 103), (96, 7, 104), (96, 8, 105), (96, 9, 106), (107, 0, 108), (108, 0, 109), (108, 1, 110), (108, 2, 111), (108, 3, 112), (108, 4, 113), (108, 5, 114), (108, 6, 115), (108, 7, 116), (108, 8, 117), (108, 9, 118), (120, 0, 121), (122, 0, 123), (122, 1, 124), (124, 0, 125), (124, 1, 126), (124, 2, 127), (124, 3, 128), (124, 4, 129), (124, 5, 130), (124, 6, 131), (124, 7, 132), (124, 8, 133), (124, 9, 134), (124, 10, 135), (124, 11, 136), (124, 12, 137), (124, 13, 138), (124, 14, 139), (124, 15, 140), (124, 16, 141), (124, 17, 142), (124, 18, 143), (124, 19, 144), (124, 20, 145), (124, 21, 146), (124, 22, 147), (124, 23, 148), (124, 24, 149), (124, 25, 150), (124, 26, 151), (124, 27, 152), (124, 28, 153), (124, 29, 154), (124, 30, 155), (124, 31, 156), (124, 32, 157), (124, 33, 158), (124, 34, 159), (124, 35, 160), (124, 36, 161), (124, 37, 162), (124, 38, 163), (124, 39, 164), (165, 0, 166), (165, 1, 167), (180, 2, 181), (180, 3, 182), (180, 4, 183), (180, 5, 184), (180, 6, 185), (180, 7, 186), (180, 8, 187), (180, 9, 188), (180, 10, 189), (180, 11, 190), (180, 12, 191), (180, 13, 192), (180, 14, 193), (180, 15, 194), (180, 16, 195), (180, 17, 196), (180, 18, 197), (180, 19, 198), (180, 20, 199), (180, 21, 200), (180, 22, 201), (180, 36, 202), (180, 37, 203), (180, 38, 204), (180, 39, 205), (180, 40, 206), (180, 41, 207), (180, 42, 208), (180, 43, 209), (180, 44, 210), (180, 45, 211), (180, 55, 212), (180, 56, 213), (180, 57, 214)]
def vRC (M : vM) : Prop := M.1 = 215 ∧ ∀ q ∈ vrefL, M.2.2 q.1 q.2.1 = some q.2.2
theorem rf_0_0 {M : vM} (h : vRC M) : M.2.2 0 0 = some 1 := h.2 (0, 0, 1) (List.mem_of_getElem? (i := 0) rfl)
theorem rf_0_1 {M : vM} (h : vRC M) : M.2.2 0 1 = some 3 := h.2 (0, 1, 3) (List.mem_of_getElem? (i := 1) rfl)
theorem rf_0_2 {M : vM} (h : vRC M) : M.2.2 0 2 = some 10 := h.2 (0, 2, 10) (List.mem_of_getElem? (i := 2) rfl)
theorem rf_0_3 {M : vM} (h : vRC M) : M.2.2 0 3 = some 23 := h.2 (0, 3, 23) (List.mem_of_getElem? (i := 3) rfl)
theorem rf_0_4 {M : vM} (h : vRC M) : M.2.2 0 4 = some 48 := h.2 (0, 4, 48) (List.mem_of_getElem? (i := 4) rfl)
theorem rf_0_5 {M : vM} (h : vRC M) : M.2.2 0 5 = some 69 := h.2 (0, 5, 69) (List.mem_of_getElem? (i := 5) rfl)
theorem rf_0_6 {M : vM} (h : vRC M) : M.2.2 0 6 = some 70 := h.2 (0, 6, 70) (List.mem_of_getElem? (i := 6) rfl)
theorem rf_0_7 {M : vM} (h : vRC M) : M.2.2 0 7 = some 119 := h.2 (0, 7, 119) (List.mem_of_getElem? (i := 7) rfl)
theorem rf_0_8 {M : vM} (h : vRC M) : M.2.2 0 8 = some 120 := h.2 (0, 8, 120) (List.mem_of_getElem? (i := 8) rfl)
theorem rf_0_9 {M : vM} (h : vRC M) : M.2.2 0 9 = some 122 := h.2 (0, 9, 122) (List.mem_of_getElem? (i := 9) rfl)
theorem rf_0_10 {M : vM} (h : vRC M) : M.2.2 0 10 = some 165 := h.2 (0, 10, 165) (List.mem_of_getElem? (i := 10) rfl)
theorem rf_0_11 {M : vM} (h : vRC M) : M.2.2 0 11 = some 168 := h.2 (0, 11, 168) (List.mem_of_getElem? (i := 11) rfl)
theorem rf_1_0 {M : vM} (h : vRC M) : M.2.2 1 0 = some 2 := h.2 (1, 0, 2) (List.mem_of_getElem? (i := 12) rfl)
theorem rf_3_0 {M : vM} (h : vRC M) : M.2.2 3 0 = some 4 := h.2 (3, 0, 4) (List.mem_of_getElem? (i := 13) rfl)
theorem rf_3_1 {M : vM} (h : vRC M) : M.2.2 3 1 = some 9 := h.2 (3, 1, 9) (List.mem_of_getElem? (i := 14) rfl)
theorem rf_4_0 {M : vM} (h : vRC M) : M.2.2 4 0 = some 5 := h.2 (4, 0, 5) (List.mem_of_getElem? (i := 15) rfl)
theorem rf_4_1 {M : vM} (h : vRC M) : M.2.2 4 1 = some 6 := h.2 (4, 1, 6) (List.mem_of_getElem? (i := 16) rfl)
theorem rf_4_2 {M : vM} (h : vRC M) : M.2.2 4 2 = some 7 := h.2 (4, 2, 7) (List.mem_of_getElem? (i := 17) rfl)
theorem rf_4_3 {M : vM} (h : vRC M) : M.2.2 4 3 = some 8 := h.2 (4, 3, 8) (List.mem_of_getElem? (i := 18) rfl)
theorem rf_11_0 {M : vM} (h : vRC M) : M.2.2 11 0 = some 12 := h.2 (11, 0, 12) (List.mem_of_getElem? (i := 19) rfl)
theorem rf_13_0 {M : vM} (h : vRC M) : M.2.2 13 0 = some 14 := h.2 (13, 0, 14) (List.mem_of_getElem? (i := 20) rfl)
theorem rf_15_0 {M : vM} (h : vRC M) : M.2.2 15 0 = some 16 := h.2 (15, 0, 16) (List.mem_of_getElem? (i := 21) rfl)
theorem rf_17_0 {M : vM} (h : vRC M) : M.2.2 17 0 = some 18 := h.2 (17, 0, 18) (List.mem_of_getElem? (i := 22) rfl)
theorem rf_19_0 {M : vM} (h : vRC M) : M.2.2 19 0 = some 20 := h.2 (19, 0, 20) (List.mem_of_getElem? (i := 23) rfl)
theorem rf_21_0 {M : vM} (h : vRC M) : M.2.2 21 0 = some 22 := h.2 (21, 0, 22) (List.mem_of_getElem? (i := 24) rfl)
theorem rf_169_0 {M : vM} (h : vRC M) : M.2.2 169 0 = some 170 := h.2 (169, 0, 170) (List.mem_of_getElem? (i := 25) rfl)
theorem rf_24_0 {M : vM} (h : vRC M) : M.2.2 24 0 = some 25 := h.2 (24, 0, 25) (List.mem_of_getElem? (i := 26) rfl)
theorem rf_24_1 {M : vM} (h : vRC M) : M.2.2 24 1 = some 26 := h.2 (24, 1, 26) (List.mem_of_getElem? (i := 27) rfl)
theorem rf_24_2 {M : vM} (h : vRC M) : M.2.2 24 2 = some 27 := h.2 (24, 2, 27) (List.mem_of_getElem? (i := 28) rfl)
theorem rf_28_0 {M : vM} (h : vRC M) : M.2.2 28 0 = some 29 := h.2 (28, 0, 29) (List.mem_of_getElem? (i := 29) rfl)
theorem rf_28_1 {M : vM} (h : vRC M) : M.2.2 28 1 = some 30 := h.2 (28, 1, 30) (List.mem_of_getElem? (i := 30) rfl)
theorem rf_28_2 {M : vM} (h : vRC M) : M.2.2 28 2 = some 31 := h.2 (28, 2, 31) (List.mem_of_getElem? (i := 31) rfl)
theorem rf_32_0 {M : vM} (h : vRC M) : M.2.2 32 0 = some 33 := h.2 (32, 0, 33) (List.mem_of_getElem? (i := 32) rfl)
theorem rf_32_1 {M : vM} (h : vRC M) : M.2.2 32 1 = some 34 := h.2 (32, 1, 34) (List.mem_of_getElem? (i := 33) rfl)
theorem rf_32_2 {M : vM} (h : vRC M) : M.2.2 32 2 = some 35 := h.2 (32, 2, 35) (List.mem_of_getElem? (i := 34) rfl)
theorem rf_36_0 {M : vM} (h : vRC M) : M.2.2 36 0 = some 37 := h.2 (36, 0, 37) (List.mem_of_getElem? (i := 35) rfl)
theorem rf_36_1 {M : vM} (h : vRC M) : M.2.2 36 1 = some 38 := h.2 (36, 1, 38) (List.mem_of_getElem? (i := 36) rfl)
theorem rf_36_2 {M : vM} (h : vRC M) : M.2.2 36 2 = some 39 := h.2 (36, 2, 39) (List.mem_of_getElem? (i := 37) rfl)
theorem rf_40_0 {M : vM} (h : vRC M) : M.2.2 40 0 = some 41 := h.2 (40, 0, 41) (List.mem_of_getElem? (i := 38) rfl)
theorem rf_40_1 {M : vM} (h : vRC M) : M.2.2 40 1 = some 42 := h.2 (40, 1, 42) (List.mem_of_getElem? (i := 39) rfl)
theorem rf_40_2 {M : vM} (h : vRC M) : M.2.2 40 2 = some 43 := h.2 (40, 2, 43) (List.mem_of_getElem? (i := 40) rfl)
theorem rf_44_0 {M : vM} (h : vRC M) : M.2.2 44 0 = some 45 := h.2 (44, 0, 45) (List.mem_of_getElem? (i := 41) rfl)
theorem rf_44_1 {M : vM} (h : vRC M) : M.2.2 44 1 = some 46 := h.2 (44, 1, 46) (List.mem_of_getElem? (i := 42) rfl)
theorem rf_44_2 {M : vM} (h : vRC M) : M.2.2 44 2 = some 47 := h.2 (44, 2, 47) (List.mem_of_getElem? (i := 43) rfl)
theorem rf_171_0 {M : vM} (h : vRC M) : M.2.2 171 0 = some 172 := h.2 (171, 0, 172) (List.mem_of_getElem? (i := 44) rfl)
theorem rf_171_1 {M : vM} (h : vRC M) : M.2.2 171 1 = some 173 := h.2 (171, 1, 173) (List.mem_of_getElem? (i := 45) rfl)
theorem rf_171_2 {M : vM} (h : vRC M) : M.2.2 171 2 = some 174 := h.2 (171, 2, 174) (List.mem_of_getElem? (i := 46) rfl)
theorem rf_49_0 {M : vM} (h : vRC M) : M.2.2 49 0 = some 50 := h.2 (49, 0, 50) (List.mem_of_getElem? (i := 47) rfl)
theorem rf_49_1 {M : vM} (h : vRC M) : M.2.2 49 1 = some 51 := h.2 (49, 1, 51) (List.mem_of_getElem? (i := 48) rfl)
theorem rf_49_2 {M : vM} (h : vRC M) : M.2.2 49 2 = some 52 := h.2 (49, 2, 52) (List.mem_of_getElem? (i := 49) rfl)
theorem rf_49_3 {M : vM} (h : vRC M) : M.2.2 49 3 = some 53 := h.2 (49, 3, 53) (List.mem_of_getElem? (i := 50) rfl)
theorem rf_54_0 {M : vM} (h : vRC M) : M.2.2 54 0 = some 55 := h.2 (54, 0, 55) (List.mem_of_getElem? (i := 51) rfl)
theorem rf_54_1 {M : vM} (h : vRC M) : M.2.2 54 1 = some 56 := h.2 (54, 1, 56) (List.mem_of_getElem? (i := 52) rfl)
theorem rf_54_2 {M : vM} (h : vRC M) : M.2.2 54 2 = some 57 := h.2 (54, 2, 57) (List.mem_of_getElem? (i := 53) rfl)
theorem rf_54_3 {M : vM} (h : vRC M) : M.2.2 54 3 = some 58 := h.2 (54, 3, 58) (List.mem_of_getElem? (i := 54) rfl)
theorem rf_59_0 {M : vM} (h : vRC M) : M.2.2 59 0 = some 60 := h.2 (59, 0, 60) (List.mem_of_getElem? (i := 55) rfl)
theorem rf_59_1 {M : vM} (h : vRC M) : M.2.2 59 1 = some 61 := h.2 (59, 1, 61) (List.mem_of_getElem? (i := 56) rfl)
theorem rf_59_2 {M : vM} (h : vRC M) : M.2.2 59 2 = some 62 := h.2 (59, 2, 62) (List.mem_of_getElem? (i := 57) rfl)
theorem rf_59_3 {M : vM} (h : vRC M) : M.2.2 59 3 = some 63 := h.2 (59, 3, 63) (List.mem_of_getElem? (i := 58) rfl)
theorem rf_64_0 {M : vM} (h : vRC M) : M.2.2 64 0 = some 65 := h.2 (64, 0, 65) (List.mem_of_getElem? (i := 59) rfl)
theorem rf_64_1 {M : vM} (h : vRC M) : M.2.2 64 1 = some 66 := h.2 (64, 1, 66) (List.mem_of_getElem? (i := 60) rfl)
theorem rf_64_2 {M : vM} (h : vRC M) : M.2.2 64 2 = some 67 := h.2 (64, 2, 67) (List.mem_of_getElem? (i := 61) rfl)
theorem rf_64_3 {M : vM} (h : vRC M) : M.2.2 64 3 = some 68 := h.2 (64, 3, 68) (List.mem_of_getElem? (i := 62) rfl)
theorem rf_175_0 {M : vM} (h : vRC M) : M.2.2 175 0 = some 176 := h.2 (175, 0, 176) (List.mem_of_getElem? (i := 63) rfl)
theorem rf_175_1 {M : vM} (h : vRC M) : M.2.2 175 1 = some 177 := h.2 (175, 1, 177) (List.mem_of_getElem? (i := 64) rfl)
theorem rf_175_2 {M : vM} (h : vRC M) : M.2.2 175 2 = some 178 := h.2 (175, 2, 178) (List.mem_of_getElem? (i := 65) rfl)
theorem rf_175_3 {M : vM} (h : vRC M) : M.2.2 175 3 = some 179 := h.2 (175, 3, 179) (List.mem_of_getElem? (i := 66) rfl)
theorem rf_69_0 {M : vM} (h : vRC M) : M.2.2 69 0 = some 71 := h.2 (69, 0, 71) (List.mem_of_getElem? (i := 67) rfl)
theorem rf_69_1 {M : vM} (h : vRC M) : M.2.2 69 1 = some 95 := h.2 (69, 1, 95) (List.mem_of_getElem? (i := 68) rfl)
theorem rf_70_0 {M : vM} (h : vRC M) : M.2.2 70 0 = some 83 := h.2 (70, 0, 83) (List.mem_of_getElem? (i := 69) rfl)
theorem rf_70_1 {M : vM} (h : vRC M) : M.2.2 70 1 = some 107 := h.2 (70, 1, 107) (List.mem_of_getElem? (i := 70) rfl)
theorem rf_71_0 {M : vM} (h : vRC M) : M.2.2 71 0 = some 72 := h.2 (71, 0, 72) (List.mem_of_getElem? (i := 71) rfl)
theorem rf_72_0 {M : vM} (h : vRC M) : M.2.2 72 0 = some 73 := h.2 (72, 0, 73) (List.mem_of_getElem? (i := 72) rfl)
theorem rf_72_1 {M : vM} (h : vRC M) : M.2.2 72 1 = some 74 := h.2 (72, 1, 74) (List.mem_of_getElem? (i := 73) rfl)
theorem rf_72_2 {M : vM} (h : vRC M) : M.2.2 72 2 = some 75 := h.2 (72, 2, 75) (List.mem_of_getElem? (i := 74) rfl)
theorem rf_72_3 {M : vM} (h : vRC M) : M.2.2 72 3 = some 76 := h.2 (72, 3, 76) (List.mem_of_getElem? (i := 75) rfl)
theorem rf_72_4 {M : vM} (h : vRC M) : M.2.2 72 4 = some 77 := h.2 (72, 4, 77) (List.mem_of_getElem? (i := 76) rfl)
theorem rf_72_5 {M : vM} (h : vRC M) : M.2.2 72 5 = some 78 := h.2 (72, 5, 78) (List.mem_of_getElem? (i := 77) rfl)
theorem rf_72_6 {M : vM} (h : vRC M) : M.2.2 72 6 = some 79 := h.2 (72, 6, 79) (List.mem_of_getElem? (i := 78) rfl)
theorem rf_72_7 {M : vM} (h : vRC M) : M.2.2 72 7 = some 80 := h.2 (72, 7, 80) (List.mem_of_getElem? (i := 79) rfl)
theorem rf_72_8 {M : vM} (h : vRC M) : M.2.2 72 8 = some 81 := h.2 (72, 8, 81) (List.mem_of_getElem? (i := 80) rfl)
theorem rf_72_9 {M : vM} (h : vRC M) : M.2.2 72 9 = some 82 := h.2 (72, 9, 82) (List.mem_of_getElem? (i := 81) rfl)
theorem rf_83_0 {M : vM} (h : vRC M) : M.2.2 83 0 = some 84 := h.2 (83, 0, 84) (List.mem_of_getElem? (i := 82) rfl)
theorem rf_84_0 {M : vM} (h : vRC M) : M.2.2 84 0 = some 85 := h.2 (84, 0, 85) (List.mem_of_getElem? (i := 83) rfl)
theorem rf_84_1 {M : vM} (h : vRC M) : M.2.2 84 1 = some 86 := h.2 (84, 1, 86) (List.mem_of_getElem? (i := 84) rfl)
theorem rf_84_2 {M : vM} (h : vRC M) : M.2.2 84 2 = some 87 := h.2 (84, 2, 87) (List.mem_of_getElem? (i := 85) rfl)
theorem rf_84_3 {M : vM} (h : vRC M) : M.2.2 84 3 = some 88 := h.2 (84, 3, 88) (List.mem_of_getElem? (i := 86) rfl)
theorem rf_84_4 {M : vM} (h : vRC M) : M.2.2 84 4 = some 89 := h.2 (84, 4, 89) (List.mem_of_getElem? (i := 87) rfl)
theorem rf_84_5 {M : vM} (h : vRC M) : M.2.2 84 5 = some 90 := h.2 (84, 5, 90) (List.mem_of_getElem? (i := 88) rfl)
theorem rf_84_6 {M : vM} (h : vRC M) : M.2.2 84 6 = some 91 := h.2 (84, 6, 91) (List.mem_of_getElem? (i := 89) rfl)
theorem rf_84_7 {M : vM} (h : vRC M) : M.2.2 84 7 = some 92 := h.2 (84, 7, 92) (List.mem_of_getElem? (i := 90) rfl)
theorem rf_84_8 {M : vM} (h : vRC M) : M.2.2 84 8 = some 93 := h.2 (84, 8, 93) (List.mem_of_getElem? (i := 91) rfl)
theorem rf_84_9 {M : vM} (h : vRC M) : M.2.2 84 9 = some 94 := h.2 (84, 9, 94) (List.mem_of_getElem? (i := 92) rfl)
theorem rf_95_0 {M : vM} (h : vRC M) : M.2.2 95 0 = some 96 := h.2 (95, 0, 96) (List.mem_of_getElem? (i := 93) rfl)
theorem rf_96_0 {M : vM} (h : vRC M) : M.2.2 96 0 = some 97 := h.2 (96, 0, 97) (List.mem_of_getElem? (i := 94) rfl)
theorem rf_96_1 {M : vM} (h : vRC M) : M.2.2 96 1 = some 98 := h.2 (96, 1, 98) (List.mem_of_getElem? (i := 95) rfl)
theorem rf_96_2 {M : vM} (h : vRC M) : M.2.2 96 2 = some 99 := h.2 (96, 2, 99) (List.mem_of_getElem? (i := 96) rfl)
theorem rf_96_3 {M : vM} (h : vRC M) : M.2.2 96 3 = some 100 := h.2 (96, 3, 100) (List.mem_of_getElem? (i := 97) rfl)
theorem rf_96_4 {M : vM} (h : vRC M) : M.2.2 96 4 = some 101 := h.2 (96, 4, 101) (List.mem_of_getElem? (i := 98) rfl)
theorem rf_96_5 {M : vM} (h : vRC M) : M.2.2 96 5 = some 102 := h.2 (96, 5, 102) (List.mem_of_getElem? (i := 99) rfl)
theorem rf_96_6 {M : vM} (h : vRC M) : M.2.2 96 6 = some 103 := h.2 (96, 6, 103) (List.mem_of_getElem? (i := 100) rfl)
theorem rf_96_7 {M : vM} (h : vRC M) : M.2.2 96 7 = some 104 := h.2 (96, 7, 104) (List.mem_of_getElem? (i := 101) rfl)
theorem rf_96_8 {M : vM} (h : vRC M) : M.2.2 96 8 = some 105 := h.2 (96, 8, 105) (List.mem_of_getElem? (i := 102) rfl)
theorem rf_96_9 {M : vM} (h : vRC M) : M.2.2 96 9 = some 106 := h.2 (96, 9, 106) (List.mem_of_getElem? (i := 103) rfl)
theorem rf_107_0 {M : vM} (h : vRC M) : M.2.2 107 0 = some 108 := h.2 (107, 0, 108) (List.mem_of_getElem? (i := 104) rfl)
theorem rf_108_0 {M : vM} (h : vRC M) : M.2.2 108 0 = some 109 := h.2 (108, 0, 109) (List.mem_of_getElem? (i := 105) rfl)
theorem rf_108_1 {M : vM} (h : vRC M) : M.2.2 108 1 = some 110 := h.2 (108, 1, 110) (List.mem_of_getElem? (i := 106) rfl)
theorem rf_108_2 {M : vM} (h : vRC M) : M.2.2 108 2 = some 111 := h.2 (108, 2, 111) (List.mem_of_getElem? (i := 107) rfl)
theorem rf_108_3 {M : vM} (h : vRC M) : M.2.2 108 3 = some 112 := h.2 (108, 3, 112) (List.mem_of_getElem? (i := 108) rfl)
theorem rf_108_4 {M : vM} (h : vRC M) : M.2.2 108 4 = some 113 := h.2 (108, 4, 113) (List.mem_of_getElem? (i := 109) rfl)
theorem rf_108_5 {M : vM} (h : vRC M) : M.2.2 108 5 = some 114 := h.2 (108, 5, 114) (List.mem_of_getElem? (i := 110) rfl)
theorem rf_108_6 {M : vM} (h : vRC M) : M.2.2 108 6 = some 115 := h.2 (108, 6, 115) (List.mem_of_getElem? (i := 111) rfl)
theorem rf_108_7 {M : vM} (h : vRC M) : M.2.2 108 7 = some 116 := h.2 (108, 7, 116) (List.mem_of_getElem? (i := 112) rfl)
theorem rf_108_8 {M : vM} (h : vRC M) : M.2.2 108 8 = some 117 := h.2 (108, 8, 117) (List.mem_of_getElem? (i := 113) rfl)
theorem rf_108_9 {M : vM} (h : vRC M) : M.2.2 108 9 = some 118 := h.2 (108, 9, 118) (List.mem_of_getElem? (i := 114) rfl)
theorem rf_120_0 {M : vM} (h : vRC M) : M.2.2 120 0 = some 121 := h.2 (120, 0, 121) (List.mem_of_getElem? (i := 115) rfl)
theorem rf_122_0 {M : vM} (h : vRC M) : M.2.2 122 0 = some 123 := h.2 (122, 0, 123) (List.mem_of_getElem? (i := 116) rfl)
theorem rf_122_1 {M : vM} (h : vRC M) : M.2.2 122 1 = some 124 := h.2 (122, 1, 124) (List.mem_of_getElem? (i := 117) rfl)
theorem rf_124_0 {M : vM} (h : vRC M) : M.2.2 124 0 = some 125 := h.2 (124, 0, 125) (List.mem_of_getElem? (i := 118) rfl)
theorem rf_124_1 {M : vM} (h : vRC M) : M.2.2 124 1 = some 126 := h.2 (124, 1, 126) (List.mem_of_getElem? (i := 119) rfl)
theorem rf_124_2 {M : vM} (h : vRC M) : M.2.2 124 2 = some 127 := h.2 (124, 2, 127) (List.mem_of_getElem? (i := 120) rfl)
theorem rf_124_3 {M : vM} (h : vRC M) : M.2.2 124 3 = some 128 := h.2 (124, 3, 128) (List.mem_of_getElem? (i := 121) rfl)
theorem rf_124_4 {M : vM} (h : vRC M) : M.2.2 124 4 = some 129 := h.2 (124, 4, 129) (List.mem_of_getElem? (i := 122) rfl)
theorem rf_124_5 {M : vM} (h : vRC M) : M.2.2 124 5 = some 130 := h.2 (124, 5, 130) (List.mem_of_getElem? (i := 123) rfl)
theorem rf_124_6 {M : vM} (h : vRC M) : M.2.2 124 6 = some 131 := h.2 (124, 6, 131) (List.mem_of_getElem? (i := 124) rfl)
theorem rf_124_7 {M : vM} (h : vRC M) : M.2.2 124 7 = some 132 := h.2 (124, 7, 132) (List.mem_of_getElem? (i := 125) rfl)
theorem rf_124_8 {M : vM} (h : vRC M) : M.2.2 124 8 = some 133 := h.2 (124, 8, 133) (List.mem_of_getElem? (i := 126) rfl)
theorem rf_124_9 {M : vM} (h : vRC M) : M.2.2 124 9 = some 134 := h.2 (124, 9, 134) (List.mem_of_getElem? (i := 127) rfl)
theorem rf_124_10 {M : vM} (h : vRC M) : M.2.2 124 10 = some 135 := h.2 (124, 10, 135) (List.mem_of_getElem? (i := 128) rfl)
theorem rf_124_11 {M : vM} (h : vRC M) : M.2.2 124 11 = some 136 := h.2 (124, 11, 136) (List.mem_of_getElem? (i := 129) rfl)
theorem rf_124_12 {M : vM} (h : vRC M) : M.2.2 124 12 = some 137 := h.2 (124, 12, 137) (List.mem_of_getElem? (i := 130) rfl)
theorem rf_124_13 {M : vM} (h : vRC M) : M.2.2 124 13 = some 138 := h.2 (124, 13, 138) (List.mem_of_getElem? (i := 131) rfl)
theorem rf_124_14 {M : vM} (h : vRC M) : M.2.2 124 14 = some 139 := h.2 (124, 14, 139) (List.mem_of_getElem? (i := 132) rfl)
theorem rf_124_15 {M : vM} (h : vRC M) : M.2.2 124 15 = some 140 := h.2 (124, 15, 140) (List.mem_of_getElem? (i := 133) rfl)
theorem rf_124_16 {M : vM} (h : vRC M) : M.2.2 124 16 = some 141 := h.2 (124, 16, 141) (List.mem_of_getElem? (i := 134) rfl)
theorem rf_124_17 {M : vM} (h : vRC M) : M.2.2 124 17 = some 142 := h.2 (124, 17, 142) (List.mem_of_getElem? (i := 135) rfl)
theorem rf_124_18 {M : vM} (h : vRC M) : M.2.2 124 18 = some 143 := h.2 (124, 18, 143) (List.mem_of_getElem? (i := 136) rfl)
theorem rf_124_19 {M : vM} (h : vRC M) : M.2.2 124 19 = some 144 := h.2 (124, 19, 144) (List.mem_of_getElem? (i := 137) rfl)
theorem rf_124_20 {M : vM} (h : vRC M) : M.2.2 124 20 = some 145 := h.2 (124, 20, 145) (List.mem_of_getElem? (i := 138) rfl)
theorem rf_124_21 {M : vM} (h : vRC M) : M.2.2 124 21 = some 146 := h.2 (124, 21, 146) (List.mem_of_getElem? (i := 139) rfl)
theorem rf_124_22 {M : vM} (h : vRC M) : M.2.2 124 22 = some 147 := h.2 (124, 22, 147) (List.mem_of_getElem? (i := 140) rfl)
theorem rf_124_23 {M : vM} (h : vRC M) : M.2.2 124 23 = some 148 := h.2 (124, 23, 148) (List.mem_of_getElem? (i := 141) rfl)
theorem rf_124_24 {M : vM} (h : vRC M) : M.2.2 124 24 = some 149 := h.2 (124, 24, 149) (List.mem_of_getElem? (i := 142) rfl)
theorem rf_124_25 {M : vM} (h : vRC M) : M.2.2 124 25 = some 150 := h.2 (124, 25, 150) (List.mem_of_getElem? (i := 143) rfl)
theorem rf_124_26 {M : vM} (h : vRC M) : M.2.2 124 26 = some 151 := h.2 (124, 26, 151) (List.mem_of_getElem? (i := 144) rfl)
theorem rf_124_27 {M : vM} (h : vRC M) : M.2.2 124 27 = some 152 := h.2 (124, 27, 152) (List.mem_of_getElem? (i := 145) rfl)
theorem rf_124_28 {M : vM} (h : vRC M) : M.2.2 124 28 = some 153 := h.2 (124, 28, 153) (List.mem_of_getElem? (i := 146) rfl)
theorem rf_124_29 {M : vM} (h : vRC M) : M.2.2 124 29 = some 154 := h.2 (124, 29, 154) (List.mem_of_getElem? (i := 147) rfl)
theorem rf_124_30 {M : vM} (h : vRC M) : M.2.2 124 30 = some 155 := h.2 (124, 30, 155) (List.mem_of_getElem? (i := 148) rfl)
theorem rf_124_31 {M : vM} (h : vRC M) : M.2.2 124 31 = some 156 := h.2 (124, 31, 156) (List.mem_of_getElem? (i := 149) rfl)
theorem rf_124_32 {M : vM} (h : vRC M) : M.2.2 124 32 = some 157 := h.2 (124, 32, 157) (List.mem_of_getElem? (i := 150) rfl)
theorem rf_124_33 {M : vM} (h : vRC M) : M.2.2 124 33 = some 158 := h.2 (124, 33, 158) (List.mem_of_getElem? (i := 151) rfl)
theorem rf_124_34 {M : vM} (h : vRC M) : M.2.2 124 34 = some 159 := h.2 (124, 34, 159) (List.mem_of_getElem? (i := 152) rfl)
theorem rf_124_35 {M : vM} (h : vRC M) : M.2.2 124 35 = some 160 := h.2 (124, 35, 160) (List.mem_of_getElem? (i := 153) rfl)
theorem rf_124_36 {M : vM} (h : vRC M) : M.2.2 124 36 = some 161 := h.2 (124, 36, 161) (List.mem_of_getElem? (i := 154) rfl)
theorem rf_124_37 {M : vM} (h : vRC M) : M.2.2 124 37 = some 162 := h.2 (124, 37, 162) (List.mem_of_getElem? (i := 155) rfl)
theorem rf_124_38 {M : vM} (h : vRC M) : M.2.2 124 38 = some 163 := h.2 (124, 38, 163) (List.mem_of_getElem? (i := 156) rfl)
theorem rf_124_39 {M : vM} (h : vRC M) : M.2.2 124 39 = some 164 := h.2 (124, 39, 164) (List.mem_of_getElem? (i := 157) rfl)
theorem rf_165_0 {M : vM} (h : vRC M) : M.2.2 165 0 = some 166 := h.2 (165, 0, 166) (List.mem_of_getElem? (i := 158) rfl)
theorem rf_165_1 {M : vM} (h : vRC M) : M.2.2 165 1 = some 167 := h.2 (165, 1, 167) (List.mem_of_getElem? (i := 159) rfl)
theorem rf_180_2 {M : vM} (h : vRC M) : M.2.2 180 2 = some 181 := h.2 (180, 2, 181) (List.mem_of_getElem? (i := 160) rfl)
theorem rf_180_3 {M : vM} (h : vRC M) : M.2.2 180 3 = some 182 := h.2 (180, 3, 182) (List.mem_of_getElem? (i := 161) rfl)
theorem rf_180_4 {M : vM} (h : vRC M) : M.2.2 180 4 = some 183 := h.2 (180, 4, 183) (List.mem_of_getElem? (i := 162) rfl)
theorem rf_180_5 {M : vM} (h : vRC M) : M.2.2 180 5 = some 184 := h.2 (180, 5, 184) (List.mem_of_getElem? (i := 163) rfl)
theorem rf_180_6 {M : vM} (h : vRC M) : M.2.2 180 6 = some 185 := h.2 (180, 6, 185) (List.mem_of_getElem? (i := 164) rfl)
theorem rf_180_7 {M : vM} (h : vRC M) : M.2.2 180 7 = some 186 := h.2 (180, 7, 186) (List.mem_of_getElem? (i := 165) rfl)
theorem rf_180_8 {M : vM} (h : vRC M) : M.2.2 180 8 = some 187 := h.2 (180, 8, 187) (List.mem_of_getElem? (i := 166) rfl)
theorem rf_180_9 {M : vM} (h : vRC M) : M.2.2 180 9 = some 188 := h.2 (180, 9, 188) (List.mem_of_getElem? (i := 167) rfl)
theorem rf_180_10 {M : vM} (h : vRC M) : M.2.2 180 10 = some 189 := h.2 (180, 10, 189) (List.mem_of_getElem? (i := 168) rfl)
theorem rf_180_11 {M : vM} (h : vRC M) : M.2.2 180 11 = some 190 := h.2 (180, 11, 190) (List.mem_of_getElem? (i := 169) rfl)
theorem rf_180_12 {M : vM} (h : vRC M) : M.2.2 180 12 = some 191 := h.2 (180, 12, 191) (List.mem_of_getElem? (i := 170) rfl)
theorem rf_180_13 {M : vM} (h : vRC M) : M.2.2 180 13 = some 192 := h.2 (180, 13, 192) (List.mem_of_getElem? (i := 171) rfl)
theorem rf_180_14 {M : vM} (h : vRC M) : M.2.2 180 14 = some 193 := h.2 (180, 14, 193) (List.mem_of_getElem? (i := 172) rfl)
theorem rf_180_15 {M : vM} (h : vRC M) : M.2.2 180 15 = some 194 := h.2 (180, 15, 194) (List.mem_of_getElem? (i := 173) rfl)
theorem rf_180_16 {M : vM} (h : vRC M) : M.2.2 180 16 = some 195 := h.2 (180, 16, 195) (List.mem_of_getElem? (i := 174) rfl)
theorem rf_180_17 {M : vM} (h : vRC M) : M.2.2 180 17 = some 196 := h.2 (180, 17, 196) (List.mem_of_getElem? (i := 175) rfl)
theorem rf_180_18 {M : vM} (h : vRC M) : M.2.2 180 18 = some 197 := h.2 (180, 18, 197) (List.mem_of_getElem? (i := 176) rfl)
theorem rf_180_19 {M : vM} (h : vRC M) : M.2.2 180 19 = some 198 := h.2 (180, 19, 198) (List.mem_of_getElem? (i := 177) rfl)
theorem rf_180_20 {M : vM} (h : vRC M) : M.2.2 180 20 = some 199 := h.2 (180, 20, 199) (List.mem_of_getElem? (i := 178) rfl)
theorem rf_180_21 {M : vM} (h : vRC M) : M.2.2 180 21 = some 200 := h.2 (180, 21, 200) (List.mem_of_getElem? (i := 179) rfl)
theorem rf_180_22 {M : vM} (h : vRC M) : M.2.2 180 22 = some 201 := h.2 (180, 22, 201) (List.mem_of_getElem? (i := 180) rfl)
theorem rf_180_36 {M : vM} (h : vRC M) : M.2.2 180 36 = some 202 := h.2 (180, 36, 202) (List.mem_of_getElem? (i := 181) rfl)
theorem rf_180_37 {M : vM} (h : vRC M) : M.2.2 180 37 = some 203 := h.2 (180, 37, 203) (List.mem_of_getElem? (i := 182) rfl)
theorem rf_180_38 {M : vM} (h : vRC M) : M.2.2 180 38 = some 204 := h.2 (180, 38, 204) (List.mem_of_getElem? (i := 183) rfl)
theorem rf_180_39 {M : vM} (h : vRC M) : M.2.2 180 39 = some 205 := h.2 (180, 39, 205) (List.mem_of_getElem? (i := 184) rfl)
theorem rf_180_40 {M : vM} (h : vRC M) : M.2.2 180 40 = some 206 := h.2 (180, 40, 206) (List.mem_of_getElem? (i := 185) rfl)
theorem rf_180_41 {M : vM} (h : vRC M) : M.2.2 180 41 = some 207 := h.2 (180, 41, 207) (List.mem_of_getElem? (i := 186) rfl)
theorem rf_180_42 {M : vM} (h : vRC M) : M.2.2 180 42 = some 208 := h.2 (180, 42, 208) (List.mem_of_getElem? (i := 187) rfl)
theorem rf_180_43 {M : vM} (h : vRC M) : M.2.2 180 43 = some 209 := h.2 (180, 43, 209) (List.mem_of_getElem? (i := 188) rfl)
theorem rf_180_44 {M : vM} (h : vRC M) : M.2.2 180 44 = some 210 := h.2 (180, 44, 210) (List.mem_of_getElem? (i := 189) rfl)
theorem rf_180_45 {M : vM} (h : vRC M) : M.2.2 180 45 = some 211 := h.2 (180, 45, 211) (List.mem_of_getElem? (i := 190) rfl)
theorem rf_180_55 {M : vM} (h : vRC M) : M.2.2 180 55 = some 212 := h.2 (180, 55, 212) (List.mem_of_getElem? (i := 191) rfl)
theorem rf_180_56 {M : vM} (h : vRC M) : M.2.2 180 56 = some 213 := h.2 (180, 56, 213) (List.mem_of_getElem? (i := 192) rfl)
theorem rf_180_57 {M : vM} (h : vRC M) : M.2.2 180 57 = some 214 := h.2 (180, 57, 214) (List.mem_of_getElem? (i := 193) rfl)
def isMach (h : Nat) : Prop := h = 11 ∨ h = 13 ∨ h = 15 ∨ h = 17 ∨ h = 19 ∨ h = 21 ∨ h = 169
theorem isMach_sh {h : Nat} (q : isMach h) : vsh h = (3, 3) ∧ vsh (h + 1) = (13, 8) ∧ h + 1 < 215 := by
  rcases q with rfl | rfl | rfl | rfl | rfl | rfl | rfl <;> exact ⟨rfl, rfl, by decide⟩
theorem isMach_rf {M : vM} {h : Nat} (q : isMach h) (g : vRC M) : M.2.2 h 0 = some (h + 1) := by
  rcases q with rfl | rfl | rfl | rfl | rfl | rfl | rfl <;> first | exact rf_11_0 g | exact rf_13_0 g | exact rf_15_0 g | exact rf_17_0 g | exact rf_19_0 g | exact rf_21_0 g | exact rf_169_0 g
def isStory (h : Nat) : Prop := h = 24 ∨ h = 28 ∨ h = 32 ∨ h = 36 ∨ h = 40 ∨ h = 44 ∨ h = 171
theorem isStory_sh {h : Nat} (q : isStory h) : vsh h = (7, 4) ∧ vsh (h + 1) = (13, 40) ∧ vsh (h + 2) = (13, 40) ∧ vsh (h + 3) = (13, 40) ∧ h + 3 < 215 := by
  rcases q with rfl | rfl | rfl | rfl | rfl | rfl | rfl <;> exact ⟨rfl, rfl, rfl, rfl, by decide⟩
theorem isStory_rf {M : vM} {h : Nat} (q : isStory h) (g : vRC M) : M.2.2 h 0 = some (h + 1) ∧ M.2.2 h 1 = some (h + 2) ∧ M.2.2 h 2 = some (h + 3) := by
  rcases q with rfl | rfl | rfl | rfl | rfl | rfl | rfl <;> first | exact ⟨rf_24_0 g, rf_24_1 g, rf_24_2 g⟩ | exact ⟨rf_28_0 g, rf_28_1 g, rf_28_2 g⟩ | exact ⟨rf_32_0 g, rf_32_1 g, rf_32_2 g⟩ | exact ⟨rf_36_0 g, rf_36_1 g, rf_36_2 g⟩ | exact ⟨rf_40_0 g, rf_40_1 g, rf_40_2 g⟩ | exact ⟨rf_44_0 g, rf_44_1 g, rf_44_2 g⟩ | exact ⟨rf_171_0 g, rf_171_1 g, rf_171_2 g⟩
def isReader (h : Nat) : Prop := h = 49 ∨ h = 54 ∨ h = 59 ∨ h = 64 ∨ h = 175
theorem isReader_sh {h : Nat} (q : isReader h) : vsh h = (5, 7) ∧ vsh (h + 1) = (13, 12) ∧ vsh (h + 2) = (13, 12) ∧ vsh (h + 3) = (13, 600) ∧ vsh (h + 4) = (13, 64) ∧ h + 4 < 215 := by
  rcases q with rfl | rfl | rfl | rfl | rfl <;> exact ⟨rfl, rfl, rfl, rfl, rfl, by decide⟩
theorem isReader_rf {M : vM} {h : Nat} (q : isReader h) (g : vRC M) : M.2.2 h 0 = some (h + 1) ∧ M.2.2 h 1 = some (h + 2) ∧ M.2.2 h 2 = some (h + 3) ∧ M.2.2 h 3 = some (h + 4) := by
  rcases q with rfl | rfl | rfl | rfl | rfl <;> first | exact ⟨rf_49_0 g, rf_49_1 g, rf_49_2 g, rf_49_3 g⟩ | exact ⟨rf_54_0 g, rf_54_1 g, rf_54_2 g, rf_54_3 g⟩ | exact ⟨rf_59_0 g, rf_59_1 g, rf_59_2 g, rf_59_3 g⟩ | exact ⟨rf_64_0 g, rf_64_1 g, rf_64_2 g, rf_64_3 g⟩ | exact ⟨rf_175_0 g, rf_175_1 g, rf_175_2 g, rf_175_3 g⟩
def isTape (h : Nat) : Prop := h = 71 ∨ h = 83 ∨ h = 95 ∨ h = 107
theorem isTape_sh {h : Nat} (q : isTape h) : vsh h = (9, 1) ∧ vsh (h + 1) = (18, 10) ∧ vsh (h + 2) = (13, 300) ∧ vsh (h + 3) = (13, 300) ∧ vsh (h + 4) = (13, 300) ∧ vsh (h + 5) = (13, 300) ∧ vsh (h + 6) = (13, 300) ∧ vsh (h + 7) = (13, 300) ∧ vsh (h + 8) = (13, 300) ∧ vsh (h + 9) = (13, 300) ∧ vsh (h + 10) = (13, 300) ∧ vsh (h + 11) = (13, 300) ∧ h + 11 < 215 := by
  rcases q with rfl | rfl | rfl | rfl <;> exact ⟨rfl, rfl, rfl, rfl, rfl, rfl, rfl, rfl, rfl, rfl, rfl, rfl, by decide⟩
theorem isTape_rf {M : vM} {h : Nat} (q : isTape h) (g : vRC M) : M.2.2 h 0 = some (h + 1) ∧ M.2.2 (h + 1) 0 = some (h + 2) ∧ M.2.2 (h + 1) 1 = some (h + 3) ∧ M.2.2 (h + 1) 2 = some (h + 4) ∧ M.2.2 (h + 1) 3 = some (h + 5) ∧ M.2.2 (h + 1) 4 = some (h + 6) ∧ M.2.2 (h + 1) 5 = some (h + 7) ∧ M.2.2 (h + 1) 6 = some (h + 8) ∧ M.2.2 (h + 1) 7 = some (h + 9) ∧ M.2.2 (h + 1) 8 = some (h + 10) ∧ M.2.2 (h + 1) 9 = some (h + 11) := by
  rcases q with rfl | rfl | rfl | rfl <;> first | exact ⟨rf_71_0 g, rf_72_0 g, rf_72_1 g, rf_72_2 g, rf_72_3 g, rf_72_4 g, rf_72_5 g, rf_72_6 g, rf_72_7 g, rf_72_8 g, rf_72_9 g⟩ | exact ⟨rf_83_0 g, rf_84_0 g, rf_84_1 g, rf_84_2 g, rf_84_3 g, rf_84_4 g, rf_84_5 g, rf_84_6 g, rf_84_7 g, rf_84_8 g, rf_84_9 g⟩ | exact ⟨rf_95_0 g, rf_96_0 g, rf_96_1 g, rf_96_2 g, rf_96_3 g, rf_96_4 g, rf_96_5 g, rf_96_6 g, rf_96_7 g, rf_96_8 g, rf_96_9 g⟩ | exact ⟨rf_107_0 g, rf_108_0 g, rf_108_1 g, rf_108_2 g, rf_108_3 g, rf_108_4 g, rf_108_5 g, rf_108_6 g, rf_108_7 g, rf_108_8 g, rf_108_9 g⟩
