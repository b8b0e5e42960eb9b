def layS : List (Nat × Nat × Nat) := [(1, 1, 6), (2, 1, 6), (3, 1, 3), (4, 1, 13), (5, 2, 6), (100, 21, 0), (101, 16, 0), (102, 12, 0), (103, 5, 6), (104, 6, 2), (105, 15, 0), (106, 1, 50), (107, 15, 0), (108, 1, 20), (109, 1, 18), (110, 1, 6), (111, 1, 6), (118, 1, 455), (119, 1, 2730), (120, 1, 455), (121, 1, 455), (122, 1, 455), (123, 1, 455), (124, 1, 455), (125, 2, 455), (126, 2, 455), (127, 12, 0), (128, 5, 6), (129, 6, 2), (130, 15, 0), (131, 1, 50), (132, 15, 0), (133, 1, 20), (134, 1, 18), (135, 1, 6), (136, 1, 6), (143, 15, 0), (144, 1, 40), (145, 7, 4), (146, 15, 0), (147, 1, 40), (148, 15, 0), (149, 1, 40), (150, 15, 0), (151, 1, 40), (152, 15, 0), (153, 1, 40), (154, 1, 4), (155, 1, 6), (156, 22, 0), (157, 1, 200), (158, 1, 200), (159, 1, 6), (160, 1, 4), (161, 1, 18), (162, 1, 2197), (163, 1, 2197), (164, 3, 2197), (165, 2, 2197), (166, 2, 2197), (167, 3, 2197), (168, 3, 2197), (169, 3, 2197), (170, 3, 2197), (171, 3, 2197), (172, 3, 2197), (173, 1, 40), (174, 1, 4), (175, 1, 4), (176, 1, 160), (177, 1, 40)]
def layR : List (Nat × Int × Nat) := [(100, 0, 102), (100, 1, 127), (100, 2, 101), (100, 3, 143), (100, 4, 145), (100, 5, 154), (100, 6, 155), (101, 0, 102), (101, 1, 118), (101, 2, 119), (101, 3, 120), (101, 4, 121), (101, 5, 122), (102, 0, 103), (102, 1, 104), (102, 2, 105), (102, 3, 107), (102, 9, 109), (102, 10, 110), (102, 11, 111), (105, 0, 106), (107, 0, 108), (127, 0, 128), (127, 1, 129), (127, 2, 130), (127, 3, 132), (127, 9, 134), (127, 10, 135), (127, 11, 136), (130, 0, 131), (132, 0, 133), (143, 0, 144), (145, 0, 146), (145, 1, 148), (145, 2, 150), (145, 3, 152), (146, 0, 147), (148, 0, 149), (150, 0, 151), (152, 0, 153), (156, 0, 157), (156, 1, 158), (156, 3, 159), (156, 10, 160), (156, 11, 161), (156, 12, 162), (156, 13, 163), (156, 14, 164), (156, 15, 165), (156, 16, 166), (156, 17, 167), (156, 18, 168), (156, 19, 169), (156, 20, 170), (156, 21, 171), (156, 22, 172), (156, 23, 173), (156, 26, 174), (156, 27, 175), (156, 28, 176), (156, 29, 177)]
theorem st_1 : ("GreenPath", "LESSER", "[I", vR 1) ∈ stL := List.mem_of_getElem? (i := 0) rfl
theorem st_2 : ("GreenPath", "GREATER", "[I", vR 2) ∈ stL := List.mem_of_getElem? (i := 1) rfl
theorem st_3 : ("GreenPath", "WEIGHT", "[I", vR 3) ∈ stL := List.mem_of_getElem? (i := 2) rfl
theorem st_4 : ("GreenPath$Search", "AHEAD", "[I", vR 4) ∈ stL := List.mem_of_getElem? (i := 3) rfl
theorem st_5 : ("GreenPath$Search", "WITHOUT", "[J", vR 5) ∈ stL := List.mem_of_getElem? (i := 4) rfl
/-- all that the constructors have made stands where it stood; Search's marks and sums may be swapped -/
def Lay (K : Sk) : Prop := (∀ q ∈ layS, K.1 q.1 = q.2) ∧ (∀ q ∈ layR, K.2.1 q.1 q.2.1 = q.2.2) ∧ ((K.2.1 101 7 = 123 ∧ K.2.1 101 8 = 124) ∨ (K.2.1 101 7 = 124 ∧ K.2.1 101 8 = 123)) ∧ ((K.2.1 101 9 = 125 ∧ K.2.1 101 10 = 126) ∨ (K.2.1 101 9 = 126 ∧ K.2.1 101 10 = 125)) ∧ 178 ≤ K.2.2
section LY
variable {K : Sk}
theorem lS_1 (h : Lay K) : K.1 1 = (1, 6) := h.1 (1, 1, 6) (List.mem_of_getElem? (i := 0) rfl)
theorem lS_2 (h : Lay K) : K.1 2 = (1, 6) := h.1 (2, 1, 6) (List.mem_of_getElem? (i := 1) rfl)
theorem lS_3 (h : Lay K) : K.1 3 = (1, 3) := h.1 (3, 1, 3) (List.mem_of_getElem? (i := 2) rfl)
theorem lS_4 (h : Lay K) : K.1 4 = (1, 13) := h.1 (4, 1, 13) (List.mem_of_getElem? (i := 3) rfl)
theorem lS_5 (h : Lay K) : K.1 5 = (2, 6) := h.1 (5, 2, 6) (List.mem_of_getElem? (i := 4) rfl)
theorem lS_100 (h : Lay K) : K.1 100 = (21, 0) := h.1 (100, 21, 0) (List.mem_of_getElem? (i := 5) rfl)
theorem lO_100 (h : Lay K) : (K.1 100).1 = 11 + 10 := by rw [lS_100 h]
theorem lS_101 (h : Lay K) : K.1 101 = (16, 0) := h.1 (101, 16, 0) (List.mem_of_getElem? (i := 6) rfl)
theorem lO_101 (h : Lay K) : (K.1 101).1 = 6 + 10 := by rw [lS_101 h]
theorem lS_102 (h : Lay K) : K.1 102 = (12, 0) := h.1 (102, 12, 0) (List.mem_of_getElem? (i := 7) rfl)
theorem lO_102 (h : Lay K) : (K.1 102).1 = 2 + 10 := by rw [lS_102 h]
theorem lS_103 (h : Lay K) : K.1 103 = (5, 6) := h.1 (103, 5, 6) (List.mem_of_getElem? (i := 8) rfl)
theorem lS_104 (h : Lay K) : K.1 104 = (6, 2) := h.1 (104, 6, 2) (List.mem_of_getElem? (i := 9) rfl)
theorem lS_105 (h : Lay K) : K.1 105 = (15, 0) := h.1 (105, 15, 0) (List.mem_of_getElem? (i := 10) rfl)
theorem lO_105 (h : Lay K) : (K.1 105).1 = 5 + 10 := by rw [lS_105 h]
theorem lS_106 (h : Lay K) : K.1 106 = (1, 50) := h.1 (106, 1, 50) (List.mem_of_getElem? (i := 11) rfl)
theorem lS_107 (h : Lay K) : K.1 107 = (15, 0) := h.1 (107, 15, 0) (List.mem_of_getElem? (i := 12) rfl)
theorem lO_107 (h : Lay K) : (K.1 107).1 = 5 + 10 := by rw [lS_107 h]
theorem lS_108 (h : Lay K) : K.1 108 = (1, 20) := h.1 (108, 1, 20) (List.mem_of_getElem? (i := 13) rfl)
theorem lS_109 (h : Lay K) : K.1 109 = (1, 18) := h.1 (109, 1, 18) (List.mem_of_getElem? (i := 14) rfl)
theorem lS_110 (h : Lay K) : K.1 110 = (1, 6) := h.1 (110, 1, 6) (List.mem_of_getElem? (i := 15) rfl)
theorem lS_111 (h : Lay K) : K.1 111 = (1, 6) := h.1 (111, 1, 6) (List.mem_of_getElem? (i := 16) rfl)
theorem lS_118 (h : Lay K) : K.1 118 = (1, 455) := h.1 (118, 1, 455) (List.mem_of_getElem? (i := 17) rfl)
theorem lS_119 (h : Lay K) : K.1 119 = (1, 2730) := h.1 (119, 1, 2730) (List.mem_of_getElem? (i := 18) rfl)
theorem lS_120 (h : Lay K) : K.1 120 = (1, 455) := h.1 (120, 1, 455) (List.mem_of_getElem? (i := 19) rfl)
theorem lS_121 (h : Lay K) : K.1 121 = (1, 455) := h.1 (121, 1, 455) (List.mem_of_getElem? (i := 20) rfl)
theorem lS_122 (h : Lay K) : K.1 122 = (1, 455) := h.1 (122, 1, 455) (List.mem_of_getElem? (i := 21) rfl)
theorem lS_123 (h : Lay K) : K.1 123 = (1, 455) := h.1 (123, 1, 455) (List.mem_of_getElem? (i := 22) rfl)
theorem lS_124 (h : Lay K) : K.1 124 = (1, 455) := h.1 (124, 1, 455) (List.mem_of_getElem? (i := 23) rfl)
theorem lS_125 (h : Lay K) : K.1 125 = (2, 455) := h.1 (125, 2, 455) (List.mem_of_getElem? (i := 24) rfl)
theorem lS_126 (h : Lay K) : K.1 126 = (2, 455) := h.1 (126, 2, 455) (List.mem_of_getElem? (i := 25) rfl)
theorem lS_127 (h : Lay K) : K.1 127 = (12, 0) := h.1 (127, 12, 0) (List.mem_of_getElem? (i := 26) rfl)
theorem lO_127 (h : Lay K) : (K.1 127).1 = 2 + 10 := by rw [lS_127 h]
theorem lS_128 (h : Lay K) : K.1 128 = (5, 6) := h.1 (128, 5, 6) (List.mem_of_getElem? (i := 27) rfl)
theorem lS_129 (h : Lay K) : K.1 129 = (6, 2) := h.1 (129, 6, 2) (List.mem_of_getElem? (i := 28) rfl)
theorem lS_130 (h : Lay K) : K.1 130 = (15, 0) := h.1 (130, 15, 0) (List.mem_of_getElem? (i := 29) rfl)
theorem lO_130 (h : Lay K) : (K.1 130).1 = 5 + 10 := by rw [lS_130 h]
theorem lS_131 (h : Lay K) : K.1 131 = (1, 50) := h.1 (131, 1, 50) (List.mem_of_getElem? (i := 30) rfl)
theorem lS_132 (h : Lay K) : K.1 132 = (15, 0) := h.1 (132, 15, 0) (List.mem_of_getElem? (i := 31) rfl)
theorem lO_132 (h : Lay K) : (K.1 132).1 = 5 + 10 := by rw [lS_132 h]
theorem lS_133 (h : Lay K) : K.1 133 = (1, 20) := h.1 (133, 1, 20) (List.mem_of_getElem? (i := 32) rfl)
theorem lS_134 (h : Lay K) : K.1 134 = (1, 18) := h.1 (134, 1, 18) (List.mem_of_getElem? (i := 33) rfl)
theorem lS_135 (h : Lay K) : K.1 135 = (1, 6) := h.1 (135, 1, 6) (List.mem_of_getElem? (i := 34) rfl)
theorem lS_136 (h : Lay K) : K.1 136 = (1, 6) := h.1 (136, 1, 6) (List.mem_of_getElem? (i := 35) rfl)
theorem lS_143 (h : Lay K) : K.1 143 = (15, 0) := h.1 (143, 15, 0) (List.mem_of_getElem? (i := 36) rfl)
theorem lO_143 (h : Lay K) : (K.1 143).1 = 5 + 10 := by rw [lS_143 h]
theorem lS_144 (h : Lay K) : K.1 144 = (1, 40) := h.1 (144, 1, 40) (List.mem_of_getElem? (i := 37) rfl)
theorem lS_145 (h : Lay K) : K.1 145 = (7, 4) := h.1 (145, 7, 4) (List.mem_of_getElem? (i := 38) rfl)
theorem lS_146 (h : Lay K) : K.1 146 = (15, 0) := h.1 (146, 15, 0) (List.mem_of_getElem? (i := 39) rfl)
theorem lO_146 (h : Lay K) : (K.1 146).1 = 5 + 10 := by rw [lS_146 h]
theorem lS_147 (h : Lay K) : K.1 147 = (1, 40) := h.1 (147, 1, 40) (List.mem_of_getElem? (i := 40) rfl)
theorem lS_148 (h : Lay K) : K.1 148 = (15, 0) := h.1 (148, 15, 0) (List.mem_of_getElem? (i := 41) rfl)
theorem lO_148 (h : Lay K) : (K.1 148).1 = 5 + 10 := by rw [lS_148 h]
theorem lS_149 (h : Lay K) : K.1 149 = (1, 40) := h.1 (149, 1, 40) (List.mem_of_getElem? (i := 42) rfl)
theorem lS_150 (h : Lay K) : K.1 150 = (15, 0) := h.1 (150, 15, 0) (List.mem_of_getElem? (i := 43) rfl)
theorem lO_150 (h : Lay K) : (K.1 150).1 = 5 + 10 := by rw [lS_150 h]
theorem lS_151 (h : Lay K) : K.1 151 = (1, 40) := h.1 (151, 1, 40) (List.mem_of_getElem? (i := 44) rfl)
theorem lS_152 (h : Lay K) : K.1 152 = (15, 0) := h.1 (152, 15, 0) (List.mem_of_getElem? (i := 45) rfl)
theorem lO_152 (h : Lay K) : (K.1 152).1 = 5 + 10 := by rw [lS_152 h]
theorem lS_153 (h : Lay K) : K.1 153 = (1, 40) := h.1 (153, 1, 40) (List.mem_of_getElem? (i := 46) rfl)
theorem lS_154 (h : Lay K) : K.1 154 = (1, 4) := h.1 (154, 1, 4) (List.mem_of_getElem? (i := 47) rfl)
theorem lS_155 (h : Lay K) : K.1 155 = (1, 6) := h.1 (155, 1, 6) (List.mem_of_getElem? (i := 48) rfl)
theorem lS_156 (h : Lay K) : K.1 156 = (22, 0) := h.1 (156, 22, 0) (List.mem_of_getElem? (i := 49) rfl)
theorem lO_156 (h : Lay K) : (K.1 156).1 = 12 + 10 := by rw [lS_156 h]
theorem lS_157 (h : Lay K) : K.1 157 = (1, 200) := h.1 (157, 1, 200) (List.mem_of_getElem? (i := 50) rfl)
theorem lS_158 (h : Lay K) : K.1 158 = (1, 200) := h.1 (158, 1, 200) (List.mem_of_getElem? (i := 51) rfl)
theorem lS_159 (h : Lay K) : K.1 159 = (1, 6) := h.1 (159, 1, 6) (List.mem_of_getElem? (i := 52) rfl)
theorem lS_160 (h : Lay K) : K.1 160 = (1, 4) := h.1 (160, 1, 4) (List.mem_of_getElem? (i := 53) rfl)
theorem lS_161 (h : Lay K) : K.1 161 = (1, 18) := h.1 (161, 1, 18) (List.mem_of_getElem? (i := 54) rfl)
theorem lS_162 (h : Lay K) : K.1 162 = (1, 2197) := h.1 (162, 1, 2197) (List.mem_of_getElem? (i := 55) rfl)
theorem lS_163 (h : Lay K) : K.1 163 = (1, 2197) := h.1 (163, 1, 2197) (List.mem_of_getElem? (i := 56) rfl)
theorem lS_164 (h : Lay K) : K.1 164 = (3, 2197) := h.1 (164, 3, 2197) (List.mem_of_getElem? (i := 57) rfl)
theorem lS_165 (h : Lay K) : K.1 165 = (2, 2197) := h.1 (165, 2, 2197) (List.mem_of_getElem? (i := 58) rfl)
theorem lS_166 (h : Lay K) : K.1 166 = (2, 2197) := h.1 (166, 2, 2197) (List.mem_of_getElem? (i := 59) rfl)
theorem lS_167 (h : Lay K) : K.1 167 = (3, 2197) := h.1 (167, 3, 2197) (List.mem_of_getElem? (i := 60) rfl)
theorem lS_168 (h : Lay K) : K.1 168 = (3, 2197) := h.1 (168, 3, 2197) (List.mem_of_getElem? (i := 61) rfl)
theorem lS_169 (h : Lay K) : K.1 169 = (3, 2197) := h.1 (169, 3, 2197) (List.mem_of_getElem? (i := 62) rfl)
theorem lS_170 (h : Lay K) : K.1 170 = (3, 2197) := h.1 (170, 3, 2197) (List.mem_of_getElem? (i := 63) rfl)
theorem lS_171 (h : Lay K) : K.1 171 = (3, 2197) := h.1 (171, 3, 2197) (List.mem_of_getElem? (i := 64) rfl)
theorem lS_172 (h : Lay K) : K.1 172 = (3, 2197) := h.1 (172, 3, 2197) (List.mem_of_getElem? (i := 65) rfl)
theorem lS_173 (h : Lay K) : K.1 173 = (1, 40) := h.1 (173, 1, 40) (List.mem_of_getElem? (i := 66) rfl)
theorem lS_174 (h : Lay K) : K.1 174 = (1, 4) := h.1 (174, 1, 4) (List.mem_of_getElem? (i := 67) rfl)
theorem lS_175 (h : Lay K) : K.1 175 = (1, 4) := h.1 (175, 1, 4) (List.mem_of_getElem? (i := 68) rfl)
theorem lS_176 (h : Lay K) : K.1 176 = (1, 160) := h.1 (176, 1, 160) (List.mem_of_getElem? (i := 69) rfl)
theorem lS_177 (h : Lay K) : K.1 177 = (1, 40) := h.1 (177, 1, 40) (List.mem_of_getElem? (i := 70) rfl)
theorem lR_100_0 (h : Lay K) : K.2.1 100 0 = 102 := h.2.1 (100, 0, 102) (List.mem_of_getElem? (i := 0) rfl)
theorem lR_100_1 (h : Lay K) : K.2.1 100 1 = 127 := h.2.1 (100, 1, 127) (List.mem_of_getElem? (i := 1) rfl)
theorem lR_100_2 (h : Lay K) : K.2.1 100 2 = 101 := h.2.1 (100, 2, 101) (List.mem_of_getElem? (i := 2) rfl)
theorem lR_100_3 (h : Lay K) : K.2.1 100 3 = 143 := h.2.1 (100, 3, 143) (List.mem_of_getElem? (i := 3) rfl)
theorem lR_100_4 (h : Lay K) : K.2.1 100 4 = 145 := h.2.1 (100, 4, 145) (List.mem_of_getElem? (i := 4) rfl)
theorem lR_100_5 (h : Lay K) : K.2.1 100 5 = 154 := h.2.1 (100, 5, 154) (List.mem_of_getElem? (i := 5) rfl)
theorem lR_100_6 (h : Lay K) : K.2.1 100 6 = 155 := h.2.1 (100, 6, 155) (List.mem_of_getElem? (i := 6) rfl)
theorem lR_101_0 (h : Lay K) : K.2.1 101 0 = 102 := h.2.1 (101, 0, 102) (List.mem_of_getElem? (i := 7) rfl)
theorem lR_101_1 (h : Lay K) : K.2.1 101 1 = 118 := h.2.1 (101, 1, 118) (List.mem_of_getElem? (i := 8) rfl)
theorem lR_101_2 (h : Lay K) : K.2.1 101 2 = 119 := h.2.1 (101, 2, 119) (List.mem_of_getElem? (i := 9) rfl)
theorem lR_101_3 (h : Lay K) : K.2.1 101 3 = 120 := h.2.1 (101, 3, 120) (List.mem_of_getElem? (i := 10) rfl)
theorem lR_101_4 (h : Lay K) : K.2.1 101 4 = 121 := h.2.1 (101, 4, 121) (List.mem_of_getElem? (i := 11) rfl)
theorem lR_101_5 (h : Lay K) : K.2.1 101 5 = 122 := h.2.1 (101, 5, 122) (List.mem_of_getElem? (i := 12) rfl)
theorem lR_102_0 (h : Lay K) : K.2.1 102 0 = 103 := h.2.1 (102, 0, 103) (List.mem_of_getElem? (i := 13) rfl)
theorem lR_102_1 (h : Lay K) : K.2.1 102 1 = 104 := h.2.1 (102, 1, 104) (List.mem_of_getElem? (i := 14) rfl)
theorem lR_102_2 (h : Lay K) : K.2.1 102 2 = 105 := h.2.1 (102, 2, 105) (List.mem_of_getElem? (i := 15) rfl)
theorem lR_102_3 (h : Lay K) : K.2.1 102 3 = 107 := h.2.1 (102, 3, 107) (List.mem_of_getElem? (i := 16) rfl)
theorem lR_102_9 (h : Lay K) : K.2.1 102 9 = 109 := h.2.1 (102, 9, 109) (List.mem_of_getElem? (i := 17) rfl)
theorem lR_102_10 (h : Lay K) : K.2.1 102 10 = 110 := h.2.1 (102, 10, 110) (List.mem_of_getElem? (i := 18) rfl)
theorem lR_102_11 (h : Lay K) : K.2.1 102 11 = 111 := h.2.1 (102, 11, 111) (List.mem_of_getElem? (i := 19) rfl)
theorem lR_105_0 (h : Lay K) : K.2.1 105 0 = 106 := h.2.1 (105, 0, 106) (List.mem_of_getElem? (i := 20) rfl)
theorem lR_107_0 (h : Lay K) : K.2.1 107 0 = 108 := h.2.1 (107, 0, 108) (List.mem_of_getElem? (i := 21) rfl)
theorem lR_127_0 (h : Lay K) : K.2.1 127 0 = 128 := h.2.1 (127, 0, 128) (List.mem_of_getElem? (i := 22) rfl)
theorem lR_127_1 (h : Lay K) : K.2.1 127 1 = 129 := h.2.1 (127, 1, 129) (List.mem_of_getElem? (i := 23) rfl)
theorem lR_127_2 (h : Lay K) : K.2.1 127 2 = 130 := h.2.1 (127, 2, 130) (List.mem_of_getElem? (i := 24) rfl)
theorem lR_127_3 (h : Lay K) : K.2.1 127 3 = 132 := h.2.1 (127, 3, 132) (List.mem_of_getElem? (i := 25) rfl)
theorem lR_127_9 (h : Lay K) : K.2.1 127 9 = 134 := h.2.1 (127, 9, 134) (List.mem_of_getElem? (i := 26) rfl)
theorem lR_127_10 (h : Lay K) : K.2.1 127 10 = 135 := h.2.1 (127, 10, 135) (List.mem_of_getElem? (i := 27) rfl)
theorem lR_127_11 (h : Lay K) : K.2.1 127 11 = 136 := h.2.1 (127, 11, 136) (List.mem_of_getElem? (i := 28) rfl)
theorem lR_130_0 (h : Lay K) : K.2.1 130 0 = 131 := h.2.1 (130, 0, 131) (List.mem_of_getElem? (i := 29) rfl)
theorem lR_132_0 (h : Lay K) : K.2.1 132 0 = 133 := h.2.1 (132, 0, 133) (List.mem_of_getElem? (i := 30) rfl)
theorem lR_143_0 (h : Lay K) : K.2.1 143 0 = 144 := h.2.1 (143, 0, 144) (List.mem_of_getElem? (i := 31) rfl)
theorem lR_145_0 (h : Lay K) : K.2.1 145 0 = 146 := h.2.1 (145, 0, 146) (List.mem_of_getElem? (i := 32) rfl)
theorem lR_145_1 (h : Lay K) : K.2.1 145 1 = 148 := h.2.1 (145, 1, 148) (List.mem_of_getElem? (i := 33) rfl)
theorem lR_145_2 (h : Lay K) : K.2.1 145 2 = 150 := h.2.1 (145, 2, 150) (List.mem_of_getElem? (i := 34) rfl)
theorem lR_145_3 (h : Lay K) : K.2.1 145 3 = 152 := h.2.1 (145, 3, 152) (List.mem_of_getElem? (i := 35) rfl)
theorem lR_146_0 (h : Lay K) : K.2.1 146 0 = 147 := h.2.1 (146, 0, 147) (List.mem_of_getElem? (i := 36) rfl)
theorem lR_148_0 (h : Lay K) : K.2.1 148 0 = 149 := h.2.1 (148, 0, 149) (List.mem_of_getElem? (i := 37) rfl)
theorem lR_150_0 (h : Lay K) : K.2.1 150 0 = 151 := h.2.1 (150, 0, 151) (List.mem_of_getElem? (i := 38) rfl)
theorem lR_152_0 (h : Lay K) : K.2.1 152 0 = 153 := h.2.1 (152, 0, 153) (List.mem_of_getElem? (i := 39) rfl)
theorem lR_156_0 (h : Lay K) : K.2.1 156 0 = 157 := h.2.1 (156, 0, 157) (List.mem_of_getElem? (i := 40) rfl)
theorem lR_156_1 (h : Lay K) : K.2.1 156 1 = 158 := h.2.1 (156, 1, 158) (List.mem_of_getElem? (i := 41) rfl)
theorem lR_156_3 (h : Lay K) : K.2.1 156 3 = 159 := h.2.1 (156, 3, 159) (List.mem_of_getElem? (i := 42) rfl)
theorem lR_156_10 (h : Lay K) : K.2.1 156 10 = 160 := h.2.1 (156, 10, 160) (List.mem_of_getElem? (i := 43) rfl)
theorem lR_156_11 (h : Lay K) : K.2.1 156 11 = 161 := h.2.1 (156, 11, 161) (List.mem_of_getElem? (i := 44) rfl)
theorem lR_156_12 (h : Lay K) : K.2.1 156 12 = 162 := h.2.1 (156, 12, 162) (List.mem_of_getElem? (i := 45) rfl)
theorem lR_156_13 (h : Lay K) : K.2.1 156 13 = 163 := h.2.1 (156, 13, 163) (List.mem_of_getElem? (i := 46) rfl)
theorem lR_156_14 (h : Lay K) : K.2.1 156 14 = 164 := h.2.1 (156, 14, 164) (List.mem_of_getElem? (i := 47) rfl)
theorem lR_156_15 (h : Lay K) : K.2.1 156 15 = 165 := h.2.1 (156, 15, 165) (List.mem_of_getElem? (i := 48) rfl)
theorem lR_156_16 (h : Lay K) : K.2.1 156 16 = 166 := h.2.1 (156, 16, 166) (List.mem_of_getElem? (i := 49) rfl)
theorem lR_156_17 (h : Lay K) : K.2.1 156 17 = 167 := h.2.1 (156, 17, 167) (List.mem_of_getElem? (i := 50) rfl)
theorem lR_156_18 (h : Lay K) : K.2.1 156 18 = 168 := h.2.1 (156, 18, 168) (List.mem_of_getElem? (i := 51) rfl)
theorem lR_156_19 (h : Lay K) : K.2.1 156 19 = 169 := h.2.1 (156, 19, 169) (List.mem_of_getElem? (i := 52) rfl)
theorem lR_156_20 (h : Lay K) : K.2.1 156 20 = 170 := h.2.1 (156, 20, 170) (List.mem_of_getElem? (i := 53) rfl)
theorem lR_156_21 (h : Lay K) : K.2.1 156 21 = 171 := h.2.1 (156, 21, 171) (List.mem_of_getElem? (i := 54) rfl)
theorem lR_156_22 (h : Lay K) : K.2.1 156 22 = 172 := h.2.1 (156, 22, 172) (List.mem_of_getElem? (i := 55) rfl)
theorem lR_156_23 (h : Lay K) : K.2.1 156 23 = 173 := h.2.1 (156, 23, 173) (List.mem_of_getElem? (i := 56) rfl)
theorem lR_156_26 (h : Lay K) : K.2.1 156 26 = 174 := h.2.1 (156, 26, 174) (List.mem_of_getElem? (i := 57) rfl)
theorem lR_156_27 (h : Lay K) : K.2.1 156 27 = 175 := h.2.1 (156, 27, 175) (List.mem_of_getElem? (i := 58) rfl)
theorem lR_156_28 (h : Lay K) : K.2.1 156 28 = 176 := h.2.1 (156, 28, 176) (List.mem_of_getElem? (i := 59) rfl)
theorem lR_156_29 (h : Lay K) : K.2.1 156 29 = 177 := h.2.1 (156, 29, 177) (List.mem_of_getElem? (i := 60) rfl)
theorem layS_lt : ∀ q ∈ layS, q.1 < 178 := by decide
theorem layR_lt : ∀ q ∈ layR, q.1 < 178 := by decide
theorem layR_ne : ∀ q ∈ layR, q.1 ≠ 103 ∧ q.1 ≠ 104 ∧ q.1 ≠ 128 ∧ q.1 ≠ 129 := by decide
theorem Lay.nw (h : Lay K) (k n : Nat) : Lay (nwK K k n) := by
  obtain ⟨h1, h2, h3, h4, h5⟩ := h
  have e : ∀ a, a < 178 → (nwK K k n).2.1 a = K.2.1 a := fun a ha => by
    have : a ≠ K.2.2 := by omega
    simp [nwK, setr, this]
  refine ⟨fun q hq => ?_, fun q hq => ?_, ?_, ?_, ?_⟩
  · have := layS_lt q hq
    have h6 : q.1 ≠ K.2.2 := by omega
    simp only [nwK, if_neg h6]
    exact h1 q hq
  · rw [e _ (layR_lt q hq)]
    exact h2 q hq
  · rw [e 101 (by decide)]; exact h3
  · rw [e 101 (by decide)]; exact h4
  · show 178 ≤ K.2.2 + 1
    omega
theorem Lay.wrq (h : Lay K) {a : Nat} (ha : a = 103 ∨ a = 104 ∨ a = 128 ∨ a = 129 ∨ 178 ≤ a) (i : Int) (b : Nat) : Lay (wrR K a i b) := by
  obtain ⟨h1, h2, h3, h4, h5⟩ := h
  have e : ∀ c, c ≠ a → (wrR K a i b).2.1 c = K.2.1 c := fun c hc => by simp [wrR, setr, hc]
  refine ⟨h1, fun q hq => ?_, ?_, ?_, h5⟩
  · have g1 := layR_lt q hq
    have g2 := layR_ne q hq
    rw [e _ (by omega)]
    exact h2 q hq
  · rw [e 101 (by omega)]; exact h3
  · rw [e 101 (by omega)]; exact h4
end LY
/-! what the static tables hold -/
def lesF (i : Int) : Int := if i < 3 then 0 else if i < 5 then 1 else 2
def greF (i : Int) : Int := if i < 3 then i else if i < 5 then i - 2 else 2
def wgtF (i : Int) : Int := if i = 0 then 169 else if i = 1 then 13 else 1
def SV (V : Mm) : Prop := V 1 = lesF ∧ V 2 = greF ∧ V 3 = wgtF
