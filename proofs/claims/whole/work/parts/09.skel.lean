def sk0 : List sd_C := [(11, 0, [some 1, some 19, some 69, some 87, none, some 137, some 155, some 157, some 161]), (2, 0, [some 2, some 8, some 9, some 10, some 11, some 12, some 13, none, none]), (23, 5, [some 3, some 4, some 5, some 6, some 7]), (7, 0, []), (1, 0, []), (0, 0, []), (10, 0, []), (3, 0, []), (20, 5, []), (20, 5, []), (20, 8, []), (20, 8, []), (20, 4, []), (4, 0, [some 14, some 15, some 16, some 17, some 18, none, none]), (20, 8, []), (20, 8, []), (20, 8, []), (20, 5, []), (20, 5, []), (6, 0, [some 20, none, none]), (24, 8, [some 21, some 27, some 33, some 39, some 45, some 51, some 57, some 63]), (4, 0, [some 22, some 23, some 24, some 25, some 26, none, none]), (20, 8, []), (20, 8, []), (20, 8, []), (20, 5, []), (20, 5, []), (4, 0, [some 28, some 29, some 30, some 31, some 32, none, none]), (20, 8, []), (20, 8, []), (20, 8, []), (20, 5, []), (20, 5, []), (4, 0, [some 34, some 35, some 36, some 37, some 38, none, none]), (20, 8, []), (20, 8, []), (20, 8, []), (20, 5, []), (20, 5, []), (4, 0, [some 40, some 41, some 42, some 43, some 44, none, none]), (20, 8, []), (20, 8, []), (20, 8, []), (20, 5, []), (20, 5, []), (4, 0, [some 46, some 47, some 48, some 49, some 50, none, none]), (20, 8, []), (20, 8, []), (20, 8, []), (20, 5, []), (20, 5, []), (4, 0, [some 52, some 53, some 54, some 55, some 56, none, none]), (20, 8, []), (20, 8, []), (20, 8, []), (20, 5, []), (20, 5, []), (4, 0, [some 58, some 59, some 60, some 61, some 62, none, none]), (20, 8, []), (20, 8, []), (20, 8, []), (20, 5, []), (20, 5, []), (4, 0, [some 64, some 65, some 66, some 67, some 68, none, none]), (20, 8, []), (20, 8, []), (20, 8, []), (20, 5, []), (20, 5, []), (2, 0, [some 70, some 76, some 77, some 78, some 79, some 80, some 81, none, none]), (23, 5, [some 71, some 72, some 73, some 74, some 75]), (7, 0, []), (1, 0, []), (0, 0, []), (10, 0, []), (3, 0, []), (20, 5, []), (20, 5, []), (20, 8, []), (20, 8, []), (20, 4, []), (4, 0, [some 82, some 83, some 84, some 85, some 86, none, none]), (20, 8, []), (20, 8, []), (20, 8, []), (20, 5, []), (20, 5, []), (6, 0, [some 88, none, none]), (24, 8, [some 89, some 95, some 101, some 107, some 113, some 119, some 125, some 131]), (4, 0, [some 90, some 91, some 92, some 93, some 94, none, none]), (20, 8, []), (20, 8, []), (20, 8, []), (20, 5, []), (20, 5, []), (4, 0, [some 96, some 97, some 98, some 99, some 100, none, none]), (20, 8, []), (20, 8, []), (20, 8, []), (20, 5, []), (20, 5, []), (4, 0, [some 102, some 103, some 104, some 105, some 106, none, none]), (20, 8, []), (20, 8, []), (20, 8, []), (20, 5, []), (20, 5, []), (4, 0, [some 108, some 109, some 110, some 111, some 112, none, none]), (20, 8, []), (20, 8, []), (20, 8, []), (20, 5, []), (20, 5, []), (4, 0, [some 114, some 115, some 116, some 117, some 118, none, none]), (20, 8, []), (20, 8, []), (20, 8, []), (20, 5, []), (20, 5, []), (4, 0, [some 120, some 121, some 122, some 123, some 124, none, none]), (20, 8, []), (20, 8, []), (20, 8, []), (20, 5, []), (20, 5, []), (4, 0, [some 126, some 127, some 128, some 129, some 130, none, none]), (20, 8, []), (20, 8, []), (20, 8, []), (20, 5, []), (20, 5, []), (4, 0, [some 132, some 133, some 134, some 135, some 136, none, none]), (20, 8, []), (20, 8, []), (20, 8, []), (20, 5, []), (20, 5, []), (2, 0, [some 138, some 144, some 145, some 146, some 147, some 148, some 149, none, none]), (23, 5, [some 139, some 140, some 141, some 142, some 143]), (7, 0, []), (1, 0, []), (0, 0, []), (10, 0, []), (3, 0, []), (20, 5, []), (20, 5, []), (20, 8, []), (20, 8, []), (20, 4, []), (4, 0, [some 150, some 151, some 152, some 153, some 154, none, none]), (20, 8, []), (20, 8, []), (20, 8, []), (20, 5, []), (20, 5, []), (8, 0, [some 156, none, none]), (21, 80, []), (5, 0, [some 158, none, none, some 159, some 160]), (20, 488, []), (20, 8, []), (20, 4, []), (25, 4, [some 162, some 164, some 166, some 168]), (9, 0, [some 163, none, none, none]), (22, 24, []), (9, 0, [some 165, none, none, none]), (22, 24, []), (9, 0, [some 167, none, none, none]), (22, 24, []), (9, 0, [some 169, none, none, none]), (22, 24, []), (12, 0, [some 171, some 172, some 173, none, some 174, none, none, some 175, some 176, some 177, some 178, none]), (20, 4, []), (20, 4, []), (22, 96, []), (20, 80, []), (20, 353, []), (20, 353, []), (20, 353, []), (20, 353, [])]
theorem k0_0 : sk0[0]? = some (11, 0, [some 1, some 19, some 69, some 87, none, some 137, some 155, some 157, some 161]) := by decide +kernel
theorem k0_1 : sk0[1]? = some (2, 0, [some 2, some 8, some 9, some 10, some 11, some 12, some 13, none, none]) := by decide +kernel
theorem k0_3 : sk0[3]? = some (7, 0, []) := by decide +kernel
theorem k0_4 : sk0[4]? = some (1, 0, []) := by decide +kernel
theorem k0_5 : sk0[5]? = some (0, 0, []) := by decide +kernel
theorem k0_6 : sk0[6]? = some (10, 0, []) := by decide +kernel
theorem k0_7 : sk0[7]? = some (3, 0, []) := by decide +kernel
theorem k0_13 : sk0[13]? = some (4, 0, [some 14, some 15, some 16, some 17, some 18, none, none]) := by decide +kernel
theorem k0_19 : sk0[19]? = some (6, 0, [some 20, none, none]) := by decide +kernel
theorem k0_21 : sk0[21]? = some (4, 0, [some 22, some 23, some 24, some 25, some 26, none, none]) := by decide +kernel
theorem k0_27 : sk0[27]? = some (4, 0, [some 28, some 29, some 30, some 31, some 32, none, none]) := by decide +kernel
theorem k0_33 : sk0[33]? = some (4, 0, [some 34, some 35, some 36, some 37, some 38, none, none]) := by decide +kernel
theorem k0_39 : sk0[39]? = some (4, 0, [some 40, some 41, some 42, some 43, some 44, none, none]) := by decide +kernel
theorem k0_45 : sk0[45]? = some (4, 0, [some 46, some 47, some 48, some 49, some 50, none, none]) := by decide +kernel
theorem k0_51 : sk0[51]? = some (4, 0, [some 52, some 53, some 54, some 55, some 56, none, none]) := by decide +kernel
theorem k0_57 : sk0[57]? = some (4, 0, [some 58, some 59, some 60, some 61, some 62, none, none]) := by decide +kernel
theorem k0_63 : sk0[63]? = some (4, 0, [some 64, some 65, some 66, some 67, some 68, none, none]) := by decide +kernel
theorem k0_69 : sk0[69]? = some (2, 0, [some 70, some 76, some 77, some 78, some 79, some 80, some 81, none, none]) := by decide +kernel
theorem k0_71 : sk0[71]? = some (7, 0, []) := by decide +kernel
theorem k0_72 : sk0[72]? = some (1, 0, []) := by decide +kernel
theorem k0_73 : sk0[73]? = some (0, 0, []) := by decide +kernel
theorem k0_74 : sk0[74]? = some (10, 0, []) := by decide +kernel
theorem k0_75 : sk0[75]? = some (3, 0, []) := by decide +kernel
theorem k0_81 : sk0[81]? = some (4, 0, [some 82, some 83, some 84, some 85, some 86, none, none]) := by decide +kernel
theorem k0_87 : sk0[87]? = some (6, 0, [some 88, none, none]) := by decide +kernel
theorem k0_89 : sk0[89]? = some (4, 0, [some 90, some 91, some 92, some 93, some 94, none, none]) := by decide +kernel
theorem k0_95 : sk0[95]? = some (4, 0, [some 96, some 97, some 98, some 99, some 100, none, none]) := by decide +kernel
theorem k0_101 : sk0[101]? = some (4, 0, [some 102, some 103, some 104, some 105, some 106, none, none]) := by decide +kernel
theorem k0_107 : sk0[107]? = some (4, 0, [some 108, some 109, some 110, some 111, some 112, none, none]) := by decide +kernel
theorem k0_113 : sk0[113]? = some (4, 0, [some 114, some 115, some 116, some 117, some 118, none, none]) := by decide +kernel
theorem k0_119 : sk0[119]? = some (4, 0, [some 120, some 121, some 122, some 123, some 124, none, none]) := by decide +kernel
theorem k0_125 : sk0[125]? = some (4, 0, [some 126, some 127, some 128, some 129, some 130, none, none]) := by decide +kernel
theorem k0_131 : sk0[131]? = some (4, 0, [some 132, some 133, some 134, some 135, some 136, none, none]) := by decide +kernel
theorem k0_137 : sk0[137]? = some (2, 0, [some 138, some 144, some 145, some 146, some 147, some 148, some 149, none, none]) := by decide +kernel
theorem k0_139 : sk0[139]? = some (7, 0, []) := by decide +kernel
theorem k0_140 : sk0[140]? = some (1, 0, []) := by decide +kernel
theorem k0_141 : sk0[141]? = some (0, 0, []) := by decide +kernel
theorem k0_142 : sk0[142]? = some (10, 0, []) := by decide +kernel
theorem k0_143 : sk0[143]? = some (3, 0, []) := by decide +kernel
theorem k0_149 : sk0[149]? = some (4, 0, [some 150, some 151, some 152, some 153, some 154, none, none]) := by decide +kernel
theorem k0_155 : sk0[155]? = some (8, 0, [some 156, none, none]) := by decide +kernel
theorem k0_156 : sk0[156]? = some (21, 80, []) := by decide +kernel
theorem k0_157 : sk0[157]? = some (5, 0, [some 158, none, none, some 159, some 160]) := by decide +kernel
theorem k0_158 : sk0[158]? = some (20, 488, []) := by decide +kernel
theorem k0_159 : sk0[159]? = some (20, 8, []) := by decide +kernel
theorem k0_160 : sk0[160]? = some (20, 4, []) := by decide +kernel
theorem k0_161 : sk0[161]? = some (25, 4, [some 162, some 164, some 166, some 168]) := by decide +kernel
theorem k0_162 : sk0[162]? = some (9, 0, [some 163, none, none, none]) := by decide +kernel
theorem k0_163 : sk0[163]? = some (22, 24, []) := by decide +kernel
theorem k0_164 : sk0[164]? = some (9, 0, [some 165, none, none, none]) := by decide +kernel
theorem k0_165 : sk0[165]? = some (22, 24, []) := by decide +kernel
theorem k0_166 : sk0[166]? = some (9, 0, [some 167, none, none, none]) := by decide +kernel
theorem k0_167 : sk0[167]? = some (22, 24, []) := by decide +kernel
theorem k0_168 : sk0[168]? = some (9, 0, [some 169, none, none, none]) := by decide +kernel
theorem k0_169 : sk0[169]? = some (22, 24, []) := by decide +kernel
theorem k0_170 : sk0[170]? = some (12, 0, [some 171, some 172, some 173, none, some 174, none, none, some 175, some 176, some 177, some 178, none]) := by decide +kernel
theorem k0_171 : sk0[171]? = some (20, 4, []) := by decide +kernel
theorem k0_172 : sk0[172]? = some (20, 4, []) := by decide +kernel
theorem k0_173 : sk0[173]? = some (22, 96, []) := by decide +kernel
theorem k0_174 : sk0[174]? = some (20, 80, []) := by decide +kernel
theorem k0_175 : sk0[175]? = some (20, 353, []) := by decide +kernel
theorem k0_176 : sk0[176]? = some (20, 353, []) := by decide +kernel
theorem k0_177 : sk0[177]? = some (20, 353, []) := by decide +kernel
theorem k0_178 : sk0[178]? = some (20, 353, []) := by decide +kernel
def is2 (a : Nat) : Prop := a = 1 ∨ a = 69 ∨ a = 137
theorem is2.a0 {a : Nat} (h : is2 a) : sk0[a]? = some (2, 0, [some (a + 1), some (a + 7), some (a + 8), some (a + 9), some (a + 10), some (a + 11), some (a + 12), none, none]) := by
  rcases h with rfl | rfl | rfl <;> decide +kernel
theorem is2.a1 {a : Nat} (h : is2 a) : sk0[a + 1]? = some (23, 5, [some (a + 2), some (a + 3), some (a + 4), some (a + 5), some (a + 6)]) := by
  rcases h with rfl | rfl | rfl <;> decide +kernel
theorem is2.a2 {a : Nat} (h : is2 a) : sk0[a + 2]? = some (7, 0, []) := by
  rcases h with rfl | rfl | rfl <;> decide +kernel
theorem is2.a3 {a : Nat} (h : is2 a) : sk0[a + 3]? = some (1, 0, []) := by
  rcases h with rfl | rfl | rfl <;> decide +kernel
theorem is2.a4 {a : Nat} (h : is2 a) : sk0[a + 4]? = some (0, 0, []) := by
  rcases h with rfl | rfl | rfl <;> decide +kernel
theorem is2.a5 {a : Nat} (h : is2 a) : sk0[a + 5]? = some (10, 0, []) := by
  rcases h with rfl | rfl | rfl <;> decide +kernel
theorem is2.a6 {a : Nat} (h : is2 a) : sk0[a + 6]? = some (3, 0, []) := by
  rcases h with rfl | rfl | rfl <;> decide +kernel
theorem is2.a7 {a : Nat} (h : is2 a) : sk0[a + 7]? = some (20, 5, []) := by
  rcases h with rfl | rfl | rfl <;> decide +kernel
theorem is2.a8 {a : Nat} (h : is2 a) : sk0[a + 8]? = some (20, 5, []) := by
  rcases h with rfl | rfl | rfl <;> decide +kernel
theorem is2.a9 {a : Nat} (h : is2 a) : sk0[a + 9]? = some (20, 8, []) := by
  rcases h with rfl | rfl | rfl <;> decide +kernel
theorem is2.a10 {a : Nat} (h : is2 a) : sk0[a + 10]? = some (20, 8, []) := by
  rcases h with rfl | rfl | rfl <;> decide +kernel
theorem is2.a11 {a : Nat} (h : is2 a) : sk0[a + 11]? = some (20, 4, []) := by
  rcases h with rfl | rfl | rfl <;> decide +kernel
theorem is2.a12 {a : Nat} (h : is2 a) : sk0[a + 12]? = some (4, 0, [some (a + 13), some (a + 14), some (a + 15), some (a + 16), some (a + 17), none, none]) := by
  rcases h with rfl | rfl | rfl <;> decide +kernel
theorem is2.a13 {a : Nat} (h : is2 a) : sk0[a + 13]? = some (20, 8, []) := by
  rcases h with rfl | rfl | rfl <;> decide +kernel
theorem is2.a14 {a : Nat} (h : is2 a) : sk0[a + 14]? = some (20, 8, []) := by
  rcases h with rfl | rfl | rfl <;> decide +kernel
theorem is2.a15 {a : Nat} (h : is2 a) : sk0[a + 15]? = some (20, 8, []) := by
  rcases h with rfl | rfl | rfl <;> decide +kernel
theorem is2.a16 {a : Nat} (h : is2 a) : sk0[a + 16]? = some (20, 5, []) := by
  rcases h with rfl | rfl | rfl <;> decide +kernel
theorem is2.a17 {a : Nat} (h : is2 a) : sk0[a + 17]? = some (20, 5, []) := by
  rcases h with rfl | rfl | rfl <;> decide +kernel
theorem is2.lt {a : Nat} (h : is2 a) : a < 200 := by unfold is2 at h; omega
def is4 (a : Nat) : Prop := a = 13 ∨ a = 21 ∨ a = 27 ∨ a = 33 ∨ a = 39 ∨ a = 45 ∨ a = 51 ∨ a = 57 ∨ a = 63 ∨ a = 81 ∨ a = 89 ∨ a = 95 ∨ a = 101 ∨ a = 107 ∨ a = 113 ∨ a = 119 ∨ a = 125 ∨ a = 131 ∨ a = 149
theorem is4.a0 {a : Nat} (h : is4 a) : sk0[a]? = some (4, 0, [some (a + 1), some (a + 2), some (a + 3), some (a + 4), some (a + 5), none, none]) := by
  rcases h with rfl | rfl | rfl | rfl | rfl | rfl | rfl | rfl | rfl | rfl | rfl | rfl | rfl | rfl | rfl | rfl | rfl | rfl | rfl <;> decide +kernel
theorem is4.a1 {a : Nat} (h : is4 a) : sk0[a + 1]? = some (20, 8, []) := by
  rcases h with rfl | rfl | rfl | rfl | rfl | rfl | rfl | rfl | rfl | rfl | rfl | rfl | rfl | rfl | rfl | rfl | rfl | rfl | rfl <;> decide +kernel
theorem is4.a2 {a : Nat} (h : is4 a) : sk0[a + 2]? = some (20, 8, []) := by
  rcases h with rfl | rfl | rfl | rfl | rfl | rfl | rfl | rfl | rfl | rfl | rfl | rfl | rfl | rfl | rfl | rfl | rfl | rfl | rfl <;> decide +kernel
theorem is4.a3 {a : Nat} (h : is4 a) : sk0[a + 3]? = some (20, 8, []) := by
  rcases h with rfl | rfl | rfl | rfl | rfl | rfl | rfl | rfl | rfl | rfl | rfl | rfl | rfl | rfl | rfl | rfl | rfl | rfl | rfl <;> decide +kernel
theorem is4.a4 {a : Nat} (h : is4 a) : sk0[a + 4]? = some (20, 5, []) := by
  rcases h with rfl | rfl | rfl | rfl | rfl | rfl | rfl | rfl | rfl | rfl | rfl | rfl | rfl | rfl | rfl | rfl | rfl | rfl | rfl <;> decide +kernel
theorem is4.a5 {a : Nat} (h : is4 a) : sk0[a + 5]? = some (20, 5, []) := by
  rcases h with rfl | rfl | rfl | rfl | rfl | rfl | rfl | rfl | rfl | rfl | rfl | rfl | rfl | rfl | rfl | rfl | rfl | rfl | rfl <;> decide +kernel
theorem is4.lt {a : Nat} (h : is4 a) : a < 200 := by unfold is4 at h; omega
def is5 (a : Nat) : Prop := a = 157
theorem is5.a0 {a : Nat} (h : is5 a) : sk0[a]? = some (5, 0, [some 158, none, none, some 159, some 160]) := by subst h; decide +kernel
theorem is5.lt {a : Nat} (h : is5 a) : a < 200 := by unfold is5 at h; omega
def is6 (a : Nat) : Prop := a = 19 ∨ a = 87
theorem is6.a0 {a : Nat} (h : is6 a) : sk0[a]? = some (6, 0, [some (a + 1), none, none]) := by
  rcases h with rfl | rfl <;> decide +kernel
theorem is6.a1 {a : Nat} (h : is6 a) : sk0[a + 1]? = some (24, 8, [some (a + 2), some (a + 8), some (a + 14), some (a + 20), some (a + 26), some (a + 32), some (a + 38), some (a + 44)]) := by
  rcases h with rfl | rfl <;> decide +kernel
theorem is6.lt {a : Nat} (h : is6 a) : a < 200 := by unfold is6 at h; omega
def is8 (a : Nat) : Prop := a = 155
theorem is8.a0 {a : Nat} (h : is8 a) : sk0[a]? = some (8, 0, [some 156, none, none]) := by subst h; decide +kernel
theorem is8.lt {a : Nat} (h : is8 a) : a < 200 := by unfold is8 at h; omega
def is9 (a : Nat) : Prop := a = 162 ∨ a = 164 ∨ a = 166 ∨ a = 168
theorem is9.a0 {a : Nat} (h : is9 a) : sk0[a]? = some (9, 0, [some (a + 1), none, none, none]) := by
  rcases h with rfl | rfl | rfl | rfl <;> decide +kernel
theorem is9.a1 {a : Nat} (h : is9 a) : sk0[a + 1]? = some (22, 24, []) := by
  rcases h with rfl | rfl | rfl | rfl <;> decide +kernel
theorem is9.lt {a : Nat} (h : is9 a) : a < 200 := by unfold is9 at h; omega
def is11 (a : Nat) : Prop := a = 0
theorem is11.a0 {a : Nat} (h : is11 a) : sk0[a]? = some (11, 0, [some 1, some 19, some 69, some 87, none, some 137, some 155, some 157, some 161]) := by subst h; decide +kernel
theorem is11.lt {a : Nat} (h : is11 a) : a < 200 := by unfold is11 at h; omega
def is12 (a : Nat) : Prop := a = 170
theorem is12.a0 {a : Nat} (h : is12 a) : sk0[a]? = some (12, 0, [some 171, some 172, some 173, none, some 174, none, none, some 175, some 176, some 177, some 178, none]) := by subst h; decide +kernel
theorem is12.lt {a : Nat} (h : is12 a) : a < 200 := by unfold is12 at h; omega
theorem is2.m {a : Nat} (h : is2 a) : is4 (a + 12) := by unfold is2 at h; unfold is4; omega
theorem is2.k0 {a : Nat} (h : is2 a) : sk0[a + 2]? = some (7, 0, []) := is2.a2 h
theorem is2.k1 {a : Nat} (h : is2 a) : sk0[a + 3]? = some (1, 0, []) := is2.a3 h
theorem is2.k2 {a : Nat} (h : is2 a) : sk0[a + 4]? = some (0, 0, []) := is2.a4 h
theorem is2.k3 {a : Nat} (h : is2 a) : sk0[a + 5]? = some (10, 0, []) := is2.a5 h
theorem is2.k4 {a : Nat} (h : is2 a) : sk0[a + 6]? = some (3, 0, []) := is2.a6 h
theorem is6.m {a i : Nat} (h : is6 a) (hi : i < 8) : is4 (a + 2 + 6 * i) := by unfold is6 at h; unfold is4; omega
theorem g2_0 {μ : sd_M} {kc ks pc a idx : Nat} {ls st : List Value} {X : Nat × (Nat → Int32)} {I : sd_I} {J : sd_J} {Q : Option Int32 → sd_S → Prop} (d : decode μ.2.1 pc = .ok (.getfield idx, 3)) (w : Cond.fieldLink μ.1.cls idx "ThankingGifts$House" "kinds" "[LThankingGifts$Plain;" ∈ sd_gd) (h : is2 a) (kk : AW μ kc ks (pc + 3) ls (.ref (a + 1) :: st) (sk0, X, I, J) Q) : AW μ kc ks pc ls (.ref a :: st) (sk0, X, I, J) Q :=
  AW.get (ci := 2) (k := 0) d rfl wV_X2 (by decide) rfl (by decide) w h.a0 rfl (fun r hr => by have := h.lt; injection hr with hr; omega) kk
theorem g2_1 {μ : sd_M} {kc ks pc a idx : Nat} {ls st : List Value} {X : Nat × (Nat → Int32)} {I : sd_I} {J : sd_J} {Q : Option Int32 → sd_S → Prop} (d : decode μ.2.1 pc = .ok (.getfield idx, 3)) (w : Cond.fieldLink μ.1.cls idx "ThankingGifts$House" "bed" "[I" ∈ sd_gd) (h : is2 a) (kk : AW μ kc ks (pc + 3) ls (.ref (a + 7) :: st) (sk0, X, I, J) Q) : AW μ kc ks pc ls (.ref a :: st) (sk0, X, I, J) Q :=
  AW.get (ci := 2) (k := 1) d rfl wV_X2 (by decide) rfl (by decide) w h.a0 rfl (fun r hr => by have := h.lt; injection hr with hr; omega) kk
theorem g2_2 {μ : sd_M} {kc ks pc a idx : Nat} {ls st : List Value} {X : Nat × (Nat → Int32)} {I : sd_I} {J : sd_J} {Q : Option Int32 → sd_S → Prop} (d : decode μ.2.1 pc = .ok (.getfield idx, 3)) (w : Cond.fieldLink μ.1.cls idx "ThankingGifts$House" "bears" "[I" ∈ sd_gd) (h : is2 a) (kk : AW μ kc ks (pc + 3) ls (.ref (a + 8) :: st) (sk0, X, I, J) Q) : AW μ kc ks pc ls (.ref a :: st) (sk0, X, I, J) Q :=
  AW.get (ci := 2) (k := 2) d rfl wV_X2 (by decide) rfl (by decide) w h.a0 rfl (fun r hr => by have := h.lt; injection hr with hr; omega) kk
theorem g2_3 {μ : sd_M} {kc ks pc a idx : Nat} {ls st : List Value} {X : Nat × (Nat → Int32)} {I : sd_I} {J : sd_J} {Q : Option Int32 → sd_S → Prop} (d : decode μ.2.1 pc = .ok (.getfield idx, 3)) (w : Cond.fieldLink μ.1.cls idx "ThankingGifts$House" "kind" "[I" ∈ sd_gd) (h : is2 a) (kk : AW μ kc ks (pc + 3) ls (.ref (a + 9) :: st) (sk0, X, I, J) Q) : AW μ kc ks pc ls (.ref a :: st) (sk0, X, I, J) Q :=
  AW.get (ci := 2) (k := 3) d rfl wV_X2 (by decide) rfl (by decide) w h.a0 rfl (fun r hr => by have := h.lt; injection hr with hr; omega) kk
theorem g2_4 {μ : sd_M} {kc ks pc a idx : Nat} {ls st : List Value} {X : Nat × (Nat → Int32)} {I : sd_I} {J : sd_J} {Q : Option Int32 → sd_S → Prop} (d : decode μ.2.1 pc = .ok (.getfield idx, 3)) (w : Cond.fieldLink μ.1.cls idx "ThankingGifts$House" "dear" "[I" ∈ sd_gd) (h : is2 a) (kk : AW μ kc ks (pc + 3) ls (.ref (a + 10) :: st) (sk0, X, I, J) Q) : AW μ kc ks pc ls (.ref a :: st) (sk0, X, I, J) Q :=
  AW.get (ci := 2) (k := 4) d rfl wV_X2 (by decide) rfl (by decide) w h.a0 rfl (fun r hr => by have := h.lt; injection hr with hr; omega) kk
theorem g2_5 {μ : sd_M} {kc ks pc a idx : Nat} {ls st : List Value} {X : Nat × (Nat → Int32)} {I : sd_I} {J : sd_J} {Q : Option Int32 → sd_S → Prop} (d : decode μ.2.1 pc = .ok (.getfield idx, 3)) (w : Cond.fieldLink μ.1.cls idx "ThankingGifts$House" "roomLoud" "[I" ∈ sd_gd) (h : is2 a) (kk : AW μ kc ks (pc + 3) ls (.ref (a + 11) :: st) (sk0, X, I, J) Q) : AW μ kc ks pc ls (.ref a :: st) (sk0, X, I, J) Q :=
  AW.get (ci := 2) (k := 5) d rfl wV_X2 (by decide) rfl (by decide) w h.a0 rfl (fun r hr => by have := h.lt; injection hr with hr; omega) kk
theorem g2_6 {μ : sd_M} {kc ks pc a idx : Nat} {ls st : List Value} {X : Nat × (Nat → Int32)} {I : sd_I} {J : sd_J} {Q : Option Int32 → sd_S → Prop} (d : decode μ.2.1 pc = .ok (.getfield idx, 3)) (w : Cond.fieldLink μ.1.cls idx "ThankingGifts$House" "now" "LThankingGifts$Moment;" ∈ sd_gd) (h : is2 a) (kk : AW μ kc ks (pc + 3) ls (.ref (a + 12) :: st) (sk0, X, I, J) Q) : AW μ kc ks pc ls (.ref a :: st) (sk0, X, I, J) Q :=
  AW.get (ci := 2) (k := 6) d rfl wV_X2 (by decide) rfl (by decide) w h.a0 rfl (fun r hr => by have := h.lt; injection hr with hr; omega) kk
theorem g2_7 {μ : sd_M} {kc ks pc a idx : Nat} {ls st : List Value} {X : Nat × (Nat → Int32)} {I : sd_I} {J : sd_J} {Q : Option Int32 → sd_S → Prop} (d : decode μ.2.1 pc = .ok (.getfield idx, 3)) (w : Cond.fieldLink μ.1.cls idx "ThankingGifts$House" "sleepers" "I" ∈ sd_gd) (h : is2 a) (kk : AW μ kc ks (pc + 3) ls (.int (I a 7) :: st) (sk0, X, I, J) Q) : AW μ kc ks pc ls (.ref a :: st) (sk0, X, I, J) Q :=
  AW.get (ci := 2) (k := 7) d rfl wV_X2 (by decide) rfl (by decide) w h.a0 rfl (fun r hr => by cases hr) kk
theorem p2_7 {μ : sd_M} {kc ks pc a idx : Nat} {ls st : List Value} {X : Nat × (Nat → Int32)} {I : sd_I} {J : sd_J} {Q : Option Int32 → sd_S → Prop} {v : Int32} (d : decode μ.2.1 pc = .ok (.putfield idx, 3)) (w : Cond.fieldLink μ.1.cls idx "ThankingGifts$House" "sleepers" "I" ∈ sd_gd) (h : is2 a) (kk : AW μ kc ks (pc + 3) ls st (sk0, X, sd_u I a 7 v, J) Q) : AW μ kc ks pc ls (.int v :: .ref a :: st) (sk0, X, I, J) Q :=
  AW.put (ci := 2) (k := 7) (ty := .int) d rfl wV_X2 tyX2 tyX2_ok nmX2 (by decide) rfl (by decide) w rfl (by decide +kernel) rfl rfl rfl h.a0 kk
theorem g2_8 {μ : sd_M} {kc ks pc a idx : Nat} {ls st : List Value} {X : Nat × (Nat → Int32)} {I : sd_I} {J : sd_J} {Q : Option Int32 → sd_S → Prop} (d : decode μ.2.1 pc = .ok (.getfield idx, 3)) (w : Cond.fieldLink μ.1.cls idx "ThankingGifts$House" "things" "I" ∈ sd_gd) (h : is2 a) (kk : AW μ kc ks (pc + 3) ls (.int (I a 8) :: st) (sk0, X, I, J) Q) : AW μ kc ks pc ls (.ref a :: st) (sk0, X, I, J) Q :=
  AW.get (ci := 2) (k := 8) d rfl wV_X2 (by decide) rfl (by decide) w h.a0 rfl (fun r hr => by cases hr) kk
theorem p2_8 {μ : sd_M} {kc ks pc a idx : Nat} {ls st : List Value} {X : Nat × (Nat → Int32)} {I : sd_I} {J : sd_J} {Q : Option Int32 → sd_S → Prop} {v : Int32} (d : decode μ.2.1 pc = .ok (.putfield idx, 3)) (w : Cond.fieldLink μ.1.cls idx "ThankingGifts$House" "things" "I" ∈ sd_gd) (h : is2 a) (kk : AW μ kc ks (pc + 3) ls st (sk0, X, sd_u I a 8 v, J) Q) : AW μ kc ks pc ls (.int v :: .ref a :: st) (sk0, X, I, J) Q :=
  AW.put (ci := 2) (k := 8) (ty := .int) d rfl wV_X2 tyX2 tyX2_ok nmX2 (by decide) rfl (by decide) w rfl (by decide +kernel) rfl rfl rfl h.a0 kk
theorem g4_0 {μ : sd_M} {kc ks pc a idx : Nat} {ls st : List Value} {X : Nat × (Nat → Int32)} {I : sd_I} {J : sd_J} {Q : Option Int32 → sd_S → Prop} (d : decode μ.2.1 pc = .ok (.getfield idx, 3)) (w : Cond.fieldLink μ.1.cls idx "ThankingGifts$Moment" "place" "[I" ∈ sd_gd) (h : is4 a) (kk : AW μ kc ks (pc + 3) ls (.ref (a + 1) :: st) (sk0, X, I, J) Q) : AW μ kc ks pc ls (.ref a :: st) (sk0, X, I, J) Q :=
  AW.get (ci := 4) (k := 0) d rfl wV_X4 (by decide) rfl (by decide) w h.a0 rfl (fun r hr => by have := h.lt; injection hr with hr; omega) kk
theorem g4_1 {μ : sd_M} {kc ks pc a idx : Nat} {ls st : List Value} {X : Nat × (Nat → Int32)} {I : sd_I} {J : sd_J} {Q : Option Int32 → sd_S → Prop} (d : decode μ.2.1 pc = .ok (.getfield idx, 3)) (w : Cond.fieldLink μ.1.cls idx "ThankingGifts$Moment" "giver" "[I" ∈ sd_gd) (h : is4 a) (kk : AW μ kc ks (pc + 3) ls (.ref (a + 2) :: st) (sk0, X, I, J) Q) : AW μ kc ks pc ls (.ref a :: st) (sk0, X, I, J) Q :=
  AW.get (ci := 4) (k := 1) d rfl wV_X4 (by decide) rfl (by decide) w h.a0 rfl (fun r hr => by have := h.lt; injection hr with hr; omega) kk
theorem g4_2 {μ : sd_M} {kc ks pc a idx : Nat} {ls st : List Value} {X : Nat × (Nat → Int32)} {I : sd_I} {J : sd_J} {Q : Option Int32 → sd_S → Prop} (d : decode μ.2.1 pc = .ok (.getfield idx, 3)) (w : Cond.fieldLink μ.1.cls idx "ThankingGifts$Moment" "left" "[I" ∈ sd_gd) (h : is4 a) (kk : AW μ kc ks (pc + 3) ls (.ref (a + 3) :: st) (sk0, X, I, J) Q) : AW μ kc ks pc ls (.ref a :: st) (sk0, X, I, J) Q :=
  AW.get (ci := 4) (k := 2) d rfl wV_X4 (by decide) rfl (by decide) w h.a0 rfl (fun r hr => by have := h.lt; injection hr with hr; omega) kk
theorem g4_3 {μ : sd_M} {kc ks pc a idx : Nat} {ls st : List Value} {X : Nat × (Nat → Int32)} {I : sd_I} {J : sd_J} {Q : Option Int32 → sd_S → Prop} (d : decode μ.2.1 pc = .ok (.getfield idx, 3)) (w : Cond.fieldLink μ.1.cls idx "ThankingGifts$Moment" "slept" "[I" ∈ sd_gd) (h : is4 a) (kk : AW μ kc ks (pc + 3) ls (.ref (a + 4) :: st) (sk0, X, I, J) Q) : AW μ kc ks pc ls (.ref a :: st) (sk0, X, I, J) Q :=
  AW.get (ci := 4) (k := 3) d rfl wV_X4 (by decide) rfl (by decide) w h.a0 rfl (fun r hr => by have := h.lt; injection hr with hr; omega) kk
theorem g4_4 {μ : sd_M} {kc ks pc a idx : Nat} {ls st : List Value} {X : Nat × (Nat → Int32)} {I : sd_I} {J : sd_J} {Q : Option Int32 → sd_S → Prop} (d : decode μ.2.1 pc = .ok (.getfield idx, 3)) (w : Cond.fieldLink μ.1.cls idx "ThankingGifts$Moment" "woken" "[I" ∈ sd_gd) (h : is4 a) (kk : AW μ kc ks (pc + 3) ls (.ref (a + 5) :: st) (sk0, X, I, J) Q) : AW μ kc ks pc ls (.ref a :: st) (sk0, X, I, J) Q :=
  AW.get (ci := 4) (k := 4) d rfl wV_X4 (by decide) rfl (by decide) w h.a0 rfl (fun r hr => by have := h.lt; injection hr with hr; omega) kk
theorem g4_5 {μ : sd_M} {kc ks pc a idx : Nat} {ls st : List Value} {X : Nat × (Nat → Int32)} {I : sd_I} {J : sd_J} {Q : Option Int32 → sd_S → Prop} (d : decode μ.2.1 pc = .ok (.getfield idx, 3)) (w : Cond.fieldLink μ.1.cls idx "ThankingGifts$Moment" "night" "I" ∈ sd_gd) (h : is4 a) (kk : AW μ kc ks (pc + 3) ls (.int (I a 5) :: st) (sk0, X, I, J) Q) : AW μ kc ks pc ls (.ref a :: st) (sk0, X, I, J) Q :=
  AW.get (ci := 4) (k := 5) d rfl wV_X4 (by decide) rfl (by decide) w h.a0 rfl (fun r hr => by cases hr) kk
theorem p4_5 {μ : sd_M} {kc ks pc a idx : Nat} {ls st : List Value} {X : Nat × (Nat → Int32)} {I : sd_I} {J : sd_J} {Q : Option Int32 → sd_S → Prop} {v : Int32} (d : decode μ.2.1 pc = .ok (.putfield idx, 3)) (w : Cond.fieldLink μ.1.cls idx "ThankingGifts$Moment" "night" "I" ∈ sd_gd) (h : is4 a) (kk : AW μ kc ks (pc + 3) ls st (sk0, X, sd_u I a 5 v, J) Q) : AW μ kc ks pc ls (.int v :: .ref a :: st) (sk0, X, I, J) Q :=
  AW.put (ci := 4) (k := 5) (ty := .int) d rfl wV_X4 tyX4 tyX4_ok nmX4 (by decide) rfl (by decide) w rfl (by decide +kernel) rfl rfl rfl h.a0 kk
theorem g4_6 {μ : sd_M} {kc ks pc a idx : Nat} {ls st : List Value} {X : Nat × (Nat → Int32)} {I : sd_I} {J : sd_J} {Q : Option Int32 → sd_S → Prop} (d : decode μ.2.1 pc = .ok (.getfield idx, 3)) (w : Cond.fieldLink μ.1.cls idx "ThankingGifts$Moment" "draw" "I" ∈ sd_gd) (h : is4 a) (kk : AW μ kc ks (pc + 3) ls (.int (I a 6) :: st) (sk0, X, I, J) Q) : AW μ kc ks pc ls (.ref a :: st) (sk0, X, I, J) Q :=
  AW.get (ci := 4) (k := 6) d rfl wV_X4 (by decide) rfl (by decide) w h.a0 rfl (fun r hr => by cases hr) kk
theorem p4_6 {μ : sd_M} {kc ks pc a idx : Nat} {ls st : List Value} {X : Nat × (Nat → Int32)} {I : sd_I} {J : sd_J} {Q : Option Int32 → sd_S → Prop} {v : Int32} (d : decode μ.2.1 pc = .ok (.putfield idx, 3)) (w : Cond.fieldLink μ.1.cls idx "ThankingGifts$Moment" "draw" "I" ∈ sd_gd) (h : is4 a) (kk : AW μ kc ks (pc + 3) ls st (sk0, X, sd_u I a 6 v, J) Q) : AW μ kc ks pc ls (.int v :: .ref a :: st) (sk0, X, I, J) Q :=
  AW.put (ci := 4) (k := 6) (ty := .int) d rfl wV_X4 tyX4 tyX4_ok nmX4 (by decide) rfl (by decide) w rfl (by decide +kernel) rfl rfl rfl h.a0 kk
theorem g5_0 {μ : sd_M} {kc ks pc a idx : Nat} {ls st : List Value} {X : Nat × (Nat → Int32)} {I : sd_I} {J : sd_J} {Q : Option Int32 → sd_S → Prop} (d : decode μ.2.1 pc = .ok (.getfield idx, 3)) (w : Cond.fieldLink μ.1.cls idx "ThankingGifts$Outlook" "thingLoud" "[I" ∈ sd_gd) (h : is5 a) (kk : AW μ kc ks (pc + 3) ls (.ref 158 :: st) (sk0, X, I, J) Q) : AW μ kc ks pc ls (.ref a :: st) (sk0, X, I, J) Q :=
  AW.get (ci := 5) (k := 0) d rfl wV_X5 (by decide) rfl (by decide) w h.a0 rfl (fun r hr => by have := h.lt; injection hr with hr; omega) kk
theorem g5_1 {μ : sd_M} {kc ks pc a idx : Nat} {ls st : List Value} {X : Nat × (Nat → Int32)} {I : sd_I} {J : sd_J} {Q : Option Int32 → sd_S → Prop} (d : decode μ.2.1 pc = .ok (.getfield idx, 3)) (w : Cond.fieldLink μ.1.cls idx "ThankingGifts$Outlook" "nights" "I" ∈ sd_gd) (h : is5 a) (kk : AW μ kc ks (pc + 3) ls (.int (I a 1) :: st) (sk0, X, I, J) Q) : AW μ kc ks pc ls (.ref a :: st) (sk0, X, I, J) Q :=
  AW.get (ci := 5) (k := 1) d rfl wV_X5 (by decide) rfl (by decide) w h.a0 rfl (fun r hr => by cases hr) kk
theorem p5_1 {μ : sd_M} {kc ks pc a idx : Nat} {ls st : List Value} {X : Nat × (Nat → Int32)} {I : sd_I} {J : sd_J} {Q : Option Int32 → sd_S → Prop} {v : Int32} (d : decode μ.2.1 pc = .ok (.putfield idx, 3)) (w : Cond.fieldLink μ.1.cls idx "ThankingGifts$Outlook" "nights" "I" ∈ sd_gd) (h : is5 a) (kk : AW μ kc ks (pc + 3) ls st (sk0, X, sd_u I a 1 v, J) Q) : AW μ kc ks pc ls (.int v :: .ref a :: st) (sk0, X, I, J) Q :=
  AW.put (ci := 5) (k := 1) (ty := .int) d rfl wV_X5 tyX5 tyX5_ok nmX5 (by decide) rfl (by decide) w rfl (by decide +kernel) rfl rfl rfl h.a0 kk
theorem g5_2 {μ : sd_M} {kc ks pc a idx : Nat} {ls st : List Value} {X : Nat × (Nat → Int32)} {I : sd_I} {J : sd_J} {Q : Option Int32 → sd_S → Prop} (d : decode μ.2.1 pc = .ok (.getfield idx, 3)) (w : Cond.fieldLink μ.1.cls idx "ThankingGifts$Outlook" "things" "I" ∈ sd_gd) (h : is5 a) (kk : AW μ kc ks (pc + 3) ls (.int (I a 2) :: st) (sk0, X, I, J) Q) : AW μ kc ks pc ls (.ref a :: st) (sk0, X, I, J) Q :=
  AW.get (ci := 5) (k := 2) d rfl wV_X5 (by decide) rfl (by decide) w h.a0 rfl (fun r hr => by cases hr) kk
theorem p5_2 {μ : sd_M} {kc ks pc a idx : Nat} {ls st : List Value} {X : Nat × (Nat → Int32)} {I : sd_I} {J : sd_J} {Q : Option Int32 → sd_S → Prop} {v : Int32} (d : decode μ.2.1 pc = .ok (.putfield idx, 3)) (w : Cond.fieldLink μ.1.cls idx "ThankingGifts$Outlook" "things" "I" ∈ sd_gd) (h : is5 a) (kk : AW μ kc ks (pc + 3) ls st (sk0, X, sd_u I a 2 v, J) Q) : AW μ kc ks pc ls (.int v :: .ref a :: st) (sk0, X, I, J) Q :=
  AW.put (ci := 5) (k := 2) (ty := .int) d rfl wV_X5 tyX5 tyX5_ok nmX5 (by decide) rfl (by decide) w rfl (by decide +kernel) rfl rfl rfl h.a0 kk
theorem g5_3 {μ : sd_M} {kc ks pc a idx : Nat} {ls st : List Value} {X : Nat × (Nat → Int32)} {I : sd_I} {J : sd_J} {Q : Option Int32 → sd_S → Prop} (d : decode μ.2.1 pc = .ok (.getfield idx, 3)) (w : Cond.fieldLink μ.1.cls idx "ThankingGifts$Outlook" "place" "[I" ∈ sd_gd) (h : is5 a) (kk : AW μ kc ks (pc + 3) ls (.ref 159 :: st) (sk0, X, I, J) Q) : AW μ kc ks pc ls (.ref a :: st) (sk0, X, I, J) Q :=
  AW.get (ci := 5) (k := 3) d rfl wV_X5 (by decide) rfl (by decide) w h.a0 rfl (fun r hr => by have := h.lt; injection hr with hr; omega) kk
theorem g5_4 {μ : sd_M} {kc ks pc a idx : Nat} {ls st : List Value} {X : Nat × (Nat → Int32)} {I : sd_I} {J : sd_J} {Q : Option Int32 → sd_S → Prop} (d : decode μ.2.1 pc = .ok (.getfield idx, 3)) (w : Cond.fieldLink μ.1.cls idx "ThankingGifts$Outlook" "roomLoud" "[I" ∈ sd_gd) (h : is5 a) (kk : AW μ kc ks (pc + 3) ls (.ref 160 :: st) (sk0, X, I, J) Q) : AW μ kc ks pc ls (.ref a :: st) (sk0, X, I, J) Q :=
  AW.get (ci := 5) (k := 4) d rfl wV_X5 (by decide) rfl (by decide) w h.a0 rfl (fun r hr => by have := h.lt; injection hr with hr; omega) kk
theorem g6_0 {μ : sd_M} {kc ks pc a idx : Nat} {ls st : List Value} {X : Nat × (Nat → Int32)} {I : sd_I} {J : sd_J} {Q : Option Int32 → sd_S → Prop} (d : decode μ.2.1 pc = .ok (.getfield idx, 3)) (w : Cond.fieldLink μ.1.cls idx "ThankingGifts$Past" "kept" "[LThankingGifts$Moment;" ∈ sd_gd) (h : is6 a) (kk : AW μ kc ks (pc + 3) ls (.ref (a + 1) :: st) (sk0, X, I, J) Q) : AW μ kc ks pc ls (.ref a :: st) (sk0, X, I, J) Q :=
  AW.get (ci := 6) (k := 0) d rfl wV_X6 (by decide) rfl (by decide) w h.a0 rfl (fun r hr => by have := h.lt; injection hr with hr; omega) kk
theorem g6_1 {μ : sd_M} {kc ks pc a idx : Nat} {ls st : List Value} {X : Nat × (Nat → Int32)} {I : sd_I} {J : sd_J} {Q : Option Int32 → sd_S → Prop} (d : decode μ.2.1 pc = .ok (.getfield idx, 3)) (w : Cond.fieldLink μ.1.cls idx "ThankingGifts$Past" "next" "I" ∈ sd_gd) (h : is6 a) (kk : AW μ kc ks (pc + 3) ls (.int (I a 1) :: st) (sk0, X, I, J) Q) : AW μ kc ks pc ls (.ref a :: st) (sk0, X, I, J) Q :=
  AW.get (ci := 6) (k := 1) d rfl wV_X6 (by decide) rfl (by decide) w h.a0 rfl (fun r hr => by cases hr) kk
theorem p6_1 {μ : sd_M} {kc ks pc a idx : Nat} {ls st : List Value} {X : Nat × (Nat → Int32)} {I : sd_I} {J : sd_J} {Q : Option Int32 → sd_S → Prop} {v : Int32} (d : decode μ.2.1 pc = .ok (.putfield idx, 3)) (w : Cond.fieldLink μ.1.cls idx "ThankingGifts$Past" "next" "I" ∈ sd_gd) (h : is6 a) (kk : AW μ kc ks (pc + 3) ls st (sk0, X, sd_u I a 1 v, J) Q) : AW μ kc ks pc ls (.int v :: .ref a :: st) (sk0, X, I, J) Q :=
  AW.put (ci := 6) (k := 1) (ty := .int) d rfl wV_X6 tyX6 tyX6_ok nmX6 (by decide) rfl (by decide) w rfl (by decide +kernel) rfl rfl rfl h.a0 kk
theorem g6_2 {μ : sd_M} {kc ks pc a idx : Nat} {ls st : List Value} {X : Nat × (Nat → Int32)} {I : sd_I} {J : sd_J} {Q : Option Int32 → sd_S → Prop} (d : decode μ.2.1 pc = .ok (.getfield idx, 3)) (w : Cond.fieldLink μ.1.cls idx "ThankingGifts$Past" "known" "I" ∈ sd_gd) (h : is6 a) (kk : AW μ kc ks (pc + 3) ls (.int (I a 2) :: st) (sk0, X, I, J) Q) : AW μ kc ks pc ls (.ref a :: st) (sk0, X, I, J) Q :=
  AW.get (ci := 6) (k := 2) d rfl wV_X6 (by decide) rfl (by decide) w h.a0 rfl (fun r hr => by cases hr) kk
theorem p6_2 {μ : sd_M} {kc ks pc a idx : Nat} {ls st : List Value} {X : Nat × (Nat → Int32)} {I : sd_I} {J : sd_J} {Q : Option Int32 → sd_S → Prop} {v : Int32} (d : decode μ.2.1 pc = .ok (.putfield idx, 3)) (w : Cond.fieldLink μ.1.cls idx "ThankingGifts$Past" "known" "I" ∈ sd_gd) (h : is6 a) (kk : AW μ kc ks (pc + 3) ls st (sk0, X, sd_u I a 2 v, J) Q) : AW μ kc ks pc ls (.int v :: .ref a :: st) (sk0, X, I, J) Q :=
  AW.put (ci := 6) (k := 2) (ty := .int) d rfl wV_X6 tyX6 tyX6_ok nmX6 (by decide) rfl (by decide) w rfl (by decide +kernel) rfl rfl rfl h.a0 kk
theorem g8_0 {μ : sd_M} {kc ks pc a idx : Nat} {ls st : List Value} {X : Nat × (Nat → Int32)} {I : sd_I} {J : sd_J} {Q : Option Int32 → sd_S → Prop} (d : decode μ.2.1 pc = .ok (.getfield idx, 3)) (w : Cond.fieldLink μ.1.cls idx "ThankingGifts$Reader" "tape" "[C" ∈ sd_gd) (h : is8 a) (kk : AW μ kc ks (pc + 3) ls (.ref 156 :: st) (sk0, X, I, J) Q) : AW μ kc ks pc ls (.ref a :: st) (sk0, X, I, J) Q :=
  AW.get (ci := 8) (k := 0) d rfl wV_X8 (by decide) rfl (by decide) w h.a0 rfl (fun r hr => by have := h.lt; injection hr with hr; omega) kk
theorem g8_1 {μ : sd_M} {kc ks pc a idx : Nat} {ls st : List Value} {X : Nat × (Nat → Int32)} {I : sd_I} {J : sd_J} {Q : Option Int32 → sd_S → Prop} (d : decode μ.2.1 pc = .ok (.getfield idx, 3)) (w : Cond.fieldLink μ.1.cls idx "ThankingGifts$Reader" "length" "I" ∈ sd_gd) (h : is8 a) (kk : AW μ kc ks (pc + 3) ls (.int (I a 1) :: st) (sk0, X, I, J) Q) : AW μ kc ks pc ls (.ref a :: st) (sk0, X, I, J) Q :=
  AW.get (ci := 8) (k := 1) d rfl wV_X8 (by decide) rfl (by decide) w h.a0 rfl (fun r hr => by cases hr) kk
theorem p8_1 {μ : sd_M} {kc ks pc a idx : Nat} {ls st : List Value} {X : Nat × (Nat → Int32)} {I : sd_I} {J : sd_J} {Q : Option Int32 → sd_S → Prop} {v : Int32} (d : decode μ.2.1 pc = .ok (.putfield idx, 3)) (w : Cond.fieldLink μ.1.cls idx "ThankingGifts$Reader" "length" "I" ∈ sd_gd) (h : is8 a) (kk : AW μ kc ks (pc + 3) ls st (sk0, X, sd_u I a 1 v, J) Q) : AW μ kc ks pc ls (.int v :: .ref a :: st) (sk0, X, I, J) Q :=
  AW.put (ci := 8) (k := 1) (ty := .int) d rfl wV_X8 tyX8 tyX8_ok nmX8 (by decide) rfl (by decide) w rfl (by decide +kernel) rfl rfl rfl h.a0 kk
theorem g8_2 {μ : sd_M} {kc ks pc a idx : Nat} {ls st : List Value} {X : Nat × (Nat → Int32)} {I : sd_I} {J : sd_J} {Q : Option Int32 → sd_S → Prop} (d : decode μ.2.1 pc = .ok (.getfield idx, 3)) (w : Cond.fieldLink μ.1.cls idx "ThankingGifts$Reader" "place" "I" ∈ sd_gd) (h : is8 a) (kk : AW μ kc ks (pc + 3) ls (.int (I a 2) :: st) (sk0, X, I, J) Q) : AW μ kc ks pc ls (.ref a :: st) (sk0, X, I, J) Q :=
  AW.get (ci := 8) (k := 2) d rfl wV_X8 (by decide) rfl (by decide) w h.a0 rfl (fun r hr => by cases hr) kk
theorem p8_2 {μ : sd_M} {kc ks pc a idx : Nat} {ls st : List Value} {X : Nat × (Nat → Int32)} {I : sd_I} {J : sd_J} {Q : Option Int32 → sd_S → Prop} {v : Int32} (d : decode μ.2.1 pc = .ok (.putfield idx, 3)) (w : Cond.fieldLink μ.1.cls idx "ThankingGifts$Reader" "place" "I" ∈ sd_gd) (h : is8 a) (kk : AW μ kc ks (pc + 3) ls st (sk0, X, sd_u I a 2 v, J) Q) : AW μ kc ks pc ls (.int v :: .ref a :: st) (sk0, X, I, J) Q :=
  AW.put (ci := 8) (k := 2) (ty := .int) d rfl wV_X8 tyX8 tyX8_ok nmX8 (by decide) rfl (by decide) w rfl (by decide +kernel) rfl rfl rfl h.a0 kk
theorem g9_0 {μ : sd_M} {kc ks pc a idx : Nat} {ls st : List Value} {X : Nat × (Nat → Int32)} {I : sd_I} {J : sd_J} {Q : Option Int32 → sd_S → Prop} (d : decode μ.2.1 pc = .ok (.getfield idx, 3)) (w : Cond.fieldLink μ.1.cls idx "ThankingGifts$Sheet" "items" "[J" ∈ sd_gd) (h : is9 a) (kk : AW μ kc ks (pc + 3) ls (.ref (a + 1) :: st) (sk0, X, I, J) Q) : AW μ kc ks pc ls (.ref a :: st) (sk0, X, I, J) Q :=
  AW.get (ci := 9) (k := 0) d rfl wV_X9 (by decide) rfl (by decide) w h.a0 rfl (fun r hr => by have := h.lt; injection hr with hr; omega) kk
theorem g9_1 {μ : sd_M} {kc ks pc a idx : Nat} {ls st : List Value} {X : Nat × (Nat → Int32)} {I : sd_I} {J : sd_J} {Q : Option Int32 → sd_S → Prop} (d : decode μ.2.1 pc = .ok (.getfield idx, 3)) (w : Cond.fieldLink μ.1.cls idx "ThankingGifts$Sheet" "present" "Z" ∈ sd_gd) (h : is9 a) (kk : AW μ kc ks (pc + 3) ls (.int (I a 1) :: st) (sk0, X, I, J) Q) : AW μ kc ks pc ls (.ref a :: st) (sk0, X, I, J) Q :=
  AW.get (ci := 9) (k := 1) d rfl wV_X9 (by decide) rfl (by decide) w h.a0 rfl (fun r hr => by cases hr) kk
theorem p9_1 {μ : sd_M} {kc ks pc a idx : Nat} {ls st : List Value} {X : Nat × (Nat → Int32)} {I : sd_I} {J : sd_J} {Q : Option Int32 → sd_S → Prop} {v : Int32} (d : decode μ.2.1 pc = .ok (.putfield idx, 3)) (w : Cond.fieldLink μ.1.cls idx "ThankingGifts$Sheet" "present" "Z" ∈ sd_gd) (h : is9 a) (hb : narrow .boolean (.int v) = .int v) (hf : fits .boolean (.int v) = true) (kk : AW μ kc ks (pc + 3) ls st (sk0, X, sd_u I a 1 v, J) Q) : AW μ kc ks pc ls (.int v :: .ref a :: st) (sk0, X, I, J) Q :=
  AW.put (ci := 9) (k := 1) (ty := .boolean) d rfl wV_X9 tyX9 tyX9_ok nmX9 (by decide) rfl (by decide) w rfl (by decide +kernel) hb hf rfl h.a0 kk
theorem g9_2 {μ : sd_M} {kc ks pc a idx : Nat} {ls st : List Value} {X : Nat × (Nat → Int32)} {I : sd_I} {J : sd_J} {Q : Option Int32 → sd_S → Prop} (d : decode μ.2.1 pc = .ok (.getfield idx, 3)) (w : Cond.fieldLink μ.1.cls idx "ThankingGifts$Sheet" "lane" "I" ∈ sd_gd) (h : is9 a) (kk : AW μ kc ks (pc + 3) ls (.int (I a 2) :: st) (sk0, X, I, J) Q) : AW μ kc ks pc ls (.ref a :: st) (sk0, X, I, J) Q :=
  AW.get (ci := 9) (k := 2) d rfl wV_X9 (by decide) rfl (by decide) w h.a0 rfl (fun r hr => by cases hr) kk
theorem p9_2 {μ : sd_M} {kc ks pc a idx : Nat} {ls st : List Value} {X : Nat × (Nat → Int32)} {I : sd_I} {J : sd_J} {Q : Option Int32 → sd_S → Prop} {v : Int32} (d : decode μ.2.1 pc = .ok (.putfield idx, 3)) (w : Cond.fieldLink μ.1.cls idx "ThankingGifts$Sheet" "lane" "I" ∈ sd_gd) (h : is9 a) (kk : AW μ kc ks (pc + 3) ls st (sk0, X, sd_u I a 2 v, J) Q) : AW μ kc ks pc ls (.int v :: .ref a :: st) (sk0, X, I, J) Q :=
  AW.put (ci := 9) (k := 2) (ty := .int) d rfl wV_X9 tyX9 tyX9_ok nmX9 (by decide) rfl (by decide) w rfl (by decide +kernel) rfl rfl rfl h.a0 kk
theorem g9_3 {μ : sd_M} {kc ks pc a idx : Nat} {ls st : List Value} {X : Nat × (Nat → Int32)} {I : sd_I} {J : sd_J} {Q : Option Int32 → sd_S → Prop} (d : decode μ.2.1 pc = .ok (.getfield idx, 3)) (w : Cond.fieldLink μ.1.cls idx "ThankingGifts$Sheet" "length" "I" ∈ sd_gd) (h : is9 a) (kk : AW μ kc ks (pc + 3) ls (.int (I a 3) :: st) (sk0, X, I, J) Q) : AW μ kc ks pc ls (.ref a :: st) (sk0, X, I, J) Q :=
  AW.get (ci := 9) (k := 3) d rfl wV_X9 (by decide) rfl (by decide) w h.a0 rfl (fun r hr => by cases hr) kk
theorem p9_3 {μ : sd_M} {kc ks pc a idx : Nat} {ls st : List Value} {X : Nat × (Nat → Int32)} {I : sd_I} {J : sd_J} {Q : Option Int32 → sd_S → Prop} {v : Int32} (d : decode μ.2.1 pc = .ok (.putfield idx, 3)) (w : Cond.fieldLink μ.1.cls idx "ThankingGifts$Sheet" "length" "I" ∈ sd_gd) (h : is9 a) (kk : AW μ kc ks (pc + 3) ls st (sk0, X, sd_u I a 3 v, J) Q) : AW μ kc ks pc ls (.int v :: .ref a :: st) (sk0, X, I, J) Q :=
  AW.put (ci := 9) (k := 3) (ty := .int) d rfl wV_X9 tyX9 tyX9_ok nmX9 (by decide) rfl (by decide) w rfl (by decide +kernel) rfl rfl rfl h.a0 kk
theorem g11_0 {μ : sd_M} {kc ks pc a idx : Nat} {ls st : List Value} {X : Nat × (Nat → Int32)} {I : sd_I} {J : sd_J} {Q : Option Int32 → sd_S → Prop} (d : decode μ.2.1 pc = .ok (.getfield idx, 3)) (w : Cond.fieldLink μ.1.cls idx "ThankingGifts" "house" "LThankingGifts$House;" ∈ sd_gd) (h : is11 a) (kk : AW μ kc ks (pc + 3) ls (.ref 1 :: st) (sk0, X, I, J) Q) : AW μ kc ks pc ls (.ref a :: st) (sk0, X, I, J) Q :=
  AW.get (ci := 11) (k := 0) d rfl wV_X11 (by decide) rfl (by decide) w h.a0 rfl (fun r hr => by have := h.lt; injection hr with hr; omega) kk
theorem g11_1 {μ : sd_M} {kc ks pc a idx : Nat} {ls st : List Value} {X : Nat × (Nat → Int32)} {I : sd_I} {J : sd_J} {Q : Option Int32 → sd_S → Prop} (d : decode μ.2.1 pc = .ok (.getfield idx, 3)) (w : Cond.fieldLink μ.1.cls idx "ThankingGifts" "past" "LThankingGifts$Past;" ∈ sd_gd) (h : is11 a) (kk : AW μ kc ks (pc + 3) ls (.ref 19 :: st) (sk0, X, I, J) Q) : AW μ kc ks pc ls (.ref a :: st) (sk0, X, I, J) Q :=
  AW.get (ci := 11) (k := 1) d rfl wV_X11 (by decide) rfl (by decide) w h.a0 rfl (fun r hr => by have := h.lt; injection hr with hr; omega) kk
theorem g11_2 {μ : sd_M} {kc ks pc a idx : Nat} {ls st : List Value} {X : Nat × (Nat → Int32)} {I : sd_I} {J : sd_J} {Q : Option Int32 → sd_S → Prop} (d : decode μ.2.1 pc = .ok (.getfield idx, 3)) (w : Cond.fieldLink μ.1.cls idx "ThankingGifts" "imagedHouse" "LThankingGifts$House;" ∈ sd_gd) (h : is11 a) (kk : AW μ kc ks (pc + 3) ls (.ref 69 :: st) (sk0, X, I, J) Q) : AW μ kc ks pc ls (.ref a :: st) (sk0, X, I, J) Q :=
  AW.get (ci := 11) (k := 2) d rfl wV_X11 (by decide) rfl (by decide) w h.a0 rfl (fun r hr => by have := h.lt; injection hr with hr; omega) kk
theorem g11_3 {μ : sd_M} {kc ks pc a idx : Nat} {ls st : List Value} {X : Nat × (Nat → Int32)} {I : sd_I} {J : sd_J} {Q : Option Int32 → sd_S → Prop} (d : decode μ.2.1 pc = .ok (.getfield idx, 3)) (w : Cond.fieldLink μ.1.cls idx "ThankingGifts" "imagedPast" "LThankingGifts$Past;" ∈ sd_gd) (h : is11 a) (kk : AW μ kc ks (pc + 3) ls (.ref 87 :: st) (sk0, X, I, J) Q) : AW μ kc ks pc ls (.ref a :: st) (sk0, X, I, J) Q :=
  AW.get (ci := 11) (k := 3) d rfl wV_X11 (by decide) rfl (by decide) w h.a0 rfl (fun r hr => by have := h.lt; injection hr with hr; omega) kk
theorem g11_4 {μ : sd_M} {kc ks pc a idx : Nat} {ls st : List Value} {X : Nat × (Nat → Int32)} {I : sd_I} {J : sd_J} {Q : Option Int32 → sd_S → Prop} (d : decode μ.2.1 pc = .ok (.getfield idx, 3)) (w : Cond.fieldLink μ.1.cls idx "ThankingGifts" "imaged" "Z" ∈ sd_gd) (h : is11 a) (kk : AW μ kc ks (pc + 3) ls (.int (I a 4) :: st) (sk0, X, I, J) Q) : AW μ kc ks pc ls (.ref a :: st) (sk0, X, I, J) Q :=
  AW.get (ci := 11) (k := 4) d rfl wV_X11 (by decide) rfl (by decide) w h.a0 rfl (fun r hr => by cases hr) kk
theorem p11_4 {μ : sd_M} {kc ks pc a idx : Nat} {ls st : List Value} {X : Nat × (Nat → Int32)} {I : sd_I} {J : sd_J} {Q : Option Int32 → sd_S → Prop} {v : Int32} (d : decode μ.2.1 pc = .ok (.putfield idx, 3)) (w : Cond.fieldLink μ.1.cls idx "ThankingGifts" "imaged" "Z" ∈ sd_gd) (h : is11 a) (hb : narrow .boolean (.int v) = .int v) (hf : fits .boolean (.int v) = true) (kk : AW μ kc ks (pc + 3) ls st (sk0, X, sd_u I a 4 v, J) Q) : AW μ kc ks pc ls (.int v :: .ref a :: st) (sk0, X, I, J) Q :=
  AW.put (ci := 11) (k := 4) (ty := .boolean) d rfl wV_X11 tyX11 tyX11_ok nmX11 (by decide) rfl (by decide) w rfl (by decide +kernel) hb hf rfl h.a0 kk
theorem g11_5 {μ : sd_M} {kc ks pc a idx : Nat} {ls st : List Value} {X : Nat × (Nat → Int32)} {I : sd_I} {J : sd_J} {Q : Option Int32 → sd_S → Prop} (d : decode μ.2.1 pc = .ok (.getfield idx, 3)) (w : Cond.fieldLink μ.1.cls idx "ThankingGifts" "draft" "LThankingGifts$House;" ∈ sd_gd) (h : is11 a) (kk : AW μ kc ks (pc + 3) ls (.ref 137 :: st) (sk0, X, I, J) Q) : AW μ kc ks pc ls (.ref a :: st) (sk0, X, I, J) Q :=
  AW.get (ci := 11) (k := 5) d rfl wV_X11 (by decide) rfl (by decide) w h.a0 rfl (fun r hr => by have := h.lt; injection hr with hr; omega) kk
theorem g11_6 {μ : sd_M} {kc ks pc a idx : Nat} {ls st : List Value} {X : Nat × (Nat → Int32)} {I : sd_I} {J : sd_J} {Q : Option Int32 → sd_S → Prop} (d : decode μ.2.1 pc = .ok (.getfield idx, 3)) (w : Cond.fieldLink μ.1.cls idx "ThankingGifts" "reader" "LThankingGifts$Reader;" ∈ sd_gd) (h : is11 a) (kk : AW μ kc ks (pc + 3) ls (.ref 155 :: st) (sk0, X, I, J) Q) : AW μ kc ks pc ls (.ref a :: st) (sk0, X, I, J) Q :=
  AW.get (ci := 11) (k := 6) d rfl wV_X11 (by decide) rfl (by decide) w h.a0 rfl (fun r hr => by have := h.lt; injection hr with hr; omega) kk
theorem g11_7 {μ : sd_M} {kc ks pc a idx : Nat} {ls st : List Value} {X : Nat × (Nat → Int32)} {I : sd_I} {J : sd_J} {Q : Option Int32 → sd_S → Prop} (d : decode μ.2.1 pc = .ok (.getfield idx, 3)) (w : Cond.fieldLink μ.1.cls idx "ThankingGifts" "outlook" "LThankingGifts$Outlook;" ∈ sd_gd) (h : is11 a) (kk : AW μ kc ks (pc + 3) ls (.ref 157 :: st) (sk0, X, I, J) Q) : AW μ kc ks pc ls (.ref a :: st) (sk0, X, I, J) Q :=
  AW.get (ci := 11) (k := 7) d rfl wV_X11 (by decide) rfl (by decide) w h.a0 rfl (fun r hr => by have := h.lt; injection hr with hr; omega) kk
theorem g11_8 {μ : sd_M} {kc ks pc a idx : Nat} {ls st : List Value} {X : Nat × (Nat → Int32)} {I : sd_I} {J : sd_J} {Q : Option Int32 → sd_S → Prop} (d : decode μ.2.1 pc = .ok (.getfield idx, 3)) (w : Cond.fieldLink μ.1.cls idx "ThankingGifts" "sheets" "[LThankingGifts$Sheet;" ∈ sd_gd) (h : is11 a) (kk : AW μ kc ks (pc + 3) ls (.ref 161 :: st) (sk0, X, I, J) Q) : AW μ kc ks pc ls (.ref a :: st) (sk0, X, I, J) Q :=
  AW.get (ci := 11) (k := 8) d rfl wV_X11 (by decide) rfl (by decide) w h.a0 rfl (fun r hr => by have := h.lt; injection hr with hr; omega) kk
theorem g12_0 {μ : sd_M} {kc ks pc a idx : Nat} {ls st : List Value} {X : Nat × (Nat → Int32)} {I : sd_I} {J : sd_J} {Q : Option Int32 → sd_S → Prop} (d : decode μ.2.1 pc = .ok (.getfield idx, 3)) (w : Cond.fieldLink μ.1.cls idx "ThankingGiftsModel" "lane" "[I" ∈ sd_gd) (h : is12 a) (kk : AW μ kc ks (pc + 3) ls (.ref 171 :: st) (sk0, X, I, J) Q) : AW μ kc ks pc ls (.ref a :: st) (sk0, X, I, J) Q :=
  AW.get (ci := 12) (k := 0) d rfl wV_X12 (by decide) rfl (by decide) w h.a0 rfl (fun r hr => by have := h.lt; injection hr with hr; omega) kk
theorem g12_1 {μ : sd_M} {kc ks pc a idx : Nat} {ls st : List Value} {X : Nat × (Nat → Int32)} {I : sd_I} {J : sd_J} {Q : Option Int32 → sd_S → Prop} (d : decode μ.2.1 pc = .ok (.getfield idx, 3)) (w : Cond.fieldLink μ.1.cls idx "ThankingGiftsModel" "size" "[I" ∈ sd_gd) (h : is12 a) (kk : AW μ kc ks (pc + 3) ls (.ref 172 :: st) (sk0, X, I, J) Q) : AW μ kc ks pc ls (.ref a :: st) (sk0, X, I, J) Q :=
  AW.get (ci := 12) (k := 1) d rfl wV_X12 (by decide) rfl (by decide) w h.a0 rfl (fun r hr => by have := h.lt; injection hr with hr; omega) kk
theorem g12_2 {μ : sd_M} {kc ks pc a idx : Nat} {ls st : List Value} {X : Nat × (Nat → Int32)} {I : sd_I} {J : sd_J} {Q : Option Int32 → sd_S → Prop} (d : decode μ.2.1 pc = .ok (.getfield idx, 3)) (w : Cond.fieldLink μ.1.cls idx "ThankingGiftsModel" "item" "[J" ∈ sd_gd) (h : is12 a) (kk : AW μ kc ks (pc + 3) ls (.ref 173 :: st) (sk0, X, I, J) Q) : AW μ kc ks pc ls (.ref a :: st) (sk0, X, I, J) Q :=
  AW.get (ci := 12) (k := 2) d rfl wV_X12 (by decide) rfl (by decide) w h.a0 rfl (fun r hr => by have := h.lt; injection hr with hr; omega) kk
theorem g12_3 {μ : sd_M} {kc ks pc a idx : Nat} {ls st : List Value} {X : Nat × (Nat → Int32)} {I : sd_I} {J : sd_J} {Q : Option Int32 → sd_S → Prop} (d : decode μ.2.1 pc = .ok (.getfield idx, 3)) (w : Cond.fieldLink μ.1.cls idx "ThankingGiftsModel" "letters" "I" ∈ sd_gd) (h : is12 a) (kk : AW μ kc ks (pc + 3) ls (.int (I a 3) :: st) (sk0, X, I, J) Q) : AW μ kc ks pc ls (.ref a :: st) (sk0, X, I, J) Q :=
  AW.get (ci := 12) (k := 3) d rfl wV_X12 (by decide) rfl (by decide) w h.a0 rfl (fun r hr => by cases hr) kk
theorem p12_3 {μ : sd_M} {kc ks pc a idx : Nat} {ls st : List Value} {X : Nat × (Nat → Int32)} {I : sd_I} {J : sd_J} {Q : Option Int32 → sd_S → Prop} {v : Int32} (d : decode μ.2.1 pc = .ok (.putfield idx, 3)) (w : Cond.fieldLink μ.1.cls idx "ThankingGiftsModel" "letters" "I" ∈ sd_gd) (h : is12 a) (kk : AW μ kc ks (pc + 3) ls st (sk0, X, sd_u I a 3 v, J) Q) : AW μ kc ks pc ls (.int v :: .ref a :: st) (sk0, X, I, J) Q :=
  AW.put (ci := 12) (k := 3) (ty := .int) d rfl wV_X12 tyX12 tyX12_ok nmX12 (by decide) rfl (by decide) w rfl (by decide +kernel) rfl rfl rfl h.a0 kk
theorem g12_4 {μ : sd_M} {kc ks pc a idx : Nat} {ls st : List Value} {X : Nat × (Nat → Int32)} {I : sd_I} {J : sd_J} {Q : Option Int32 → sd_S → Prop} (d : decode μ.2.1 pc = .ok (.getfield idx, 3)) (w : Cond.fieldLink μ.1.cls idx "ThankingGiftsModel" "tape" "[I" ∈ sd_gd) (h : is12 a) (kk : AW μ kc ks (pc + 3) ls (.ref 174 :: st) (sk0, X, I, J) Q) : AW μ kc ks pc ls (.ref a :: st) (sk0, X, I, J) Q :=
  AW.get (ci := 12) (k := 4) d rfl wV_X12 (by decide) rfl (by decide) w h.a0 rfl (fun r hr => by have := h.lt; injection hr with hr; omega) kk
theorem g12_5 {μ : sd_M} {kc ks pc a idx : Nat} {ls st : List Value} {X : Nat × (Nat → Int32)} {I : sd_I} {J : sd_J} {Q : Option Int32 → sd_S → Prop} (d : decode μ.2.1 pc = .ok (.getfield idx, 3)) (w : Cond.fieldLink μ.1.cls idx "ThankingGiftsModel" "position" "I" ∈ sd_gd) (h : is12 a) (kk : AW μ kc ks (pc + 3) ls (.int (I a 5) :: st) (sk0, X, I, J) Q) : AW μ kc ks pc ls (.ref a :: st) (sk0, X, I, J) Q :=
  AW.get (ci := 12) (k := 5) d rfl wV_X12 (by decide) rfl (by decide) w h.a0 rfl (fun r hr => by cases hr) kk
theorem p12_5 {μ : sd_M} {kc ks pc a idx : Nat} {ls st : List Value} {X : Nat × (Nat → Int32)} {I : sd_I} {J : sd_J} {Q : Option Int32 → sd_S → Prop} {v : Int32} (d : decode μ.2.1 pc = .ok (.putfield idx, 3)) (w : Cond.fieldLink μ.1.cls idx "ThankingGiftsModel" "position" "I" ∈ sd_gd) (h : is12 a) (kk : AW μ kc ks (pc + 3) ls st (sk0, X, sd_u I a 5 v, J) Q) : AW μ kc ks pc ls (.int v :: .ref a :: st) (sk0, X, I, J) Q :=
  AW.put (ci := 12) (k := 5) (ty := .int) d rfl wV_X12 tyX12 tyX12_ok nmX12 (by decide) rfl (by decide) w rfl (by decide +kernel) rfl rfl rfl h.a0 kk
theorem g12_6 {μ : sd_M} {kc ks pc a idx : Nat} {ls st : List Value} {X : Nat × (Nat → Int32)} {I : sd_I} {J : sd_J} {Q : Option Int32 → sd_S → Prop} (d : decode μ.2.1 pc = .ok (.getfield idx, 3)) (w : Cond.fieldLink μ.1.cls idx "ThankingGiftsModel" "number" "I" ∈ sd_gd) (h : is12 a) (kk : AW μ kc ks (pc + 3) ls (.int (I a 6) :: st) (sk0, X, I, J) Q) : AW μ kc ks pc ls (.ref a :: st) (sk0, X, I, J) Q :=
  AW.get (ci := 12) (k := 6) d rfl wV_X12 (by decide) rfl (by decide) w h.a0 rfl (fun r hr => by cases hr) kk
theorem p12_6 {μ : sd_M} {kc ks pc a idx : Nat} {ls st : List Value} {X : Nat × (Nat → Int32)} {I : sd_I} {J : sd_J} {Q : Option Int32 → sd_S → Prop} {v : Int32} (d : decode μ.2.1 pc = .ok (.putfield idx, 3)) (w : Cond.fieldLink μ.1.cls idx "ThankingGiftsModel" "number" "I" ∈ sd_gd) (h : is12 a) (kk : AW μ kc ks (pc + 3) ls st (sk0, X, sd_u I a 6 v, J) Q) : AW μ kc ks pc ls (.int v :: .ref a :: st) (sk0, X, I, J) Q :=
  AW.put (ci := 12) (k := 6) (ty := .int) d rfl wV_X12 tyX12 tyX12_ok nmX12 (by decide) rfl (by decide) w rfl (by decide +kernel) rfl rfl rfl h.a0 kk
theorem g12_7 {μ : sd_M} {kc ks pc a idx : Nat} {ls st : List Value} {X : Nat × (Nat → Int32)} {I : sd_I} {J : sd_J} {Q : Option Int32 → sd_S → Prop} (d : decode μ.2.1 pc = .ok (.getfield idx, 3)) (w : Cond.fieldLink μ.1.cls idx "ThankingGiftsModel" "now" "[I" ∈ sd_gd) (h : is12 a) (kk : AW μ kc ks (pc + 3) ls (.ref 175 :: st) (sk0, X, I, J) Q) : AW μ kc ks pc ls (.ref a :: st) (sk0, X, I, J) Q :=
  AW.get (ci := 12) (k := 7) d rfl wV_X12 (by decide) rfl (by decide) w h.a0 rfl (fun r hr => by have := h.lt; injection hr with hr; omega) kk
theorem g12_8 {μ : sd_M} {kc ks pc a idx : Nat} {ls st : List Value} {X : Nat × (Nat → Int32)} {I : sd_I} {J : sd_J} {Q : Option Int32 → sd_S → Prop} (d : decode μ.2.1 pc = .ok (.getfield idx, 3)) (w : Cond.fieldLink μ.1.cls idx "ThankingGiftsModel" "tried" "[I" ∈ sd_gd) (h : is12 a) (kk : AW μ kc ks (pc + 3) ls (.ref 176 :: st) (sk0, X, I, J) Q) : AW μ kc ks pc ls (.ref a :: st) (sk0, X, I, J) Q :=
  AW.get (ci := 12) (k := 8) d rfl wV_X12 (by decide) rfl (by decide) w h.a0 rfl (fun r hr => by have := h.lt; injection hr with hr; omega) kk
theorem g12_9 {μ : sd_M} {kc ks pc a idx : Nat} {ls st : List Value} {X : Nat × (Nat → Int32)} {I : sd_I} {J : sd_J} {Q : Option Int32 → sd_S → Prop} (d : decode μ.2.1 pc = .ok (.getfield idx, 3)) (w : Cond.fieldLink μ.1.cls idx "ThankingGiftsModel" "read" "[I" ∈ sd_gd) (h : is12 a) (kk : AW μ kc ks (pc + 3) ls (.ref 177 :: st) (sk0, X, I, J) Q) : AW μ kc ks pc ls (.ref a :: st) (sk0, X, I, J) Q :=
  AW.get (ci := 12) (k := 9) d rfl wV_X12 (by decide) rfl (by decide) w h.a0 rfl (fun r hr => by have := h.lt; injection hr with hr; omega) kk
theorem g12_10 {μ : sd_M} {kc ks pc a idx : Nat} {ls st : List Value} {X : Nat × (Nat → Int32)} {I : sd_I} {J : sd_J} {Q : Option Int32 → sd_S → Prop} (d : decode μ.2.1 pc = .ok (.getfield idx, 3)) (w : Cond.fieldLink μ.1.cls idx "ThankingGiftsModel" "kept" "[I" ∈ sd_gd) (h : is12 a) (kk : AW μ kc ks (pc + 3) ls (.ref 178 :: st) (sk0, X, I, J) Q) : AW μ kc ks pc ls (.ref a :: st) (sk0, X, I, J) Q :=
  AW.get (ci := 12) (k := 10) d rfl wV_X12 (by decide) rfl (by decide) w h.a0 rfl (fun r hr => by have := h.lt; injection hr with hr; omega) kk
theorem g12_11 {μ : sd_M} {kc ks pc a idx : Nat} {ls st : List Value} {X : Nat × (Nat → Int32)} {I : sd_I} {J : sd_J} {Q : Option Int32 → sd_S → Prop} (d : decode μ.2.1 pc = .ok (.getfield idx, 3)) (w : Cond.fieldLink μ.1.cls idx "ThankingGiftsModel" "isKept" "Z" ∈ sd_gd) (h : is12 a) (kk : AW μ kc ks (pc + 3) ls (.int (I a 11) :: st) (sk0, X, I, J) Q) : AW μ kc ks pc ls (.ref a :: st) (sk0, X, I, J) Q :=
  AW.get (ci := 12) (k := 11) d rfl wV_X12 (by decide) rfl (by decide) w h.a0 rfl (fun r hr => by cases hr) kk
theorem p12_11 {μ : sd_M} {kc ks pc a idx : Nat} {ls st : List Value} {X : Nat × (Nat → Int32)} {I : sd_I} {J : sd_J} {Q : Option Int32 → sd_S → Prop} {v : Int32} (d : decode μ.2.1 pc = .ok (.putfield idx, 3)) (w : Cond.fieldLink μ.1.cls idx "ThankingGiftsModel" "isKept" "Z" ∈ sd_gd) (h : is12 a) (hb : narrow .boolean (.int v) = .int v) (hf : fits .boolean (.int v) = true) (kk : AW μ kc ks (pc + 3) ls st (sk0, X, sd_u I a 11 v, J) Q) : AW μ kc ks pc ls (.int v :: .ref a :: st) (sk0, X, I, J) Q :=
  AW.put (ci := 12) (k := 11) (ty := .boolean) d rfl wV_X12 tyX12 tyX12_ok nmX12 (by decide) rfl (by decide) w rfl (by decide +kernel) hb hf rfl h.a0 kk
