/-! INTS AS INTEGERS: zi z is the int of the integer z; arrays read and written at integers -/
def zi (z : Int) : Int32 := Int32.ofInt z
theorem zi_toInt {a : Int} (h1 : -2147483648 ≤ a) (h2 : a < 2147483648) : (zi a).toInt = a := Int32.toInt_ofInt_of_le (by omega) (by omega)
theorem zi_self (x : Int32) : ∃ a, x = zi a ∧ -2147483648 ≤ a ∧ a < 2147483648 := ⟨x.toInt, (Int32.ofInt_toInt x).symm, by have := x.le_toInt; omega, by have := x.toInt_lt; omega⟩
theorem zi_lt {a b : Int} (h1 : -2147483648 ≤ a) (h2 : a < 2147483648) (h3 : -2147483648 ≤ b) (h4 : b < 2147483648) : (zi a < zi b) = (a < b) := by
  rw [Int32.lt_iff_toInt_lt, zi_toInt h1 h2, zi_toInt h3 h4]
theorem zi_le {a b : Int} (h1 : -2147483648 ≤ a) (h2 : a < 2147483648) (h3 : -2147483648 ≤ b) (h4 : b < 2147483648) : (zi a ≤ zi b) = (a ≤ b) := by
  rw [Int32.le_iff_toInt_le, zi_toInt h1 h2, zi_toInt h3 h4]
theorem zi_eq {a b : Int} (h1 : -2147483648 ≤ a) (h2 : a < 2147483648) (h3 : -2147483648 ≤ b) (h4 : b < 2147483648) : (zi a = zi b) = (a = b) := by
  rw [← Int32.toInt_inj, zi_toInt h1 h2, zi_toInt h3 h4]
theorem zi_add {a b : Int} : zi a + zi b = zi (a + b) := (Int32.ofInt_add a b).symm
theorem zi_sub {a b : Int} : zi a - zi b = zi (a - b) := (Int32.ofInt_sub a b).symm
theorem zi_mul {a b : Int} : zi a * zi b = zi (a * b) := (Int32.ofInt_mul a b).symm
theorem zi_neg {a : Int} : -zi a = zi (-a) := Int32.neg_ofInt
theorem zi_div {a b : Int} (h1 : 0 ≤ a) (h2 : a < 2147483648) (h3 : 0 < b) (h4 : b < 2147483648) : zi a / zi b = zi (a / b) := by
  rw [← Int32.toInt_inj, Int32.toInt_div_of_ne_left _ _ (by
    intro h
    have h5 := congrArg Int32.toInt h
    rw [zi_toInt (by omega) h2, Int32.toInt_minValue] at h5
    omega), zi_toInt (by omega) h2, zi_toInt (by omega) h4, Int.tdiv_eq_ediv_of_nonneg h1, zi_toInt]
  · have := Int.ediv_nonneg h1 (Int.le_of_lt h3)
    omega
  · have := Int.ediv_le_self b h1
    omega
theorem zi_imx {a b : Int} (h1 : -2147483648 ≤ a) (h2 : a < 2147483648) (h3 : -2147483648 ≤ b) (h4 : b < 2147483648) : imx (zi a) (zi b) = zi (max a b) := by
  unfold imx
  by_cases h : a < b
  · rw [if_pos (by rw [zi_lt h1 h2 h3 h4]; exact h), show max a b = b by omega]
  · rw [if_neg (by rw [zi_lt h1 h2 h3 h4]; exact h), show max a b = a by omega]
theorem zi_imn {a b : Int} (h1 : -2147483648 ≤ a) (h2 : a < 2147483648) (h3 : -2147483648 ≤ b) (h4 : b < 2147483648) : imn (zi a) (zi b) = zi (min a b) := by
  unfold imn
  by_cases h : b < a
  · rw [if_pos (by rw [zi_lt h3 h4 h1 h2]; exact h), show min a b = b by omega]
  · rw [if_neg (by rw [zi_lt h3 h4 h1 h2]; exact h), show min a b = a by omega]
theorem zi_iab {a : Int} (h1 : -2147483648 ≤ a) (h2 : a < 2147483648) : iab (zi a) = zi (if 0 ≤ a then a else -a) := by
  unfold iab
  have e : ((0 : Int32) ≤ zi a) = (0 ≤ a) := zi_le (a := 0) (by omega) (by omega) h1 h2
  by_cases h : 0 ≤ a
  · rw [if_pos (by rw [e]; exact h), if_pos h]
  · rw [if_neg (by rw [e]; exact h), if_neg h, show (0 : Int32) - zi a = zi (0 - a) from zi_sub (a := 0) (b := a), show (0 : Int) - a = -a by omega]
theorem zi_ofNat {n : Nat} : Int32.ofNat n = zi (n : Int) := Int32.ofInt_eq_ofNat.symm
theorem zl_0 : (0 : Int32) = zi 0 := rfl
theorem zl_1 : (1 : Int32) = zi 1 := rfl
theorem zl_2 : (2 : Int32) = zi 2 := rfl
theorem zl_3 : (3 : Int32) = zi 3 := rfl
theorem zl_4 : (4 : Int32) = zi 4 := rfl
theorem zl_5 : (5 : Int32) = zi 5 := rfl
theorem zl_6 : (6 : Int32) = zi 6 := rfl
theorem zl_7 : (7 : Int32) = zi 7 := rfl
theorem zl_8 : (8 : Int32) = zi 8 := rfl
theorem zl_9 : (9 : Int32) = zi 9 := rfl
theorem zl_10 : (10 : Int32) = zi 10 := rfl
theorem zl_11 : (11 : Int32) = zi 11 := rfl
theorem zl_12 : (12 : Int32) = zi 12 := rfl
theorem zl_13 : (13 : Int32) = zi 13 := rfl
theorem zl_14 : (14 : Int32) = zi 14 := rfl
theorem zl_15 : (15 : Int32) = zi 15 := rfl
theorem zl_16 : (16 : Int32) = zi 16 := rfl
theorem zl_20 : (20 : Int32) = zi 20 := rfl
theorem zl_21 : (21 : Int32) = zi 21 := rfl
theorem zl_22 : (22 : Int32) = zi 22 := rfl
theorem zl_23 : (23 : Int32) = zi 23 := rfl
theorem zl_24 : (24 : Int32) = zi 24 := rfl
theorem zl_25 : (25 : Int32) = zi 25 := rfl
theorem zl_26 : (26 : Int32) = zi 26 := rfl
theorem zl_27 : (27 : Int32) = zi 27 := rfl
theorem zl_28 : (28 : Int32) = zi 28 := rfl
theorem zl_29 : (29 : Int32) = zi 29 := rfl
theorem zl_30 : (30 : Int32) = zi 30 := rfl
theorem zl_31 : (31 : Int32) = zi 31 := rfl
theorem zl_32 : (32 : Int32) = zi 32 := rfl
theorem zl_37 : (37 : Int32) = zi 37 := rfl
theorem zl_40 : (40 : Int32) = zi 40 := rfl
theorem zl_41 : (41 : Int32) = zi 41 := rfl
theorem zl_42 : (42 : Int32) = zi 42 := rfl
theorem zl_43 : (43 : Int32) = zi 43 := rfl
theorem zl_44 : (44 : Int32) = zi 44 := rfl
theorem zl_45 : (45 : Int32) = zi 45 := rfl
theorem zl_46 : (46 : Int32) = zi 46 := rfl
theorem zl_47 : (47 : Int32) = zi 47 := rfl
theorem zl_48 : (48 : Int32) = zi 48 := rfl
theorem zl_49 : (49 : Int32) = zi 49 := rfl
theorem zl_50 : (50 : Int32) = zi 50 := rfl
theorem zl_51 : (51 : Int32) = zi 51 := rfl
theorem zl_52 : (52 : Int32) = zi 52 := rfl
theorem zl_53 : (53 : Int32) = zi 53 := rfl
theorem zl_54 : (54 : Int32) = zi 54 := rfl
theorem zl_55 : (55 : Int32) = zi 55 := rfl
theorem zl_56 : (56 : Int32) = zi 56 := rfl
theorem zl_57 : (57 : Int32) = zi 57 := rfl
theorem zl_58 : (58 : Int32) = zi 58 := rfl
theorem zl_59 : (59 : Int32) = zi 59 := rfl
theorem zl_60 : (60 : Int32) = zi 60 := rfl
theorem zl_61 : (61 : Int32) = zi 61 := rfl
theorem zl_62 : (62 : Int32) = zi 62 := rfl
theorem zl_63 : (63 : Int32) = zi 63 := rfl
theorem zl_64 : (64 : Int32) = zi 64 := rfl
theorem zl_65 : (65 : Int32) = zi 65 := rfl
theorem zl_74 : (74 : Int32) = zi 74 := rfl
theorem zl_86 : (86 : Int32) = zi 86 := rfl
theorem zl_90 : (90 : Int32) = zi 90 := rfl
theorem zl_97 : (97 : Int32) = zi 97 := rfl
theorem zl_98 : (98 : Int32) = zi 98 := rfl
theorem zl_99 : (99 : Int32) = zi 99 := rfl
theorem zl_100 : (100 : Int32) = zi 100 := rfl
theorem zl_122 : (122 : Int32) = zi 122 := rfl
theorem zl_140 : (140 : Int32) = zi 140 := rfl
theorem zl_141 : (141 : Int32) = zi 141 := rfl
theorem zl_142 : (142 : Int32) = zi 142 := rfl
theorem zl_143 : (143 : Int32) = zi 143 := rfl
theorem zl_145 : (145 : Int32) = zi 145 := rfl
theorem zl_146 : (146 : Int32) = zi 146 := rfl
theorem zl_147 : (147 : Int32) = zi 147 := rfl
theorem zl_149 : (149 : Int32) = zi 149 := rfl
theorem zl_150 : (150 : Int32) = zi 150 := rfl
theorem zl_159 : (159 : Int32) = zi 159 := rfl
theorem zl_160 : (160 : Int32) = zi 160 := rfl
theorem zl_161 : (161 : Int32) = zi 161 := rfl
theorem zl_162 : (162 : Int32) = zi 162 := rfl
theorem zl_178 : (178 : Int32) = zi 178 := rfl
theorem zl_199 : (199 : Int32) = zi 199 := rfl
theorem zl_200 : (200 : Int32) = zi 200 := rfl
theorem zl_201 : (201 : Int32) = zi 201 := rfl
theorem zl_210 : (210 : Int32) = zi 210 := rfl
theorem zl_230 : (230 : Int32) = zi 230 := rfl
theorem zl_240 : (240 : Int32) = zi 240 := rfl
theorem zl_245 : (245 : Int32) = zi 245 := rfl
theorem zl_255 : (255 : Int32) = zi 255 := rfl
theorem zl_256 : (256 : Int32) = zi 256 := rfl
theorem zl_257 : (257 : Int32) = zi 257 := rfl
theorem zl_288 : (288 : Int32) = zi 288 := rfl
theorem zl_312 : (312 : Int32) = zi 312 := rfl
theorem zl_332 : (332 : Int32) = zi 332 := rfl
theorem zl_340 : (340 : Int32) = zi 340 := rfl
theorem zl_356 : (356 : Int32) = zi 356 := rfl
theorem zl_366 : (366 : Int32) = zi 366 := rfl
theorem zl_399 : (399 : Int32) = zi 399 := rfl
theorem zl_400 : (400 : Int32) = zi 400 := rfl
theorem zl_500 : (500 : Int32) = zi 500 := rfl
theorem zl_820 : (820 : Int32) = zi 820 := rfl
theorem zl_966 : (966 : Int32) = zi 966 := rfl
theorem zl_982 : (982 : Int32) = zi 982 := rfl
theorem zl_998 : (998 : Int32) = zi 998 := rfl
theorem zl_999 : (999 : Int32) = zi 999 := rfl
theorem zl_1000 : (1000 : Int32) = zi 1000 := rfl
theorem zl_1002 : (1002 : Int32) = zi 1002 := rfl
theorem zl_1003 : (1003 : Int32) = zi 1003 := rfl
theorem zl_1004 : (1004 : Int32) = zi 1004 := rfl
theorem zl_1012 : (1012 : Int32) = zi 1012 := rfl
theorem zl_1013 : (1013 : Int32) = zi 1013 := rfl
theorem zl_1014 : (1014 : Int32) = zi 1014 := rfl
theorem zl_1015 : (1015 : Int32) = zi 1015 := rfl
theorem zl_1016 : (1016 : Int32) = zi 1016 := rfl
theorem zl_1017 : (1017 : Int32) = zi 1017 := rfl
theorem zl_1018 : (1018 : Int32) = zi 1018 := rfl
theorem zl_1020 : (1020 : Int32) = zi 1020 := rfl
theorem zl_1021 : (1021 : Int32) = zi 1021 := rfl
theorem zl_1024 : (1024 : Int32) = zi 1024 := rfl
theorem zl_1030 : (1030 : Int32) = zi 1030 := rfl
theorem zl_1850 : (1850 : Int32) = zi 1850 := rfl
theorem zl_2412 : (2412 : Int32) = zi 2412 := rfl
theorem zl_2613 : (2613 : Int32) = zi 2613 := rfl
theorem zl_9999 : (9999 : Int32) = zi 9999 := rfl
theorem zl_10000 : (10000 : Int32) = zi 10000 := rfl
theorem zl_99999 : (99999 : Int32) = zi 99999 := rfl
theorem zl_1000000 : (1000000 : Int32) = zi 1000000 := rfl
theorem lc_3 : lenC 3 = 200 := rfl
theorem lc_4 : lenC 4 = 12 := rfl
theorem lc_5 : lenC 5 = 12 := rfl
theorem lc_6 : lenC 6 = 12 := rfl
theorem lc_8 : lenC 8 = 12 := rfl
theorem lc_9 : lenC 9 = 12 := rfl
theorem lc_10 : lenC 10 = 12 := rfl
theorem lc_12 : lenC 12 = 16 := rfl
theorem lc_13 : lenC 13 = 16 := rfl
theorem lc_14 : lenC 14 = 16 := rfl
theorem lc_15 : lenC 15 = 16 := rfl
theorem lc_16 : lenC 16 = 400 := rfl
theorem lc_17 : lenC 17 = 64 := rfl
theorem lc_19 : lenC 19 = 16 := rfl
theorem lc_20 : lenC 20 = 16 := rfl
theorem lc_21 : lenC 21 = 16 := rfl
theorem lc_23 : lenC 23 = 16 := rfl
theorem lc_24 : lenC 24 = 16 := rfl
theorem lc_25 : lenC 25 = 16 := rfl
theorem lc_27 : lenC 27 = 16 := rfl
theorem lc_28 : lenC 28 = 16 := rfl
theorem lc_29 : lenC 29 = 16 := rfl
theorem lc_32 : lenC 32 = 20 := rfl
theorem lc_33 : lenC 33 = 20 := rfl
theorem lc_34 : lenC 34 = 20 := rfl
theorem lc_36 : lenC 36 = 10 := rfl
theorem lc_37 : lenC 37 = 10 := rfl
theorem lc_38 : lenC 38 = 10 := rfl
theorem lc_40 : lenC 40 = 16 := rfl
theorem lc_41 : lenC 41 = 16 := rfl
theorem lc_42 : lenC 42 = 16 := rfl
theorem lc_44 : lenC 44 = 12 := rfl
theorem lc_45 : lenC 45 = 12 := rfl
theorem lc_46 : lenC 46 = 12 := rfl
theorem lc_48 : lenC 48 = 10 := rfl
theorem lc_49 : lenC 49 = 10 := rfl
theorem lc_50 : lenC 50 = 10 := rfl
theorem lc_52 : lenC 52 = 8 := rfl
theorem lc_53 : lenC 53 = 8 := rfl
theorem lc_54 : lenC 54 = 8 := rfl
theorem lc_55 : lenC 55 = 8 := rfl
theorem lc_56 : lenC 56 = 8 := rfl
theorem lc_57 : lenC 57 = 10 := rfl
theorem lc_58 : lenC 58 = 11 := rfl
theorem lc_60 : lenC 60 = 600 := rfl
theorem lc_63 : lenC 63 = 200 := rfl
theorem lc_64 : lenC 64 = 12 := rfl
theorem lc_65 : lenC 65 = 12 := rfl
theorem lc_66 : lenC 66 = 12 := rfl
theorem lc_68 : lenC 68 = 12 := rfl
theorem lc_69 : lenC 69 = 12 := rfl
theorem lc_70 : lenC 70 = 12 := rfl
theorem lc_72 : lenC 72 = 16 := rfl
theorem lc_73 : lenC 73 = 16 := rfl
theorem lc_74 : lenC 74 = 16 := rfl
theorem lc_75 : lenC 75 = 16 := rfl
theorem lc_76 : lenC 76 = 400 := rfl
theorem lc_77 : lenC 77 = 64 := rfl
theorem lc_79 : lenC 79 = 16 := rfl
theorem lc_80 : lenC 80 = 16 := rfl
theorem lc_81 : lenC 81 = 16 := rfl
theorem lc_83 : lenC 83 = 16 := rfl
theorem lc_84 : lenC 84 = 16 := rfl
theorem lc_85 : lenC 85 = 16 := rfl
theorem lc_87 : lenC 87 = 16 := rfl
theorem lc_88 : lenC 88 = 16 := rfl
theorem lc_89 : lenC 89 = 16 := rfl
theorem lc_92 : lenC 92 = 20 := rfl
theorem lc_93 : lenC 93 = 20 := rfl
theorem lc_94 : lenC 94 = 20 := rfl
theorem lc_96 : lenC 96 = 10 := rfl
theorem lc_97 : lenC 97 = 10 := rfl
theorem lc_98 : lenC 98 = 10 := rfl
theorem lc_100 : lenC 100 = 16 := rfl
theorem lc_101 : lenC 101 = 16 := rfl
theorem lc_102 : lenC 102 = 16 := rfl
theorem lc_104 : lenC 104 = 12 := rfl
theorem lc_105 : lenC 105 = 12 := rfl
theorem lc_106 : lenC 106 = 12 := rfl
theorem lc_108 : lenC 108 = 10 := rfl
theorem lc_109 : lenC 109 = 10 := rfl
theorem lc_110 : lenC 110 = 10 := rfl
theorem lc_112 : lenC 112 = 8 := rfl
theorem lc_113 : lenC 113 = 8 := rfl
theorem lc_114 : lenC 114 = 8 := rfl
theorem lc_115 : lenC 115 = 8 := rfl
theorem lc_116 : lenC 116 = 8 := rfl
theorem lc_117 : lenC 117 = 10 := rfl
theorem lc_118 : lenC 118 = 11 := rfl
theorem lc_120 : lenC 120 = 600 := rfl
theorem lc_122 : lenC 122 = 200 := rfl
theorem lc_123 : lenC 123 = 12 := rfl
theorem lc_124 : lenC 124 = 12 := rfl
theorem lc_125 : lenC 125 = 12 := rfl
theorem lc_127 : lenC 127 = 10 := rfl
theorem lc_129 : lenC 129 = 6 := rfl
theorem lc_131 : lenC 131 = 200 := rfl
theorem lc_132 : lenC 132 = 12 := rfl
theorem lc_133 : lenC 133 = 12 := rfl
theorem lc_134 : lenC 134 = 12 := rfl
theorem lc_136 : lenC 136 = 200 := rfl
theorem lc_137 : lenC 137 = 12 := rfl
theorem lc_138 : lenC 138 = 12 := rfl
theorem lc_139 : lenC 139 = 12 := rfl
theorem lc_141 : lenC 141 = 200 := rfl
theorem lc_142 : lenC 142 = 12 := rfl
theorem lc_143 : lenC 143 = 12 := rfl
theorem lc_144 : lenC 144 = 12 := rfl
theorem lc_146 : lenC 146 = 200 := rfl
theorem lc_147 : lenC 147 = 12 := rfl
theorem lc_148 : lenC 148 = 12 := rfl
theorem lc_149 : lenC 149 = 12 := rfl
theorem lc_151 : lenC 151 = 200 := rfl
theorem lc_152 : lenC 152 = 12 := rfl
theorem lc_153 : lenC 153 = 12 := rfl
theorem lc_154 : lenC 154 = 12 := rfl
theorem lc_156 : lenC 156 = 200 := rfl
theorem lc_157 : lenC 157 = 12 := rfl
theorem lc_158 : lenC 158 = 12 := rfl
theorem lc_159 : lenC 159 = 12 := rfl
theorem lc_161 : lenC 161 = 400 := rfl
theorem lc_162 : lenC 162 = 400 := rfl
theorem lc_163 : lenC 163 = 400 := rfl
theorem lc_164 : lenC 164 = 400 := rfl
theorem lc_166 : lenC 166 = 16 := rfl
theorem lc_167 : lenC 167 = 16 := rfl
theorem lc_168 : lenC 168 = 16 := rfl
theorem lc_169 : lenC 169 = 16 := rfl
theorem lc_170 : lenC 170 = 400 := rfl
theorem lc_171 : lenC 171 = 64 := rfl
theorem lc_173 : lenC 173 = 16 := rfl
theorem lc_174 : lenC 174 = 16 := rfl
theorem lc_175 : lenC 175 = 16 := rfl
theorem lc_177 : lenC 177 = 12 := rfl
theorem lc_178 : lenC 178 = 201 := rfl
theorem lc_179 : lenC 179 = 201 := rfl
theorem lc_180 : lenC 180 = 201 := rfl
theorem lc_181 : lenC 181 = 201 := rfl
theorem lc_182 : lenC 182 = 201 := rfl
theorem lc_183 : lenC 183 = 201 := rfl
theorem lc_184 : lenC 184 = 201 := rfl
theorem lc_185 : lenC 185 = 201 := rfl
theorem lc_186 : lenC 186 = 201 := rfl
theorem lc_187 : lenC 187 = 201 := rfl
theorem lc_188 : lenC 188 = 201 := rfl
theorem lc_189 : lenC 189 = 201 := rfl
theorem lc_190 : lenC 190 = 12 := rfl
theorem lc_191 : lenC 191 = 201 := rfl
theorem lc_192 : lenC 192 = 201 := rfl
theorem lc_193 : lenC 193 = 201 := rfl
theorem lc_194 : lenC 194 = 201 := rfl
theorem lc_195 : lenC 195 = 201 := rfl
theorem lc_196 : lenC 196 = 201 := rfl
theorem lc_197 : lenC 197 = 201 := rfl
theorem lc_198 : lenC 198 = 201 := rfl
theorem lc_199 : lenC 199 = 201 := rfl
theorem lc_200 : lenC 200 = 201 := rfl
theorem lc_201 : lenC 201 = 201 := rfl
theorem lc_202 : lenC 202 = 201 := rfl
theorem lm_1 : lenM 1 = 1850 := rfl
theorem lm_2 : lenM 2 = 1850 := rfl
theorem lm_3 : lenM 3 = 294 := rfl
theorem lm_4 : lenM 4 = 49 := rfl
theorem lm_5 : lenM 5 = 64 := rfl
theorem lm_6 : lenM 6 = 820 := rfl
theorem lm_7 : lenM 7 = 48 := rfl
theorem lm_8 : lenM 8 = 400 := rfl
theorem lm_9 : lenM 9 = 420 := rfl
theorem lm_10 : lenM 10 = 11 := rfl
theorem lm_11 : lenM 11 = 11 := rfl
theorem lm_12 : lenM 12 = 2613 := rfl
theorem lm_13 : lenM 13 = 2613 := rfl
theorem lm_14 : lenM 14 = 11 := rfl
theorem lm_15 : lenM 15 = 10 := rfl
def rd (s : Mem) (k : Nat) (z : Int) : Int32 := rI s k z.toNat
def wd (s : Mem) (k : Nat) (z : Int) (v : Int32) : Mem := wI s k z.toNat v
def rdJ (s : Mem) (k : Nat) (z : Int) : Int64 := rJ s k z.toNat
def wdJ (s : Mem) (k : Nat) (z : Int) (v : Int64) : Mem := wJ s k z.toNat v
theorem ix_zi {a : Int} (h1 : -2147483648 ≤ a) (h2 : a < 2147483648) : ix (zi a) = a.toNat := by
  show (zi a).toInt.toNat = a.toNat
  rw [zi_toInt h1 h2]
theorem rI_ix {s : Mem} {k : Nat} {a : Int} (h1 : -2147483648 ≤ a) (h2 : a < 2147483648) : rI s k (ix (zi a)) = rd s k a := by rw [ix_zi h1 h2]; rfl
theorem wI_ix {s : Mem} {k : Nat} {a : Int} {v : Int32} (h1 : -2147483648 ≤ a) (h2 : a < 2147483648) : wI s k (ix (zi a)) v = wd s k a v := by rw [ix_zi h1 h2]; rfl
theorem rJ_ix {s : Mem} {k : Nat} {a : Int} (h1 : -2147483648 ≤ a) (h2 : a < 2147483648) : rJ s k (ix (zi a)) = rdJ s k a := by rw [ix_zi h1 h2]; rfl
theorem wJ_ix {s : Mem} {k : Nat} {a : Int} {v : Int64} (h1 : -2147483648 ≤ a) (h2 : a < 2147483648) : wJ s k (ix (zi a)) v = wdJ s k a v := by rw [ix_zi h1 h2]; rfl
theorem gd_i {O : Type} {a : Int} {n : Nat} {x : Option O} (h1 : 0 ≤ a) (h2 : a < (n : Int)) (h3 : a < 2147483648) : gd (inb (zi a) n) x = x := by
  have h : inb (zi a) n = true := inb_iff.mpr ⟨by rw [show (0 : Int32) = zi 0 from rfl, zi_le (by omega) (by omega) (by omega) h3]; exact h1, by rw [ix_zi (by omega) h3]; omega⟩
  rw [h]
  rfl
theorem rI_wI_s {s : Mem} {k j : Nat} {v : Int32} : rI (wI s k j v) k j = v := by simp [rI, wI, upd]
theorem rI_wI_f {s : Mem} {k j j' : Nat} {v : Int32} (h : j ≠ j') : rI (wI s k j v) k j' = rI s k j' := by simp [rI, wI, upd, Ne.symm h]
theorem rI_wI_c {s : Mem} {k k' j j' : Nat} {v : Int32} (h : k ≠ k') : rI (wI s k j v) k' j' = rI s k' j' := by simp [rI, wI, Ne.symm h]
theorem rI_wI_o {s : Mem} {k k' j j' : Nat} {v : Int32} (h : ¬ (k = k' ∧ j = j')) : rI (wI s k j v) k' j' = rI s k' j' := by
  by_cases h1 : k = k'
  · subst h1
    exact rI_wI_f (fun e => h ⟨rfl, e⟩)
  · exact rI_wI_c h1
theorem rI_wd_c {s : Mem} {k k' j' : Nat} {a : Int} {v : Int32} (h : k ≠ k') : rI (wd s k a v) k' j' = rI s k' j' := rI_wI_c h
theorem rd_wI_c {s : Mem} {k k' j : Nat} {a : Int} {v : Int32} (h : k ≠ k') : rd (wI s k j v) k' a = rd s k' a := rI_wI_c h
theorem rd_wd_c {s : Mem} {k k' : Nat} {a b : Int} {v : Int32} (h : k ≠ k') : rd (wd s k a v) k' b = rd s k' b := rI_wI_c h
theorem rd_wd_s {s : Mem} {k : Nat} {a b : Int} {v : Int32} (h : a = b) : rd (wd s k a v) k b = v := by subst h; exact rI_wI_s
theorem rd_wd_n {s : Mem} {k : Nat} {a b : Int} {v : Int32} (h1 : 0 ≤ a) (h2 : 0 ≤ b) (h : a ≠ b) : rd (wd s k a v) k b = rd s k b := rI_wI_f (by omega)
theorem rI_wJ {s : Mem} {k k' j : Nat} {a : Int} {v : Int64} : rI (wdJ s k a v) k' j = rI s k' j := rfl
theorem rd_wJ {s : Mem} {k k' : Nat} {a b : Int} {v : Int64} : rd (wdJ s k a v) k' b = rd s k' b := rfl
theorem vpb_0 : vp_nar .boolean (zi 0) = zi 0 := by decide +kernel
theorem vpb_1 : vp_nar .boolean (zi 1) = zi 1 := by decide +kernel
theorem b2i_0 : b2i false = zi 0 := rfl
theorem b2i_1 : b2i true = zi 1 := rfl
theorem b2i_e0 {b : Bool} : (b2i b = zi 0) = (b = false) := by cases b <;> simp <;> decide
theorem b2i_e1 {b : Bool} : (b2i b = zi 1) = (b = true) := by cases b <;> simp <;> decide
theorem rB_b {b : Bool} : rB (b2i b) = some b := by cases b <;> decide
theorem lf_s {O : Type} {r : O} {s : Mem} : lf (some r) s = some (r, s) := rfl
theorem lf_n {O : Type} {s : Mem} : lf (none : Option O) s = none := rfl
theorem lf_b {b : Bool} {s : Mem} : lf (rB (b2i b)) s = some (b, s) := by rw [rB_b]; rfl
theorem cif_t {O : Type} {x y : O} : cif True x y = x := cif_pos trivial
theorem cif_f {O : Type} {x y : O} : cif False x y = y := cif_neg (fun h => h)
/-! what comes out, of one and of two -/
def Ok {α : Type} (x : Option α) (Q : α → Prop) : Prop := ∃ a, x = some a ∧ Q a
def Ok2 {α β : Type} (x : Option α) (y : Option β) (Q : α → β → Prop) : Prop := ∃ a b, x = some a ∧ y = some b ∧ Q a b
theorem ok_s {α : Type} {a : α} {Q : α → Prop} (h : Q a) : Ok (some a) Q := ⟨a, rfl, h⟩
theorem ok_b {α β : Type} {x : Option α} {f : α → Option β} {P : α → Prop} {Q : β → Prop} (h : Ok x P) (hf : ∀ a, P a → Ok (f a) Q) : Ok (x.bind f) Q := by
  obtain ⟨a, rfl, ha⟩ := h
  exact hf a ha
theorem ok_c {α : Type} {c : Prop} {x y : Option α} {Q : α → Prop} (h1 : c → Ok x Q) (h2 : ¬ c → Ok y Q) : Ok (cif c x y) Q := by
  by_cases h : c
  · rw [cif_pos h]; exact h1 h
  · rw [cif_neg h]; exact h2 h
theorem ok_w {α : Type} {x : Option α} {P Q : α → Prop} (h : Ok x P) (hq : ∀ a, P a → Q a) : Ok x Q := by
  obtain ⟨a, e, ha⟩ := h
  exact ⟨a, e, hq a ha⟩
theorem ok2_s {α β : Type} {a : α} {b : β} {Q : α → β → Prop} (h : Q a b) : Ok2 (some a) (some b) Q := ⟨a, b, rfl, rfl, h⟩
theorem ok2_b {α β γ δ : Type} {x : Option α} {y : Option β} {f : α → Option γ} {g : β → Option δ} {P : α → β → Prop} {Q : γ → δ → Prop} (h : Ok2 x y P) (hf : ∀ a b, P a b → Ok2 (f a) (g b) Q) : Ok2 (x.bind f) (y.bind g) Q := by
  obtain ⟨a, b, rfl, rfl, ha⟩ := h
  exact hf a b ha
theorem ok2_l {α β γ : Type} {x : Option α} {y : Option β} {f : α → Option γ} {P : α → Prop} {Q : γ → β → Prop} (h : Ok x P) (hf : ∀ a, P a → Ok2 (f a) y Q) : Ok2 (x.bind f) y Q := by
  obtain ⟨a, rfl, ha⟩ := h
  exact hf a ha
theorem ok2_r {α β γ : Type} {x : Option α} {y : Option β} {g : β → Option γ} {P : β → Prop} {Q : α → γ → Prop} (h : Ok y P) (hf : ∀ b, P b → Ok2 x (g b) Q) : Ok2 x (y.bind g) Q := by
  obtain ⟨a, rfl, ha⟩ := h
  exact hf a ha
theorem ok2_cl {α β : Type} {c : Prop} {x x' : Option α} {y : Option β} {Q : α → β → Prop} (h1 : c → Ok2 x y Q) (h2 : ¬ c → Ok2 x' y Q) : Ok2 (cif c x x') y Q := by
  by_cases h : c
  · rw [cif_pos h]; exact h1 h
  · rw [cif_neg h]; exact h2 h
theorem ok2_cr {α β : Type} {c : Prop} {x : Option α} {y y' : Option β} {Q : α → β → Prop} (h1 : c → Ok2 x y Q) (h2 : ¬ c → Ok2 x y' Q) : Ok2 x (cif c y y') Q := by
  by_cases h : c
  · rw [cif_pos h]; exact h1 h
  · rw [cif_neg h]; exact h2 h
theorem ok2_w {α β : Type} {x : Option α} {y : Option β} {P Q : α → β → Prop} (h : Ok2 x y P) (hq : ∀ a b, P a b → Q a b) : Ok2 x y Q := by
  obtain ⟨a, b, e, e', ha⟩ := h
  exact ⟨a, b, e, e', hq a b ha⟩
/-! the smallest of all -/
theorem e_within {a b c : Int} {s : Mem} (h1 : -2147483648 ≤ a) (h2 : a < 2147483648) (h3 : -2147483648 ≤ b) (h4 : b < 2147483648) (h5 : -2147483648 ≤ c) (h6 : c < 2147483648) : f_P_within (zi a) (zi b) (zi c) s = some (decide (b ≤ a ∧ a ≤ c), s) := by
  rw [f_P_within_eq, b_P_within, zi_lt h1 h2 h3 h4, zi_lt h5 h6 h1 h2]
  by_cases h : a < b
  · rw [cif_pos h, decide_eq_false (by omega)]
  · rw [cif_neg h]
    by_cases h' : c < a
    · rw [cif_pos h', decide_eq_false (by omega)]
    · rw [cif_neg h', decide_eq_true (by omega)]
theorem e_isIn {a b c : Int} {s : Mem} (h1 : -2147483648 ≤ a) (h2 : a < 2147483648) (h3 : -2147483648 ≤ b) (h4 : b < 2147483648) (h5 : -2147483648 ≤ c) (h6 : c < 2147483648) : f_M_isIn (zi a) (zi b) (zi c) s = some (decide (b ≤ a ∧ a ≤ c), s) := by
  rw [f_M_isIn_eq, b_M_isIn, zi_lt h1 h2 h3 h4, zi_lt h5 h6 h1 h2]
  by_cases h : a < b
  · rw [cif_pos h, decide_eq_false (by omega)]
  · rw [cif_neg h]
    by_cases h' : c < a
    · rw [cif_pos h', decide_eq_false (by omega)]
    · rw [cif_neg h', decide_eq_true (by omega)]
theorem e_isMileC {a : Int} {s : Mem} (h1 : -2147483648 ≤ a) (h2 : a < 2147483648) : f_P_isMile (zi a) s = some (decide (0 ≤ a ∧ a ≤ 199), s) := by
  rw [f_P_isMile_eq, b_P_isMile]
  simp (disch := omega) only [zi_neg, zi_add, zi_sub, zi_mul, zi_lt, zi_le, zi_eq, zi_imx, zi_imn, zi_iab, gd_i, vpb_0, vpb_1, b2i_0, b2i_1, b2i_e0, b2i_e1, lf_b, lf_s, lf_n, Option.bind_some, decide_eq_false_iff_not, decide_eq_true_eq, cif_t, cif_f, cif_pos, cif_neg, if_pos, if_neg, zi_ofNat, Nat.zero_add, Nat.reduceAdd, Nat.reduceSub, Nat.reduceMul, Int.reduceAdd, Int.reduceSub, Int.reduceMul, Int.reduceNeg, Bool.false_eq_true, reduceCtorEq, rI_wI_s, rI_wI_f, rI_wI_c, rI_wd_c, rd_wI_c, rd_wd_c, rd_wd_s, rd_wd_n, rI_wJ, rd_wJ, rI_ix, wI_ix, rJ_ix, wJ_ix, zl_0, zl_1, zl_2, zl_3, zl_4, zl_5, zl_6, zl_7, zl_8, zl_9, zl_10, zl_11, zl_12, zl_13, zl_14, zl_15, zl_16, zl_20, zl_21, zl_22, zl_23, zl_24, zl_25, zl_26, zl_27, zl_28, zl_29, zl_30, zl_31, zl_32, zl_37, zl_40, zl_41, zl_42, zl_43, zl_44, zl_45, zl_46, zl_47, zl_48, zl_49, zl_50, zl_51, zl_52, zl_53, zl_54, zl_55, zl_56, zl_57, zl_58, zl_59, zl_60, zl_61, zl_62, zl_63, zl_64, zl_65, zl_74, zl_86, zl_90, zl_97, zl_98, zl_99, zl_100, zl_122, zl_140, zl_141, zl_142, zl_143, zl_145, zl_146, zl_147, zl_149, zl_150, zl_159, zl_160, zl_161, zl_162, zl_178, zl_199, zl_200, zl_201, zl_210, zl_230, zl_240, zl_245, zl_255, zl_256, zl_257, zl_288, zl_312, zl_332, zl_340, zl_356, zl_366, zl_399, zl_400, zl_500, zl_820, zl_966, zl_982, zl_998, zl_999, zl_1000, zl_1002, zl_1003, zl_1004, zl_1012, zl_1013, zl_1014, zl_1015, zl_1016, zl_1017, zl_1018, zl_1020, zl_1021, zl_1024, zl_1030, zl_1850, zl_2412, zl_2613, zl_9999, zl_10000, zl_99999, zl_1000000, e_within]
theorem e_isMileM {a : Int} {s : Mem} (h1 : -2147483648 ≤ a) (h2 : a < 2147483648) : f_M_isMile (zi a) s = some (decide (0 ≤ a ∧ a ≤ 199), s) := by
  rw [f_M_isMile_eq, b_M_isMile]
  simp (disch := omega) only [zi_neg, zi_add, zi_sub, zi_mul, zi_lt, zi_le, zi_eq, zi_imx, zi_imn, zi_iab, gd_i, vpb_0, vpb_1, b2i_0, b2i_1, b2i_e0, b2i_e1, lf_b, lf_s, lf_n, Option.bind_some, decide_eq_false_iff_not, decide_eq_true_eq, cif_t, cif_f, cif_pos, cif_neg, if_pos, if_neg, zi_ofNat, Nat.zero_add, Nat.reduceAdd, Nat.reduceSub, Nat.reduceMul, Int.reduceAdd, Int.reduceSub, Int.reduceMul, Int.reduceNeg, Bool.false_eq_true, reduceCtorEq, rI_wI_s, rI_wI_f, rI_wI_c, rI_wd_c, rd_wI_c, rd_wd_c, rd_wd_s, rd_wd_n, rI_wJ, rd_wJ, rI_ix, wI_ix, rJ_ix, wJ_ix, zl_0, zl_1, zl_2, zl_3, zl_4, zl_5, zl_6, zl_7, zl_8, zl_9, zl_10, zl_11, zl_12, zl_13, zl_14, zl_15, zl_16, zl_20, zl_21, zl_22, zl_23, zl_24, zl_25, zl_26, zl_27, zl_28, zl_29, zl_30, zl_31, zl_32, zl_37, zl_40, zl_41, zl_42, zl_43, zl_44, zl_45, zl_46, zl_47, zl_48, zl_49, zl_50, zl_51, zl_52, zl_53, zl_54, zl_55, zl_56, zl_57, zl_58, zl_59, zl_60, zl_61, zl_62, zl_63, zl_64, zl_65, zl_74, zl_86, zl_90, zl_97, zl_98, zl_99, zl_100, zl_122, zl_140, zl_141, zl_142, zl_143, zl_145, zl_146, zl_147, zl_149, zl_150, zl_159, zl_160, zl_161, zl_162, zl_178, zl_199, zl_200, zl_201, zl_210, zl_230, zl_240, zl_245, zl_255, zl_256, zl_257, zl_288, zl_312, zl_332, zl_340, zl_356, zl_366, zl_399, zl_400, zl_500, zl_820, zl_966, zl_982, zl_998, zl_999, zl_1000, zl_1002, zl_1003, zl_1004, zl_1012, zl_1013, zl_1014, zl_1015, zl_1016, zl_1017, zl_1018, zl_1020, zl_1021, zl_1024, zl_1030, zl_1850, zl_2412, zl_2613, zl_9999, zl_10000, zl_99999, zl_1000000, e_isIn]
theorem e_isPart {a : Int} {s : Mem} (h1 : -2147483648 ≤ a) (h2 : a < 2147483648) : f_P_isPart (zi a) s = some (decide (0 ≤ a ∧ a ≤ 9), s) := by
  rw [f_P_isPart_eq, b_P_isPart]
  simp (disch := omega) only [zi_neg, zi_add, zi_sub, zi_mul, zi_lt, zi_le, zi_eq, zi_imx, zi_imn, zi_iab, gd_i, vpb_0, vpb_1, b2i_0, b2i_1, b2i_e0, b2i_e1, lf_b, lf_s, lf_n, Option.bind_some, decide_eq_false_iff_not, decide_eq_true_eq, cif_t, cif_f, cif_pos, cif_neg, if_pos, if_neg, zi_ofNat, Nat.zero_add, Nat.reduceAdd, Nat.reduceSub, Nat.reduceMul, Int.reduceAdd, Int.reduceSub, Int.reduceMul, Int.reduceNeg, Bool.false_eq_true, reduceCtorEq, rI_wI_s, rI_wI_f, rI_wI_c, rI_wd_c, rd_wI_c, rd_wd_c, rd_wd_s, rd_wd_n, rI_wJ, rd_wJ, rI_ix, wI_ix, rJ_ix, wJ_ix, zl_0, zl_1, zl_2, zl_3, zl_4, zl_5, zl_6, zl_7, zl_8, zl_9, zl_10, zl_11, zl_12, zl_13, zl_14, zl_15, zl_16, zl_20, zl_21, zl_22, zl_23, zl_24, zl_25, zl_26, zl_27, zl_28, zl_29, zl_30, zl_31, zl_32, zl_37, zl_40, zl_41, zl_42, zl_43, zl_44, zl_45, zl_46, zl_47, zl_48, zl_49, zl_50, zl_51, zl_52, zl_53, zl_54, zl_55, zl_56, zl_57, zl_58, zl_59, zl_60, zl_61, zl_62, zl_63, zl_64, zl_65, zl_74, zl_86, zl_90, zl_97, zl_98, zl_99, zl_100, zl_122, zl_140, zl_141, zl_142, zl_143, zl_145, zl_146, zl_147, zl_149, zl_150, zl_159, zl_160, zl_161, zl_162, zl_178, zl_199, zl_200, zl_201, zl_210, zl_230, zl_240, zl_245, zl_255, zl_256, zl_257, zl_288, zl_312, zl_332, zl_340, zl_356, zl_366, zl_399, zl_400, zl_500, zl_820, zl_966, zl_982, zl_998, zl_999, zl_1000, zl_1002, zl_1003, zl_1004, zl_1012, zl_1013, zl_1014, zl_1015, zl_1016, zl_1017, zl_1018, zl_1020, zl_1021, zl_1024, zl_1030, zl_1850, zl_2412, zl_2613, zl_9999, zl_10000, zl_99999, zl_1000000, e_within]
theorem e_isWord {a : Int} {s : Mem} (h1 : -2147483648 ≤ a) (h2 : a < 2147483648) : f_P_isWord (zi a) s = some (decide (0 ≤ a ∧ a ≤ 9), s) := by
  rw [f_P_isWord_eq, b_P_isWord]
  simp (disch := omega) only [zi_neg, zi_add, zi_sub, zi_mul, zi_lt, zi_le, zi_eq, zi_imx, zi_imn, zi_iab, gd_i, vpb_0, vpb_1, b2i_0, b2i_1, b2i_e0, b2i_e1, lf_b, lf_s, lf_n, Option.bind_some, decide_eq_false_iff_not, decide_eq_true_eq, cif_t, cif_f, cif_pos, cif_neg, if_pos, if_neg, zi_ofNat, Nat.zero_add, Nat.reduceAdd, Nat.reduceSub, Nat.reduceMul, Int.reduceAdd, Int.reduceSub, Int.reduceMul, Int.reduceNeg, Bool.false_eq_true, reduceCtorEq, rI_wI_s, rI_wI_f, rI_wI_c, rI_wd_c, rd_wI_c, rd_wd_c, rd_wd_s, rd_wd_n, rI_wJ, rd_wJ, rI_ix, wI_ix, rJ_ix, wJ_ix, zl_0, zl_1, zl_2, zl_3, zl_4, zl_5, zl_6, zl_7, zl_8, zl_9, zl_10, zl_11, zl_12, zl_13, zl_14, zl_15, zl_16, zl_20, zl_21, zl_22, zl_23, zl_24, zl_25, zl_26, zl_27, zl_28, zl_29, zl_30, zl_31, zl_32, zl_37, zl_40, zl_41, zl_42, zl_43, zl_44, zl_45, zl_46, zl_47, zl_48, zl_49, zl_50, zl_51, zl_52, zl_53, zl_54, zl_55, zl_56, zl_57, zl_58, zl_59, zl_60, zl_61, zl_62, zl_63, zl_64, zl_65, zl_74, zl_86, zl_90, zl_97, zl_98, zl_99, zl_100, zl_122, zl_140, zl_141, zl_142, zl_143, zl_145, zl_146, zl_147, zl_149, zl_150, zl_159, zl_160, zl_161, zl_162, zl_178, zl_199, zl_200, zl_201, zl_210, zl_230, zl_240, zl_245, zl_255, zl_256, zl_257, zl_288, zl_312, zl_332, zl_340, zl_356, zl_366, zl_399, zl_400, zl_500, zl_820, zl_966, zl_982, zl_998, zl_999, zl_1000, zl_1002, zl_1003, zl_1004, zl_1012, zl_1013, zl_1014, zl_1015, zl_1016, zl_1017, zl_1018, zl_1020, zl_1021, zl_1024, zl_1030, zl_1850, zl_2412, zl_2613, zl_9999, zl_10000, zl_99999, zl_1000000, e_within]
theorem e_forgetC {k : Nat} {s : Mem} : f_Ke_forget k s = some (wI s k 2 (zi 0)) := by
  rw [f_Ke_forget_eq]
  rfl
theorem e_forgetM {k : Nat} {s : Mem} : f_M_forgets k s = some (wI s k 4 (zi 0)) := by
  rw [f_M_forgets_eq]
  rfl
