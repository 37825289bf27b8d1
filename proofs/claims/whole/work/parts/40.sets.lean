/-! sets: what is owned to, which kiosks serve most -/
theorem sm_bd {M : Int} : ∀ (n : Nat) {f : Int → Int}, (∀ i : Int, 0 ≤ i → i < n → 0 ≤ f i ∧ f i ≤ M) → 0 ≤ sm n f ∧ sm n f ≤ M * n
  | 0, f, _ => by simp [sm]
  | n + 1, f, h => by
    have a := sm_bd n (f := f) (M := M) (fun i h0 h1 => h i h0 (by omega))
    have b := h n (by omega) (by omega)
    have e : M * ((n + 1 : Nat) : Int) = M * n + M := by rw [Int.natCast_add, Int.mul_add]; simp
    rw [e]
    show 0 ≤ sm n f + f n ∧ sm n f + f n ≤ _
    omega
theorem bt_def {v i : Int} : (zi v >>> zi i) &&& zi 1 = bt (zi v) i := rfl
theorem all_bits : ∀ c : Fin 11, ∀ i : Fin 10, i.val < c.val → bb (zi ((2 ^ c.val - 1 : Nat) : Int)) ((i.val : Nat) : Int) = true := by decide +kernel
theorem bb_all {c : Nat} {q i : Int} (hc : c ≤ 10) (hq : q = 2 ^ c) (i0 : 0 ≤ i) (i1 : i < c) : bb (zi (q - 1)) i = true := by
  obtain ⟨m, rfl⟩ : ∃ m : Nat, i = m := ⟨i.toNat, by omega⟩
  have h := all_bits ⟨c, by omega⟩ ⟨m, by omega⟩ (by show m < c; omega)
  have e : q - 1 = ((2 ^ c - 1 : Nat) : Int) := by
    have := Nat.one_le_two_pow (n := c)
    rw [hq, Int.ofNat_sub this]
    simp
  rw [e]
  exact h
theorem bb_andnot {x y : Int32} {i : Int} (h1 : 0 ≤ i) (h2 : i < 32) : bb (x &&& (y ^^^ zi (-1))) i = (bb x i && !bb y i) := by
  unfold bb
  rw [Int32.toBitVec_and, BitVec.getLsbD_and, Int32.toBitVec_xor, BitVec.getLsbD_xor]
  have e : (zi (-1)).toBitVec = BitVec.allOnes 32 := by decide
  rw [e, BitVec.getLsbD_allOnes]
  have e2 : decide (i.toNat < 32) = true := by simp; omega
  rw [e2, Bool.xor_true]
/-- the deeds told for the game of shames, as numbers -/
def ShR (c : Nat) (A B : Int → Int) (s σ : Mem) : Prop := c ≤ 10 ∧ rI s 47 3 = zi c ∧ rd σ 1 60 = zi c ∧ ∀ i : Int, 0 ≤ i → i < c → 0 ≤ A i ∧ A i ≤ 99 ∧ 0 ≤ B i ∧ B i ≤ 9 ∧ rd s 48 i = zi (A i) ∧ rd σ 1 (312 + 2 * i) = zi (A i) ∧ rd s 49 i = zi (B i) ∧ rd σ 1 (312 + 2 * i + 1) = zi (B i)
def wo (c : Nat) (A : Int → Int) (x : Int32) : Int := sm c (fun i => if bb x i then A i else 0)
theorem e_worthOf {c : Nat} {A B : Int → Int} {s σ : Mem} (h : ShR c A B s σ) {v : Int} : f_Th_worthOf 30 (zi v) s = some (zi (wo c A (zi v)), s) := by
  obtain ⟨c1, c2, c3, c4⟩ := h
  have key : ∀ (n : Nat) (j : Nat), j ≤ c → c - j < n → f_Th_worthOf_4 n 30 (zi v) (zi (sm j (fun i => if bb (zi v) i then A i else 0))) (zi j) s = some (zi (wo c A (zi v)), s) := by
    intro n
    induction n with
    | zero => intro j i1 i2; omega
    | succ n ih =>
      intro j i1 i2
      rw [f_Th_worthOf_4]
      by_cases g : j = c
      · subst g
        simp (disch := omega) only [zi_div, zi_and31, zi_neg, zi_add, zi_sub, zi_mul, zi_lt, zi_le, zi_eq, zi_imx, zi_imn, zi_iab, gd_i, vpb_0, vpb_1, b2i_0, b2i_1, b2i_e0, b2i_e1, lf_b, lf_s, lf_n, Option.bind_some, decide_eq_false_iff_not, decide_eq_true_eq, cif_t, cif_f, cif_pos, cif_neg, if_true, if_false, if_pos, if_neg, zi_ofNat, Nat.zero_add, Nat.reduceAdd, Nat.reduceSub, Nat.reduceMul, Int.reduceAdd, Int.reduceSub, Int.reduceMul, Int.reduceNeg, Bool.false_eq_true, reduceCtorEq, rI_wI_s, rI_wI_f, rI_wI_c, rI_wd_c, rd_wI_c, rd_wd_c, rd_wd_s, rd_wd_n, rI_wJ, rd_wJ, rI_ix, wI_ix, rJ_ix, wJ_ix, zl_0, zl_1, zl_2, zl_3, zl_4, zl_5, zl_6, zl_7, zl_8, zl_9, zl_10, zl_11, zl_12, zl_13, zl_14, zl_15, zl_16, zl_20, zl_21, zl_22, zl_23, zl_24, zl_25, zl_26, zl_27, zl_28, zl_29, zl_30, zl_31, zl_32, zl_37, zl_40, zl_41, zl_42, zl_43, zl_44, zl_45, zl_46, zl_47, zl_48, zl_49, zl_50, zl_51, zl_52, zl_53, zl_54, zl_55, zl_56, zl_57, zl_58, zl_59, zl_60, zl_61, zl_62, zl_63, zl_64, zl_65, zl_74, zl_86, zl_90, zl_97, zl_98, zl_99, zl_100, zl_122, zl_140, zl_141, zl_142, zl_143, zl_145, zl_146, zl_147, zl_149, zl_150, zl_159, zl_160, zl_161, zl_162, zl_178, zl_199, zl_200, zl_201, zl_210, zl_230, zl_240, zl_245, zl_255, zl_256, zl_257, zl_288, zl_312, zl_332, zl_340, zl_356, zl_366, zl_399, zl_400, zl_500, zl_820, zl_966, zl_982, zl_998, zl_999, zl_1000, zl_1002, zl_1003, zl_1004, zl_1012, zl_1013, zl_1014, zl_1015, zl_1016, zl_1017, zl_1018, zl_1020, zl_1021, zl_1024, zl_1030, zl_1850, zl_2412, zl_2613, zl_9999, zl_10000, zl_99999, zl_1000000, lc_3, lc_4, lc_5, lc_6, lc_8, lc_9, lc_10, lc_12, lc_13, lc_14, lc_15, lc_16, lc_17, lc_19, lc_20, lc_21, lc_23, lc_24, lc_25, lc_27, lc_28, lc_29, lc_32, lc_33, lc_34, lc_36, lc_37, lc_38, lc_40, lc_41, lc_42, lc_44, lc_45, lc_46, lc_48, lc_49, lc_50, lc_52, lc_53, lc_54, lc_55, lc_56, lc_57, lc_58, lc_60, lc_122, lc_123, lc_124, lc_125, lc_127, lc_129, lc_161, lc_162, lc_163, lc_164, lc_166, lc_167, lc_168, lc_169, lc_170, lc_171, lc_173, lc_174, lc_175, lc_177, lc_190, c2]
        rfl
      · obtain ⟨a1, a2, a3, a4, a5, a6, a7, a8⟩ := c4 j (by omega) (by omega)
        have e1 : f_Ro_first 47 (zi j) s = some (rd s 48 j, s) := e_Ro_first (n := 10) rfl (by decide) c2 (by omega) (by omega) (by omega)
        have e2 := ih (j + 1) (by omega) (by omega)
        rw [show sm (j + 1) (fun i => if bb (zi v) i then A i else 0) = sm j (fun i => if bb (zi v) i then A i else 0) + (if bb (zi v) j then A j else 0) from rfl] at e2
        have e3 := bt_eq (x := zi v) (i := j) (by omega) (by omega)
        cases hb : bb (zi v) j
        · rw [hb] at e2 e3
          simp only [Bool.false_eq_true, if_false, Int.add_zero] at e2 e3
          simp (disch := omega) only [zi_div, zi_and31, zi_neg, zi_add, zi_sub, zi_mul, zi_lt, zi_le, zi_eq, zi_imx, zi_imn, zi_iab, gd_i, vpb_0, vpb_1, b2i_0, b2i_1, b2i_e0, b2i_e1, lf_b, lf_s, lf_n, Option.bind_some, decide_eq_false_iff_not, decide_eq_true_eq, cif_t, cif_f, cif_pos, cif_neg, if_true, if_false, if_pos, if_neg, zi_ofNat, Nat.zero_add, Nat.reduceAdd, Nat.reduceSub, Nat.reduceMul, Int.reduceAdd, Int.reduceSub, Int.reduceMul, Int.reduceNeg, Bool.false_eq_true, reduceCtorEq, rI_wI_s, rI_wI_f, rI_wI_c, rI_wd_c, rd_wI_c, rd_wd_c, rd_wd_s, rd_wd_n, rI_wJ, rd_wJ, rI_ix, wI_ix, rJ_ix, wJ_ix, zl_0, zl_1, zl_2, zl_3, zl_4, zl_5, zl_6, zl_7, zl_8, zl_9, zl_10, zl_11, zl_12, zl_13, zl_14, zl_15, zl_16, zl_20, zl_21, zl_22, zl_23, zl_24, zl_25, zl_26, zl_27, zl_28, zl_29, zl_30, zl_31, zl_32, zl_37, zl_40, zl_41, zl_42, zl_43, zl_44, zl_45, zl_46, zl_47, zl_48, zl_49, zl_50, zl_51, zl_52, zl_53, zl_54, zl_55, zl_56, zl_57, zl_58, zl_59, zl_60, zl_61, zl_62, zl_63, zl_64, zl_65, zl_74, zl_86, zl_90, zl_97, zl_98, zl_99, zl_100, zl_122, zl_140, zl_141, zl_142, zl_143, zl_145, zl_146, zl_147, zl_149, zl_150, zl_159, zl_160, zl_161, zl_162, zl_178, zl_199, zl_200, zl_201, zl_210, zl_230, zl_240, zl_245, zl_255, zl_256, zl_257, zl_288, zl_312, zl_332, zl_340, zl_356, zl_366, zl_399, zl_400, zl_500, zl_820, zl_966, zl_982, zl_998, zl_999, zl_1000, zl_1002, zl_1003, zl_1004, zl_1012, zl_1013, zl_1014, zl_1015, zl_1016, zl_1017, zl_1018, zl_1020, zl_1021, zl_1024, zl_1030, zl_1850, zl_2412, zl_2613, zl_9999, zl_10000, zl_99999, zl_1000000, lc_3, lc_4, lc_5, lc_6, lc_8, lc_9, lc_10, lc_12, lc_13, lc_14, lc_15, lc_16, lc_17, lc_19, lc_20, lc_21, lc_23, lc_24, lc_25, lc_27, lc_28, lc_29, lc_32, lc_33, lc_34, lc_36, lc_37, lc_38, lc_40, lc_41, lc_42, lc_44, lc_45, lc_46, lc_48, lc_49, lc_50, lc_52, lc_53, lc_54, lc_55, lc_56, lc_57, lc_58, lc_60, lc_122, lc_123, lc_124, lc_125, lc_127, lc_129, lc_161, lc_162, lc_163, lc_164, lc_166, lc_167, lc_168, lc_169, lc_170, lc_171, lc_173, lc_174, lc_175, lc_177, lc_190, c2, bt_def, e3, Int.add_zero]
          exact e2
        · rw [hb] at e2 e3
          simp only [if_true] at e2 e3
          simp (disch := omega) only [zi_div, zi_and31, zi_neg, zi_add, zi_sub, zi_mul, zi_lt, zi_le, zi_eq, zi_imx, zi_imn, zi_iab, gd_i, vpb_0, vpb_1, b2i_0, b2i_1, b2i_e0, b2i_e1, lf_b, lf_s, lf_n, Option.bind_some, decide_eq_false_iff_not, decide_eq_true_eq, cif_t, cif_f, cif_pos, cif_neg, if_true, if_false, if_pos, if_neg, zi_ofNat, Nat.zero_add, Nat.reduceAdd, Nat.reduceSub, Nat.reduceMul, Int.reduceAdd, Int.reduceSub, Int.reduceMul, Int.reduceNeg, Bool.false_eq_true, reduceCtorEq, rI_wI_s, rI_wI_f, rI_wI_c, rI_wd_c, rd_wI_c, rd_wd_c, rd_wd_s, rd_wd_n, rI_wJ, rd_wJ, rI_ix, wI_ix, rJ_ix, wJ_ix, zl_0, zl_1, zl_2, zl_3, zl_4, zl_5, zl_6, zl_7, zl_8, zl_9, zl_10, zl_11, zl_12, zl_13, zl_14, zl_15, zl_16, zl_20, zl_21, zl_22, zl_23, zl_24, zl_25, zl_26, zl_27, zl_28, zl_29, zl_30, zl_31, zl_32, zl_37, zl_40, zl_41, zl_42, zl_43, zl_44, zl_45, zl_46, zl_47, zl_48, zl_49, zl_50, zl_51, zl_52, zl_53, zl_54, zl_55, zl_56, zl_57, zl_58, zl_59, zl_60, zl_61, zl_62, zl_63, zl_64, zl_65, zl_74, zl_86, zl_90, zl_97, zl_98, zl_99, zl_100, zl_122, zl_140, zl_141, zl_142, zl_143, zl_145, zl_146, zl_147, zl_149, zl_150, zl_159, zl_160, zl_161, zl_162, zl_178, zl_199, zl_200, zl_201, zl_210, zl_230, zl_240, zl_245, zl_255, zl_256, zl_257, zl_288, zl_312, zl_332, zl_340, zl_356, zl_366, zl_399, zl_400, zl_500, zl_820, zl_966, zl_982, zl_998, zl_999, zl_1000, zl_1002, zl_1003, zl_1004, zl_1012, zl_1013, zl_1014, zl_1015, zl_1016, zl_1017, zl_1018, zl_1020, zl_1021, zl_1024, zl_1030, zl_1850, zl_2412, zl_2613, zl_9999, zl_10000, zl_99999, zl_1000000, lc_3, lc_4, lc_5, lc_6, lc_8, lc_9, lc_10, lc_12, lc_13, lc_14, lc_15, lc_16, lc_17, lc_19, lc_20, lc_21, lc_23, lc_24, lc_25, lc_27, lc_28, lc_29, lc_32, lc_33, lc_34, lc_36, lc_37, lc_38, lc_40, lc_41, lc_42, lc_44, lc_45, lc_46, lc_48, lc_49, lc_50, lc_52, lc_53, lc_54, lc_55, lc_56, lc_57, lc_58, lc_60, lc_122, lc_123, lc_124, lc_125, lc_127, lc_129, lc_161, lc_162, lc_163, lc_164, lc_166, lc_167, lc_168, lc_169, lc_170, lc_171, lc_173, lc_174, lc_175, lc_177, lc_190, c2, bt_def, e3, e1, a5]
          exact e2
  rw [f_Th_worthOf_eq, b_Th_worthOf]
  exact key FU 0 (by omega) (by have := FU_ge; omega)
theorem e_hiddenBy {c : Nat} {A B : Int → Int} {s σ : Mem} (h : ShR c A B s σ) {v : Int} : f_Th_hiddenBy 30 (zi v) s = some (zi (sm c (fun i => if bb (zi v) i then 0 else B i)), s) := by
  obtain ⟨c1, c2, c3, c4⟩ := h
  have key : ∀ (n : Nat) (j : Nat), j ≤ c → c - j < n → f_Th_hiddenBy_4 n 30 (zi v) (zi (sm j (fun i => if bb (zi v) i then 0 else B i))) (zi j) s = some (zi (sm c (fun i => if bb (zi v) i then 0 else B i)), s) := by
    intro n
    induction n with
    | zero => intro j i1 i2; omega
    | succ n ih =>
      intro j i1 i2
      rw [f_Th_hiddenBy_4]
      by_cases g : j = c
      · subst g
        simp (disch := omega) only [zi_div, zi_and31, zi_neg, zi_add, zi_sub, zi_mul, zi_lt, zi_le, zi_eq, zi_imx, zi_imn, zi_iab, gd_i, vpb_0, vpb_1, b2i_0, b2i_1, b2i_e0, b2i_e1, lf_b, lf_s, lf_n, Option.bind_some, decide_eq_false_iff_not, decide_eq_true_eq, cif_t, cif_f, cif_pos, cif_neg, if_true, if_false, if_pos, if_neg, zi_ofNat, Nat.zero_add, Nat.reduceAdd, Nat.reduceSub, Nat.reduceMul, Int.reduceAdd, Int.reduceSub, Int.reduceMul, Int.reduceNeg, Bool.false_eq_true, reduceCtorEq, rI_wI_s, rI_wI_f, rI_wI_c, rI_wd_c, rd_wI_c, rd_wd_c, rd_wd_s, rd_wd_n, rI_wJ, rd_wJ, rI_ix, wI_ix, rJ_ix, wJ_ix, zl_0, zl_1, zl_2, zl_3, zl_4, zl_5, zl_6, zl_7, zl_8, zl_9, zl_10, zl_11, zl_12, zl_13, zl_14, zl_15, zl_16, zl_20, zl_21, zl_22, zl_23, zl_24, zl_25, zl_26, zl_27, zl_28, zl_29, zl_30, zl_31, zl_32, zl_37, zl_40, zl_41, zl_42, zl_43, zl_44, zl_45, zl_46, zl_47, zl_48, zl_49, zl_50, zl_51, zl_52, zl_53, zl_54, zl_55, zl_56, zl_57, zl_58, zl_59, zl_60, zl_61, zl_62, zl_63, zl_64, zl_65, zl_74, zl_86, zl_90, zl_97, zl_98, zl_99, zl_100, zl_122, zl_140, zl_141, zl_142, zl_143, zl_145, zl_146, zl_147, zl_149, zl_150, zl_159, zl_160, zl_161, zl_162, zl_178, zl_199, zl_200, zl_201, zl_210, zl_230, zl_240, zl_245, zl_255, zl_256, zl_257, zl_288, zl_312, zl_332, zl_340, zl_356, zl_366, zl_399, zl_400, zl_500, zl_820, zl_966, zl_982, zl_998, zl_999, zl_1000, zl_1002, zl_1003, zl_1004, zl_1012, zl_1013, zl_1014, zl_1015, zl_1016, zl_1017, zl_1018, zl_1020, zl_1021, zl_1024, zl_1030, zl_1850, zl_2412, zl_2613, zl_9999, zl_10000, zl_99999, zl_1000000, lc_3, lc_4, lc_5, lc_6, lc_8, lc_9, lc_10, lc_12, lc_13, lc_14, lc_15, lc_16, lc_17, lc_19, lc_20, lc_21, lc_23, lc_24, lc_25, lc_27, lc_28, lc_29, lc_32, lc_33, lc_34, lc_36, lc_37, lc_38, lc_40, lc_41, lc_42, lc_44, lc_45, lc_46, lc_48, lc_49, lc_50, lc_52, lc_53, lc_54, lc_55, lc_56, lc_57, lc_58, lc_60, lc_122, lc_123, lc_124, lc_125, lc_127, lc_129, lc_161, lc_162, lc_163, lc_164, lc_166, lc_167, lc_168, lc_169, lc_170, lc_171, lc_173, lc_174, lc_175, lc_177, lc_190, c2]
      · obtain ⟨a1, a2, a3, a4, a5, a6, a7, a8⟩ := c4 j (by omega) (by omega)
        have e1 : f_Ro_second 47 (zi j) s = some (rd s 49 j, s) := e_Ro_second (n := 10) rfl (by decide) c2 (by omega) (by omega) (by omega)
        have e2 := ih (j + 1) (by omega) (by omega)
        rw [show sm (j + 1) (fun i => if bb (zi v) i then 0 else B i) = sm j (fun i => if bb (zi v) i then 0 else B i) + (if bb (zi v) j then 0 else B j) from rfl] at e2
        have e3 := bt_eq (x := zi v) (i := j) (by omega) (by omega)
        cases hb : bb (zi v) j
        · rw [hb] at e2 e3
          simp only [Bool.false_eq_true, if_false] at e2 e3
          simp (disch := omega) only [zi_div, zi_and31, zi_neg, zi_add, zi_sub, zi_mul, zi_lt, zi_le, zi_eq, zi_imx, zi_imn, zi_iab, gd_i, vpb_0, vpb_1, b2i_0, b2i_1, b2i_e0, b2i_e1, lf_b, lf_s, lf_n, Option.bind_some, decide_eq_false_iff_not, decide_eq_true_eq, cif_t, cif_f, cif_pos, cif_neg, if_true, if_false, if_pos, if_neg, zi_ofNat, Nat.zero_add, Nat.reduceAdd, Nat.reduceSub, Nat.reduceMul, Int.reduceAdd, Int.reduceSub, Int.reduceMul, Int.reduceNeg, Bool.false_eq_true, reduceCtorEq, rI_wI_s, rI_wI_f, rI_wI_c, rI_wd_c, rd_wI_c, rd_wd_c, rd_wd_s, rd_wd_n, rI_wJ, rd_wJ, rI_ix, wI_ix, rJ_ix, wJ_ix, zl_0, zl_1, zl_2, zl_3, zl_4, zl_5, zl_6, zl_7, zl_8, zl_9, zl_10, zl_11, zl_12, zl_13, zl_14, zl_15, zl_16, zl_20, zl_21, zl_22, zl_23, zl_24, zl_25, zl_26, zl_27, zl_28, zl_29, zl_30, zl_31, zl_32, zl_37, zl_40, zl_41, zl_42, zl_43, zl_44, zl_45, zl_46, zl_47, zl_48, zl_49, zl_50, zl_51, zl_52, zl_53, zl_54, zl_55, zl_56, zl_57, zl_58, zl_59, zl_60, zl_61, zl_62, zl_63, zl_64, zl_65, zl_74, zl_86, zl_90, zl_97, zl_98, zl_99, zl_100, zl_122, zl_140, zl_141, zl_142, zl_143, zl_145, zl_146, zl_147, zl_149, zl_150, zl_159, zl_160, zl_161, zl_162, zl_178, zl_199, zl_200, zl_201, zl_210, zl_230, zl_240, zl_245, zl_255, zl_256, zl_257, zl_288, zl_312, zl_332, zl_340, zl_356, zl_366, zl_399, zl_400, zl_500, zl_820, zl_966, zl_982, zl_998, zl_999, zl_1000, zl_1002, zl_1003, zl_1004, zl_1012, zl_1013, zl_1014, zl_1015, zl_1016, zl_1017, zl_1018, zl_1020, zl_1021, zl_1024, zl_1030, zl_1850, zl_2412, zl_2613, zl_9999, zl_10000, zl_99999, zl_1000000, lc_3, lc_4, lc_5, lc_6, lc_8, lc_9, lc_10, lc_12, lc_13, lc_14, lc_15, lc_16, lc_17, lc_19, lc_20, lc_21, lc_23, lc_24, lc_25, lc_27, lc_28, lc_29, lc_32, lc_33, lc_34, lc_36, lc_37, lc_38, lc_40, lc_41, lc_42, lc_44, lc_45, lc_46, lc_48, lc_49, lc_50, lc_52, lc_53, lc_54, lc_55, lc_56, lc_57, lc_58, lc_60, lc_122, lc_123, lc_124, lc_125, lc_127, lc_129, lc_161, lc_162, lc_163, lc_164, lc_166, lc_167, lc_168, lc_169, lc_170, lc_171, lc_173, lc_174, lc_175, lc_177, lc_190, c2, bt_def, e3, e1, a7]
          exact e2
        · rw [hb] at e2 e3
          simp only [if_true, Int.add_zero] at e2 e3
          simp (disch := omega) only [zi_div, zi_and31, zi_neg, zi_add, zi_sub, zi_mul, zi_lt, zi_le, zi_eq, zi_imx, zi_imn, zi_iab, gd_i, vpb_0, vpb_1, b2i_0, b2i_1, b2i_e0, b2i_e1, lf_b, lf_s, lf_n, Option.bind_some, decide_eq_false_iff_not, decide_eq_true_eq, cif_t, cif_f, cif_pos, cif_neg, if_true, if_false, if_pos, if_neg, zi_ofNat, Nat.zero_add, Nat.reduceAdd, Nat.reduceSub, Nat.reduceMul, Int.reduceAdd, Int.reduceSub, Int.reduceMul, Int.reduceNeg, Bool.false_eq_true, reduceCtorEq, rI_wI_s, rI_wI_f, rI_wI_c, rI_wd_c, rd_wI_c, rd_wd_c, rd_wd_s, rd_wd_n, rI_wJ, rd_wJ, rI_ix, wI_ix, rJ_ix, wJ_ix, zl_0, zl_1, zl_2, zl_3, zl_4, zl_5, zl_6, zl_7, zl_8, zl_9, zl_10, zl_11, zl_12, zl_13, zl_14, zl_15, zl_16, zl_20, zl_21, zl_22, zl_23, zl_24, zl_25, zl_26, zl_27, zl_28, zl_29, zl_30, zl_31, zl_32, zl_37, zl_40, zl_41, zl_42, zl_43, zl_44, zl_45, zl_46, zl_47, zl_48, zl_49, zl_50, zl_51, zl_52, zl_53, zl_54, zl_55, zl_56, zl_57, zl_58, zl_59, zl_60, zl_61, zl_62, zl_63, zl_64, zl_65, zl_74, zl_86, zl_90, zl_97, zl_98, zl_99, zl_100, zl_122, zl_140, zl_141, zl_142, zl_143, zl_145, zl_146, zl_147, zl_149, zl_150, zl_159, zl_160, zl_161, zl_162, zl_178, zl_199, zl_200, zl_201, zl_210, zl_230, zl_240, zl_245, zl_255, zl_256, zl_257, zl_288, zl_312, zl_332, zl_340, zl_356, zl_366, zl_399, zl_400, zl_500, zl_820, zl_966, zl_982, zl_998, zl_999, zl_1000, zl_1002, zl_1003, zl_1004, zl_1012, zl_1013, zl_1014, zl_1015, zl_1016, zl_1017, zl_1018, zl_1020, zl_1021, zl_1024, zl_1030, zl_1850, zl_2412, zl_2613, zl_9999, zl_10000, zl_99999, zl_1000000, lc_3, lc_4, lc_5, lc_6, lc_8, lc_9, lc_10, lc_12, lc_13, lc_14, lc_15, lc_16, lc_17, lc_19, lc_20, lc_21, lc_23, lc_24, lc_25, lc_27, lc_28, lc_29, lc_32, lc_33, lc_34, lc_36, lc_37, lc_38, lc_40, lc_41, lc_42, lc_44, lc_45, lc_46, lc_48, lc_49, lc_50, lc_52, lc_53, lc_54, lc_55, lc_56, lc_57, lc_58, lc_60, lc_122, lc_123, lc_124, lc_125, lc_127, lc_129, lc_161, lc_162, lc_163, lc_164, lc_166, lc_167, lc_168, lc_169, lc_170, lc_171, lc_173, lc_174, lc_175, lc_177, lc_190, c2, bt_def, e3, Int.add_zero]
          exact e2
  rw [f_Th_hiddenBy_eq, b_Th_hiddenBy]
  exact key FU 0 (by omega) (by have := FU_ge; omega)
theorem e_sumOf {c : Nat} {A B : Int → Int} {s σ : Mem} (h : ShR c A B s σ) {x : Int32} {k : Int} (hk : k = 0 ∨ k = 1) : f_M_sumOf 0 x (zi k) σ = some (zi (sm c (fun i => if bb x i then (if k = 0 then A i else B i) else 0)), σ) := by
  obtain ⟨c1, c2, c3, c4⟩ := h
  have key : ∀ (n : Nat) (j : Nat), j ≤ c → c - j < n → f_M_sumOf_5 n 0 x (zi k) (zi (sm j (fun i => if bb x i then (if k = 0 then A i else B i) else 0))) (zi j) σ = some (zi (sm c (fun i => if bb x i then (if k = 0 then A i else B i) else 0)), σ) := by
    intro n
    induction n with
    | zero => intro j i1 i2; omega
    | succ n ih =>
      intro j i1 i2
      rw [f_M_sumOf_5]
      by_cases g : j = c
      · subst g
        simp (disch := omega) only [zi_div, zi_and31, zi_neg, zi_add, zi_sub, zi_mul, zi_lt, zi_le, zi_eq, zi_imx, zi_imn, zi_iab, gd_i, vpb_0, vpb_1, b2i_0, b2i_1, b2i_e0, b2i_e1, lf_b, lf_s, lf_n, Option.bind_some, decide_eq_false_iff_not, decide_eq_true_eq, cif_t, cif_f, cif_pos, cif_neg, if_true, if_false, if_pos, if_neg, zi_ofNat, Nat.zero_add, Nat.reduceAdd, Nat.reduceSub, Nat.reduceMul, Int.reduceAdd, Int.reduceSub, Int.reduceMul, Int.reduceNeg, Bool.false_eq_true, reduceCtorEq, rI_wI_s, rI_wI_f, rI_wI_c, rI_wd_c, rd_wI_c, rd_wd_c, rd_wd_s, rd_wd_n, rI_wJ, rd_wJ, rI_ix, wI_ix, rJ_ix, wJ_ix, zl_0, zl_1, zl_2, zl_3, zl_4, zl_5, zl_6, zl_7, zl_8, zl_9, zl_10, zl_11, zl_12, zl_13, zl_14, zl_15, zl_16, zl_20, zl_21, zl_22, zl_23, zl_24, zl_25, zl_26, zl_27, zl_28, zl_29, zl_30, zl_31, zl_32, zl_37, zl_40, zl_41, zl_42, zl_43, zl_44, zl_45, zl_46, zl_47, zl_48, zl_49, zl_50, zl_51, zl_52, zl_53, zl_54, zl_55, zl_56, zl_57, zl_58, zl_59, zl_60, zl_61, zl_62, zl_63, zl_64, zl_65, zl_74, zl_86, zl_90, zl_97, zl_98, zl_99, zl_100, zl_122, zl_140, zl_141, zl_142, zl_143, zl_145, zl_146, zl_147, zl_149, zl_150, zl_159, zl_160, zl_161, zl_162, zl_178, zl_199, zl_200, zl_201, zl_210, zl_230, zl_240, zl_245, zl_255, zl_256, zl_257, zl_288, zl_312, zl_332, zl_340, zl_356, zl_366, zl_399, zl_400, zl_500, zl_820, zl_966, zl_982, zl_998, zl_999, zl_1000, zl_1002, zl_1003, zl_1004, zl_1012, zl_1013, zl_1014, zl_1015, zl_1016, zl_1017, zl_1018, zl_1020, zl_1021, zl_1024, zl_1030, zl_1850, zl_2412, zl_2613, zl_9999, zl_10000, zl_99999, zl_1000000, lm_1, lm_2, lm_3, lm_4, lm_5, lm_6, lm_7, lm_8, lm_9, lm_10, lm_11, lm_12, lm_13, lm_14, lm_15, c3]
      · obtain ⟨a1, a2, a3, a4, a5, a6, a7, a8⟩ := c4 j (by omega) (by omega)
        have e2 := ih (j + 1) (by omega) (by omega)
        rw [show sm (j + 1) (fun i => if bb x i then (if k = 0 then A i else B i) else 0) = sm j (fun i => if bb x i then (if k = 0 then A i else B i) else 0) + (if bb x j then (if k = 0 then A j else B j) else 0) from rfl] at e2
        have e3 : (x >>> zi j) &&& zi 1 = _ := bt_eq (x := x) (i := j) (by omega) (by omega)
        generalize sm j (fun i => if bb x i then (if k = 0 then A i else B i) else 0) = S at e2 ⊢
        cases hb : bb x j
        · rw [hb] at e2 e3
          simp only [Bool.false_eq_true, if_false, Int.add_zero] at e2 e3
          simp (disch := omega) only [zi_div, zi_and31, zi_neg, zi_add, zi_sub, zi_mul, zi_lt, zi_le, zi_eq, zi_imx, zi_imn, zi_iab, gd_i, vpb_0, vpb_1, b2i_0, b2i_1, b2i_e0, b2i_e1, lf_b, lf_s, lf_n, Option.bind_some, decide_eq_false_iff_not, decide_eq_true_eq, cif_t, cif_f, cif_pos, cif_neg, if_true, if_false, if_pos, if_neg, zi_ofNat, Nat.zero_add, Nat.reduceAdd, Nat.reduceSub, Nat.reduceMul, Int.reduceAdd, Int.reduceSub, Int.reduceMul, Int.reduceNeg, Bool.false_eq_true, reduceCtorEq, rI_wI_s, rI_wI_f, rI_wI_c, rI_wd_c, rd_wI_c, rd_wd_c, rd_wd_s, rd_wd_n, rI_wJ, rd_wJ, rI_ix, wI_ix, rJ_ix, wJ_ix, zl_0, zl_1, zl_2, zl_3, zl_4, zl_5, zl_6, zl_7, zl_8, zl_9, zl_10, zl_11, zl_12, zl_13, zl_14, zl_15, zl_16, zl_20, zl_21, zl_22, zl_23, zl_24, zl_25, zl_26, zl_27, zl_28, zl_29, zl_30, zl_31, zl_32, zl_37, zl_40, zl_41, zl_42, zl_43, zl_44, zl_45, zl_46, zl_47, zl_48, zl_49, zl_50, zl_51, zl_52, zl_53, zl_54, zl_55, zl_56, zl_57, zl_58, zl_59, zl_60, zl_61, zl_62, zl_63, zl_64, zl_65, zl_74, zl_86, zl_90, zl_97, zl_98, zl_99, zl_100, zl_122, zl_140, zl_141, zl_142, zl_143, zl_145, zl_146, zl_147, zl_149, zl_150, zl_159, zl_160, zl_161, zl_162, zl_178, zl_199, zl_200, zl_201, zl_210, zl_230, zl_240, zl_245, zl_255, zl_256, zl_257, zl_288, zl_312, zl_332, zl_340, zl_356, zl_366, zl_399, zl_400, zl_500, zl_820, zl_966, zl_982, zl_998, zl_999, zl_1000, zl_1002, zl_1003, zl_1004, zl_1012, zl_1013, zl_1014, zl_1015, zl_1016, zl_1017, zl_1018, zl_1020, zl_1021, zl_1024, zl_1030, zl_1850, zl_2412, zl_2613, zl_9999, zl_10000, zl_99999, zl_1000000, lm_1, lm_2, lm_3, lm_4, lm_5, lm_6, lm_7, lm_8, lm_9, lm_10, lm_11, lm_12, lm_13, lm_14, lm_15, c3, e3, Int.add_zero]
          exact e2
        · rw [hb] at e2 e3
          simp only [if_true] at e2 e3
          rcases hk with rfl | rfl
          · simp only [if_true] at e2
            simp (disch := omega) only [zi_div, zi_and31, zi_neg, zi_add, zi_sub, zi_mul, zi_lt, zi_le, zi_eq, zi_imx, zi_imn, zi_iab, gd_i, vpb_0, vpb_1, b2i_0, b2i_1, b2i_e0, b2i_e1, lf_b, lf_s, lf_n, Option.bind_some, decide_eq_false_iff_not, decide_eq_true_eq, cif_t, cif_f, cif_pos, cif_neg, if_true, if_false, if_pos, if_neg, zi_ofNat, Nat.zero_add, Nat.reduceAdd, Nat.reduceSub, Nat.reduceMul, Int.reduceAdd, Int.reduceSub, Int.reduceMul, Int.reduceNeg, Bool.false_eq_true, reduceCtorEq, rI_wI_s, rI_wI_f, rI_wI_c, rI_wd_c, rd_wI_c, rd_wd_c, rd_wd_s, rd_wd_n, rI_wJ, rd_wJ, rI_ix, wI_ix, rJ_ix, wJ_ix, zl_0, zl_1, zl_2, zl_3, zl_4, zl_5, zl_6, zl_7, zl_8, zl_9, zl_10, zl_11, zl_12, zl_13, zl_14, zl_15, zl_16, zl_20, zl_21, zl_22, zl_23, zl_24, zl_25, zl_26, zl_27, zl_28, zl_29, zl_30, zl_31, zl_32, zl_37, zl_40, zl_41, zl_42, zl_43, zl_44, zl_45, zl_46, zl_47, zl_48, zl_49, zl_50, zl_51, zl_52, zl_53, zl_54, zl_55, zl_56, zl_57, zl_58, zl_59, zl_60, zl_61, zl_62, zl_63, zl_64, zl_65, zl_74, zl_86, zl_90, zl_97, zl_98, zl_99, zl_100, zl_122, zl_140, zl_141, zl_142, zl_143, zl_145, zl_146, zl_147, zl_149, zl_150, zl_159, zl_160, zl_161, zl_162, zl_178, zl_199, zl_200, zl_201, zl_210, zl_230, zl_240, zl_245, zl_255, zl_256, zl_257, zl_288, zl_312, zl_332, zl_340, zl_356, zl_366, zl_399, zl_400, zl_500, zl_820, zl_966, zl_982, zl_998, zl_999, zl_1000, zl_1002, zl_1003, zl_1004, zl_1012, zl_1013, zl_1014, zl_1015, zl_1016, zl_1017, zl_1018, zl_1020, zl_1021, zl_1024, zl_1030, zl_1850, zl_2412, zl_2613, zl_9999, zl_10000, zl_99999, zl_1000000, lm_1, lm_2, lm_3, lm_4, lm_5, lm_6, lm_7, lm_8, lm_9, lm_10, lm_11, lm_12, lm_13, lm_14, lm_15, c3, e3, Int.add_zero, a6]
            exact e2
          · rw [if_neg (by decide)] at e2
            simp (disch := omega) only [zi_div, zi_and31, zi_neg, zi_add, zi_sub, zi_mul, zi_lt, zi_le, zi_eq, zi_imx, zi_imn, zi_iab, gd_i, vpb_0, vpb_1, b2i_0, b2i_1, b2i_e0, b2i_e1, lf_b, lf_s, lf_n, Option.bind_some, decide_eq_false_iff_not, decide_eq_true_eq, cif_t, cif_f, cif_pos, cif_neg, if_true, if_false, if_pos, if_neg, zi_ofNat, Nat.zero_add, Nat.reduceAdd, Nat.reduceSub, Nat.reduceMul, Int.reduceAdd, Int.reduceSub, Int.reduceMul, Int.reduceNeg, Bool.false_eq_true, reduceCtorEq, rI_wI_s, rI_wI_f, rI_wI_c, rI_wd_c, rd_wI_c, rd_wd_c, rd_wd_s, rd_wd_n, rI_wJ, rd_wJ, rI_ix, wI_ix, rJ_ix, wJ_ix, zl_0, zl_1, zl_2, zl_3, zl_4, zl_5, zl_6, zl_7, zl_8, zl_9, zl_10, zl_11, zl_12, zl_13, zl_14, zl_15, zl_16, zl_20, zl_21, zl_22, zl_23, zl_24, zl_25, zl_26, zl_27, zl_28, zl_29, zl_30, zl_31, zl_32, zl_37, zl_40, zl_41, zl_42, zl_43, zl_44, zl_45, zl_46, zl_47, zl_48, zl_49, zl_50, zl_51, zl_52, zl_53, zl_54, zl_55, zl_56, zl_57, zl_58, zl_59, zl_60, zl_61, zl_62, zl_63, zl_64, zl_65, zl_74, zl_86, zl_90, zl_97, zl_98, zl_99, zl_100, zl_122, zl_140, zl_141, zl_142, zl_143, zl_145, zl_146, zl_147, zl_149, zl_150, zl_159, zl_160, zl_161, zl_162, zl_178, zl_199, zl_200, zl_201, zl_210, zl_230, zl_240, zl_245, zl_255, zl_256, zl_257, zl_288, zl_312, zl_332, zl_340, zl_356, zl_366, zl_399, zl_400, zl_500, zl_820, zl_966, zl_982, zl_998, zl_999, zl_1000, zl_1002, zl_1003, zl_1004, zl_1012, zl_1013, zl_1014, zl_1015, zl_1016, zl_1017, zl_1018, zl_1020, zl_1021, zl_1024, zl_1030, zl_1850, zl_2412, zl_2613, zl_9999, zl_10000, zl_99999, zl_1000000, lm_1, lm_2, lm_3, lm_4, lm_5, lm_6, lm_7, lm_8, lm_9, lm_10, lm_11, lm_12, lm_13, lm_14, lm_15, c3, e3, a8]
            exact e2
  rw [f_M_sumOf_eq, b_M_sumOf]
  exact key FU 0 (by omega) (by have := FU_ge; omega)
/-- the least by w, then by itself, of S -/
def Le2 (S : Int → Prop) (w : Int → Int) (r : Int) : Prop := S r ∧ ∀ v, S v → w r < w v ∨ (w r = w v ∧ r ≤ v)
theorem Le2.uq {S S' : Int → Prop} {w : Int → Int} {r r' : Int} (h : Le2 S w r) (h' : Le2 S' w r') (hS : ∀ v, S v ↔ S' v) : r = r' := by
  have a := h.2 r' ((hS _).mpr h'.1)
  have b := h'.2 r ((hS _).mp h.1)
  omega
theorem pr_ownsUp {s σ : Mem} (R : RC s σ) (h y : Int32) : Ok2 (f_P_ownsUp 0 h y s) (f_M_ownsUp 0 h y σ) QI := by
  obtain ⟨h, rfl, h1, h2⟩ := zi_self h
  obtain ⟨y, rfl, y1, y2⟩ := zi_self y
  obtain ⟨-, -, -, -, he, -, -, -⟩ := R.h
  obtain ⟨c, c1, c2, c3, c4, c5⟩ := id he
  simp only [Nat.reduceAdd] at c3
  obtain ⟨c, rfl⟩ : ∃ c' : Nat, c = c' := ⟨c.toNat, by omega⟩
  have hS : ShR c (fun i => (rd s 48 i).toInt) (fun i => (rd s 49 i).toInt) s σ := by
    refine ⟨by omega, c3, c4, fun i i0 i1 => ?_⟩
    obtain ⟨a, b, a1, a2, a3, a4, a5, a6, a7, a8⟩ := c5 i i0 i1
    simp only [Nat.reduceAdd] at a5 a7
    dsimp only
    rw [a5, a7, zi_toInt (by omega) (by omega), zi_toInt (by omega) (by omega)]
    exact ⟨a1, a2, a3, a4, rfl, a6, rfl, a8⟩
  generalize (fun i => (rd s 48 i).toInt) = A at hS
  generalize (fun i => (rd s 49 i).toInt) = B at hS
  obtain ⟨q, q1, q2, q3, q4⟩ := sh_p (n := (c : Int)) (by omega) (by omega)
  have hq2 : q = 2 ^ c := by rw [q2]; simp
  have wb : ∀ v : Int, 0 ≤ wo c A (zi v) ∧ wo c A (zi v) ≤ 990 := by
    intro v
    have := sm_bd (M := 99) c (f := fun i => if bb (zi v) i then A i else 0) (fun i i0 i1 => by
      obtain ⟨a1, a2, -⟩ := hS.2.2.2 i i0 i1
      split <;> omega)
    unfold wo
    omega
  have hb : ∀ v : Int, 0 ≤ sm c (fun i => if bb (zi v) i then 0 else B i) ∧ sm c (fun i => if bb (zi v) i then 0 else B i) ≤ 90 := by
    intro v
    have := sm_bd (M := 9) c (f := fun i => if bb (zi v) i then 0 else B i) (fun i i0 i1 => by
      obtain ⟨-, -, a1, a2, -⟩ := hS.2.2.2 i i0 i1
      split <;> omega)
    omega
  have hall : sm c (fun i => if bb (zi (q - 1)) i then 0 else B i) = 0 := sm_zero c (fun i i0 i1 => by rw [bb_all (by omega) hq2 i0 i1]; rfl)
  have eW : ∀ v : Int, f_Th_worthOf 30 (zi v) s = some (zi (wo c A (zi v)), s) := fun v => e_worthOf hS
  have eH : ∀ v : Int, f_Th_hiddenBy 30 (zi v) s = some (zi (sm c (fun i => if bb (zi v) i then 0 else B i)), s) := fun v => e_hiddenBy hS
  have eM : ∀ v : Int, f_M_sumOf 0 (zi v) (zi 0) σ = some (zi (wo c A (zi v)), σ) := fun v => by
    rw [e_sumOf hS (k := 0) (Or.inl rfl)]
    rfl
  have eN : ∀ v : Int, f_M_sumOf 0 (zi (q - 1) &&& (zi v ^^^ zi (-1))) (zi 1) σ = some (zi (sm c (fun i => if bb (zi v) i then 0 else B i)), σ) := fun v => by
    rw [e_sumOf hS (k := 1) (Or.inr rfl)]
    congr 3
    refine sm_cg (fun i i0 i1 => ?_)
    rw [bb_andnot i0 (by omega), bb_all (by omega) hq2 i0 i1, if_neg (by decide : ¬ ((1 : Int) = 0))]
    cases bb (zi v) i <;> rfl
  generalize hhi : (fun v : Int => sm c (fun i => if bb (zi v) i then 0 else B i)) = hi at *
  have hhi' : ∀ v : Int, sm c (fun i => if bb (zi v) i then 0 else B i) = hi v := fun v => by rw [← hhi]
  simp only [hhi'] at hb eH eN hall
  generalize hwo : (fun v : Int => wo c A (zi v)) = w at *
  have hwo' : ∀ v : Int, wo c A (zi v) = w v := fun v => by rw [← hwo]
  simp only [hwo'] at wb eW eM
  rw [f_P_ownsUp_eq, f_M_ownsUp_eq, b_P_ownsUp, b_M_ownsUp]
  by_cases g1 : 0 ≤ h ∧ h ≤ 40
  · by_cases g2 : 0 ≤ y ∧ y ≤ 1
    · have keyC : ∀ (n : Nat) (i b : Int), 0 ≤ i → i ≤ q → q - i < n → Le2 (fun v => (0 ≤ v ∧ v < i ∧ hi v ≤ h) ∨ v = q - 1) w b → ∃ b' : Int, f_Th_cheapestOwned_17 n 30 (zi h) (zi (q - 1)) (zi b) (zi i) s = some (zi b', s) ∧ Le2 (fun v => (0 ≤ v ∧ v < q ∧ hi v ≤ h) ∨ v = q - 1) w b' := by
        intro n
        induction n with
        | zero => intro i b i0 i1 i2; omega
        | succ n ih =>
          intro i b i0 i1 i2 hL
          have bR : 0 ≤ b ∧ b < q := by
            rcases hL.1 with ⟨a, b, c⟩ | h <;> omega
          obtain ⟨bR0, bR1⟩ := bR
          rw [f_Th_cheapestOwned_17]
          by_cases g : i = q
          · subst g
            simp (disch := omega) only [zi_div, zi_and31, zi_neg, zi_add, zi_sub, zi_mul, zi_lt, zi_le, zi_eq, zi_imx, zi_imn, zi_iab, gd_i, vpb_0, vpb_1, b2i_0, b2i_1, b2i_e0, b2i_e1, lf_b, lf_s, lf_n, Option.bind_some, decide_eq_false_iff_not, decide_eq_true_eq, cif_t, cif_f, cif_pos, cif_neg, if_true, if_false, if_pos, if_neg, zi_ofNat, Nat.zero_add, Nat.reduceAdd, Nat.reduceSub, Nat.reduceMul, Int.reduceAdd, Int.reduceSub, Int.reduceMul, Int.reduceNeg, Bool.false_eq_true, reduceCtorEq, rI_wI_s, rI_wI_f, rI_wI_c, rI_wd_c, rd_wI_c, rd_wd_c, rd_wd_s, rd_wd_n, rI_wJ, rd_wJ, rI_ix, wI_ix, rJ_ix, wJ_ix, zl_0, zl_1, zl_2, zl_3, zl_4, zl_5, zl_6, zl_7, zl_8, zl_9, zl_10, zl_11, zl_12, zl_13, zl_14, zl_15, zl_16, zl_20, zl_21, zl_22, zl_23, zl_24, zl_25, zl_26, zl_27, zl_28, zl_29, zl_30, zl_31, zl_32, zl_37, zl_40, zl_41, zl_42, zl_43, zl_44, zl_45, zl_46, zl_47, zl_48, zl_49, zl_50, zl_51, zl_52, zl_53, zl_54, zl_55, zl_56, zl_57, zl_58, zl_59, zl_60, zl_61, zl_62, zl_63, zl_64, zl_65, zl_74, zl_86, zl_90, zl_97, zl_98, zl_99, zl_100, zl_122, zl_140, zl_141, zl_142, zl_143, zl_145, zl_146, zl_147, zl_149, zl_150, zl_159, zl_160, zl_161, zl_162, zl_178, zl_199, zl_200, zl_201, zl_210, zl_230, zl_240, zl_245, zl_255, zl_256, zl_257, zl_288, zl_312, zl_332, zl_340, zl_356, zl_366, zl_399, zl_400, zl_500, zl_820, zl_966, zl_982, zl_998, zl_999, zl_1000, zl_1002, zl_1003, zl_1004, zl_1012, zl_1013, zl_1014, zl_1015, zl_1016, zl_1017, zl_1018, zl_1020, zl_1021, zl_1024, zl_1030, zl_1850, zl_2412, zl_2613, zl_9999, zl_10000, zl_99999, zl_1000000]
            exact ⟨b, rfl, hL⟩
          · have w1 := wb i
            have w2 := wb b
            have h1' := hb i
            obtain ⟨wi, hwi⟩ : ∃ x, w i = x := ⟨_, rfl⟩
            obtain ⟨wbb, hwb⟩ : ∃ x, w b = x := ⟨_, rfl⟩
            obtain ⟨hii, hhi2⟩ : ∃ x, hi i = x := ⟨_, rfl⟩
            rw [hwi] at w1
            rw [hwb] at w2
            rw [hhi2] at h1'
            obtain ⟨w10, w11⟩ := w1
            obtain ⟨w20, w21⟩ := w2
            obtain ⟨h10, h11⟩ := h1'
            have keep : ¬ (hii ≤ h ∧ (wi < wbb ∨ (wi = wbb ∧ i < b))) → Le2 (fun v => (0 ≤ v ∧ v < i + 1 ∧ hi v ≤ h) ∨ v = q - 1) w b := by
              intro hk
              refine ⟨?_, fun v hv => ?_⟩
              · rcases hL.1 with ⟨a, b, c⟩ | h
                · exact Or.inl ⟨a, by omega, c⟩
                · exact Or.inr h
              · rcases hv with ⟨a, b, c⟩ | h
                · by_cases hvi : v = i
                  · subst hvi; omega
                  · exact hL.2 v (Or.inl ⟨a, by omega, c⟩)
                · exact hL.2 v (Or.inr h)
            have take : hii ≤ h → (wi < wbb ∨ (wi = wbb ∧ i < b)) → Le2 (fun v => (0 ≤ v ∧ v < i + 1 ∧ hi v ≤ h) ∨ v = q - 1) w i := by
              intro k1 k2
              refine ⟨Or.inl ⟨i0, by omega, by omega⟩, fun v hv => ?_⟩
              by_cases hvi : v = i
              · subst hvi; right; omega
              · have : w b < w v ∨ (w b = w v ∧ b ≤ v) := by
                  rcases hv with ⟨a, b, c⟩ | h
                  · exact hL.2 v (Or.inl ⟨a, by omega, c⟩)
                  · exact hL.2 v (Or.inr h)
                omega
            by_cases k1 : wi < wbb
            · by_cases k3 : hii ≤ h
              · simp (disch := omega) only [zi_div, zi_and31, zi_neg, zi_add, zi_sub, zi_mul, zi_lt, zi_le, zi_eq, zi_imx, zi_imn, zi_iab, gd_i, vpb_0, vpb_1, b2i_0, b2i_1, b2i_e0, b2i_e1, lf_b, lf_s, lf_n, Option.bind_some, decide_eq_false_iff_not, decide_eq_true_eq, cif_t, cif_f, cif_pos, cif_neg, if_true, if_false, if_pos, if_neg, zi_ofNat, Nat.zero_add, Nat.reduceAdd, Nat.reduceSub, Nat.reduceMul, Int.reduceAdd, Int.reduceSub, Int.reduceMul, Int.reduceNeg, Bool.false_eq_true, reduceCtorEq, rI_wI_s, rI_wI_f, rI_wI_c, rI_wd_c, rd_wI_c, rd_wd_c, rd_wd_s, rd_wd_n, rI_wJ, rd_wJ, rI_ix, wI_ix, rJ_ix, wJ_ix, zl_0, zl_1, zl_2, zl_3, zl_4, zl_5, zl_6, zl_7, zl_8, zl_9, zl_10, zl_11, zl_12, zl_13, zl_14, zl_15, zl_16, zl_20, zl_21, zl_22, zl_23, zl_24, zl_25, zl_26, zl_27, zl_28, zl_29, zl_30, zl_31, zl_32, zl_37, zl_40, zl_41, zl_42, zl_43, zl_44, zl_45, zl_46, zl_47, zl_48, zl_49, zl_50, zl_51, zl_52, zl_53, zl_54, zl_55, zl_56, zl_57, zl_58, zl_59, zl_60, zl_61, zl_62, zl_63, zl_64, zl_65, zl_74, zl_86, zl_90, zl_97, zl_98, zl_99, zl_100, zl_122, zl_140, zl_141, zl_142, zl_143, zl_145, zl_146, zl_147, zl_149, zl_150, zl_159, zl_160, zl_161, zl_162, zl_178, zl_199, zl_200, zl_201, zl_210, zl_230, zl_240, zl_245, zl_255, zl_256, zl_257, zl_288, zl_312, zl_332, zl_340, zl_356, zl_366, zl_399, zl_400, zl_500, zl_820, zl_966, zl_982, zl_998, zl_999, zl_1000, zl_1002, zl_1003, zl_1004, zl_1012, zl_1013, zl_1014, zl_1015, zl_1016, zl_1017, zl_1018, zl_1020, zl_1021, zl_1024, zl_1030, zl_1850, zl_2412, zl_2613, zl_9999, zl_10000, zl_99999, zl_1000000, eW, eH, hwi, hwb, hhi2, f_Th_cheapestOwned_57, f_Th_cheapestOwned_64]
                exact ih (i + 1) i (by omega) (by omega) (by omega) (take k3 (Or.inl k1))
              · simp (disch := omega) only [zi_div, zi_and31, zi_neg, zi_add, zi_sub, zi_mul, zi_lt, zi_le, zi_eq, zi_imx, zi_imn, zi_iab, gd_i, vpb_0, vpb_1, b2i_0, b2i_1, b2i_e0, b2i_e1, lf_b, lf_s, lf_n, Option.bind_some, decide_eq_false_iff_not, decide_eq_true_eq, cif_t, cif_f, cif_pos, cif_neg, if_true, if_false, if_pos, if_neg, zi_ofNat, Nat.zero_add, Nat.reduceAdd, Nat.reduceSub, Nat.reduceMul, Int.reduceAdd, Int.reduceSub, Int.reduceMul, Int.reduceNeg, Bool.false_eq_true, reduceCtorEq, rI_wI_s, rI_wI_f, rI_wI_c, rI_wd_c, rd_wI_c, rd_wd_c, rd_wd_s, rd_wd_n, rI_wJ, rd_wJ, rI_ix, wI_ix, rJ_ix, wJ_ix, zl_0, zl_1, zl_2, zl_3, zl_4, zl_5, zl_6, zl_7, zl_8, zl_9, zl_10, zl_11, zl_12, zl_13, zl_14, zl_15, zl_16, zl_20, zl_21, zl_22, zl_23, zl_24, zl_25, zl_26, zl_27, zl_28, zl_29, zl_30, zl_31, zl_32, zl_37, zl_40, zl_41, zl_42, zl_43, zl_44, zl_45, zl_46, zl_47, zl_48, zl_49, zl_50, zl_51, zl_52, zl_53, zl_54, zl_55, zl_56, zl_57, zl_58, zl_59, zl_60, zl_61, zl_62, zl_63, zl_64, zl_65, zl_74, zl_86, zl_90, zl_97, zl_98, zl_99, zl_100, zl_122, zl_140, zl_141, zl_142, zl_143, zl_145, zl_146, zl_147, zl_149, zl_150, zl_159, zl_160, zl_161, zl_162, zl_178, zl_199, zl_200, zl_201, zl_210, zl_230, zl_240, zl_245, zl_255, zl_256, zl_257, zl_288, zl_312, zl_332, zl_340, zl_356, zl_366, zl_399, zl_400, zl_500, zl_820, zl_966, zl_982, zl_998, zl_999, zl_1000, zl_1002, zl_1003, zl_1004, zl_1012, zl_1013, zl_1014, zl_1015, zl_1016, zl_1017, zl_1018, zl_1020, zl_1021, zl_1024, zl_1030, zl_1850, zl_2412, zl_2613, zl_9999, zl_10000, zl_99999, zl_1000000, eW, eH, hwi, hwb, hhi2, f_Th_cheapestOwned_57, f_Th_cheapestOwned_64]
                exact ih (i + 1) b (by omega) (by omega) (by omega) (keep (fun z => k3 z.1))
            · by_cases k2 : wi = wbb
              · by_cases k4 : b ≤ i
                · simp (disch := omega) only [zi_div, zi_and31, zi_neg, zi_add, zi_sub, zi_mul, zi_lt, zi_le, zi_eq, zi_imx, zi_imn, zi_iab, gd_i, vpb_0, vpb_1, b2i_0, b2i_1, b2i_e0, b2i_e1, lf_b, lf_s, lf_n, Option.bind_some, decide_eq_false_iff_not, decide_eq_true_eq, cif_t, cif_f, cif_pos, cif_neg, if_true, if_false, if_pos, if_neg, zi_ofNat, Nat.zero_add, Nat.reduceAdd, Nat.reduceSub, Nat.reduceMul, Int.reduceAdd, Int.reduceSub, Int.reduceMul, Int.reduceNeg, Bool.false_eq_true, reduceCtorEq, rI_wI_s, rI_wI_f, rI_wI_c, rI_wd_c, rd_wI_c, rd_wd_c, rd_wd_s, rd_wd_n, rI_wJ, rd_wJ, rI_ix, wI_ix, rJ_ix, wJ_ix, zl_0, zl_1, zl_2, zl_3, zl_4, zl_5, zl_6, zl_7, zl_8, zl_9, zl_10, zl_11, zl_12, zl_13, zl_14, zl_15, zl_16, zl_20, zl_21, zl_22, zl_23, zl_24, zl_25, zl_26, zl_27, zl_28, zl_29, zl_30, zl_31, zl_32, zl_37, zl_40, zl_41, zl_42, zl_43, zl_44, zl_45, zl_46, zl_47, zl_48, zl_49, zl_50, zl_51, zl_52, zl_53, zl_54, zl_55, zl_56, zl_57, zl_58, zl_59, zl_60, zl_61, zl_62, zl_63, zl_64, zl_65, zl_74, zl_86, zl_90, zl_97, zl_98, zl_99, zl_100, zl_122, zl_140, zl_141, zl_142, zl_143, zl_145, zl_146, zl_147, zl_149, zl_150, zl_159, zl_160, zl_161, zl_162, zl_178, zl_199, zl_200, zl_201, zl_210, zl_230, zl_240, zl_245, zl_255, zl_256, zl_257, zl_288, zl_312, zl_332, zl_340, zl_356, zl_366, zl_399, zl_400, zl_500, zl_820, zl_966, zl_982, zl_998, zl_999, zl_1000, zl_1002, zl_1003, zl_1004, zl_1012, zl_1013, zl_1014, zl_1015, zl_1016, zl_1017, zl_1018, zl_1020, zl_1021, zl_1024, zl_1030, zl_1850, zl_2412, zl_2613, zl_9999, zl_10000, zl_99999, zl_1000000, eW, eH, hwi, hwb, hhi2, f_Th_cheapestOwned_61, f_Th_cheapestOwned_64]
                  exact ih (i + 1) b (by omega) (by omega) (by omega) (keep (by omega))
                · by_cases k3 : hii ≤ h
                  · simp (disch := omega) only [zi_div, zi_and31, zi_neg, zi_add, zi_sub, zi_mul, zi_lt, zi_le, zi_eq, zi_imx, zi_imn, zi_iab, gd_i, vpb_0, vpb_1, b2i_0, b2i_1, b2i_e0, b2i_e1, lf_b, lf_s, lf_n, Option.bind_some, decide_eq_false_iff_not, decide_eq_true_eq, cif_t, cif_f, cif_pos, cif_neg, if_true, if_false, if_pos, if_neg, zi_ofNat, Nat.zero_add, Nat.reduceAdd, Nat.reduceSub, Nat.reduceMul, Int.reduceAdd, Int.reduceSub, Int.reduceMul, Int.reduceNeg, Bool.false_eq_true, reduceCtorEq, rI_wI_s, rI_wI_f, rI_wI_c, rI_wd_c, rd_wI_c, rd_wd_c, rd_wd_s, rd_wd_n, rI_wJ, rd_wJ, rI_ix, wI_ix, rJ_ix, wJ_ix, zl_0, zl_1, zl_2, zl_3, zl_4, zl_5, zl_6, zl_7, zl_8, zl_9, zl_10, zl_11, zl_12, zl_13, zl_14, zl_15, zl_16, zl_20, zl_21, zl_22, zl_23, zl_24, zl_25, zl_26, zl_27, zl_28, zl_29, zl_30, zl_31, zl_32, zl_37, zl_40, zl_41, zl_42, zl_43, zl_44, zl_45, zl_46, zl_47, zl_48, zl_49, zl_50, zl_51, zl_52, zl_53, zl_54, zl_55, zl_56, zl_57, zl_58, zl_59, zl_60, zl_61, zl_62, zl_63, zl_64, zl_65, zl_74, zl_86, zl_90, zl_97, zl_98, zl_99, zl_100, zl_122, zl_140, zl_141, zl_142, zl_143, zl_145, zl_146, zl_147, zl_149, zl_150, zl_159, zl_160, zl_161, zl_162, zl_178, zl_199, zl_200, zl_201, zl_210, zl_230, zl_240, zl_245, zl_255, zl_256, zl_257, zl_288, zl_312, zl_332, zl_340, zl_356, zl_366, zl_399, zl_400, zl_500, zl_820, zl_966, zl_982, zl_998, zl_999, zl_1000, zl_1002, zl_1003, zl_1004, zl_1012, zl_1013, zl_1014, zl_1015, zl_1016, zl_1017, zl_1018, zl_1020, zl_1021, zl_1024, zl_1030, zl_1850, zl_2412, zl_2613, zl_9999, zl_10000, zl_99999, zl_1000000, eW, eH, hwi, hwb, hhi2, f_Th_cheapestOwned_57, f_Th_cheapestOwned_64]
                    exact ih (i + 1) i (by omega) (by omega) (by omega) (take k3 (by omega))
                  · simp (disch := omega) only [zi_div, zi_and31, zi_neg, zi_add, zi_sub, zi_mul, zi_lt, zi_le, zi_eq, zi_imx, zi_imn, zi_iab, gd_i, vpb_0, vpb_1, b2i_0, b2i_1, b2i_e0, b2i_e1, lf_b, lf_s, lf_n, Option.bind_some, decide_eq_false_iff_not, decide_eq_true_eq, cif_t, cif_f, cif_pos, cif_neg, if_true, if_false, if_pos, if_neg, zi_ofNat, Nat.zero_add, Nat.reduceAdd, Nat.reduceSub, Nat.reduceMul, Int.reduceAdd, Int.reduceSub, Int.reduceMul, Int.reduceNeg, Bool.false_eq_true, reduceCtorEq, rI_wI_s, rI_wI_f, rI_wI_c, rI_wd_c, rd_wI_c, rd_wd_c, rd_wd_s, rd_wd_n, rI_wJ, rd_wJ, rI_ix, wI_ix, rJ_ix, wJ_ix, zl_0, zl_1, zl_2, zl_3, zl_4, zl_5, zl_6, zl_7, zl_8, zl_9, zl_10, zl_11, zl_12, zl_13, zl_14, zl_15, zl_16, zl_20, zl_21, zl_22, zl_23, zl_24, zl_25, zl_26, zl_27, zl_28, zl_29, zl_30, zl_31, zl_32, zl_37, zl_40, zl_41, zl_42, zl_43, zl_44, zl_45, zl_46, zl_47, zl_48, zl_49, zl_50, zl_51, zl_52, zl_53, zl_54, zl_55, zl_56, zl_57, zl_58, zl_59, zl_60, zl_61, zl_62, zl_63, zl_64, zl_65, zl_74, zl_86, zl_90, zl_97, zl_98, zl_99, zl_100, zl_122, zl_140, zl_141, zl_142, zl_143, zl_145, zl_146, zl_147, zl_149, zl_150, zl_159, zl_160, zl_161, zl_162, zl_178, zl_199, zl_200, zl_201, zl_210, zl_230, zl_240, zl_245, zl_255, zl_256, zl_257, zl_288, zl_312, zl_332, zl_340, zl_356, zl_366, zl_399, zl_400, zl_500, zl_820, zl_966, zl_982, zl_998, zl_999, zl_1000, zl_1002, zl_1003, zl_1004, zl_1012, zl_1013, zl_1014, zl_1015, zl_1016, zl_1017, zl_1018, zl_1020, zl_1021, zl_1024, zl_1030, zl_1850, zl_2412, zl_2613, zl_9999, zl_10000, zl_99999, zl_1000000, eW, eH, hwi, hwb, hhi2, f_Th_cheapestOwned_57, f_Th_cheapestOwned_64]
                    exact ih (i + 1) b (by omega) (by omega) (by omega) (keep (fun z => k3 z.1))
              · simp (disch := omega) only [zi_div, zi_and31, zi_neg, zi_add, zi_sub, zi_mul, zi_lt, zi_le, zi_eq, zi_imx, zi_imn, zi_iab, gd_i, vpb_0, vpb_1, b2i_0, b2i_1, b2i_e0, b2i_e1, lf_b, lf_s, lf_n, Option.bind_some, decide_eq_false_iff_not, decide_eq_true_eq, cif_t, cif_f, cif_pos, cif_neg, if_true, if_false, if_pos, if_neg, zi_ofNat, Nat.zero_add, Nat.reduceAdd, Nat.reduceSub, Nat.reduceMul, Int.reduceAdd, Int.reduceSub, Int.reduceMul, Int.reduceNeg, Bool.false_eq_true, reduceCtorEq, rI_wI_s, rI_wI_f, rI_wI_c, rI_wd_c, rd_wI_c, rd_wd_c, rd_wd_s, rd_wd_n, rI_wJ, rd_wJ, rI_ix, wI_ix, rJ_ix, wJ_ix, zl_0, zl_1, zl_2, zl_3, zl_4, zl_5, zl_6, zl_7, zl_8, zl_9, zl_10, zl_11, zl_12, zl_13, zl_14, zl_15, zl_16, zl_20, zl_21, zl_22, zl_23, zl_24, zl_25, zl_26, zl_27, zl_28, zl_29, zl_30, zl_31, zl_32, zl_37, zl_40, zl_41, zl_42, zl_43, zl_44, zl_45, zl_46, zl_47, zl_48, zl_49, zl_50, zl_51, zl_52, zl_53, zl_54, zl_55, zl_56, zl_57, zl_58, zl_59, zl_60, zl_61, zl_62, zl_63, zl_64, zl_65, zl_74, zl_86, zl_90, zl_97, zl_98, zl_99, zl_100, zl_122, zl_140, zl_141, zl_142, zl_143, zl_145, zl_146, zl_147, zl_149, zl_150, zl_159, zl_160, zl_161, zl_162, zl_178, zl_199, zl_200, zl_201, zl_210, zl_230, zl_240, zl_245, zl_255, zl_256, zl_257, zl_288, zl_312, zl_332, zl_340, zl_356, zl_366, zl_399, zl_400, zl_500, zl_820, zl_966, zl_982, zl_998, zl_999, zl_1000, zl_1002, zl_1003, zl_1004, zl_1012, zl_1013, zl_1014, zl_1015, zl_1016, zl_1017, zl_1018, zl_1020, zl_1021, zl_1024, zl_1030, zl_1850, zl_2412, zl_2613, zl_9999, zl_10000, zl_99999, zl_1000000, eW, eH, hwi, hwb, hhi2, f_Th_cheapestOwned_61, f_Th_cheapestOwned_64]
                exact ih (i + 1) b (by omega) (by omega) (by omega) (keep (by omega))
      have keyM : ∀ (K : Nat → Int32 → Int32 → Mem → Option (Int32 × Mem)) (n : Nat) (i b : Int), -1 ≤ i → i < q → i + 1 < n → Le2 (fun v => (i < v ∧ v < q ∧ hi v ≤ h) ∨ v = q - 1) w b → ∃ b' : Int, f_M_ownsUp_39 K n 0 (zi h) (zi y) (zi (q - 1)) (zi b) (zi i) σ = K 0 (zi y) (zi b') σ ∧ Le2 (fun v => (-1 < v ∧ v < q ∧ hi v ≤ h) ∨ v = q - 1) w b' := by
        intro K n
        induction n with
        | zero => intro i b i0 i1 i2; omega
        | succ n ih =>
          intro i b i0 i1 i2 hL
          rw [f_M_ownsUp_39]
          by_cases g : i = -1
          · simp (disch := omega) only [zi_div, zi_and31, zi_neg, zi_add, zi_sub, zi_mul, zi_lt, zi_le, zi_eq, zi_imx, zi_imn, zi_iab, gd_i, vpb_0, vpb_1, b2i_0, b2i_1, b2i_e0, b2i_e1, lf_b, lf_s, lf_n, Option.bind_some, decide_eq_false_iff_not, decide_eq_true_eq, cif_t, cif_f, cif_pos, cif_neg, if_true, if_false, if_pos, if_neg, zi_ofNat, Nat.zero_add, Nat.reduceAdd, Nat.reduceSub, Nat.reduceMul, Int.reduceAdd, Int.reduceSub, Int.reduceMul, Int.reduceNeg, Bool.false_eq_true, reduceCtorEq, rI_wI_s, rI_wI_f, rI_wI_c, rI_wd_c, rd_wI_c, rd_wd_c, rd_wd_s, rd_wd_n, rI_wJ, rd_wJ, rI_ix, wI_ix, rJ_ix, wJ_ix, zl_0, zl_1, zl_2, zl_3, zl_4, zl_5, zl_6, zl_7, zl_8, zl_9, zl_10, zl_11, zl_12, zl_13, zl_14, zl_15, zl_16, zl_20, zl_21, zl_22, zl_23, zl_24, zl_25, zl_26, zl_27, zl_28, zl_29, zl_30, zl_31, zl_32, zl_37, zl_40, zl_41, zl_42, zl_43, zl_44, zl_45, zl_46, zl_47, zl_48, zl_49, zl_50, zl_51, zl_52, zl_53, zl_54, zl_55, zl_56, zl_57, zl_58, zl_59, zl_60, zl_61, zl_62, zl_63, zl_64, zl_65, zl_74, zl_86, zl_90, zl_97, zl_98, zl_99, zl_100, zl_122, zl_140, zl_141, zl_142, zl_143, zl_145, zl_146, zl_147, zl_149, zl_150, zl_159, zl_160, zl_161, zl_162, zl_178, zl_199, zl_200, zl_201, zl_210, zl_230, zl_240, zl_245, zl_255, zl_256, zl_257, zl_288, zl_312, zl_332, zl_340, zl_356, zl_366, zl_399, zl_400, zl_500, zl_820, zl_966, zl_982, zl_998, zl_999, zl_1000, zl_1002, zl_1003, zl_1004, zl_1012, zl_1013, zl_1014, zl_1015, zl_1016, zl_1017, zl_1018, zl_1020, zl_1021, zl_1024, zl_1030, zl_1850, zl_2412, zl_2613, zl_9999, zl_10000, zl_99999, zl_1000000]
            rw [g] at hL
            exact ⟨b, rfl, hL⟩
          · have w1 := wb i
            have w2 := wb b
            have h1' := hb i
            obtain ⟨wi, hwi⟩ : ∃ x, w i = x := ⟨_, rfl⟩
            obtain ⟨wbb, hwb⟩ : ∃ x, w b = x := ⟨_, rfl⟩
            obtain ⟨hii, hhi2⟩ : ∃ x, hi i = x := ⟨_, rfl⟩
            rw [hwi] at w1
            rw [hwb] at w2
            rw [hhi2] at h1'
            obtain ⟨w10, w11⟩ := w1
            obtain ⟨w20, w21⟩ := w2
            obtain ⟨h10, h11⟩ := h1'
            have keep : ¬ (hii ≤ h ∧ wi ≤ wbb) → Le2 (fun v => (i - 1 < v ∧ v < q ∧ hi v ≤ h) ∨ v = q - 1) w b := by
              intro hk
              refine ⟨?_, fun v hv => ?_⟩
              · rcases hL.1 with ⟨a, b, c⟩ | h
                · exact Or.inl ⟨by omega, b, c⟩
                · exact Or.inr h
              · rcases hv with ⟨a, b, c⟩ | h
                · by_cases hvi : v = i
                  · subst hvi; omega
                  · exact hL.2 v (Or.inl ⟨by omega, b, c⟩)
                · exact hL.2 v (Or.inr h)
            have take : hii ≤ h → wi ≤ wbb → Le2 (fun v => (i - 1 < v ∧ v < q ∧ hi v ≤ h) ∨ v = q - 1) w i := by
              intro k1 k2
              refine ⟨Or.inl ⟨by omega, by omega, by omega⟩, fun v hv => ?_⟩
              by_cases hvi : v = i
              · subst hvi; right; omega
              · have : w b < w v ∨ (w b = w v ∧ b ≤ v) := by
                  rcases hv with ⟨a, b, c⟩ | h
                  · exact hL.2 v (Or.inl ⟨by omega, b, c⟩)
                  · exact hL.2 v (Or.inr h)
                rcases hv with ⟨a, b, c⟩ | h <;> omega
            by_cases k3 : hii ≤ h
            · by_cases k1 : wi ≤ wbb
              · simp (disch := omega) only [zi_div, zi_and31, zi_neg, zi_add, zi_sub, zi_mul, zi_lt, zi_le, zi_eq, zi_imx, zi_imn, zi_iab, gd_i, vpb_0, vpb_1, b2i_0, b2i_1, b2i_e0, b2i_e1, lf_b, lf_s, lf_n, Option.bind_some, decide_eq_false_iff_not, decide_eq_true_eq, cif_t, cif_f, cif_pos, cif_neg, if_true, if_false, if_pos, if_neg, zi_ofNat, Nat.zero_add, Nat.reduceAdd, Nat.reduceSub, Nat.reduceMul, Int.reduceAdd, Int.reduceSub, Int.reduceMul, Int.reduceNeg, Bool.false_eq_true, reduceCtorEq, rI_wI_s, rI_wI_f, rI_wI_c, rI_wd_c, rd_wI_c, rd_wd_c, rd_wd_s, rd_wd_n, rI_wJ, rd_wJ, rI_ix, wI_ix, rJ_ix, wJ_ix, zl_0, zl_1, zl_2, zl_3, zl_4, zl_5, zl_6, zl_7, zl_8, zl_9, zl_10, zl_11, zl_12, zl_13, zl_14, zl_15, zl_16, zl_20, zl_21, zl_22, zl_23, zl_24, zl_25, zl_26, zl_27, zl_28, zl_29, zl_30, zl_31, zl_32, zl_37, zl_40, zl_41, zl_42, zl_43, zl_44, zl_45, zl_46, zl_47, zl_48, zl_49, zl_50, zl_51, zl_52, zl_53, zl_54, zl_55, zl_56, zl_57, zl_58, zl_59, zl_60, zl_61, zl_62, zl_63, zl_64, zl_65, zl_74, zl_86, zl_90, zl_97, zl_98, zl_99, zl_100, zl_122, zl_140, zl_141, zl_142, zl_143, zl_145, zl_146, zl_147, zl_149, zl_150, zl_159, zl_160, zl_161, zl_162, zl_178, zl_199, zl_200, zl_201, zl_210, zl_230, zl_240, zl_245, zl_255, zl_256, zl_257, zl_288, zl_312, zl_332, zl_340, zl_356, zl_366, zl_399, zl_400, zl_500, zl_820, zl_966, zl_982, zl_998, zl_999, zl_1000, zl_1002, zl_1003, zl_1004, zl_1012, zl_1013, zl_1014, zl_1015, zl_1016, zl_1017, zl_1018, zl_1020, zl_1021, zl_1024, zl_1030, zl_1850, zl_2412, zl_2613, zl_9999, zl_10000, zl_99999, zl_1000000, eM, eN, hwi, hwb, hhi2]
                exact ih (i - 1) i (by omega) (by omega) (by omega) (take k3 k1)
              · simp (disch := omega) only [zi_div, zi_and31, zi_neg, zi_add, zi_sub, zi_mul, zi_lt, zi_le, zi_eq, zi_imx, zi_imn, zi_iab, gd_i, vpb_0, vpb_1, b2i_0, b2i_1, b2i_e0, b2i_e1, lf_b, lf_s, lf_n, Option.bind_some, decide_eq_false_iff_not, decide_eq_true_eq, cif_t, cif_f, cif_pos, cif_neg, if_true, if_false, if_pos, if_neg, zi_ofNat, Nat.zero_add, Nat.reduceAdd, Nat.reduceSub, Nat.reduceMul, Int.reduceAdd, Int.reduceSub, Int.reduceMul, Int.reduceNeg, Bool.false_eq_true, reduceCtorEq, rI_wI_s, rI_wI_f, rI_wI_c, rI_wd_c, rd_wI_c, rd_wd_c, rd_wd_s, rd_wd_n, rI_wJ, rd_wJ, rI_ix, wI_ix, rJ_ix, wJ_ix, zl_0, zl_1, zl_2, zl_3, zl_4, zl_5, zl_6, zl_7, zl_8, zl_9, zl_10, zl_11, zl_12, zl_13, zl_14, zl_15, zl_16, zl_20, zl_21, zl_22, zl_23, zl_24, zl_25, zl_26, zl_27, zl_28, zl_29, zl_30, zl_31, zl_32, zl_37, zl_40, zl_41, zl_42, zl_43, zl_44, zl_45, zl_46, zl_47, zl_48, zl_49, zl_50, zl_51, zl_52, zl_53, zl_54, zl_55, zl_56, zl_57, zl_58, zl_59, zl_60, zl_61, zl_62, zl_63, zl_64, zl_65, zl_74, zl_86, zl_90, zl_97, zl_98, zl_99, zl_100, zl_122, zl_140, zl_141, zl_142, zl_143, zl_145, zl_146, zl_147, zl_149, zl_150, zl_159, zl_160, zl_161, zl_162, zl_178, zl_199, zl_200, zl_201, zl_210, zl_230, zl_240, zl_245, zl_255, zl_256, zl_257, zl_288, zl_312, zl_332, zl_340, zl_356, zl_366, zl_399, zl_400, zl_500, zl_820, zl_966, zl_982, zl_998, zl_999, zl_1000, zl_1002, zl_1003, zl_1004, zl_1012, zl_1013, zl_1014, zl_1015, zl_1016, zl_1017, zl_1018, zl_1020, zl_1021, zl_1024, zl_1030, zl_1850, zl_2412, zl_2613, zl_9999, zl_10000, zl_99999, zl_1000000, eM, eN, hwi, hwb, hhi2]
                exact ih (i - 1) b (by omega) (by omega) (by omega) (keep (fun z => k1 z.2))
            · simp (disch := omega) only [zi_div, zi_and31, zi_neg, zi_add, zi_sub, zi_mul, zi_lt, zi_le, zi_eq, zi_imx, zi_imn, zi_iab, gd_i, vpb_0, vpb_1, b2i_0, b2i_1, b2i_e0, b2i_e1, lf_b, lf_s, lf_n, Option.bind_some, decide_eq_false_iff_not, decide_eq_true_eq, cif_t, cif_f, cif_pos, cif_neg, if_true, if_false, if_pos, if_neg, zi_ofNat, Nat.zero_add, Nat.reduceAdd, Nat.reduceSub, Nat.reduceMul, Int.reduceAdd, Int.reduceSub, Int.reduceMul, Int.reduceNeg, Bool.false_eq_true, reduceCtorEq, rI_wI_s, rI_wI_f, rI_wI_c, rI_wd_c, rd_wI_c, rd_wd_c, rd_wd_s, rd_wd_n, rI_wJ, rd_wJ, rI_ix, wI_ix, rJ_ix, wJ_ix, zl_0, zl_1, zl_2, zl_3, zl_4, zl_5, zl_6, zl_7, zl_8, zl_9, zl_10, zl_11, zl_12, zl_13, zl_14, zl_15, zl_16, zl_20, zl_21, zl_22, zl_23, zl_24, zl_25, zl_26, zl_27, zl_28, zl_29, zl_30, zl_31, zl_32, zl_37, zl_40, zl_41, zl_42, zl_43, zl_44, zl_45, zl_46, zl_47, zl_48, zl_49, zl_50, zl_51, zl_52, zl_53, zl_54, zl_55, zl_56, zl_57, zl_58, zl_59, zl_60, zl_61, zl_62, zl_63, zl_64, zl_65, zl_74, zl_86, zl_90, zl_97, zl_98, zl_99, zl_100, zl_122, zl_140, zl_141, zl_142, zl_143, zl_145, zl_146, zl_147, zl_149, zl_150, zl_159, zl_160, zl_161, zl_162, zl_178, zl_199, zl_200, zl_201, zl_210, zl_230, zl_240, zl_245, zl_255, zl_256, zl_257, zl_288, zl_312, zl_332, zl_340, zl_356, zl_366, zl_399, zl_400, zl_500, zl_820, zl_966, zl_982, zl_998, zl_999, zl_1000, zl_1002, zl_1003, zl_1004, zl_1012, zl_1013, zl_1014, zl_1015, zl_1016, zl_1017, zl_1018, zl_1020, zl_1021, zl_1024, zl_1030, zl_1850, zl_2412, zl_2613, zl_9999, zl_10000, zl_99999, zl_1000000, eM, eN, hwi, hwb, hhi2]
              exact ih (i - 1) b (by omega) (by omega) (by omega) (keep (fun z => k3 z.1))
      have hfull : hi (q - 1) ≤ h := by omega
      obtain ⟨b, e1, L1⟩ := keyC FU 0 (q - 1) (by omega) (by omega) (by have := FU_ge; omega) ⟨Or.inr rfl, fun v hv => by
        rcases hv with ⟨a, b, c⟩ | h
        · omega
        · rw [h]; right; omega⟩
      obtain ⟨b', e2, L2⟩ := keyM (fun k0 v2 v4 s => f_M_ownsUp_86 k0 v2 v4 s) FU (q - 1) (q - 1) (by omega) (by omega) (by have := FU_ge; omega) ⟨Or.inr rfl, fun v hv => by
        rcases hv with ⟨a, b, c⟩ | h
        · omega
        · rw [h]; right; omega⟩
      have hbb : b = b' := Le2.uq L1 L2 (fun v => ⟨fun hv => by
        rcases hv with ⟨a, b, c⟩ | h
        · exact Or.inl ⟨by omega, b, c⟩
        · exact Or.inr h, fun hv => by
        rcases hv with ⟨a, b, c⟩ | h
        · exact Or.inl ⟨by omega, b, c⟩
        · exact Or.inr h⟩)
      subst hbb
      by_cases gy : y = 0
      · simp (disch := omega) only [zi_div, zi_and31, zi_neg, zi_add, zi_sub, zi_mul, zi_lt, zi_le, zi_eq, zi_imx, zi_imn, zi_iab, gd_i, vpb_0, vpb_1, b2i_0, b2i_1, b2i_e0, b2i_e1, lf_b, lf_s, lf_n, Option.bind_some, decide_eq_false_iff_not, decide_eq_true_eq, cif_t, cif_f, cif_pos, cif_neg, if_true, if_false, if_pos, if_neg, zi_ofNat, Nat.zero_add, Nat.reduceAdd, Nat.reduceSub, Nat.reduceMul, Int.reduceAdd, Int.reduceSub, Int.reduceMul, Int.reduceNeg, Bool.false_eq_true, reduceCtorEq, rI_wI_s, rI_wI_f, rI_wI_c, rI_wd_c, rd_wI_c, rd_wd_c, rd_wd_s, rd_wd_n, rI_wJ, rd_wJ, rI_ix, wI_ix, rJ_ix, wJ_ix, zl_0, zl_1, zl_2, zl_3, zl_4, zl_5, zl_6, zl_7, zl_8, zl_9, zl_10, zl_11, zl_12, zl_13, zl_14, zl_15, zl_16, zl_20, zl_21, zl_22, zl_23, zl_24, zl_25, zl_26, zl_27, zl_28, zl_29, zl_30, zl_31, zl_32, zl_37, zl_40, zl_41, zl_42, zl_43, zl_44, zl_45, zl_46, zl_47, zl_48, zl_49, zl_50, zl_51, zl_52, zl_53, zl_54, zl_55, zl_56, zl_57, zl_58, zl_59, zl_60, zl_61, zl_62, zl_63, zl_64, zl_65, zl_74, zl_86, zl_90, zl_97, zl_98, zl_99, zl_100, zl_122, zl_140, zl_141, zl_142, zl_143, zl_145, zl_146, zl_147, zl_149, zl_150, zl_159, zl_160, zl_161, zl_162, zl_178, zl_199, zl_200, zl_201, zl_210, zl_230, zl_240, zl_245, zl_255, zl_256, zl_257, zl_288, zl_312, zl_332, zl_340, zl_356, zl_366, zl_399, zl_400, zl_500, zl_820, zl_966, zl_982, zl_998, zl_999, zl_1000, zl_1002, zl_1003, zl_1004, zl_1012, zl_1013, zl_1014, zl_1015, zl_1016, zl_1017, zl_1018, zl_1020, zl_1021, zl_1024, zl_1030, zl_1850, zl_2412, zl_2613, zl_9999, zl_10000, zl_99999, zl_1000000, lc_3, lc_4, lc_5, lc_6, lc_8, lc_9, lc_10, lc_12, lc_13, lc_14, lc_15, lc_16, lc_17, lc_19, lc_20, lc_21, lc_23, lc_24, lc_25, lc_27, lc_28, lc_29, lc_32, lc_33, lc_34, lc_36, lc_37, lc_38, lc_40, lc_41, lc_42, lc_44, lc_45, lc_46, lc_48, lc_49, lc_50, lc_52, lc_53, lc_54, lc_55, lc_56, lc_57, lc_58, lc_60, lc_122, lc_123, lc_124, lc_125, lc_127, lc_129, lc_161, lc_162, lc_163, lc_164, lc_166, lc_167, lc_168, lc_169, lc_170, lc_171, lc_173, lc_174, lc_175, lc_177, lc_190, lm_1, lm_2, lm_3, lm_4, lm_5, lm_6, lm_7, lm_8, lm_9, lm_10, lm_11, lm_12, lm_13, lm_14, lm_15, e_within, e_isIn, f_Th_cheapestOwned_eq, b_Th_cheapestOwned, c3, c4, q1, e1, e2, eW]
        rw [f_M_ownsUp_86]
        simp (disch := omega) only [zi_div, zi_and31, zi_neg, zi_add, zi_sub, zi_mul, zi_lt, zi_le, zi_eq, zi_imx, zi_imn, zi_iab, gd_i, vpb_0, vpb_1, b2i_0, b2i_1, b2i_e0, b2i_e1, lf_b, lf_s, lf_n, Option.bind_some, decide_eq_false_iff_not, decide_eq_true_eq, cif_t, cif_f, cif_pos, cif_neg, if_true, if_false, if_pos, if_neg, zi_ofNat, Nat.zero_add, Nat.reduceAdd, Nat.reduceSub, Nat.reduceMul, Int.reduceAdd, Int.reduceSub, Int.reduceMul, Int.reduceNeg, Bool.false_eq_true, reduceCtorEq, rI_wI_s, rI_wI_f, rI_wI_c, rI_wd_c, rd_wI_c, rd_wd_c, rd_wd_s, rd_wd_n, rI_wJ, rd_wJ, rI_ix, wI_ix, rJ_ix, wJ_ix, zl_0, zl_1, zl_2, zl_3, zl_4, zl_5, zl_6, zl_7, zl_8, zl_9, zl_10, zl_11, zl_12, zl_13, zl_14, zl_15, zl_16, zl_20, zl_21, zl_22, zl_23, zl_24, zl_25, zl_26, zl_27, zl_28, zl_29, zl_30, zl_31, zl_32, zl_37, zl_40, zl_41, zl_42, zl_43, zl_44, zl_45, zl_46, zl_47, zl_48, zl_49, zl_50, zl_51, zl_52, zl_53, zl_54, zl_55, zl_56, zl_57, zl_58, zl_59, zl_60, zl_61, zl_62, zl_63, zl_64, zl_65, zl_74, zl_86, zl_90, zl_97, zl_98, zl_99, zl_100, zl_122, zl_140, zl_141, zl_142, zl_143, zl_145, zl_146, zl_147, zl_149, zl_150, zl_159, zl_160, zl_161, zl_162, zl_178, zl_199, zl_200, zl_201, zl_210, zl_230, zl_240, zl_245, zl_255, zl_256, zl_257, zl_288, zl_312, zl_332, zl_340, zl_356, zl_366, zl_399, zl_400, zl_500, zl_820, zl_966, zl_982, zl_998, zl_999, zl_1000, zl_1002, zl_1003, zl_1004, zl_1012, zl_1013, zl_1014, zl_1015, zl_1016, zl_1017, zl_1018, zl_1020, zl_1021, zl_1024, zl_1030, zl_1850, zl_2412, zl_2613, zl_9999, zl_10000, zl_99999, zl_1000000, eM]
        exact ok2_s ⟨rfl, R⟩
      · simp (disch := omega) only [zi_div, zi_and31, zi_neg, zi_add, zi_sub, zi_mul, zi_lt, zi_le, zi_eq, zi_imx, zi_imn, zi_iab, gd_i, vpb_0, vpb_1, b2i_0, b2i_1, b2i_e0, b2i_e1, lf_b, lf_s, lf_n, Option.bind_some, decide_eq_false_iff_not, decide_eq_true_eq, cif_t, cif_f, cif_pos, cif_neg, if_true, if_false, if_pos, if_neg, zi_ofNat, Nat.zero_add, Nat.reduceAdd, Nat.reduceSub, Nat.reduceMul, Int.reduceAdd, Int.reduceSub, Int.reduceMul, Int.reduceNeg, Bool.false_eq_true, reduceCtorEq, rI_wI_s, rI_wI_f, rI_wI_c, rI_wd_c, rd_wI_c, rd_wd_c, rd_wd_s, rd_wd_n, rI_wJ, rd_wJ, rI_ix, wI_ix, rJ_ix, wJ_ix, zl_0, zl_1, zl_2, zl_3, zl_4, zl_5, zl_6, zl_7, zl_8, zl_9, zl_10, zl_11, zl_12, zl_13, zl_14, zl_15, zl_16, zl_20, zl_21, zl_22, zl_23, zl_24, zl_25, zl_26, zl_27, zl_28, zl_29, zl_30, zl_31, zl_32, zl_37, zl_40, zl_41, zl_42, zl_43, zl_44, zl_45, zl_46, zl_47, zl_48, zl_49, zl_50, zl_51, zl_52, zl_53, zl_54, zl_55, zl_56, zl_57, zl_58, zl_59, zl_60, zl_61, zl_62, zl_63, zl_64, zl_65, zl_74, zl_86, zl_90, zl_97, zl_98, zl_99, zl_100, zl_122, zl_140, zl_141, zl_142, zl_143, zl_145, zl_146, zl_147, zl_149, zl_150, zl_159, zl_160, zl_161, zl_162, zl_178, zl_199, zl_200, zl_201, zl_210, zl_230, zl_240, zl_245, zl_255, zl_256, zl_257, zl_288, zl_312, zl_332, zl_340, zl_356, zl_366, zl_399, zl_400, zl_500, zl_820, zl_966, zl_982, zl_998, zl_999, zl_1000, zl_1002, zl_1003, zl_1004, zl_1012, zl_1013, zl_1014, zl_1015, zl_1016, zl_1017, zl_1018, zl_1020, zl_1021, zl_1024, zl_1030, zl_1850, zl_2412, zl_2613, zl_9999, zl_10000, zl_99999, zl_1000000, lc_3, lc_4, lc_5, lc_6, lc_8, lc_9, lc_10, lc_12, lc_13, lc_14, lc_15, lc_16, lc_17, lc_19, lc_20, lc_21, lc_23, lc_24, lc_25, lc_27, lc_28, lc_29, lc_32, lc_33, lc_34, lc_36, lc_37, lc_38, lc_40, lc_41, lc_42, lc_44, lc_45, lc_46, lc_48, lc_49, lc_50, lc_52, lc_53, lc_54, lc_55, lc_56, lc_57, lc_58, lc_60, lc_122, lc_123, lc_124, lc_125, lc_127, lc_129, lc_161, lc_162, lc_163, lc_164, lc_166, lc_167, lc_168, lc_169, lc_170, lc_171, lc_173, lc_174, lc_175, lc_177, lc_190, lm_1, lm_2, lm_3, lm_4, lm_5, lm_6, lm_7, lm_8, lm_9, lm_10, lm_11, lm_12, lm_13, lm_14, lm_15, e_within, e_isIn, f_Th_cheapestOwned_eq, b_Th_cheapestOwned, c3, c4, q1, e1, e2, eW]
        rw [f_M_ownsUp_86]
        simp (disch := omega) only [zi_div, zi_and31, zi_neg, zi_add, zi_sub, zi_mul, zi_lt, zi_le, zi_eq, zi_imx, zi_imn, zi_iab, gd_i, vpb_0, vpb_1, b2i_0, b2i_1, b2i_e0, b2i_e1, lf_b, lf_s, lf_n, Option.bind_some, decide_eq_false_iff_not, decide_eq_true_eq, cif_t, cif_f, cif_pos, cif_neg, if_true, if_false, if_pos, if_neg, zi_ofNat, Nat.zero_add, Nat.reduceAdd, Nat.reduceSub, Nat.reduceMul, Int.reduceAdd, Int.reduceSub, Int.reduceMul, Int.reduceNeg, Bool.false_eq_true, reduceCtorEq, rI_wI_s, rI_wI_f, rI_wI_c, rI_wd_c, rd_wI_c, rd_wd_c, rd_wd_s, rd_wd_n, rI_wJ, rd_wJ, rI_ix, wI_ix, rJ_ix, wJ_ix, zl_0, zl_1, zl_2, zl_3, zl_4, zl_5, zl_6, zl_7, zl_8, zl_9, zl_10, zl_11, zl_12, zl_13, zl_14, zl_15, zl_16, zl_20, zl_21, zl_22, zl_23, zl_24, zl_25, zl_26, zl_27, zl_28, zl_29, zl_30, zl_31, zl_32, zl_37, zl_40, zl_41, zl_42, zl_43, zl_44, zl_45, zl_46, zl_47, zl_48, zl_49, zl_50, zl_51, zl_52, zl_53, zl_54, zl_55, zl_56, zl_57, zl_58, zl_59, zl_60, zl_61, zl_62, zl_63, zl_64, zl_65, zl_74, zl_86, zl_90, zl_97, zl_98, zl_99, zl_100, zl_122, zl_140, zl_141, zl_142, zl_143, zl_145, zl_146, zl_147, zl_149, zl_150, zl_159, zl_160, zl_161, zl_162, zl_178, zl_199, zl_200, zl_201, zl_210, zl_230, zl_240, zl_245, zl_255, zl_256, zl_257, zl_288, zl_312, zl_332, zl_340, zl_356, zl_366, zl_399, zl_400, zl_500, zl_820, zl_966, zl_982, zl_998, zl_999, zl_1000, zl_1002, zl_1003, zl_1004, zl_1012, zl_1013, zl_1014, zl_1015, zl_1016, zl_1017, zl_1018, zl_1020, zl_1021, zl_1024, zl_1030, zl_1850, zl_2412, zl_2613, zl_9999, zl_10000, zl_99999, zl_1000000, eM]
        exact ok2_s ⟨rfl, R⟩
    · simp (disch := omega) only [zi_div, zi_and31, zi_neg, zi_add, zi_sub, zi_mul, zi_lt, zi_le, zi_eq, zi_imx, zi_imn, zi_iab, gd_i, vpb_0, vpb_1, b2i_0, b2i_1, b2i_e0, b2i_e1, lf_b, lf_s, lf_n, Option.bind_some, decide_eq_false_iff_not, decide_eq_true_eq, cif_t, cif_f, cif_pos, cif_neg, if_true, if_false, if_pos, if_neg, zi_ofNat, Nat.zero_add, Nat.reduceAdd, Nat.reduceSub, Nat.reduceMul, Int.reduceAdd, Int.reduceSub, Int.reduceMul, Int.reduceNeg, Bool.false_eq_true, reduceCtorEq, rI_wI_s, rI_wI_f, rI_wI_c, rI_wd_c, rd_wI_c, rd_wd_c, rd_wd_s, rd_wd_n, rI_wJ, rd_wJ, rI_ix, wI_ix, rJ_ix, wJ_ix, zl_0, zl_1, zl_2, zl_3, zl_4, zl_5, zl_6, zl_7, zl_8, zl_9, zl_10, zl_11, zl_12, zl_13, zl_14, zl_15, zl_16, zl_20, zl_21, zl_22, zl_23, zl_24, zl_25, zl_26, zl_27, zl_28, zl_29, zl_30, zl_31, zl_32, zl_37, zl_40, zl_41, zl_42, zl_43, zl_44, zl_45, zl_46, zl_47, zl_48, zl_49, zl_50, zl_51, zl_52, zl_53, zl_54, zl_55, zl_56, zl_57, zl_58, zl_59, zl_60, zl_61, zl_62, zl_63, zl_64, zl_65, zl_74, zl_86, zl_90, zl_97, zl_98, zl_99, zl_100, zl_122, zl_140, zl_141, zl_142, zl_143, zl_145, zl_146, zl_147, zl_149, zl_150, zl_159, zl_160, zl_161, zl_162, zl_178, zl_199, zl_200, zl_201, zl_210, zl_230, zl_240, zl_245, zl_255, zl_256, zl_257, zl_288, zl_312, zl_332, zl_340, zl_356, zl_366, zl_399, zl_400, zl_500, zl_820, zl_966, zl_982, zl_998, zl_999, zl_1000, zl_1002, zl_1003, zl_1004, zl_1012, zl_1013, zl_1014, zl_1015, zl_1016, zl_1017, zl_1018, zl_1020, zl_1021, zl_1024, zl_1030, zl_1850, zl_2412, zl_2613, zl_9999, zl_10000, zl_99999, zl_1000000, lc_3, lc_4, lc_5, lc_6, lc_8, lc_9, lc_10, lc_12, lc_13, lc_14, lc_15, lc_16, lc_17, lc_19, lc_20, lc_21, lc_23, lc_24, lc_25, lc_27, lc_28, lc_29, lc_32, lc_33, lc_34, lc_36, lc_37, lc_38, lc_40, lc_41, lc_42, lc_44, lc_45, lc_46, lc_48, lc_49, lc_50, lc_52, lc_53, lc_54, lc_55, lc_56, lc_57, lc_58, lc_60, lc_122, lc_123, lc_124, lc_125, lc_127, lc_129, lc_161, lc_162, lc_163, lc_164, lc_166, lc_167, lc_168, lc_169, lc_170, lc_171, lc_173, lc_174, lc_175, lc_177, lc_190, lm_1, lm_2, lm_3, lm_4, lm_5, lm_6, lm_7, lm_8, lm_9, lm_10, lm_11, lm_12, lm_13, lm_14, lm_15, e_within, e_isIn]
      exact ok2_s ⟨rfl, R⟩
  · simp (disch := omega) only [zi_div, zi_and31, zi_neg, zi_add, zi_sub, zi_mul, zi_lt, zi_le, zi_eq, zi_imx, zi_imn, zi_iab, gd_i, vpb_0, vpb_1, b2i_0, b2i_1, b2i_e0, b2i_e1, lf_b, lf_s, lf_n, Option.bind_some, decide_eq_false_iff_not, decide_eq_true_eq, cif_t, cif_f, cif_pos, cif_neg, if_true, if_false, if_pos, if_neg, zi_ofNat, Nat.zero_add, Nat.reduceAdd, Nat.reduceSub, Nat.reduceMul, Int.reduceAdd, Int.reduceSub, Int.reduceMul, Int.reduceNeg, Bool.false_eq_true, reduceCtorEq, rI_wI_s, rI_wI_f, rI_wI_c, rI_wd_c, rd_wI_c, rd_wd_c, rd_wd_s, rd_wd_n, rI_wJ, rd_wJ, rI_ix, wI_ix, rJ_ix, wJ_ix, zl_0, zl_1, zl_2, zl_3, zl_4, zl_5, zl_6, zl_7, zl_8, zl_9, zl_10, zl_11, zl_12, zl_13, zl_14, zl_15, zl_16, zl_20, zl_21, zl_22, zl_23, zl_24, zl_25, zl_26, zl_27, zl_28, zl_29, zl_30, zl_31, zl_32, zl_37, zl_40, zl_41, zl_42, zl_43, zl_44, zl_45, zl_46, zl_47, zl_48, zl_49, zl_50, zl_51, zl_52, zl_53, zl_54, zl_55, zl_56, zl_57, zl_58, zl_59, zl_60, zl_61, zl_62, zl_63, zl_64, zl_65, zl_74, zl_86, zl_90, zl_97, zl_98, zl_99, zl_100, zl_122, zl_140, zl_141, zl_142, zl_143, zl_145, zl_146, zl_147, zl_149, zl_150, zl_159, zl_160, zl_161, zl_162, zl_178, zl_199, zl_200, zl_201, zl_210, zl_230, zl_240, zl_245, zl_255, zl_256, zl_257, zl_288, zl_312, zl_332, zl_340, zl_356, zl_366, zl_399, zl_400, zl_500, zl_820, zl_966, zl_982, zl_998, zl_999, zl_1000, zl_1002, zl_1003, zl_1004, zl_1012, zl_1013, zl_1014, zl_1015, zl_1016, zl_1017, zl_1018, zl_1020, zl_1021, zl_1024, zl_1030, zl_1850, zl_2412, zl_2613, zl_9999, zl_10000, zl_99999, zl_1000000, lc_3, lc_4, lc_5, lc_6, lc_8, lc_9, lc_10, lc_12, lc_13, lc_14, lc_15, lc_16, lc_17, lc_19, lc_20, lc_21, lc_23, lc_24, lc_25, lc_27, lc_28, lc_29, lc_32, lc_33, lc_34, lc_36, lc_37, lc_38, lc_40, lc_41, lc_42, lc_44, lc_45, lc_46, lc_48, lc_49, lc_50, lc_52, lc_53, lc_54, lc_55, lc_56, lc_57, lc_58, lc_60, lc_122, lc_123, lc_124, lc_125, lc_127, lc_129, lc_161, lc_162, lc_163, lc_164, lc_166, lc_167, lc_168, lc_169, lc_170, lc_171, lc_173, lc_174, lc_175, lc_177, lc_190, lm_1, lm_2, lm_3, lm_4, lm_5, lm_6, lm_7, lm_8, lm_9, lm_10, lm_11, lm_12, lm_13, lm_14, lm_15, e_within, e_isIn]
    exact ok2_s ⟨rfl, R⟩
