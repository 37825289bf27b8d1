/-! THE IMAGE: all copied -/
def LB (l : Nat) : Prop := lenC (l + 1) = 16 ∧ lenC (l + 2) = 16 ∧ lenC (l + 3) = 16 ∧ lenC (l + 4) = 16 ∧ lenC (l + 5) = 400
theorem lb_11 : LB 11 := ⟨rfl, rfl, rfl, rfl, rfl⟩
theorem lb_71 : LB 71 := ⟨rfl, rfl, rfl, rfl, rfl⟩
theorem lb_165 : LB 165 := ⟨rfl, rfl, rfl, rfl, rfl⟩
theorem cp_La_2 {a b : Nat} (pa : LB a) (pb : LB b) (hab : a + 6 ≤ b ∨ b + 6 ≤ a) (K : Nat → Nat → Mem → Option Mem) : ∀ (n : Nat) (i : Int) (s : Mem), 0 ≤ i → i ≤ 16 → 16 - i < n → ∃ s', f_La_copyFrom_2 K n a b (zi i) s = K a b s' ∧ (∀ k j : Nat, k ≠ a + 1 → k ≠ a + 2 → k ≠ a + 3 → k ≠ a + 4 → rI s' k j = rI s k j) ∧ (∀ j : Int, 0 ≤ j → rd s' (a + 1) j = if i ≤ j ∧ j < 16 then rd s (b + 1) (j) else rd s (a + 1) j) ∧ (∀ j : Int, 0 ≤ j → rd s' (a + 2) j = if i ≤ j ∧ j < 16 then rd s (b + 2) (j) else rd s (a + 2) j) ∧ (∀ j : Int, 0 ≤ j → rd s' (a + 3) j = if i ≤ j ∧ j < 16 then rd s (b + 3) (j) else rd s (a + 3) j) ∧ (∀ j : Int, 0 ≤ j → rd s' (a + 4) j = if i ≤ j ∧ j < 16 then rd s (b + 4) (j) else rd s (a + 4) j) := by
  intro n
  induction n with
  | zero => intro i s h0 h1 h2; omega
  | succ n ih =>
    intro i s h0 h1 h2  
    rw [f_La_copyFrom_2]
    by_cases hi : i = 16
    · subst hi
      simp (disch := omega) only [zi_div, zi_and31, zi_neg, zi_add, zi_sub, zi_mul, zi_lt, zi_le, zi_eq, zi_imx, zi_imn, zi_iab, gd_i, vpb_0, vpb_1, b2i_0, b2i_1, b2i_e0, b2i_e1, lf_b, lf_s, lf_n, Option.bind_some, decide_eq_false_iff_not, decide_eq_true_eq, cif_t, cif_f, cif_pos, cif_neg, if_true, if_false, if_pos, if_neg, zi_ofNat, Nat.zero_add, Nat.reduceAdd, Nat.reduceSub, Nat.reduceMul, Int.reduceAdd, Int.reduceSub, Int.reduceMul, Int.reduceNeg, Bool.false_eq_true, reduceCtorEq, rI_wI_s, rI_wI_f, rI_wI_c, rI_wd_c, rd_wI_c, rd_wd_c, rd_wd_s, rd_wd_n, rI_wJ, rd_wJ, rI_ix, wI_ix, rJ_ix, wJ_ix, zl_0, zl_1, zl_2, zl_3, zl_4, zl_5, zl_6, zl_7, zl_8, zl_9, zl_10, zl_11, zl_12, zl_13, zl_14, zl_15, zl_16, zl_20, zl_21, zl_22, zl_23, zl_24, zl_25, zl_26, zl_27, zl_28, zl_29, zl_30, zl_31, zl_32, zl_37, zl_40, zl_41, zl_42, zl_43, zl_44, zl_45, zl_46, zl_47, zl_48, zl_49, zl_50, zl_51, zl_52, zl_53, zl_54, zl_55, zl_56, zl_57, zl_58, zl_59, zl_60, zl_61, zl_62, zl_63, zl_64, zl_65, zl_74, zl_86, zl_90, zl_97, zl_98, zl_99, zl_100, zl_122, zl_140, zl_141, zl_142, zl_143, zl_145, zl_146, zl_147, zl_149, zl_150, zl_159, zl_160, zl_161, zl_162, zl_178, zl_199, zl_200, zl_201, zl_210, zl_230, zl_240, zl_245, zl_255, zl_256, zl_257, zl_288, zl_312, zl_332, zl_340, zl_356, zl_366, zl_399, zl_400, zl_500, zl_820, zl_966, zl_982, zl_998, zl_999, zl_1000, zl_1002, zl_1003, zl_1004, zl_1012, zl_1013, zl_1014, zl_1015, zl_1016, zl_1017, zl_1018, zl_1020, zl_1021, zl_1024, zl_1030, zl_1850, zl_2412, zl_2613, zl_9999, zl_10000, zl_99999, zl_1000000, pa.1, pb.1, pa.2.1, pb.2.1, pa.2.2.1, pb.2.2.1, pa.2.2.2.1, pb.2.2.2.1, pa.2.2.2.2, pb.2.2.2.2]
      exact ⟨s, rfl, fun _ _ _ _ _ _ => rfl, fun j j0 => by first | rfl | rw [if_neg (by omega)], fun j j0 => by first | rfl | rw [if_neg (by omega)], fun j j0 => by first | rfl | rw [if_neg (by omega)], fun j j0 => by first | rfl | rw [if_neg (by omega)]⟩
    · simp (disch := omega) only [zi_div, zi_and31, zi_neg, zi_add, zi_sub, zi_mul, zi_lt, zi_le, zi_eq, zi_imx, zi_imn, zi_iab, gd_i, vpb_0, vpb_1, b2i_0, b2i_1, b2i_e0, b2i_e1, lf_b, lf_s, lf_n, Option.bind_some, decide_eq_false_iff_not, decide_eq_true_eq, cif_t, cif_f, cif_pos, cif_neg, if_true, if_false, if_pos, if_neg, zi_ofNat, Nat.zero_add, Nat.reduceAdd, Nat.reduceSub, Nat.reduceMul, Int.reduceAdd, Int.reduceSub, Int.reduceMul, Int.reduceNeg, Bool.false_eq_true, reduceCtorEq, rI_wI_s, rI_wI_f, rI_wI_c, rI_wd_c, rd_wI_c, rd_wd_c, rd_wd_s, rd_wd_n, rI_wJ, rd_wJ, rI_ix, wI_ix, rJ_ix, wJ_ix, zl_0, zl_1, zl_2, zl_3, zl_4, zl_5, zl_6, zl_7, zl_8, zl_9, zl_10, zl_11, zl_12, zl_13, zl_14, zl_15, zl_16, zl_20, zl_21, zl_22, zl_23, zl_24, zl_25, zl_26, zl_27, zl_28, zl_29, zl_30, zl_31, zl_32, zl_37, zl_40, zl_41, zl_42, zl_43, zl_44, zl_45, zl_46, zl_47, zl_48, zl_49, zl_50, zl_51, zl_52, zl_53, zl_54, zl_55, zl_56, zl_57, zl_58, zl_59, zl_60, zl_61, zl_62, zl_63, zl_64, zl_65, zl_74, zl_86, zl_90, zl_97, zl_98, zl_99, zl_100, zl_122, zl_140, zl_141, zl_142, zl_143, zl_145, zl_146, zl_147, zl_149, zl_150, zl_159, zl_160, zl_161, zl_162, zl_178, zl_199, zl_200, zl_201, zl_210, zl_230, zl_240, zl_245, zl_255, zl_256, zl_257, zl_288, zl_312, zl_332, zl_340, zl_356, zl_366, zl_399, zl_400, zl_500, zl_820, zl_966, zl_982, zl_998, zl_999, zl_1000, zl_1002, zl_1003, zl_1004, zl_1012, zl_1013, zl_1014, zl_1015, zl_1016, zl_1017, zl_1018, zl_1020, zl_1021, zl_1024, zl_1030, zl_1850, zl_2412, zl_2613, zl_9999, zl_10000, zl_99999, zl_1000000, pa.1, pb.1, pa.2.1, pb.2.1, pa.2.2.1, pb.2.2.1, pa.2.2.2.1, pb.2.2.2.1, pa.2.2.2.2, pb.2.2.2.2]
      obtain ⟨s', e1, e2, v0, v1, v2, v3⟩ := ih (i + 1) (wd (wd (wd (wd s (a + 1) (i) (rd s (b + 1) (i))) (a + 2) (i) (rd s (b + 2) (i))) (a + 3) (i) (rd s (b + 3) (i))) (a + 4) (i) (rd s (b + 4) (i))) (by omega) (by omega) (by omega)  
      refine ⟨s', e1, fun k j k0 k1 k2 k3 => (e2 k j k0 k1 k2 k3).trans (by simp (disch := omega) only [rI_wI_s, rI_wI_f, rI_wI_c, rI_wd_c, rd_wI_c, rd_wd_c, rd_wd_s, rd_wd_n, rI_wJ, rd_wJ, rI_ix, wI_ix, rJ_ix, wJ_ix, rI_wI_o, Nat.reduceAdd]), fun j j0 => ?_, fun j j0 => ?_, fun j j0 => ?_, fun j j0 => ?_⟩
      · rw [v0 j j0]
        by_cases g1 : (i + 1) ≤ j ∧ j < 16
        · rw [if_pos g1, if_pos (by omega)]
          simp (disch := omega) only [rI_wI_s, rI_wI_f, rI_wI_c, rI_wd_c, rd_wI_c, rd_wd_c, rd_wd_s, rd_wd_n, rI_wJ, rd_wJ, rI_ix, wI_ix, rJ_ix, wJ_ix, rI_wI_o, Nat.reduceAdd]
        · rw [if_neg g1]
          by_cases g2 : j = i
          · rw [if_pos (by omega), g2]
            simp (disch := omega) only [rI_wI_s, rI_wI_f, rI_wI_c, rI_wd_c, rd_wI_c, rd_wd_c, rd_wd_s, rd_wd_n, rI_wJ, rd_wJ, rI_ix, wI_ix, rJ_ix, wJ_ix, rI_wI_o, Nat.reduceAdd]
          · rw [if_neg (by omega)]
            simp (disch := omega) only [rI_wI_s, rI_wI_f, rI_wI_c, rI_wd_c, rd_wI_c, rd_wd_c, rd_wd_s, rd_wd_n, rI_wJ, rd_wJ, rI_ix, wI_ix, rJ_ix, wJ_ix, rI_wI_o, Nat.reduceAdd]
      · rw [v1 j j0]
        by_cases g1 : (i + 1) ≤ j ∧ j < 16
        · rw [if_pos g1, if_pos (by omega)]
          simp (disch := omega) only [rI_wI_s, rI_wI_f, rI_wI_c, rI_wd_c, rd_wI_c, rd_wd_c, rd_wd_s, rd_wd_n, rI_wJ, rd_wJ, rI_ix, wI_ix, rJ_ix, wJ_ix, rI_wI_o, Nat.reduceAdd]
        · rw [if_neg g1]
          by_cases g2 : j = i
          · rw [if_pos (by omega), g2]
            simp (disch := omega) only [rI_wI_s, rI_wI_f, rI_wI_c, rI_wd_c, rd_wI_c, rd_wd_c, rd_wd_s, rd_wd_n, rI_wJ, rd_wJ, rI_ix, wI_ix, rJ_ix, wJ_ix, rI_wI_o, Nat.reduceAdd]
          · rw [if_neg (by omega)]
            simp (disch := omega) only [rI_wI_s, rI_wI_f, rI_wI_c, rI_wd_c, rd_wI_c, rd_wd_c, rd_wd_s, rd_wd_n, rI_wJ, rd_wJ, rI_ix, wI_ix, rJ_ix, wJ_ix, rI_wI_o, Nat.reduceAdd]
      · rw [v2 j j0]
        by_cases g1 : (i + 1) ≤ j ∧ j < 16
        · rw [if_pos g1, if_pos (by omega)]
          simp (disch := omega) only [rI_wI_s, rI_wI_f, rI_wI_c, rI_wd_c, rd_wI_c, rd_wd_c, rd_wd_s, rd_wd_n, rI_wJ, rd_wJ, rI_ix, wI_ix, rJ_ix, wJ_ix, rI_wI_o, Nat.reduceAdd]
        · rw [if_neg g1]
          by_cases g2 : j = i
          · rw [if_pos (by omega), g2]
            simp (disch := omega) only [rI_wI_s, rI_wI_f, rI_wI_c, rI_wd_c, rd_wI_c, rd_wd_c, rd_wd_s, rd_wd_n, rI_wJ, rd_wJ, rI_ix, wI_ix, rJ_ix, wJ_ix, rI_wI_o, Nat.reduceAdd]
          · rw [if_neg (by omega)]
            simp (disch := omega) only [rI_wI_s, rI_wI_f, rI_wI_c, rI_wd_c, rd_wI_c, rd_wd_c, rd_wd_s, rd_wd_n, rI_wJ, rd_wJ, rI_ix, wI_ix, rJ_ix, wJ_ix, rI_wI_o, Nat.reduceAdd]
      · rw [v3 j j0]
        by_cases g1 : (i + 1) ≤ j ∧ j < 16
        · rw [if_pos g1, if_pos (by omega)]
          simp (disch := omega) only [rI_wI_s, rI_wI_f, rI_wI_c, rI_wd_c, rd_wI_c, rd_wd_c, rd_wd_s, rd_wd_n, rI_wJ, rd_wJ, rI_ix, wI_ix, rJ_ix, wJ_ix, rI_wI_o, Nat.reduceAdd]
        · rw [if_neg g1]
          by_cases g2 : j = i
          · rw [if_pos (by omega), g2]
            simp (disch := omega) only [rI_wI_s, rI_wI_f, rI_wI_c, rI_wd_c, rd_wI_c, rd_wd_c, rd_wd_s, rd_wd_n, rI_wJ, rd_wJ, rI_ix, wI_ix, rJ_ix, wJ_ix, rI_wI_o, Nat.reduceAdd]
          · rw [if_neg (by omega)]
            simp (disch := omega) only [rI_wI_s, rI_wI_f, rI_wI_c, rI_wd_c, rd_wI_c, rd_wd_c, rd_wd_s, rd_wd_n, rI_wJ, rd_wJ, rI_ix, wI_ix, rJ_ix, wJ_ix, rI_wI_o, Nat.reduceAdd]
theorem cp_La_64 {a b : Nat} (pa : LB a) (pb : LB b) (hab : a + 6 ≤ b ∨ b + 6 ≤ a) (K : Nat → Nat → Mem → Option Mem) : ∀ (n : Nat) (i : Int) (s : Mem), 0 ≤ i → i ≤ 400 → 400 - i < n → ∃ s', f_La_copyFrom_64 K n a b (zi i) s = K a b s' ∧ (∀ k j : Nat, k ≠ a + 5 → rI s' k j = rI s k j) ∧ (∀ j : Int, 0 ≤ j → rd s' (a + 5) j = if i ≤ j ∧ j < 400 then rd s (b + 5) (j) else rd s (a + 5) j) := by
  intro n
  induction n with
  | zero => intro i s h0 h1 h2; omega
  | succ n ih =>
    intro i s h0 h1 h2  
    rw [f_La_copyFrom_64]
    by_cases hi : i = 400
    · subst hi
      simp (disch := omega) only [zi_div, zi_and31, zi_neg, zi_add, zi_sub, zi_mul, zi_lt, zi_le, zi_eq, zi_imx, zi_imn, zi_iab, gd_i, vpb_0, vpb_1, b2i_0, b2i_1, b2i_e0, b2i_e1, lf_b, lf_s, lf_n, Option.bind_some, decide_eq_false_iff_not, decide_eq_true_eq, cif_t, cif_f, cif_pos, cif_neg, if_true, if_false, if_pos, if_neg, zi_ofNat, Nat.zero_add, Nat.reduceAdd, Nat.reduceSub, Nat.reduceMul, Int.reduceAdd, Int.reduceSub, Int.reduceMul, Int.reduceNeg, Bool.false_eq_true, reduceCtorEq, rI_wI_s, rI_wI_f, rI_wI_c, rI_wd_c, rd_wI_c, rd_wd_c, rd_wd_s, rd_wd_n, rI_wJ, rd_wJ, rI_ix, wI_ix, rJ_ix, wJ_ix, zl_0, zl_1, zl_2, zl_3, zl_4, zl_5, zl_6, zl_7, zl_8, zl_9, zl_10, zl_11, zl_12, zl_13, zl_14, zl_15, zl_16, zl_20, zl_21, zl_22, zl_23, zl_24, zl_25, zl_26, zl_27, zl_28, zl_29, zl_30, zl_31, zl_32, zl_37, zl_40, zl_41, zl_42, zl_43, zl_44, zl_45, zl_46, zl_47, zl_48, zl_49, zl_50, zl_51, zl_52, zl_53, zl_54, zl_55, zl_56, zl_57, zl_58, zl_59, zl_60, zl_61, zl_62, zl_63, zl_64, zl_65, zl_74, zl_86, zl_90, zl_97, zl_98, zl_99, zl_100, zl_122, zl_140, zl_141, zl_142, zl_143, zl_145, zl_146, zl_147, zl_149, zl_150, zl_159, zl_160, zl_161, zl_162, zl_178, zl_199, zl_200, zl_201, zl_210, zl_230, zl_240, zl_245, zl_255, zl_256, zl_257, zl_288, zl_312, zl_332, zl_340, zl_356, zl_366, zl_399, zl_400, zl_500, zl_820, zl_966, zl_982, zl_998, zl_999, zl_1000, zl_1002, zl_1003, zl_1004, zl_1012, zl_1013, zl_1014, zl_1015, zl_1016, zl_1017, zl_1018, zl_1020, zl_1021, zl_1024, zl_1030, zl_1850, zl_2412, zl_2613, zl_9999, zl_10000, zl_99999, zl_1000000, pa.1, pb.1, pa.2.1, pb.2.1, pa.2.2.1, pb.2.2.1, pa.2.2.2.1, pb.2.2.2.1, pa.2.2.2.2, pb.2.2.2.2]
      exact ⟨s, rfl, fun _ _ _ => rfl, fun j j0 => by first | rfl | rw [if_neg (by omega)]⟩
    · simp (disch := omega) only [zi_div, zi_and31, zi_neg, zi_add, zi_sub, zi_mul, zi_lt, zi_le, zi_eq, zi_imx, zi_imn, zi_iab, gd_i, vpb_0, vpb_1, b2i_0, b2i_1, b2i_e0, b2i_e1, lf_b, lf_s, lf_n, Option.bind_some, decide_eq_false_iff_not, decide_eq_true_eq, cif_t, cif_f, cif_pos, cif_neg, if_true, if_false, if_pos, if_neg, zi_ofNat, Nat.zero_add, Nat.reduceAdd, Nat.reduceSub, Nat.reduceMul, Int.reduceAdd, Int.reduceSub, Int.reduceMul, Int.reduceNeg, Bool.false_eq_true, reduceCtorEq, rI_wI_s, rI_wI_f, rI_wI_c, rI_wd_c, rd_wI_c, rd_wd_c, rd_wd_s, rd_wd_n, rI_wJ, rd_wJ, rI_ix, wI_ix, rJ_ix, wJ_ix, zl_0, zl_1, zl_2, zl_3, zl_4, zl_5, zl_6, zl_7, zl_8, zl_9, zl_10, zl_11, zl_12, zl_13, zl_14, zl_15, zl_16, zl_20, zl_21, zl_22, zl_23, zl_24, zl_25, zl_26, zl_27, zl_28, zl_29, zl_30, zl_31, zl_32, zl_37, zl_40, zl_41, zl_42, zl_43, zl_44, zl_45, zl_46, zl_47, zl_48, zl_49, zl_50, zl_51, zl_52, zl_53, zl_54, zl_55, zl_56, zl_57, zl_58, zl_59, zl_60, zl_61, zl_62, zl_63, zl_64, zl_65, zl_74, zl_86, zl_90, zl_97, zl_98, zl_99, zl_100, zl_122, zl_140, zl_141, zl_142, zl_143, zl_145, zl_146, zl_147, zl_149, zl_150, zl_159, zl_160, zl_161, zl_162, zl_178, zl_199, zl_200, zl_201, zl_210, zl_230, zl_240, zl_245, zl_255, zl_256, zl_257, zl_288, zl_312, zl_332, zl_340, zl_356, zl_366, zl_399, zl_400, zl_500, zl_820, zl_966, zl_982, zl_998, zl_999, zl_1000, zl_1002, zl_1003, zl_1004, zl_1012, zl_1013, zl_1014, zl_1015, zl_1016, zl_1017, zl_1018, zl_1020, zl_1021, zl_1024, zl_1030, zl_1850, zl_2412, zl_2613, zl_9999, zl_10000, zl_99999, zl_1000000, pa.1, pb.1, pa.2.1, pb.2.1, pa.2.2.1, pb.2.2.1, pa.2.2.2.1, pb.2.2.2.1, pa.2.2.2.2, pb.2.2.2.2]
      obtain ⟨s', e1, e2, v0⟩ := ih (i + 1) (wd s (a + 5) (i) (rd s (b + 5) (i))) (by omega) (by omega) (by omega)  
      refine ⟨s', e1, fun k j k0 => (e2 k j k0).trans (by simp (disch := omega) only [rI_wI_s, rI_wI_f, rI_wI_c, rI_wd_c, rd_wI_c, rd_wd_c, rd_wd_s, rd_wd_n, rI_wJ, rd_wJ, rI_ix, wI_ix, rJ_ix, wJ_ix, rI_wI_o, Nat.reduceAdd]), fun j j0 => ?_⟩
      · rw [v0 j j0]
        by_cases g1 : (i + 1) ≤ j ∧ j < 400
        · rw [if_pos g1, if_pos (by omega)]
          simp (disch := omega) only [rI_wI_s, rI_wI_f, rI_wI_c, rI_wd_c, rd_wI_c, rd_wd_c, rd_wd_s, rd_wd_n, rI_wJ, rd_wJ, rI_ix, wI_ix, rJ_ix, wJ_ix, rI_wI_o, Nat.reduceAdd]
        · rw [if_neg g1]
          by_cases g2 : j = i
          · rw [if_pos (by omega), g2]
            simp (disch := omega) only [rI_wI_s, rI_wI_f, rI_wI_c, rI_wd_c, rd_wI_c, rd_wd_c, rd_wd_s, rd_wd_n, rI_wJ, rd_wJ, rI_ix, wI_ix, rJ_ix, wJ_ix, rI_wI_o, Nat.reduceAdd]
          · rw [if_neg (by omega)]
            simp (disch := omega) only [rI_wI_s, rI_wI_f, rI_wI_c, rI_wd_c, rd_wI_c, rd_wd_c, rd_wd_s, rd_wd_n, rI_wJ, rd_wJ, rI_ix, wI_ix, rJ_ix, wJ_ix, rI_wI_o, Nat.reduceAdd]
theorem cp_To_2t (K : Nat → Nat → Mem → Option Mem) : ∀ (n : Nat) (i : Int) (s : Mem), 0 ≤ i → i ≤ 12 → 12 - i < n → ∃ s', f_To_copyFrom_2 K n 7 67 (zi i) s = K 7 67 s' ∧ (∀ k j : Nat, k ≠ 8 → k ≠ 9 → k ≠ 10 → rI s' k j = rI s k j) ∧ (∀ j : Int, 0 ≤ j → rd s' (8) j = if i ≤ j ∧ j < 12 then rd s (68) (j) else rd s (8) j) ∧ (∀ j : Int, 0 ≤ j → rd s' (9) j = if i ≤ j ∧ j < 12 then rd s (69) (j) else rd s (9) j) ∧ (∀ j : Int, 0 ≤ j → rd s' (10) j = if i ≤ j ∧ j < 12 then rd s (70) (j) else rd s (10) j) := by
  intro n
  induction n with
  | zero => intro i s h0 h1 h2; omega
  | succ n ih =>
    intro i s h0 h1 h2  
    rw [f_To_copyFrom_2]
    by_cases hi : i = 12
    · subst hi
      simp (disch := omega) only [zi_div, zi_and31, zi_neg, zi_add, zi_sub, zi_mul, zi_lt, zi_le, zi_eq, zi_imx, zi_imn, zi_iab, gd_i, vpb_0, vpb_1, b2i_0, b2i_1, b2i_e0, b2i_e1, lf_b, lf_s, lf_n, Option.bind_some, decide_eq_false_iff_not, decide_eq_true_eq, cif_t, cif_f, cif_pos, cif_neg, if_true, if_false, if_pos, if_neg, zi_ofNat, Nat.zero_add, Nat.reduceAdd, Nat.reduceSub, Nat.reduceMul, Int.reduceAdd, Int.reduceSub, Int.reduceMul, Int.reduceNeg, Bool.false_eq_true, reduceCtorEq, rI_wI_s, rI_wI_f, rI_wI_c, rI_wd_c, rd_wI_c, rd_wd_c, rd_wd_s, rd_wd_n, rI_wJ, rd_wJ, rI_ix, wI_ix, rJ_ix, wJ_ix, zl_0, zl_1, zl_2, zl_3, zl_4, zl_5, zl_6, zl_7, zl_8, zl_9, zl_10, zl_11, zl_12, zl_13, zl_14, zl_15, zl_16, zl_20, zl_21, zl_22, zl_23, zl_24, zl_25, zl_26, zl_27, zl_28, zl_29, zl_30, zl_31, zl_32, zl_37, zl_40, zl_41, zl_42, zl_43, zl_44, zl_45, zl_46, zl_47, zl_48, zl_49, zl_50, zl_51, zl_52, zl_53, zl_54, zl_55, zl_56, zl_57, zl_58, zl_59, zl_60, zl_61, zl_62, zl_63, zl_64, zl_65, zl_74, zl_86, zl_90, zl_97, zl_98, zl_99, zl_100, zl_122, zl_140, zl_141, zl_142, zl_143, zl_145, zl_146, zl_147, zl_149, zl_150, zl_159, zl_160, zl_161, zl_162, zl_178, zl_199, zl_200, zl_201, zl_210, zl_230, zl_240, zl_245, zl_255, zl_256, zl_257, zl_288, zl_312, zl_332, zl_340, zl_356, zl_366, zl_399, zl_400, zl_500, zl_820, zl_966, zl_982, zl_998, zl_999, zl_1000, zl_1002, zl_1003, zl_1004, zl_1012, zl_1013, zl_1014, zl_1015, zl_1016, zl_1017, zl_1018, zl_1020, zl_1021, zl_1024, zl_1030, zl_1850, zl_2412, zl_2613, zl_9999, zl_10000, zl_99999, zl_1000000, lc_3, lc_4, lc_5, lc_6, lc_8, lc_9, lc_10, lc_12, lc_13, lc_14, lc_15, lc_16, lc_17, lc_19, lc_20, lc_21, lc_23, lc_24, lc_25, lc_27, lc_28, lc_29, lc_32, lc_33, lc_34, lc_36, lc_37, lc_38, lc_40, lc_41, lc_42, lc_44, lc_45, lc_46, lc_48, lc_49, lc_50, lc_52, lc_53, lc_54, lc_55, lc_56, lc_57, lc_58, lc_60, lc_122, lc_123, lc_124, lc_125, lc_127, lc_129, lc_161, lc_162, lc_163, lc_164, lc_166, lc_167, lc_168, lc_169, lc_170, lc_171, lc_173, lc_174, lc_175, lc_177, lc_190, lc_68, lc_69, lc_70]
      exact ⟨s, rfl, fun _ _ _ _ _ => rfl, fun j j0 => by first | rfl | rw [if_neg (by omega)], fun j j0 => by first | rfl | rw [if_neg (by omega)], fun j j0 => by first | rfl | rw [if_neg (by omega)]⟩
    · simp (disch := omega) only [zi_div, zi_and31, zi_neg, zi_add, zi_sub, zi_mul, zi_lt, zi_le, zi_eq, zi_imx, zi_imn, zi_iab, gd_i, vpb_0, vpb_1, b2i_0, b2i_1, b2i_e0, b2i_e1, lf_b, lf_s, lf_n, Option.bind_some, decide_eq_false_iff_not, decide_eq_true_eq, cif_t, cif_f, cif_pos, cif_neg, if_true, if_false, if_pos, if_neg, zi_ofNat, Nat.zero_add, Nat.reduceAdd, Nat.reduceSub, Nat.reduceMul, Int.reduceAdd, Int.reduceSub, Int.reduceMul, Int.reduceNeg, Bool.false_eq_true, reduceCtorEq, rI_wI_s, rI_wI_f, rI_wI_c, rI_wd_c, rd_wI_c, rd_wd_c, rd_wd_s, rd_wd_n, rI_wJ, rd_wJ, rI_ix, wI_ix, rJ_ix, wJ_ix, zl_0, zl_1, zl_2, zl_3, zl_4, zl_5, zl_6, zl_7, zl_8, zl_9, zl_10, zl_11, zl_12, zl_13, zl_14, zl_15, zl_16, zl_20, zl_21, zl_22, zl_23, zl_24, zl_25, zl_26, zl_27, zl_28, zl_29, zl_30, zl_31, zl_32, zl_37, zl_40, zl_41, zl_42, zl_43, zl_44, zl_45, zl_46, zl_47, zl_48, zl_49, zl_50, zl_51, zl_52, zl_53, zl_54, zl_55, zl_56, zl_57, zl_58, zl_59, zl_60, zl_61, zl_62, zl_63, zl_64, zl_65, zl_74, zl_86, zl_90, zl_97, zl_98, zl_99, zl_100, zl_122, zl_140, zl_141, zl_142, zl_143, zl_145, zl_146, zl_147, zl_149, zl_150, zl_159, zl_160, zl_161, zl_162, zl_178, zl_199, zl_200, zl_201, zl_210, zl_230, zl_240, zl_245, zl_255, zl_256, zl_257, zl_288, zl_312, zl_332, zl_340, zl_356, zl_366, zl_399, zl_400, zl_500, zl_820, zl_966, zl_982, zl_998, zl_999, zl_1000, zl_1002, zl_1003, zl_1004, zl_1012, zl_1013, zl_1014, zl_1015, zl_1016, zl_1017, zl_1018, zl_1020, zl_1021, zl_1024, zl_1030, zl_1850, zl_2412, zl_2613, zl_9999, zl_10000, zl_99999, zl_1000000, lc_3, lc_4, lc_5, lc_6, lc_8, lc_9, lc_10, lc_12, lc_13, lc_14, lc_15, lc_16, lc_17, lc_19, lc_20, lc_21, lc_23, lc_24, lc_25, lc_27, lc_28, lc_29, lc_32, lc_33, lc_34, lc_36, lc_37, lc_38, lc_40, lc_41, lc_42, lc_44, lc_45, lc_46, lc_48, lc_49, lc_50, lc_52, lc_53, lc_54, lc_55, lc_56, lc_57, lc_58, lc_60, lc_122, lc_123, lc_124, lc_125, lc_127, lc_129, lc_161, lc_162, lc_163, lc_164, lc_166, lc_167, lc_168, lc_169, lc_170, lc_171, lc_173, lc_174, lc_175, lc_177, lc_190, lc_68, lc_69, lc_70]
      obtain ⟨s', e1, e2, v0, v1, v2⟩ := ih (i + 1) (wd (wd (wd s (8) (i) (rd s (68) (i))) (9) (i) (rd s (69) (i))) (10) (i) (rd s (70) (i))) (by omega) (by omega) (by omega)  
      refine ⟨s', e1, fun k j k0 k1 k2 => (e2 k j k0 k1 k2).trans (by simp (disch := omega) only [rI_wI_s, rI_wI_f, rI_wI_c, rI_wd_c, rd_wI_c, rd_wd_c, rd_wd_s, rd_wd_n, rI_wJ, rd_wJ, rI_ix, wI_ix, rJ_ix, wJ_ix, rI_wI_o, Nat.reduceAdd]), fun j j0 => ?_, fun j j0 => ?_, fun j j0 => ?_⟩
      · rw [v0 j j0]
        by_cases g1 : (i + 1) ≤ j ∧ j < 12
        · rw [if_pos g1, if_pos (by omega)]
          simp (disch := omega) only [rI_wI_s, rI_wI_f, rI_wI_c, rI_wd_c, rd_wI_c, rd_wd_c, rd_wd_s, rd_wd_n, rI_wJ, rd_wJ, rI_ix, wI_ix, rJ_ix, wJ_ix, rI_wI_o, Nat.reduceAdd]
        · rw [if_neg g1]
          by_cases g2 : j = i
          · rw [if_pos (by omega), g2]
            simp (disch := omega) only [rI_wI_s, rI_wI_f, rI_wI_c, rI_wd_c, rd_wI_c, rd_wd_c, rd_wd_s, rd_wd_n, rI_wJ, rd_wJ, rI_ix, wI_ix, rJ_ix, wJ_ix, rI_wI_o, Nat.reduceAdd]
          · rw [if_neg (by omega)]
            simp (disch := omega) only [rI_wI_s, rI_wI_f, rI_wI_c, rI_wd_c, rd_wI_c, rd_wd_c, rd_wd_s, rd_wd_n, rI_wJ, rd_wJ, rI_ix, wI_ix, rJ_ix, wJ_ix, rI_wI_o, Nat.reduceAdd]
      · rw [v1 j j0]
        by_cases g1 : (i + 1) ≤ j ∧ j < 12
        · rw [if_pos g1, if_pos (by omega)]
          simp (disch := omega) only [rI_wI_s, rI_wI_f, rI_wI_c, rI_wd_c, rd_wI_c, rd_wd_c, rd_wd_s, rd_wd_n, rI_wJ, rd_wJ, rI_ix, wI_ix, rJ_ix, wJ_ix, rI_wI_o, Nat.reduceAdd]
        · rw [if_neg g1]
          by_cases g2 : j = i
          · rw [if_pos (by omega), g2]
            simp (disch := omega) only [rI_wI_s, rI_wI_f, rI_wI_c, rI_wd_c, rd_wI_c, rd_wd_c, rd_wd_s, rd_wd_n, rI_wJ, rd_wJ, rI_ix, wI_ix, rJ_ix, wJ_ix, rI_wI_o, Nat.reduceAdd]
          · rw [if_neg (by omega)]
            simp (disch := omega) only [rI_wI_s, rI_wI_f, rI_wI_c, rI_wd_c, rd_wI_c, rd_wd_c, rd_wd_s, rd_wd_n, rI_wJ, rd_wJ, rI_ix, wI_ix, rJ_ix, wJ_ix, rI_wI_o, Nat.reduceAdd]
      · rw [v2 j j0]
        by_cases g1 : (i + 1) ≤ j ∧ j < 12
        · rw [if_pos g1, if_pos (by omega)]
          simp (disch := omega) only [rI_wI_s, rI_wI_f, rI_wI_c, rI_wd_c, rd_wI_c, rd_wd_c, rd_wd_s, rd_wd_n, rI_wJ, rd_wJ, rI_ix, wI_ix, rJ_ix, wJ_ix, rI_wI_o, Nat.reduceAdd]
        · rw [if_neg g1]
          by_cases g2 : j = i
          · rw [if_pos (by omega), g2]
            simp (disch := omega) only [rI_wI_s, rI_wI_f, rI_wI_c, rI_wd_c, rd_wI_c, rd_wd_c, rd_wd_s, rd_wd_n, rI_wJ, rd_wJ, rI_ix, wI_ix, rJ_ix, wJ_ix, rI_wI_o, Nat.reduceAdd]
          · rw [if_neg (by omega)]
            simp (disch := omega) only [rI_wI_s, rI_wI_f, rI_wI_c, rI_wd_c, rd_wI_c, rd_wd_c, rd_wd_s, rd_wd_n, rI_wJ, rd_wJ, rI_ix, wI_ix, rJ_ix, wJ_ix, rI_wI_o, Nat.reduceAdd]
theorem cp_Th_74t (K : Nat → Nat → Mem → Option Mem) : ∀ (n : Nat) (i : Int) (s : Mem), 0 ≤ i → i ≤ 8 → 8 - i < n → ∃ s', f_Th_copyFrom_74 K n 30 90 (zi i) s = K 30 90 s' ∧ (∀ k j : Nat, k ≠ 55 → k ≠ 56 → rI s' k j = rI s k j) ∧ (∀ j : Int, 0 ≤ j → rd s' (55) j = if i ≤ j ∧ j < 8 then rd s (115) (j) else rd s (55) j) ∧ (∀ j : Int, 0 ≤ j → rd s' (56) j = if i ≤ j ∧ j < 8 then rd s (116) (j) else rd s (56) j) := by
  intro n
  induction n with
  | zero => intro i s h0 h1 h2; omega
  | succ n ih =>
    intro i s h0 h1 h2  
    rw [f_Th_copyFrom_74]
    by_cases hi : i = 8
    · subst hi
      simp (disch := omega) only [zi_div, zi_and31, zi_neg, zi_add, zi_sub, zi_mul, zi_lt, zi_le, zi_eq, zi_imx, zi_imn, zi_iab, gd_i, vpb_0, vpb_1, b2i_0, b2i_1, b2i_e0, b2i_e1, lf_b, lf_s, lf_n, Option.bind_some, decide_eq_false_iff_not, decide_eq_true_eq, cif_t, cif_f, cif_pos, cif_neg, if_true, if_false, if_pos, if_neg, zi_ofNat, Nat.zero_add, Nat.reduceAdd, Nat.reduceSub, Nat.reduceMul, Int.reduceAdd, Int.reduceSub, Int.reduceMul, Int.reduceNeg, Bool.false_eq_true, reduceCtorEq, rI_wI_s, rI_wI_f, rI_wI_c, rI_wd_c, rd_wI_c, rd_wd_c, rd_wd_s, rd_wd_n, rI_wJ, rd_wJ, rI_ix, wI_ix, rJ_ix, wJ_ix, zl_0, zl_1, zl_2, zl_3, zl_4, zl_5, zl_6, zl_7, zl_8, zl_9, zl_10, zl_11, zl_12, zl_13, zl_14, zl_15, zl_16, zl_20, zl_21, zl_22, zl_23, zl_24, zl_25, zl_26, zl_27, zl_28, zl_29, zl_30, zl_31, zl_32, zl_37, zl_40, zl_41, zl_42, zl_43, zl_44, zl_45, zl_46, zl_47, zl_48, zl_49, zl_50, zl_51, zl_52, zl_53, zl_54, zl_55, zl_56, zl_57, zl_58, zl_59, zl_60, zl_61, zl_62, zl_63, zl_64, zl_65, zl_74, zl_86, zl_90, zl_97, zl_98, zl_99, zl_100, zl_122, zl_140, zl_141, zl_142, zl_143, zl_145, zl_146, zl_147, zl_149, zl_150, zl_159, zl_160, zl_161, zl_162, zl_178, zl_199, zl_200, zl_201, zl_210, zl_230, zl_240, zl_245, zl_255, zl_256, zl_257, zl_288, zl_312, zl_332, zl_340, zl_356, zl_366, zl_399, zl_400, zl_500, zl_820, zl_966, zl_982, zl_998, zl_999, zl_1000, zl_1002, zl_1003, zl_1004, zl_1012, zl_1013, zl_1014, zl_1015, zl_1016, zl_1017, zl_1018, zl_1020, zl_1021, zl_1024, zl_1030, zl_1850, zl_2412, zl_2613, zl_9999, zl_10000, zl_99999, zl_1000000, lc_3, lc_4, lc_5, lc_6, lc_8, lc_9, lc_10, lc_12, lc_13, lc_14, lc_15, lc_16, lc_17, lc_19, lc_20, lc_21, lc_23, lc_24, lc_25, lc_27, lc_28, lc_29, lc_32, lc_33, lc_34, lc_36, lc_37, lc_38, lc_40, lc_41, lc_42, lc_44, lc_45, lc_46, lc_48, lc_49, lc_50, lc_52, lc_53, lc_54, lc_55, lc_56, lc_57, lc_58, lc_60, lc_122, lc_123, lc_124, lc_125, lc_127, lc_129, lc_161, lc_162, lc_163, lc_164, lc_166, lc_167, lc_168, lc_169, lc_170, lc_171, lc_173, lc_174, lc_175, lc_177, lc_190, lc_115, lc_116]
      exact ⟨s, rfl, fun _ _ _ _ => rfl, fun j j0 => by first | rfl | rw [if_neg (by omega)], fun j j0 => by first | rfl | rw [if_neg (by omega)]⟩
    · simp (disch := omega) only [zi_div, zi_and31, zi_neg, zi_add, zi_sub, zi_mul, zi_lt, zi_le, zi_eq, zi_imx, zi_imn, zi_iab, gd_i, vpb_0, vpb_1, b2i_0, b2i_1, b2i_e0, b2i_e1, lf_b, lf_s, lf_n, Option.bind_some, decide_eq_false_iff_not, decide_eq_true_eq, cif_t, cif_f, cif_pos, cif_neg, if_true, if_false, if_pos, if_neg, zi_ofNat, Nat.zero_add, Nat.reduceAdd, Nat.reduceSub, Nat.reduceMul, Int.reduceAdd, Int.reduceSub, Int.reduceMul, Int.reduceNeg, Bool.false_eq_true, reduceCtorEq, rI_wI_s, rI_wI_f, rI_wI_c, rI_wd_c, rd_wI_c, rd_wd_c, rd_wd_s, rd_wd_n, rI_wJ, rd_wJ, rI_ix, wI_ix, rJ_ix, wJ_ix, zl_0, zl_1, zl_2, zl_3, zl_4, zl_5, zl_6, zl_7, zl_8, zl_9, zl_10, zl_11, zl_12, zl_13, zl_14, zl_15, zl_16, zl_20, zl_21, zl_22, zl_23, zl_24, zl_25, zl_26, zl_27, zl_28, zl_29, zl_30, zl_31, zl_32, zl_37, zl_40, zl_41, zl_42, zl_43, zl_44, zl_45, zl_46, zl_47, zl_48, zl_49, zl_50, zl_51, zl_52, zl_53, zl_54, zl_55, zl_56, zl_57, zl_58, zl_59, zl_60, zl_61, zl_62, zl_63, zl_64, zl_65, zl_74, zl_86, zl_90, zl_97, zl_98, zl_99, zl_100, zl_122, zl_140, zl_141, zl_142, zl_143, zl_145, zl_146, zl_147, zl_149, zl_150, zl_159, zl_160, zl_161, zl_162, zl_178, zl_199, zl_200, zl_201, zl_210, zl_230, zl_240, zl_245, zl_255, zl_256, zl_257, zl_288, zl_312, zl_332, zl_340, zl_356, zl_366, zl_399, zl_400, zl_500, zl_820, zl_966, zl_982, zl_998, zl_999, zl_1000, zl_1002, zl_1003, zl_1004, zl_1012, zl_1013, zl_1014, zl_1015, zl_1016, zl_1017, zl_1018, zl_1020, zl_1021, zl_1024, zl_1030, zl_1850, zl_2412, zl_2613, zl_9999, zl_10000, zl_99999, zl_1000000, lc_3, lc_4, lc_5, lc_6, lc_8, lc_9, lc_10, lc_12, lc_13, lc_14, lc_15, lc_16, lc_17, lc_19, lc_20, lc_21, lc_23, lc_24, lc_25, lc_27, lc_28, lc_29, lc_32, lc_33, lc_34, lc_36, lc_37, lc_38, lc_40, lc_41, lc_42, lc_44, lc_45, lc_46, lc_48, lc_49, lc_50, lc_52, lc_53, lc_54, lc_55, lc_56, lc_57, lc_58, lc_60, lc_122, lc_123, lc_124, lc_125, lc_127, lc_129, lc_161, lc_162, lc_163, lc_164, lc_166, lc_167, lc_168, lc_169, lc_170, lc_171, lc_173, lc_174, lc_175, lc_177, lc_190, lc_115, lc_116]
      obtain ⟨s', e1, e2, v0, v1⟩ := ih (i + 1) (wd (wd s (55) (i) (rd s (115) (i))) (56) (i) (rd s (116) (i))) (by omega) (by omega) (by omega)  
      refine ⟨s', e1, fun k j k0 k1 => (e2 k j k0 k1).trans (by simp (disch := omega) only [rI_wI_s, rI_wI_f, rI_wI_c, rI_wd_c, rd_wI_c, rd_wd_c, rd_wd_s, rd_wd_n, rI_wJ, rd_wJ, rI_ix, wI_ix, rJ_ix, wJ_ix, rI_wI_o, Nat.reduceAdd]), fun j j0 => ?_, fun j j0 => ?_⟩
      · rw [v0 j j0]
        by_cases g1 : (i + 1) ≤ j ∧ j < 8
        · rw [if_pos g1, if_pos (by omega)]
          simp (disch := omega) only [rI_wI_s, rI_wI_f, rI_wI_c, rI_wd_c, rd_wI_c, rd_wd_c, rd_wd_s, rd_wd_n, rI_wJ, rd_wJ, rI_ix, wI_ix, rJ_ix, wJ_ix, rI_wI_o, Nat.reduceAdd]
        · rw [if_neg g1]
          by_cases g2 : j = i
          · rw [if_pos (by omega), g2]
            simp (disch := omega) only [rI_wI_s, rI_wI_f, rI_wI_c, rI_wd_c, rd_wI_c, rd_wd_c, rd_wd_s, rd_wd_n, rI_wJ, rd_wJ, rI_ix, wI_ix, rJ_ix, wJ_ix, rI_wI_o, Nat.reduceAdd]
          · rw [if_neg (by omega)]
            simp (disch := omega) only [rI_wI_s, rI_wI_f, rI_wI_c, rI_wd_c, rd_wI_c, rd_wd_c, rd_wd_s, rd_wd_n, rI_wJ, rd_wJ, rI_ix, wI_ix, rJ_ix, wJ_ix, rI_wI_o, Nat.reduceAdd]
      · rw [v1 j j0]
        by_cases g1 : (i + 1) ≤ j ∧ j < 8
        · rw [if_pos g1, if_pos (by omega)]
          simp (disch := omega) only [rI_wI_s, rI_wI_f, rI_wI_c, rI_wd_c, rd_wI_c, rd_wd_c, rd_wd_s, rd_wd_n, rI_wJ, rd_wJ, rI_ix, wI_ix, rJ_ix, wJ_ix, rI_wI_o, Nat.reduceAdd]
        · rw [if_neg g1]
          by_cases g2 : j = i
          · rw [if_pos (by omega), g2]
            simp (disch := omega) only [rI_wI_s, rI_wI_f, rI_wI_c, rI_wd_c, rd_wI_c, rd_wd_c, rd_wd_s, rd_wd_n, rI_wJ, rd_wJ, rI_ix, wI_ix, rJ_ix, wJ_ix, rI_wI_o, Nat.reduceAdd]
          · rw [if_neg (by omega)]
            simp (disch := omega) only [rI_wI_s, rI_wI_f, rI_wI_c, rI_wd_c, rd_wI_c, rd_wd_c, rd_wd_s, rd_wd_n, rI_wJ, rd_wJ, rI_ix, wI_ix, rJ_ix, wJ_ix, rI_wI_o, Nat.reduceAdd]
theorem cp_Th_112t  : ∀ (n : Nat) (i : Int) (s : Mem), 0 ≤ i → i ≤ 10 → 10 - i < n → ∃ s', f_Th_copyFrom_112 n 30 90 (zi i) s = some s' ∧ (∀ k j : Nat, k ≠ 57 → rI s' k j = rI s k j) ∧ (∀ j : Int, 0 ≤ j → rd s' (57) j = if i ≤ j ∧ j < 10 then rd s (117) (j) else rd s (57) j) := by
  intro n
  induction n with
  | zero => intro i s h0 h1 h2; omega
  | succ n ih =>
    intro i s h0 h1 h2  
    rw [f_Th_copyFrom_112]
    by_cases hi : i = 10
    · subst hi
      simp (disch := omega) only [zi_div, zi_and31, zi_neg, zi_add, zi_sub, zi_mul, zi_lt, zi_le, zi_eq, zi_imx, zi_imn, zi_iab, gd_i, vpb_0, vpb_1, b2i_0, b2i_1, b2i_e0, b2i_e1, lf_b, lf_s, lf_n, Option.bind_some, decide_eq_false_iff_not, decide_eq_true_eq, cif_t, cif_f, cif_pos, cif_neg, if_true, if_false, if_pos, if_neg, zi_ofNat, Nat.zero_add, Nat.reduceAdd, Nat.reduceSub, Nat.reduceMul, Int.reduceAdd, Int.reduceSub, Int.reduceMul, Int.reduceNeg, Bool.false_eq_true, reduceCtorEq, rI_wI_s, rI_wI_f, rI_wI_c, rI_wd_c, rd_wI_c, rd_wd_c, rd_wd_s, rd_wd_n, rI_wJ, rd_wJ, rI_ix, wI_ix, rJ_ix, wJ_ix, zl_0, zl_1, zl_2, zl_3, zl_4, zl_5, zl_6, zl_7, zl_8, zl_9, zl_10, zl_11, zl_12, zl_13, zl_14, zl_15, zl_16, zl_20, zl_21, zl_22, zl_23, zl_24, zl_25, zl_26, zl_27, zl_28, zl_29, zl_30, zl_31, zl_32, zl_37, zl_40, zl_41, zl_42, zl_43, zl_44, zl_45, zl_46, zl_47, zl_48, zl_49, zl_50, zl_51, zl_52, zl_53, zl_54, zl_55, zl_56, zl_57, zl_58, zl_59, zl_60, zl_61, zl_62, zl_63, zl_64, zl_65, zl_74, zl_86, zl_90, zl_97, zl_98, zl_99, zl_100, zl_122, zl_140, zl_141, zl_142, zl_143, zl_145, zl_146, zl_147, zl_149, zl_150, zl_159, zl_160, zl_161, zl_162, zl_178, zl_199, zl_200, zl_201, zl_210, zl_230, zl_240, zl_245, zl_255, zl_256, zl_257, zl_288, zl_312, zl_332, zl_340, zl_356, zl_366, zl_399, zl_400, zl_500, zl_820, zl_966, zl_982, zl_998, zl_999, zl_1000, zl_1002, zl_1003, zl_1004, zl_1012, zl_1013, zl_1014, zl_1015, zl_1016, zl_1017, zl_1018, zl_1020, zl_1021, zl_1024, zl_1030, zl_1850, zl_2412, zl_2613, zl_9999, zl_10000, zl_99999, zl_1000000, lc_3, lc_4, lc_5, lc_6, lc_8, lc_9, lc_10, lc_12, lc_13, lc_14, lc_15, lc_16, lc_17, lc_19, lc_20, lc_21, lc_23, lc_24, lc_25, lc_27, lc_28, lc_29, lc_32, lc_33, lc_34, lc_36, lc_37, lc_38, lc_40, lc_41, lc_42, lc_44, lc_45, lc_46, lc_48, lc_49, lc_50, lc_52, lc_53, lc_54, lc_55, lc_56, lc_57, lc_58, lc_60, lc_122, lc_123, lc_124, lc_125, lc_127, lc_129, lc_161, lc_162, lc_163, lc_164, lc_166, lc_167, lc_168, lc_169, lc_170, lc_171, lc_173, lc_174, lc_175, lc_177, lc_190, lc_117]
      exact ⟨s, rfl, fun _ _ _ => rfl, fun j j0 => by first | rfl | rw [if_neg (by omega)]⟩
    · simp (disch := omega) only [zi_div, zi_and31, zi_neg, zi_add, zi_sub, zi_mul, zi_lt, zi_le, zi_eq, zi_imx, zi_imn, zi_iab, gd_i, vpb_0, vpb_1, b2i_0, b2i_1, b2i_e0, b2i_e1, lf_b, lf_s, lf_n, Option.bind_some, decide_eq_false_iff_not, decide_eq_true_eq, cif_t, cif_f, cif_pos, cif_neg, if_true, if_false, if_pos, if_neg, zi_ofNat, Nat.zero_add, Nat.reduceAdd, Nat.reduceSub, Nat.reduceMul, Int.reduceAdd, Int.reduceSub, Int.reduceMul, Int.reduceNeg, Bool.false_eq_true, reduceCtorEq, rI_wI_s, rI_wI_f, rI_wI_c, rI_wd_c, rd_wI_c, rd_wd_c, rd_wd_s, rd_wd_n, rI_wJ, rd_wJ, rI_ix, wI_ix, rJ_ix, wJ_ix, zl_0, zl_1, zl_2, zl_3, zl_4, zl_5, zl_6, zl_7, zl_8, zl_9, zl_10, zl_11, zl_12, zl_13, zl_14, zl_15, zl_16, zl_20, zl_21, zl_22, zl_23, zl_24, zl_25, zl_26, zl_27, zl_28, zl_29, zl_30, zl_31, zl_32, zl_37, zl_40, zl_41, zl_42, zl_43, zl_44, zl_45, zl_46, zl_47, zl_48, zl_49, zl_50, zl_51, zl_52, zl_53, zl_54, zl_55, zl_56, zl_57, zl_58, zl_59, zl_60, zl_61, zl_62, zl_63, zl_64, zl_65, zl_74, zl_86, zl_90, zl_97, zl_98, zl_99, zl_100, zl_122, zl_140, zl_141, zl_142, zl_143, zl_145, zl_146, zl_147, zl_149, zl_150, zl_159, zl_160, zl_161, zl_162, zl_178, zl_199, zl_200, zl_201, zl_210, zl_230, zl_240, zl_245, zl_255, zl_256, zl_257, zl_288, zl_312, zl_332, zl_340, zl_356, zl_366, zl_399, zl_400, zl_500, zl_820, zl_966, zl_982, zl_998, zl_999, zl_1000, zl_1002, zl_1003, zl_1004, zl_1012, zl_1013, zl_1014, zl_1015, zl_1016, zl_1017, zl_1018, zl_1020, zl_1021, zl_1024, zl_1030, zl_1850, zl_2412, zl_2613, zl_9999, zl_10000, zl_99999, zl_1000000, lc_3, lc_4, lc_5, lc_6, lc_8, lc_9, lc_10, lc_12, lc_13, lc_14, lc_15, lc_16, lc_17, lc_19, lc_20, lc_21, lc_23, lc_24, lc_25, lc_27, lc_28, lc_29, lc_32, lc_33, lc_34, lc_36, lc_37, lc_38, lc_40, lc_41, lc_42, lc_44, lc_45, lc_46, lc_48, lc_49, lc_50, lc_52, lc_53, lc_54, lc_55, lc_56, lc_57, lc_58, lc_60, lc_122, lc_123, lc_124, lc_125, lc_127, lc_129, lc_161, lc_162, lc_163, lc_164, lc_166, lc_167, lc_168, lc_169, lc_170, lc_171, lc_173, lc_174, lc_175, lc_177, lc_190, lc_117]
      obtain ⟨s', e1, e2, v0⟩ := ih (i + 1) (wd s (57) (i) (rd s (117) (i))) (by omega) (by omega) (by omega)  
      refine ⟨s', e1, fun k j k0 => (e2 k j k0).trans (by simp (disch := omega) only [rI_wI_s, rI_wI_f, rI_wI_c, rI_wd_c, rd_wI_c, rd_wd_c, rd_wd_s, rd_wd_n, rI_wJ, rd_wJ, rI_ix, wI_ix, rJ_ix, wJ_ix, rI_wI_o, Nat.reduceAdd]), fun j j0 => ?_⟩
      · rw [v0 j j0]
        by_cases g1 : (i + 1) ≤ j ∧ j < 10
        · rw [if_pos g1, if_pos (by omega)]
          simp (disch := omega) only [rI_wI_s, rI_wI_f, rI_wI_c, rI_wd_c, rd_wI_c, rd_wd_c, rd_wd_s, rd_wd_n, rI_wJ, rd_wJ, rI_ix, wI_ix, rJ_ix, wJ_ix, rI_wI_o, Nat.reduceAdd]
        · rw [if_neg g1]
          by_cases g2 : j = i
          · rw [if_pos (by omega), g2]
            simp (disch := omega) only [rI_wI_s, rI_wI_f, rI_wI_c, rI_wd_c, rd_wI_c, rd_wd_c, rd_wd_s, rd_wd_n, rI_wJ, rd_wJ, rI_ix, wI_ix, rJ_ix, wJ_ix, rI_wI_o, Nat.reduceAdd]
          · rw [if_neg (by omega)]
            simp (disch := omega) only [rI_wI_s, rI_wI_f, rI_wI_c, rI_wd_c, rd_wI_c, rd_wd_c, rd_wd_s, rd_wd_n, rI_wJ, rd_wJ, rI_ix, wI_ix, rJ_ix, wJ_ix, rI_wI_o, Nat.reduceAdd]
theorem cp_Lo_2t  : ∀ (n : Nat) (i : Int) (s : Mem), 0 ≤ i → i ≤ 600 → 600 - i < n → ∃ s', f_Lo_copyFrom_2 n 59 119 (zi i) s = some s' ∧ (∀ k j : Nat, k ≠ 60 → rI s' k j = rI s k j) ∧ (∀ j : Int, 0 ≤ j → rd s' (60) j = if i ≤ j ∧ j < 600 then rd s (120) (j) else rd s (60) j) := by
  intro n
  induction n with
  | zero => intro i s h0 h1 h2; omega
  | succ n ih =>
    intro i s h0 h1 h2  
    rw [f_Lo_copyFrom_2]
    by_cases hi : i = 600
    · subst hi
      simp (disch := omega) only [zi_div, zi_and31, zi_neg, zi_add, zi_sub, zi_mul, zi_lt, zi_le, zi_eq, zi_imx, zi_imn, zi_iab, gd_i, vpb_0, vpb_1, b2i_0, b2i_1, b2i_e0, b2i_e1, lf_b, lf_s, lf_n, Option.bind_some, decide_eq_false_iff_not, decide_eq_true_eq, cif_t, cif_f, cif_pos, cif_neg, if_true, if_false, if_pos, if_neg, zi_ofNat, Nat.zero_add, Nat.reduceAdd, Nat.reduceSub, Nat.reduceMul, Int.reduceAdd, Int.reduceSub, Int.reduceMul, Int.reduceNeg, Bool.false_eq_true, reduceCtorEq, rI_wI_s, rI_wI_f, rI_wI_c, rI_wd_c, rd_wI_c, rd_wd_c, rd_wd_s, rd_wd_n, rI_wJ, rd_wJ, rI_ix, wI_ix, rJ_ix, wJ_ix, zl_0, zl_1, zl_2, zl_3, zl_4, zl_5, zl_6, zl_7, zl_8, zl_9, zl_10, zl_11, zl_12, zl_13, zl_14, zl_15, zl_16, zl_20, zl_21, zl_22, zl_23, zl_24, zl_25, zl_26, zl_27, zl_28, zl_29, zl_30, zl_31, zl_32, zl_37, zl_40, zl_41, zl_42, zl_43, zl_44, zl_45, zl_46, zl_47, zl_48, zl_49, zl_50, zl_51, zl_52, zl_53, zl_54, zl_55, zl_56, zl_57, zl_58, zl_59, zl_60, zl_61, zl_62, zl_63, zl_64, zl_65, zl_74, zl_86, zl_90, zl_97, zl_98, zl_99, zl_100, zl_122, zl_140, zl_141, zl_142, zl_143, zl_145, zl_146, zl_147, zl_149, zl_150, zl_159, zl_160, zl_161, zl_162, zl_178, zl_199, zl_200, zl_201, zl_210, zl_230, zl_240, zl_245, zl_255, zl_256, zl_257, zl_288, zl_312, zl_332, zl_340, zl_356, zl_366, zl_399, zl_400, zl_500, zl_820, zl_966, zl_982, zl_998, zl_999, zl_1000, zl_1002, zl_1003, zl_1004, zl_1012, zl_1013, zl_1014, zl_1015, zl_1016, zl_1017, zl_1018, zl_1020, zl_1021, zl_1024, zl_1030, zl_1850, zl_2412, zl_2613, zl_9999, zl_10000, zl_99999, zl_1000000, lc_3, lc_4, lc_5, lc_6, lc_8, lc_9, lc_10, lc_12, lc_13, lc_14, lc_15, lc_16, lc_17, lc_19, lc_20, lc_21, lc_23, lc_24, lc_25, lc_27, lc_28, lc_29, lc_32, lc_33, lc_34, lc_36, lc_37, lc_38, lc_40, lc_41, lc_42, lc_44, lc_45, lc_46, lc_48, lc_49, lc_50, lc_52, lc_53, lc_54, lc_55, lc_56, lc_57, lc_58, lc_60, lc_122, lc_123, lc_124, lc_125, lc_127, lc_129, lc_161, lc_162, lc_163, lc_164, lc_166, lc_167, lc_168, lc_169, lc_170, lc_171, lc_173, lc_174, lc_175, lc_177, lc_190, lc_120]
      exact ⟨s, rfl, fun _ _ _ => rfl, fun j j0 => by first | rfl | rw [if_neg (by omega)]⟩
    · simp (disch := omega) only [zi_div, zi_and31, zi_neg, zi_add, zi_sub, zi_mul, zi_lt, zi_le, zi_eq, zi_imx, zi_imn, zi_iab, gd_i, vpb_0, vpb_1, b2i_0, b2i_1, b2i_e0, b2i_e1, lf_b, lf_s, lf_n, Option.bind_some, decide_eq_false_iff_not, decide_eq_true_eq, cif_t, cif_f, cif_pos, cif_neg, if_true, if_false, if_pos, if_neg, zi_ofNat, Nat.zero_add, Nat.reduceAdd, Nat.reduceSub, Nat.reduceMul, Int.reduceAdd, Int.reduceSub, Int.reduceMul, Int.reduceNeg, Bool.false_eq_true, reduceCtorEq, rI_wI_s, rI_wI_f, rI_wI_c, rI_wd_c, rd_wI_c, rd_wd_c, rd_wd_s, rd_wd_n, rI_wJ, rd_wJ, rI_ix, wI_ix, rJ_ix, wJ_ix, zl_0, zl_1, zl_2, zl_3, zl_4, zl_5, zl_6, zl_7, zl_8, zl_9, zl_10, zl_11, zl_12, zl_13, zl_14, zl_15, zl_16, zl_20, zl_21, zl_22, zl_23, zl_24, zl_25, zl_26, zl_27, zl_28, zl_29, zl_30, zl_31, zl_32, zl_37, zl_40, zl_41, zl_42, zl_43, zl_44, zl_45, zl_46, zl_47, zl_48, zl_49, zl_50, zl_51, zl_52, zl_53, zl_54, zl_55, zl_56, zl_57, zl_58, zl_59, zl_60, zl_61, zl_62, zl_63, zl_64, zl_65, zl_74, zl_86, zl_90, zl_97, zl_98, zl_99, zl_100, zl_122, zl_140, zl_141, zl_142, zl_143, zl_145, zl_146, zl_147, zl_149, zl_150, zl_159, zl_160, zl_161, zl_162, zl_178, zl_199, zl_200, zl_201, zl_210, zl_230, zl_240, zl_245, zl_255, zl_256, zl_257, zl_288, zl_312, zl_332, zl_340, zl_356, zl_366, zl_399, zl_400, zl_500, zl_820, zl_966, zl_982, zl_998, zl_999, zl_1000, zl_1002, zl_1003, zl_1004, zl_1012, zl_1013, zl_1014, zl_1015, zl_1016, zl_1017, zl_1018, zl_1020, zl_1021, zl_1024, zl_1030, zl_1850, zl_2412, zl_2613, zl_9999, zl_10000, zl_99999, zl_1000000, lc_3, lc_4, lc_5, lc_6, lc_8, lc_9, lc_10, lc_12, lc_13, lc_14, lc_15, lc_16, lc_17, lc_19, lc_20, lc_21, lc_23, lc_24, lc_25, lc_27, lc_28, lc_29, lc_32, lc_33, lc_34, lc_36, lc_37, lc_38, lc_40, lc_41, lc_42, lc_44, lc_45, lc_46, lc_48, lc_49, lc_50, lc_52, lc_53, lc_54, lc_55, lc_56, lc_57, lc_58, lc_60, lc_122, lc_123, lc_124, lc_125, lc_127, lc_129, lc_161, lc_162, lc_163, lc_164, lc_166, lc_167, lc_168, lc_169, lc_170, lc_171, lc_173, lc_174, lc_175, lc_177, lc_190, lc_120]
      obtain ⟨s', e1, e2, v0⟩ := ih (i + 1) (wd s (60) (i) (rd s (120) (i))) (by omega) (by omega) (by omega)  
      refine ⟨s', e1, fun k j k0 => (e2 k j k0).trans (by simp (disch := omega) only [rI_wI_s, rI_wI_f, rI_wI_c, rI_wd_c, rd_wI_c, rd_wd_c, rd_wd_s, rd_wd_n, rI_wJ, rd_wJ, rI_ix, wI_ix, rJ_ix, wJ_ix, rI_wI_o, Nat.reduceAdd]), fun j j0 => ?_⟩
      · rw [v0 j j0]
        by_cases g1 : (i + 1) ≤ j ∧ j < 600
        · rw [if_pos g1, if_pos (by omega)]
          simp (disch := omega) only [rI_wI_s, rI_wI_f, rI_wI_c, rI_wd_c, rd_wI_c, rd_wd_c, rd_wd_s, rd_wd_n, rI_wJ, rd_wJ, rI_ix, wI_ix, rJ_ix, wJ_ix, rI_wI_o, Nat.reduceAdd]
        · rw [if_neg g1]
          by_cases g2 : j = i
          · rw [if_pos (by omega), g2]
            simp (disch := omega) only [rI_wI_s, rI_wI_f, rI_wI_c, rI_wd_c, rd_wI_c, rd_wd_c, rd_wd_s, rd_wd_n, rI_wJ, rd_wJ, rI_ix, wI_ix, rJ_ix, wJ_ix, rI_wI_o, Nat.reduceAdd]
          · rw [if_neg (by omega)]
            simp (disch := omega) only [rI_wI_s, rI_wI_f, rI_wI_c, rI_wd_c, rd_wI_c, rd_wd_c, rd_wd_s, rd_wd_n, rI_wJ, rd_wJ, rI_ix, wI_ix, rJ_ix, wJ_ix, rI_wI_o, Nat.reduceAdd]
theorem cp_To_2o (K : Nat → Nat → Mem → Option Mem) : ∀ (n : Nat) (i : Int) (s : Mem), 0 ≤ i → i ≤ 12 → 12 - i < n → ∃ s', f_To_copyFrom_2 K n 67 7 (zi i) s = K 67 7 s' ∧ (∀ k j : Nat, k ≠ 68 → k ≠ 69 → k ≠ 70 → rI s' k j = rI s k j) ∧ (∀ j : Int, 0 ≤ j → rd s' (68) j = if i ≤ j ∧ j < 12 then rd s (8) (j) else rd s (68) j) ∧ (∀ j : Int, 0 ≤ j → rd s' (69) j = if i ≤ j ∧ j < 12 then rd s (9) (j) else rd s (69) j) ∧ (∀ j : Int, 0 ≤ j → rd s' (70) j = if i ≤ j ∧ j < 12 then rd s (10) (j) else rd s (70) j) := by
  intro n
  induction n with
  | zero => intro i s h0 h1 h2; omega
  | succ n ih =>
    intro i s h0 h1 h2  
    rw [f_To_copyFrom_2]
    by_cases hi : i = 12
    · subst hi
      simp (disch := omega) only [zi_div, zi_and31, zi_neg, zi_add, zi_sub, zi_mul, zi_lt, zi_le, zi_eq, zi_imx, zi_imn, zi_iab, gd_i, vpb_0, vpb_1, b2i_0, b2i_1, b2i_e0, b2i_e1, lf_b, lf_s, lf_n, Option.bind_some, decide_eq_false_iff_not, decide_eq_true_eq, cif_t, cif_f, cif_pos, cif_neg, if_true, if_false, if_pos, if_neg, zi_ofNat, Nat.zero_add, Nat.reduceAdd, Nat.reduceSub, Nat.reduceMul, Int.reduceAdd, Int.reduceSub, Int.reduceMul, Int.reduceNeg, Bool.false_eq_true, reduceCtorEq, rI_wI_s, rI_wI_f, rI_wI_c, rI_wd_c, rd_wI_c, rd_wd_c, rd_wd_s, rd_wd_n, rI_wJ, rd_wJ, rI_ix, wI_ix, rJ_ix, wJ_ix, zl_0, zl_1, zl_2, zl_3, zl_4, zl_5, zl_6, zl_7, zl_8, zl_9, zl_10, zl_11, zl_12, zl_13, zl_14, zl_15, zl_16, zl_20, zl_21, zl_22, zl_23, zl_24, zl_25, zl_26, zl_27, zl_28, zl_29, zl_30, zl_31, zl_32, zl_37, zl_40, zl_41, zl_42, zl_43, zl_44, zl_45, zl_46, zl_47, zl_48, zl_49, zl_50, zl_51, zl_52, zl_53, zl_54, zl_55, zl_56, zl_57, zl_58, zl_59, zl_60, zl_61, zl_62, zl_63, zl_64, zl_65, zl_74, zl_86, zl_90, zl_97, zl_98, zl_99, zl_100, zl_122, zl_140, zl_141, zl_142, zl_143, zl_145, zl_146, zl_147, zl_149, zl_150, zl_159, zl_160, zl_161, zl_162, zl_178, zl_199, zl_200, zl_201, zl_210, zl_230, zl_240, zl_245, zl_255, zl_256, zl_257, zl_288, zl_312, zl_332, zl_340, zl_356, zl_366, zl_399, zl_400, zl_500, zl_820, zl_966, zl_982, zl_998, zl_999, zl_1000, zl_1002, zl_1003, zl_1004, zl_1012, zl_1013, zl_1014, zl_1015, zl_1016, zl_1017, zl_1018, zl_1020, zl_1021, zl_1024, zl_1030, zl_1850, zl_2412, zl_2613, zl_9999, zl_10000, zl_99999, zl_1000000, lc_3, lc_4, lc_5, lc_6, lc_8, lc_9, lc_10, lc_12, lc_13, lc_14, lc_15, lc_16, lc_17, lc_19, lc_20, lc_21, lc_23, lc_24, lc_25, lc_27, lc_28, lc_29, lc_32, lc_33, lc_34, lc_36, lc_37, lc_38, lc_40, lc_41, lc_42, lc_44, lc_45, lc_46, lc_48, lc_49, lc_50, lc_52, lc_53, lc_54, lc_55, lc_56, lc_57, lc_58, lc_60, lc_122, lc_123, lc_124, lc_125, lc_127, lc_129, lc_161, lc_162, lc_163, lc_164, lc_166, lc_167, lc_168, lc_169, lc_170, lc_171, lc_173, lc_174, lc_175, lc_177, lc_190, lc_68, lc_69, lc_70]
      exact ⟨s, rfl, fun _ _ _ _ _ => rfl, fun j j0 => by first | rfl | rw [if_neg (by omega)], fun j j0 => by first | rfl | rw [if_neg (by omega)], fun j j0 => by first | rfl | rw [if_neg (by omega)]⟩
    · simp (disch := omega) only [zi_div, zi_and31, zi_neg, zi_add, zi_sub, zi_mul, zi_lt, zi_le, zi_eq, zi_imx, zi_imn, zi_iab, gd_i, vpb_0, vpb_1, b2i_0, b2i_1, b2i_e0, b2i_e1, lf_b, lf_s, lf_n, Option.bind_some, decide_eq_false_iff_not, decide_eq_true_eq, cif_t, cif_f, cif_pos, cif_neg, if_true, if_false, if_pos, if_neg, zi_ofNat, Nat.zero_add, Nat.reduceAdd, Nat.reduceSub, Nat.reduceMul, Int.reduceAdd, Int.reduceSub, Int.reduceMul, Int.reduceNeg, Bool.false_eq_true, reduceCtorEq, rI_wI_s, rI_wI_f, rI_wI_c, rI_wd_c, rd_wI_c, rd_wd_c, rd_wd_s, rd_wd_n, rI_wJ, rd_wJ, rI_ix, wI_ix, rJ_ix, wJ_ix, zl_0, zl_1, zl_2, zl_3, zl_4, zl_5, zl_6, zl_7, zl_8, zl_9, zl_10, zl_11, zl_12, zl_13, zl_14, zl_15, zl_16, zl_20, zl_21, zl_22, zl_23, zl_24, zl_25, zl_26, zl_27, zl_28, zl_29, zl_30, zl_31, zl_32, zl_37, zl_40, zl_41, zl_42, zl_43, zl_44, zl_45, zl_46, zl_47, zl_48, zl_49, zl_50, zl_51, zl_52, zl_53, zl_54, zl_55, zl_56, zl_57, zl_58, zl_59, zl_60, zl_61, zl_62, zl_63, zl_64, zl_65, zl_74, zl_86, zl_90, zl_97, zl_98, zl_99, zl_100, zl_122, zl_140, zl_141, zl_142, zl_143, zl_145, zl_146, zl_147, zl_149, zl_150, zl_159, zl_160, zl_161, zl_162, zl_178, zl_199, zl_200, zl_201, zl_210, zl_230, zl_240, zl_245, zl_255, zl_256, zl_257, zl_288, zl_312, zl_332, zl_340, zl_356, zl_366, zl_399, zl_400, zl_500, zl_820, zl_966, zl_982, zl_998, zl_999, zl_1000, zl_1002, zl_1003, zl_1004, zl_1012, zl_1013, zl_1014, zl_1015, zl_1016, zl_1017, zl_1018, zl_1020, zl_1021, zl_1024, zl_1030, zl_1850, zl_2412, zl_2613, zl_9999, zl_10000, zl_99999, zl_1000000, lc_3, lc_4, lc_5, lc_6, lc_8, lc_9, lc_10, lc_12, lc_13, lc_14, lc_15, lc_16, lc_17, lc_19, lc_20, lc_21, lc_23, lc_24, lc_25, lc_27, lc_28, lc_29, lc_32, lc_33, lc_34, lc_36, lc_37, lc_38, lc_40, lc_41, lc_42, lc_44, lc_45, lc_46, lc_48, lc_49, lc_50, lc_52, lc_53, lc_54, lc_55, lc_56, lc_57, lc_58, lc_60, lc_122, lc_123, lc_124, lc_125, lc_127, lc_129, lc_161, lc_162, lc_163, lc_164, lc_166, lc_167, lc_168, lc_169, lc_170, lc_171, lc_173, lc_174, lc_175, lc_177, lc_190, lc_68, lc_69, lc_70]
      obtain ⟨s', e1, e2, v0, v1, v2⟩ := ih (i + 1) (wd (wd (wd s (68) (i) (rd s (8) (i))) (69) (i) (rd s (9) (i))) (70) (i) (rd s (10) (i))) (by omega) (by omega) (by omega)  
      refine ⟨s', e1, fun k j k0 k1 k2 => (e2 k j k0 k1 k2).trans (by simp (disch := omega) only [rI_wI_s, rI_wI_f, rI_wI_c, rI_wd_c, rd_wI_c, rd_wd_c, rd_wd_s, rd_wd_n, rI_wJ, rd_wJ, rI_ix, wI_ix, rJ_ix, wJ_ix, rI_wI_o, Nat.reduceAdd]), fun j j0 => ?_, fun j j0 => ?_, fun j j0 => ?_⟩
      · rw [v0 j j0]
        by_cases g1 : (i + 1) ≤ j ∧ j < 12
        · rw [if_pos g1, if_pos (by omega)]
          simp (disch := omega) only [rI_wI_s, rI_wI_f, rI_wI_c, rI_wd_c, rd_wI_c, rd_wd_c, rd_wd_s, rd_wd_n, rI_wJ, rd_wJ, rI_ix, wI_ix, rJ_ix, wJ_ix, rI_wI_o, Nat.reduceAdd]
        · rw [if_neg g1]
          by_cases g2 : j = i
          · rw [if_pos (by omega), g2]
            simp (disch := omega) only [rI_wI_s, rI_wI_f, rI_wI_c, rI_wd_c, rd_wI_c, rd_wd_c, rd_wd_s, rd_wd_n, rI_wJ, rd_wJ, rI_ix, wI_ix, rJ_ix, wJ_ix, rI_wI_o, Nat.reduceAdd]
          · rw [if_neg (by omega)]
            simp (disch := omega) only [rI_wI_s, rI_wI_f, rI_wI_c, rI_wd_c, rd_wI_c, rd_wd_c, rd_wd_s, rd_wd_n, rI_wJ, rd_wJ, rI_ix, wI_ix, rJ_ix, wJ_ix, rI_wI_o, Nat.reduceAdd]
      · rw [v1 j j0]
        by_cases g1 : (i + 1) ≤ j ∧ j < 12
        · rw [if_pos g1, if_pos (by omega)]
          simp (disch := omega) only [rI_wI_s, rI_wI_f, rI_wI_c, rI_wd_c, rd_wI_c, rd_wd_c, rd_wd_s, rd_wd_n, rI_wJ, rd_wJ, rI_ix, wI_ix, rJ_ix, wJ_ix, rI_wI_o, Nat.reduceAdd]
        · rw [if_neg g1]
          by_cases g2 : j = i
          · rw [if_pos (by omega), g2]
            simp (disch := omega) only [rI_wI_s, rI_wI_f, rI_wI_c, rI_wd_c, rd_wI_c, rd_wd_c, rd_wd_s, rd_wd_n, rI_wJ, rd_wJ, rI_ix, wI_ix, rJ_ix, wJ_ix, rI_wI_o, Nat.reduceAdd]
          · rw [if_neg (by omega)]
            simp (disch := omega) only [rI_wI_s, rI_wI_f, rI_wI_c, rI_wd_c, rd_wI_c, rd_wd_c, rd_wd_s, rd_wd_n, rI_wJ, rd_wJ, rI_ix, wI_ix, rJ_ix, wJ_ix, rI_wI_o, Nat.reduceAdd]
      · rw [v2 j j0]
        by_cases g1 : (i + 1) ≤ j ∧ j < 12
        · rw [if_pos g1, if_pos (by omega)]
          simp (disch := omega) only [rI_wI_s, rI_wI_f, rI_wI_c, rI_wd_c, rd_wI_c, rd_wd_c, rd_wd_s, rd_wd_n, rI_wJ, rd_wJ, rI_ix, wI_ix, rJ_ix, wJ_ix, rI_wI_o, Nat.reduceAdd]
        · rw [if_neg g1]
          by_cases g2 : j = i
          · rw [if_pos (by omega), g2]
            simp (disch := omega) only [rI_wI_s, rI_wI_f, rI_wI_c, rI_wd_c, rd_wI_c, rd_wd_c, rd_wd_s, rd_wd_n, rI_wJ, rd_wJ, rI_ix, wI_ix, rJ_ix, wJ_ix, rI_wI_o, Nat.reduceAdd]
          · rw [if_neg (by omega)]
            simp (disch := omega) only [rI_wI_s, rI_wI_f, rI_wI_c, rI_wd_c, rd_wI_c, rd_wd_c, rd_wd_s, rd_wd_n, rI_wJ, rd_wJ, rI_ix, wI_ix, rJ_ix, wJ_ix, rI_wI_o, Nat.reduceAdd]
theorem cp_Th_74o (K : Nat → Nat → Mem → Option Mem) : ∀ (n : Nat) (i : Int) (s : Mem), 0 ≤ i → i ≤ 8 → 8 - i < n → ∃ s', f_Th_copyFrom_74 K n 90 30 (zi i) s = K 90 30 s' ∧ (∀ k j : Nat, k ≠ 115 → k ≠ 116 → rI s' k j = rI s k j) ∧ (∀ j : Int, 0 ≤ j → rd s' (115) j = if i ≤ j ∧ j < 8 then rd s (55) (j) else rd s (115) j) ∧ (∀ j : Int, 0 ≤ j → rd s' (116) j = if i ≤ j ∧ j < 8 then rd s (56) (j) else rd s (116) j) := by
  intro n
  induction n with
  | zero => intro i s h0 h1 h2; omega
  | succ n ih =>
    intro i s h0 h1 h2  
    rw [f_Th_copyFrom_74]
    by_cases hi : i = 8
    · subst hi
      simp (disch := omega) only [zi_div, zi_and31, zi_neg, zi_add, zi_sub, zi_mul, zi_lt, zi_le, zi_eq, zi_imx, zi_imn, zi_iab, gd_i, vpb_0, vpb_1, b2i_0, b2i_1, b2i_e0, b2i_e1, lf_b, lf_s, lf_n, Option.bind_some, decide_eq_false_iff_not, decide_eq_true_eq, cif_t, cif_f, cif_pos, cif_neg, if_true, if_false, if_pos, if_neg, zi_ofNat, Nat.zero_add, Nat.reduceAdd, Nat.reduceSub, Nat.reduceMul, Int.reduceAdd, Int.reduceSub, Int.reduceMul, Int.reduceNeg, Bool.false_eq_true, reduceCtorEq, rI_wI_s, rI_wI_f, rI_wI_c, rI_wd_c, rd_wI_c, rd_wd_c, rd_wd_s, rd_wd_n, rI_wJ, rd_wJ, rI_ix, wI_ix, rJ_ix, wJ_ix, zl_0, zl_1, zl_2, zl_3, zl_4, zl_5, zl_6, zl_7, zl_8, zl_9, zl_10, zl_11, zl_12, zl_13, zl_14, zl_15, zl_16, zl_20, zl_21, zl_22, zl_23, zl_24, zl_25, zl_26, zl_27, zl_28, zl_29, zl_30, zl_31, zl_32, zl_37, zl_40, zl_41, zl_42, zl_43, zl_44, zl_45, zl_46, zl_47, zl_48, zl_49, zl_50, zl_51, zl_52, zl_53, zl_54, zl_55, zl_56, zl_57, zl_58, zl_59, zl_60, zl_61, zl_62, zl_63, zl_64, zl_65, zl_74, zl_86, zl_90, zl_97, zl_98, zl_99, zl_100, zl_122, zl_140, zl_141, zl_142, zl_143, zl_145, zl_146, zl_147, zl_149, zl_150, zl_159, zl_160, zl_161, zl_162, zl_178, zl_199, zl_200, zl_201, zl_210, zl_230, zl_240, zl_245, zl_255, zl_256, zl_257, zl_288, zl_312, zl_332, zl_340, zl_356, zl_366, zl_399, zl_400, zl_500, zl_820, zl_966, zl_982, zl_998, zl_999, zl_1000, zl_1002, zl_1003, zl_1004, zl_1012, zl_1013, zl_1014, zl_1015, zl_1016, zl_1017, zl_1018, zl_1020, zl_1021, zl_1024, zl_1030, zl_1850, zl_2412, zl_2613, zl_9999, zl_10000, zl_99999, zl_1000000, lc_3, lc_4, lc_5, lc_6, lc_8, lc_9, lc_10, lc_12, lc_13, lc_14, lc_15, lc_16, lc_17, lc_19, lc_20, lc_21, lc_23, lc_24, lc_25, lc_27, lc_28, lc_29, lc_32, lc_33, lc_34, lc_36, lc_37, lc_38, lc_40, lc_41, lc_42, lc_44, lc_45, lc_46, lc_48, lc_49, lc_50, lc_52, lc_53, lc_54, lc_55, lc_56, lc_57, lc_58, lc_60, lc_122, lc_123, lc_124, lc_125, lc_127, lc_129, lc_161, lc_162, lc_163, lc_164, lc_166, lc_167, lc_168, lc_169, lc_170, lc_171, lc_173, lc_174, lc_175, lc_177, lc_190, lc_115, lc_116]
      exact ⟨s, rfl, fun _ _ _ _ => rfl, fun j j0 => by first | rfl | rw [if_neg (by omega)], fun j j0 => by first | rfl | rw [if_neg (by omega)]⟩
    · simp (disch := omega) only [zi_div, zi_and31, zi_neg, zi_add, zi_sub, zi_mul, zi_lt, zi_le, zi_eq, zi_imx, zi_imn, zi_iab, gd_i, vpb_0, vpb_1, b2i_0, b2i_1, b2i_e0, b2i_e1, lf_b, lf_s, lf_n, Option.bind_some, decide_eq_false_iff_not, decide_eq_true_eq, cif_t, cif_f, cif_pos, cif_neg, if_true, if_false, if_pos, if_neg, zi_ofNat, Nat.zero_add, Nat.reduceAdd, Nat.reduceSub, Nat.reduceMul, Int.reduceAdd, Int.reduceSub, Int.reduceMul, Int.reduceNeg, Bool.false_eq_true, reduceCtorEq, rI_wI_s, rI_wI_f, rI_wI_c, rI_wd_c, rd_wI_c, rd_wd_c, rd_wd_s, rd_wd_n, rI_wJ, rd_wJ, rI_ix, wI_ix, rJ_ix, wJ_ix, zl_0, zl_1, zl_2, zl_3, zl_4, zl_5, zl_6, zl_7, zl_8, zl_9, zl_10, zl_11, zl_12, zl_13, zl_14, zl_15, zl_16, zl_20, zl_21, zl_22, zl_23, zl_24, zl_25, zl_26, zl_27, zl_28, zl_29, zl_30, zl_31, zl_32, zl_37, zl_40, zl_41, zl_42, zl_43, zl_44, zl_45, zl_46, zl_47, zl_48, zl_49, zl_50, zl_51, zl_52, zl_53, zl_54, zl_55, zl_56, zl_57, zl_58, zl_59, zl_60, zl_61, zl_62, zl_63, zl_64, zl_65, zl_74, zl_86, zl_90, zl_97, zl_98, zl_99, zl_100, zl_122, zl_140, zl_141, zl_142, zl_143, zl_145, zl_146, zl_147, zl_149, zl_150, zl_159, zl_160, zl_161, zl_162, zl_178, zl_199, zl_200, zl_201, zl_210, zl_230, zl_240, zl_245, zl_255, zl_256, zl_257, zl_288, zl_312, zl_332, zl_340, zl_356, zl_366, zl_399, zl_400, zl_500, zl_820, zl_966, zl_982, zl_998, zl_999, zl_1000, zl_1002, zl_1003, zl_1004, zl_1012, zl_1013, zl_1014, zl_1015, zl_1016, zl_1017, zl_1018, zl_1020, zl_1021, zl_1024, zl_1030, zl_1850, zl_2412, zl_2613, zl_9999, zl_10000, zl_99999, zl_1000000, lc_3, lc_4, lc_5, lc_6, lc_8, lc_9, lc_10, lc_12, lc_13, lc_14, lc_15, lc_16, lc_17, lc_19, lc_20, lc_21, lc_23, lc_24, lc_25, lc_27, lc_28, lc_29, lc_32, lc_33, lc_34, lc_36, lc_37, lc_38, lc_40, lc_41, lc_42, lc_44, lc_45, lc_46, lc_48, lc_49, lc_50, lc_52, lc_53, lc_54, lc_55, lc_56, lc_57, lc_58, lc_60, lc_122, lc_123, lc_124, lc_125, lc_127, lc_129, lc_161, lc_162, lc_163, lc_164, lc_166, lc_167, lc_168, lc_169, lc_170, lc_171, lc_173, lc_174, lc_175, lc_177, lc_190, lc_115, lc_116]
      obtain ⟨s', e1, e2, v0, v1⟩ := ih (i + 1) (wd (wd s (115) (i) (rd s (55) (i))) (116) (i) (rd s (56) (i))) (by omega) (by omega) (by omega)  
      refine ⟨s', e1, fun k j k0 k1 => (e2 k j k0 k1).trans (by simp (disch := omega) only [rI_wI_s, rI_wI_f, rI_wI_c, rI_wd_c, rd_wI_c, rd_wd_c, rd_wd_s, rd_wd_n, rI_wJ, rd_wJ, rI_ix, wI_ix, rJ_ix, wJ_ix, rI_wI_o, Nat.reduceAdd]), fun j j0 => ?_, fun j j0 => ?_⟩
      · rw [v0 j j0]
        by_cases g1 : (i + 1) ≤ j ∧ j < 8
        · rw [if_pos g1, if_pos (by omega)]
          simp (disch := omega) only [rI_wI_s, rI_wI_f, rI_wI_c, rI_wd_c, rd_wI_c, rd_wd_c, rd_wd_s, rd_wd_n, rI_wJ, rd_wJ, rI_ix, wI_ix, rJ_ix, wJ_ix, rI_wI_o, Nat.reduceAdd]
        · rw [if_neg g1]
          by_cases g2 : j = i
          · rw [if_pos (by omega), g2]
            simp (disch := omega) only [rI_wI_s, rI_wI_f, rI_wI_c, rI_wd_c, rd_wI_c, rd_wd_c, rd_wd_s, rd_wd_n, rI_wJ, rd_wJ, rI_ix, wI_ix, rJ_ix, wJ_ix, rI_wI_o, Nat.reduceAdd]
          · rw [if_neg (by omega)]
            simp (disch := omega) only [rI_wI_s, rI_wI_f, rI_wI_c, rI_wd_c, rd_wI_c, rd_wd_c, rd_wd_s, rd_wd_n, rI_wJ, rd_wJ, rI_ix, wI_ix, rJ_ix, wJ_ix, rI_wI_o, Nat.reduceAdd]
      · rw [v1 j j0]
        by_cases g1 : (i + 1) ≤ j ∧ j < 8
        · rw [if_pos g1, if_pos (by omega)]
          simp (disch := omega) only [rI_wI_s, rI_wI_f, rI_wI_c, rI_wd_c, rd_wI_c, rd_wd_c, rd_wd_s, rd_wd_n, rI_wJ, rd_wJ, rI_ix, wI_ix, rJ_ix, wJ_ix, rI_wI_o, Nat.reduceAdd]
        · rw [if_neg g1]
          by_cases g2 : j = i
          · rw [if_pos (by omega), g2]
            simp (disch := omega) only [rI_wI_s, rI_wI_f, rI_wI_c, rI_wd_c, rd_wI_c, rd_wd_c, rd_wd_s, rd_wd_n, rI_wJ, rd_wJ, rI_ix, wI_ix, rJ_ix, wJ_ix, rI_wI_o, Nat.reduceAdd]
          · rw [if_neg (by omega)]
            simp (disch := omega) only [rI_wI_s, rI_wI_f, rI_wI_c, rI_wd_c, rd_wI_c, rd_wd_c, rd_wd_s, rd_wd_n, rI_wJ, rd_wJ, rI_ix, wI_ix, rJ_ix, wJ_ix, rI_wI_o, Nat.reduceAdd]
theorem cp_Th_112o  : ∀ (n : Nat) (i : Int) (s : Mem), 0 ≤ i → i ≤ 10 → 10 - i < n → ∃ s', f_Th_copyFrom_112 n 90 30 (zi i) s = some s' ∧ (∀ k j : Nat, k ≠ 117 → rI s' k j = rI s k j) ∧ (∀ j : Int, 0 ≤ j → rd s' (117) j = if i ≤ j ∧ j < 10 then rd s (57) (j) else rd s (117) j) := by
  intro n
  induction n with
  | zero => intro i s h0 h1 h2; omega
  | succ n ih =>
    intro i s h0 h1 h2  
    rw [f_Th_copyFrom_112]
    by_cases hi : i = 10
    · subst hi
      simp (disch := omega) only [zi_div, zi_and31, zi_neg, zi_add, zi_sub, zi_mul, zi_lt, zi_le, zi_eq, zi_imx, zi_imn, zi_iab, gd_i, vpb_0, vpb_1, b2i_0, b2i_1, b2i_e0, b2i_e1, lf_b, lf_s, lf_n, Option.bind_some, decide_eq_false_iff_not, decide_eq_true_eq, cif_t, cif_f, cif_pos, cif_neg, if_true, if_false, if_pos, if_neg, zi_ofNat, Nat.zero_add, Nat.reduceAdd, Nat.reduceSub, Nat.reduceMul, Int.reduceAdd, Int.reduceSub, Int.reduceMul, Int.reduceNeg, Bool.false_eq_true, reduceCtorEq, rI_wI_s, rI_wI_f, rI_wI_c, rI_wd_c, rd_wI_c, rd_wd_c, rd_wd_s, rd_wd_n, rI_wJ, rd_wJ, rI_ix, wI_ix, rJ_ix, wJ_ix, zl_0, zl_1, zl_2, zl_3, zl_4, zl_5, zl_6, zl_7, zl_8, zl_9, zl_10, zl_11, zl_12, zl_13, zl_14, zl_15, zl_16, zl_20, zl_21, zl_22, zl_23, zl_24, zl_25, zl_26, zl_27, zl_28, zl_29, zl_30, zl_31, zl_32, zl_37, zl_40, zl_41, zl_42, zl_43, zl_44, zl_45, zl_46, zl_47, zl_48, zl_49, zl_50, zl_51, zl_52, zl_53, zl_54, zl_55, zl_56, zl_57, zl_58, zl_59, zl_60, zl_61, zl_62, zl_63, zl_64, zl_65, zl_74, zl_86, zl_90, zl_97, zl_98, zl_99, zl_100, zl_122, zl_140, zl_141, zl_142, zl_143, zl_145, zl_146, zl_147, zl_149, zl_150, zl_159, zl_160, zl_161, zl_162, zl_178, zl_199, zl_200, zl_201, zl_210, zl_230, zl_240, zl_245, zl_255, zl_256, zl_257, zl_288, zl_312, zl_332, zl_340, zl_356, zl_366, zl_399, zl_400, zl_500, zl_820, zl_966, zl_982, zl_998, zl_999, zl_1000, zl_1002, zl_1003, zl_1004, zl_1012, zl_1013, zl_1014, zl_1015, zl_1016, zl_1017, zl_1018, zl_1020, zl_1021, zl_1024, zl_1030, zl_1850, zl_2412, zl_2613, zl_9999, zl_10000, zl_99999, zl_1000000, lc_3, lc_4, lc_5, lc_6, lc_8, lc_9, lc_10, lc_12, lc_13, lc_14, lc_15, lc_16, lc_17, lc_19, lc_20, lc_21, lc_23, lc_24, lc_25, lc_27, lc_28, lc_29, lc_32, lc_33, lc_34, lc_36, lc_37, lc_38, lc_40, lc_41, lc_42, lc_44, lc_45, lc_46, lc_48, lc_49, lc_50, lc_52, lc_53, lc_54, lc_55, lc_56, lc_57, lc_58, lc_60, lc_122, lc_123, lc_124, lc_125, lc_127, lc_129, lc_161, lc_162, lc_163, lc_164, lc_166, lc_167, lc_168, lc_169, lc_170, lc_171, lc_173, lc_174, lc_175, lc_177, lc_190, lc_117]
      exact ⟨s, rfl, fun _ _ _ => rfl, fun j j0 => by first | rfl | rw [if_neg (by omega)]⟩
    · simp (disch := omega) only [zi_div, zi_and31, zi_neg, zi_add, zi_sub, zi_mul, zi_lt, zi_le, zi_eq, zi_imx, zi_imn, zi_iab, gd_i, vpb_0, vpb_1, b2i_0, b2i_1, b2i_e0, b2i_e1, lf_b, lf_s, lf_n, Option.bind_some, decide_eq_false_iff_not, decide_eq_true_eq, cif_t, cif_f, cif_pos, cif_neg, if_true, if_false, if_pos, if_neg, zi_ofNat, Nat.zero_add, Nat.reduceAdd, Nat.reduceSub, Nat.reduceMul, Int.reduceAdd, Int.reduceSub, Int.reduceMul, Int.reduceNeg, Bool.false_eq_true, reduceCtorEq, rI_wI_s, rI_wI_f, rI_wI_c, rI_wd_c, rd_wI_c, rd_wd_c, rd_wd_s, rd_wd_n, rI_wJ, rd_wJ, rI_ix, wI_ix, rJ_ix, wJ_ix, zl_0, zl_1, zl_2, zl_3, zl_4, zl_5, zl_6, zl_7, zl_8, zl_9, zl_10, zl_11, zl_12, zl_13, zl_14, zl_15, zl_16, zl_20, zl_21, zl_22, zl_23, zl_24, zl_25, zl_26, zl_27, zl_28, zl_29, zl_30, zl_31, zl_32, zl_37, zl_40, zl_41, zl_42, zl_43, zl_44, zl_45, zl_46, zl_47, zl_48, zl_49, zl_50, zl_51, zl_52, zl_53, zl_54, zl_55, zl_56, zl_57, zl_58, zl_59, zl_60, zl_61, zl_62, zl_63, zl_64, zl_65, zl_74, zl_86, zl_90, zl_97, zl_98, zl_99, zl_100, zl_122, zl_140, zl_141, zl_142, zl_143, zl_145, zl_146, zl_147, zl_149, zl_150, zl_159, zl_160, zl_161, zl_162, zl_178, zl_199, zl_200, zl_201, zl_210, zl_230, zl_240, zl_245, zl_255, zl_256, zl_257, zl_288, zl_312, zl_332, zl_340, zl_356, zl_366, zl_399, zl_400, zl_500, zl_820, zl_966, zl_982, zl_998, zl_999, zl_1000, zl_1002, zl_1003, zl_1004, zl_1012, zl_1013, zl_1014, zl_1015, zl_1016, zl_1017, zl_1018, zl_1020, zl_1021, zl_1024, zl_1030, zl_1850, zl_2412, zl_2613, zl_9999, zl_10000, zl_99999, zl_1000000, lc_3, lc_4, lc_5, lc_6, lc_8, lc_9, lc_10, lc_12, lc_13, lc_14, lc_15, lc_16, lc_17, lc_19, lc_20, lc_21, lc_23, lc_24, lc_25, lc_27, lc_28, lc_29, lc_32, lc_33, lc_34, lc_36, lc_37, lc_38, lc_40, lc_41, lc_42, lc_44, lc_45, lc_46, lc_48, lc_49, lc_50, lc_52, lc_53, lc_54, lc_55, lc_56, lc_57, lc_58, lc_60, lc_122, lc_123, lc_124, lc_125, lc_127, lc_129, lc_161, lc_162, lc_163, lc_164, lc_166, lc_167, lc_168, lc_169, lc_170, lc_171, lc_173, lc_174, lc_175, lc_177, lc_190, lc_117]
      obtain ⟨s', e1, e2, v0⟩ := ih (i + 1) (wd s (117) (i) (rd s (57) (i))) (by omega) (by omega) (by omega)  
      refine ⟨s', e1, fun k j k0 => (e2 k j k0).trans (by simp (disch := omega) only [rI_wI_s, rI_wI_f, rI_wI_c, rI_wd_c, rd_wI_c, rd_wd_c, rd_wd_s, rd_wd_n, rI_wJ, rd_wJ, rI_ix, wI_ix, rJ_ix, wJ_ix, rI_wI_o, Nat.reduceAdd]), fun j j0 => ?_⟩
      · rw [v0 j j0]
        by_cases g1 : (i + 1) ≤ j ∧ j < 10
        · rw [if_pos g1, if_pos (by omega)]
          simp (disch := omega) only [rI_wI_s, rI_wI_f, rI_wI_c, rI_wd_c, rd_wI_c, rd_wd_c, rd_wd_s, rd_wd_n, rI_wJ, rd_wJ, rI_ix, wI_ix, rJ_ix, wJ_ix, rI_wI_o, Nat.reduceAdd]
        · rw [if_neg g1]
          by_cases g2 : j = i
          · rw [if_pos (by omega), g2]
            simp (disch := omega) only [rI_wI_s, rI_wI_f, rI_wI_c, rI_wd_c, rd_wI_c, rd_wd_c, rd_wd_s, rd_wd_n, rI_wJ, rd_wJ, rI_ix, wI_ix, rJ_ix, wJ_ix, rI_wI_o, Nat.reduceAdd]
          · rw [if_neg (by omega)]
            simp (disch := omega) only [rI_wI_s, rI_wI_f, rI_wI_c, rI_wd_c, rd_wI_c, rd_wd_c, rd_wd_s, rd_wd_n, rI_wJ, rd_wJ, rI_ix, wI_ix, rJ_ix, wJ_ix, rI_wI_o, Nat.reduceAdd]
theorem cp_Lo_2o  : ∀ (n : Nat) (i : Int) (s : Mem), 0 ≤ i → i ≤ 600 → 600 - i < n → ∃ s', f_Lo_copyFrom_2 n 119 59 (zi i) s = some s' ∧ (∀ k j : Nat, k ≠ 120 → rI s' k j = rI s k j) ∧ (∀ j : Int, 0 ≤ j → rd s' (120) j = if i ≤ j ∧ j < 600 then rd s (60) (j) else rd s (120) j) := by
  intro n
  induction n with
  | zero => intro i s h0 h1 h2; omega
  | succ n ih =>
    intro i s h0 h1 h2  
    rw [f_Lo_copyFrom_2]
    by_cases hi : i = 600
    · subst hi
      simp (disch := omega) only [zi_div, zi_and31, zi_neg, zi_add, zi_sub, zi_mul, zi_lt, zi_le, zi_eq, zi_imx, zi_imn, zi_iab, gd_i, vpb_0, vpb_1, b2i_0, b2i_1, b2i_e0, b2i_e1, lf_b, lf_s, lf_n, Option.bind_some, decide_eq_false_iff_not, decide_eq_true_eq, cif_t, cif_f, cif_pos, cif_neg, if_true, if_false, if_pos, if_neg, zi_ofNat, Nat.zero_add, Nat.reduceAdd, Nat.reduceSub, Nat.reduceMul, Int.reduceAdd, Int.reduceSub, Int.reduceMul, Int.reduceNeg, Bool.false_eq_true, reduceCtorEq, rI_wI_s, rI_wI_f, rI_wI_c, rI_wd_c, rd_wI_c, rd_wd_c, rd_wd_s, rd_wd_n, rI_wJ, rd_wJ, rI_ix, wI_ix, rJ_ix, wJ_ix, zl_0, zl_1, zl_2, zl_3, zl_4, zl_5, zl_6, zl_7, zl_8, zl_9, zl_10, zl_11, zl_12, zl_13, zl_14, zl_15, zl_16, zl_20, zl_21, zl_22, zl_23, zl_24, zl_25, zl_26, zl_27, zl_28, zl_29, zl_30, zl_31, zl_32, zl_37, zl_40, zl_41, zl_42, zl_43, zl_44, zl_45, zl_46, zl_47, zl_48, zl_49, zl_50, zl_51, zl_52, zl_53, zl_54, zl_55, zl_56, zl_57, zl_58, zl_59, zl_60, zl_61, zl_62, zl_63, zl_64, zl_65, zl_74, zl_86, zl_90, zl_97, zl_98, zl_99, zl_100, zl_122, zl_140, zl_141, zl_142, zl_143, zl_145, zl_146, zl_147, zl_149, zl_150, zl_159, zl_160, zl_161, zl_162, zl_178, zl_199, zl_200, zl_201, zl_210, zl_230, zl_240, zl_245, zl_255, zl_256, zl_257, zl_288, zl_312, zl_332, zl_340, zl_356, zl_366, zl_399, zl_400, zl_500, zl_820, zl_966, zl_982, zl_998, zl_999, zl_1000, zl_1002, zl_1003, zl_1004, zl_1012, zl_1013, zl_1014, zl_1015, zl_1016, zl_1017, zl_1018, zl_1020, zl_1021, zl_1024, zl_1030, zl_1850, zl_2412, zl_2613, zl_9999, zl_10000, zl_99999, zl_1000000, lc_3, lc_4, lc_5, lc_6, lc_8, lc_9, lc_10, lc_12, lc_13, lc_14, lc_15, lc_16, lc_17, lc_19, lc_20, lc_21, lc_23, lc_24, lc_25, lc_27, lc_28, lc_29, lc_32, lc_33, lc_34, lc_36, lc_37, lc_38, lc_40, lc_41, lc_42, lc_44, lc_45, lc_46, lc_48, lc_49, lc_50, lc_52, lc_53, lc_54, lc_55, lc_56, lc_57, lc_58, lc_60, lc_122, lc_123, lc_124, lc_125, lc_127, lc_129, lc_161, lc_162, lc_163, lc_164, lc_166, lc_167, lc_168, lc_169, lc_170, lc_171, lc_173, lc_174, lc_175, lc_177, lc_190, lc_120]
      exact ⟨s, rfl, fun _ _ _ => rfl, fun j j0 => by first | rfl | rw [if_neg (by omega)]⟩
    · simp (disch := omega) only [zi_div, zi_and31, zi_neg, zi_add, zi_sub, zi_mul, zi_lt, zi_le, zi_eq, zi_imx, zi_imn, zi_iab, gd_i, vpb_0, vpb_1, b2i_0, b2i_1, b2i_e0, b2i_e1, lf_b, lf_s, lf_n, Option.bind_some, decide_eq_false_iff_not, decide_eq_true_eq, cif_t, cif_f, cif_pos, cif_neg, if_true, if_false, if_pos, if_neg, zi_ofNat, Nat.zero_add, Nat.reduceAdd, Nat.reduceSub, Nat.reduceMul, Int.reduceAdd, Int.reduceSub, Int.reduceMul, Int.reduceNeg, Bool.false_eq_true, reduceCtorEq, rI_wI_s, rI_wI_f, rI_wI_c, rI_wd_c, rd_wI_c, rd_wd_c, rd_wd_s, rd_wd_n, rI_wJ, rd_wJ, rI_ix, wI_ix, rJ_ix, wJ_ix, zl_0, zl_1, zl_2, zl_3, zl_4, zl_5, zl_6, zl_7, zl_8, zl_9, zl_10, zl_11, zl_12, zl_13, zl_14, zl_15, zl_16, zl_20, zl_21, zl_22, zl_23, zl_24, zl_25, zl_26, zl_27, zl_28, zl_29, zl_30, zl_31, zl_32, zl_37, zl_40, zl_41, zl_42, zl_43, zl_44, zl_45, zl_46, zl_47, zl_48, zl_49, zl_50, zl_51, zl_52, zl_53, zl_54, zl_55, zl_56, zl_57, zl_58, zl_59, zl_60, zl_61, zl_62, zl_63, zl_64, zl_65, zl_74, zl_86, zl_90, zl_97, zl_98, zl_99, zl_100, zl_122, zl_140, zl_141, zl_142, zl_143, zl_145, zl_146, zl_147, zl_149, zl_150, zl_159, zl_160, zl_161, zl_162, zl_178, zl_199, zl_200, zl_201, zl_210, zl_230, zl_240, zl_245, zl_255, zl_256, zl_257, zl_288, zl_312, zl_332, zl_340, zl_356, zl_366, zl_399, zl_400, zl_500, zl_820, zl_966, zl_982, zl_998, zl_999, zl_1000, zl_1002, zl_1003, zl_1004, zl_1012, zl_1013, zl_1014, zl_1015, zl_1016, zl_1017, zl_1018, zl_1020, zl_1021, zl_1024, zl_1030, zl_1850, zl_2412, zl_2613, zl_9999, zl_10000, zl_99999, zl_1000000, lc_3, lc_4, lc_5, lc_6, lc_8, lc_9, lc_10, lc_12, lc_13, lc_14, lc_15, lc_16, lc_17, lc_19, lc_20, lc_21, lc_23, lc_24, lc_25, lc_27, lc_28, lc_29, lc_32, lc_33, lc_34, lc_36, lc_37, lc_38, lc_40, lc_41, lc_42, lc_44, lc_45, lc_46, lc_48, lc_49, lc_50, lc_52, lc_53, lc_54, lc_55, lc_56, lc_57, lc_58, lc_60, lc_122, lc_123, lc_124, lc_125, lc_127, lc_129, lc_161, lc_162, lc_163, lc_164, lc_166, lc_167, lc_168, lc_169, lc_170, lc_171, lc_173, lc_174, lc_175, lc_177, lc_190, lc_120]
      obtain ⟨s', e1, e2, v0⟩ := ih (i + 1) (wd s (120) (i) (rd s (60) (i))) (by omega) (by omega) (by omega)  
      refine ⟨s', e1, fun k j k0 => (e2 k j k0).trans (by simp (disch := omega) only [rI_wI_s, rI_wI_f, rI_wI_c, rI_wd_c, rd_wI_c, rd_wd_c, rd_wd_s, rd_wd_n, rI_wJ, rd_wJ, rI_ix, wI_ix, rJ_ix, wJ_ix, rI_wI_o, Nat.reduceAdd]), fun j j0 => ?_⟩
      · rw [v0 j j0]
        by_cases g1 : (i + 1) ≤ j ∧ j < 600
        · rw [if_pos g1, if_pos (by omega)]
          simp (disch := omega) only [rI_wI_s, rI_wI_f, rI_wI_c, rI_wd_c, rd_wI_c, rd_wd_c, rd_wd_s, rd_wd_n, rI_wJ, rd_wJ, rI_ix, wI_ix, rJ_ix, wJ_ix, rI_wI_o, Nat.reduceAdd]
        · rw [if_neg g1]
          by_cases g2 : j = i
          · rw [if_pos (by omega), g2]
            simp (disch := omega) only [rI_wI_s, rI_wI_f, rI_wI_c, rI_wd_c, rd_wI_c, rd_wd_c, rd_wd_s, rd_wd_n, rI_wJ, rd_wJ, rI_ix, wI_ix, rJ_ix, wJ_ix, rI_wI_o, Nat.reduceAdd]
          · rw [if_neg (by omega)]
            simp (disch := omega) only [rI_wI_s, rI_wI_f, rI_wI_c, rI_wd_c, rd_wI_c, rd_wd_c, rd_wd_s, rd_wd_n, rI_wJ, rd_wJ, rI_ix, wI_ix, rJ_ix, wJ_ix, rI_wI_o, Nat.reduceAdd]
theorem cp_image_0 (K : Nat → Int32 → Mem → Option (Bool × Mem)) : ∀ (n : Nat) (i : Int) (s : Mem), 0 ≤ i → i ≤ 1850 → 1850 - i < n → ∃ s', f_M_image_15 K n 0 (zi 0) (zi i) s = K 0 (zi 0) s' ∧ (∀ k j : Nat, k ≠ 1 → rI s' k j = rI s k j) ∧ (∀ j : Int, 0 ≤ j → rd s' (1) j = if i ≤ j ∧ j < 1850 then rd s (2) (j) else rd s (1) j) := by
  intro n
  induction n with
  | zero => intro i s h0 h1 h2; omega
  | succ n ih =>
    intro i s h0 h1 h2  
    rw [f_M_image_15]
    by_cases hi : i = 1850
    · subst hi
      simp (disch := omega) only [zi_div, zi_and31, zi_neg, zi_add, zi_sub, zi_mul, zi_lt, zi_le, zi_eq, zi_imx, zi_imn, zi_iab, gd_i, vpb_0, vpb_1, b2i_0, b2i_1, b2i_e0, b2i_e1, lf_b, lf_s, lf_n, Option.bind_some, decide_eq_false_iff_not, decide_eq_true_eq, cif_t, cif_f, cif_pos, cif_neg, if_true, if_false, if_pos, if_neg, zi_ofNat, Nat.zero_add, Nat.reduceAdd, Nat.reduceSub, Nat.reduceMul, Int.reduceAdd, Int.reduceSub, Int.reduceMul, Int.reduceNeg, Bool.false_eq_true, reduceCtorEq, rI_wI_s, rI_wI_f, rI_wI_c, rI_wd_c, rd_wI_c, rd_wd_c, rd_wd_s, rd_wd_n, rI_wJ, rd_wJ, rI_ix, wI_ix, rJ_ix, wJ_ix, zl_0, zl_1, zl_2, zl_3, zl_4, zl_5, zl_6, zl_7, zl_8, zl_9, zl_10, zl_11, zl_12, zl_13, zl_14, zl_15, zl_16, zl_20, zl_21, zl_22, zl_23, zl_24, zl_25, zl_26, zl_27, zl_28, zl_29, zl_30, zl_31, zl_32, zl_37, zl_40, zl_41, zl_42, zl_43, zl_44, zl_45, zl_46, zl_47, zl_48, zl_49, zl_50, zl_51, zl_52, zl_53, zl_54, zl_55, zl_56, zl_57, zl_58, zl_59, zl_60, zl_61, zl_62, zl_63, zl_64, zl_65, zl_74, zl_86, zl_90, zl_97, zl_98, zl_99, zl_100, zl_122, zl_140, zl_141, zl_142, zl_143, zl_145, zl_146, zl_147, zl_149, zl_150, zl_159, zl_160, zl_161, zl_162, zl_178, zl_199, zl_200, zl_201, zl_210, zl_230, zl_240, zl_245, zl_255, zl_256, zl_257, zl_288, zl_312, zl_332, zl_340, zl_356, zl_366, zl_399, zl_400, zl_500, zl_820, zl_966, zl_982, zl_998, zl_999, zl_1000, zl_1002, zl_1003, zl_1004, zl_1012, zl_1013, zl_1014, zl_1015, zl_1016, zl_1017, zl_1018, zl_1020, zl_1021, zl_1024, zl_1030, zl_1850, zl_2412, zl_2613, zl_9999, zl_10000, zl_99999, zl_1000000, lm_1, lm_2, lm_3, lm_4, lm_5, lm_6, lm_7, lm_8, lm_9, lm_10, lm_11, lm_12, lm_13, lm_14, lm_15]
      exact ⟨s, rfl, fun _ _ _ => rfl, fun j j0 => by first | rfl | rw [if_neg (by omega)]⟩
    · simp (disch := omega) only [zi_div, zi_and31, zi_neg, zi_add, zi_sub, zi_mul, zi_lt, zi_le, zi_eq, zi_imx, zi_imn, zi_iab, gd_i, vpb_0, vpb_1, b2i_0, b2i_1, b2i_e0, b2i_e1, lf_b, lf_s, lf_n, Option.bind_some, decide_eq_false_iff_not, decide_eq_true_eq, cif_t, cif_f, cif_pos, cif_neg, if_true, if_false, if_pos, if_neg, zi_ofNat, Nat.zero_add, Nat.reduceAdd, Nat.reduceSub, Nat.reduceMul, Int.reduceAdd, Int.reduceSub, Int.reduceMul, Int.reduceNeg, Bool.false_eq_true, reduceCtorEq, rI_wI_s, rI_wI_f, rI_wI_c, rI_wd_c, rd_wI_c, rd_wd_c, rd_wd_s, rd_wd_n, rI_wJ, rd_wJ, rI_ix, wI_ix, rJ_ix, wJ_ix, zl_0, zl_1, zl_2, zl_3, zl_4, zl_5, zl_6, zl_7, zl_8, zl_9, zl_10, zl_11, zl_12, zl_13, zl_14, zl_15, zl_16, zl_20, zl_21, zl_22, zl_23, zl_24, zl_25, zl_26, zl_27, zl_28, zl_29, zl_30, zl_31, zl_32, zl_37, zl_40, zl_41, zl_42, zl_43, zl_44, zl_45, zl_46, zl_47, zl_48, zl_49, zl_50, zl_51, zl_52, zl_53, zl_54, zl_55, zl_56, zl_57, zl_58, zl_59, zl_60, zl_61, zl_62, zl_63, zl_64, zl_65, zl_74, zl_86, zl_90, zl_97, zl_98, zl_99, zl_100, zl_122, zl_140, zl_141, zl_142, zl_143, zl_145, zl_146, zl_147, zl_149, zl_150, zl_159, zl_160, zl_161, zl_162, zl_178, zl_199, zl_200, zl_201, zl_210, zl_230, zl_240, zl_245, zl_255, zl_256, zl_257, zl_288, zl_312, zl_332, zl_340, zl_356, zl_366, zl_399, zl_400, zl_500, zl_820, zl_966, zl_982, zl_998, zl_999, zl_1000, zl_1002, zl_1003, zl_1004, zl_1012, zl_1013, zl_1014, zl_1015, zl_1016, zl_1017, zl_1018, zl_1020, zl_1021, zl_1024, zl_1030, zl_1850, zl_2412, zl_2613, zl_9999, zl_10000, zl_99999, zl_1000000, lm_1, lm_2, lm_3, lm_4, lm_5, lm_6, lm_7, lm_8, lm_9, lm_10, lm_11, lm_12, lm_13, lm_14, lm_15]
      obtain ⟨s', e1, e2, v0⟩ := ih (i + 1) (wd s (1) (i) (rd s (2) (i))) (by omega) (by omega) (by omega)  
      refine ⟨s', e1, fun k j k0 => (e2 k j k0).trans (by simp (disch := omega) only [rI_wI_s, rI_wI_f, rI_wI_c, rI_wd_c, rd_wI_c, rd_wd_c, rd_wd_s, rd_wd_n, rI_wJ, rd_wJ, rI_ix, wI_ix, rJ_ix, wJ_ix, rI_wI_o, Nat.reduceAdd]), fun j j0 => ?_⟩
      · rw [v0 j j0]
        by_cases g1 : (i + 1) ≤ j ∧ j < 1850
        · rw [if_pos g1, if_pos (by omega)]
          simp (disch := omega) only [rI_wI_s, rI_wI_f, rI_wI_c, rI_wd_c, rd_wI_c, rd_wd_c, rd_wd_s, rd_wd_n, rI_wJ, rd_wJ, rI_ix, wI_ix, rJ_ix, wJ_ix, rI_wI_o, Nat.reduceAdd]
        · rw [if_neg g1]
          by_cases g2 : j = i
          · rw [if_pos (by omega), g2]
            simp (disch := omega) only [rI_wI_s, rI_wI_f, rI_wI_c, rI_wd_c, rd_wI_c, rd_wd_c, rd_wd_s, rd_wd_n, rI_wJ, rd_wJ, rI_ix, wI_ix, rJ_ix, wJ_ix, rI_wI_o, Nat.reduceAdd]
          · rw [if_neg (by omega)]
            simp (disch := omega) only [rI_wI_s, rI_wI_f, rI_wI_c, rI_wd_c, rd_wI_c, rd_wd_c, rd_wd_s, rd_wd_n, rI_wJ, rd_wJ, rI_ix, wI_ix, rJ_ix, wJ_ix, rI_wI_o, Nat.reduceAdd]
theorem cp_image_1 (K : Nat → Int32 → Mem → Option (Bool × Mem)) : ∀ (n : Nat) (i : Int) (s : Mem), 0 ≤ i → i ≤ 1850 → 1850 - i < n → ∃ s', f_M_image_15 K n 0 (zi 1) (zi i) s = K 0 (zi 1) s' ∧ (∀ k j : Nat, k ≠ 2 → rI s' k j = rI s k j) ∧ (∀ j : Int, 0 ≤ j → rd s' (2) j = if i ≤ j ∧ j < 1850 then rd s (1) (j) else rd s (2) j) := by
  intro n
  induction n with
  | zero => intro i s h0 h1 h2; omega
  | succ n ih =>
    intro i s h0 h1 h2  
    rw [f_M_image_15]
    by_cases hi : i = 1850
    · subst hi
      simp (disch := omega) only [zi_div, zi_and31, zi_neg, zi_add, zi_sub, zi_mul, zi_lt, zi_le, zi_eq, zi_imx, zi_imn, zi_iab, gd_i, vpb_0, vpb_1, b2i_0, b2i_1, b2i_e0, b2i_e1, lf_b, lf_s, lf_n, Option.bind_some, decide_eq_false_iff_not, decide_eq_true_eq, cif_t, cif_f, cif_pos, cif_neg, if_true, if_false, if_pos, if_neg, zi_ofNat, Nat.zero_add, Nat.reduceAdd, Nat.reduceSub, Nat.reduceMul, Int.reduceAdd, Int.reduceSub, Int.reduceMul, Int.reduceNeg, Bool.false_eq_true, reduceCtorEq, rI_wI_s, rI_wI_f, rI_wI_c, rI_wd_c, rd_wI_c, rd_wd_c, rd_wd_s, rd_wd_n, rI_wJ, rd_wJ, rI_ix, wI_ix, rJ_ix, wJ_ix, zl_0, zl_1, zl_2, zl_3, zl_4, zl_5, zl_6, zl_7, zl_8, zl_9, zl_10, zl_11, zl_12, zl_13, zl_14, zl_15, zl_16, zl_20, zl_21, zl_22, zl_23, zl_24, zl_25, zl_26, zl_27, zl_28, zl_29, zl_30, zl_31, zl_32, zl_37, zl_40, zl_41, zl_42, zl_43, zl_44, zl_45, zl_46, zl_47, zl_48, zl_49, zl_50, zl_51, zl_52, zl_53, zl_54, zl_55, zl_56, zl_57, zl_58, zl_59, zl_60, zl_61, zl_62, zl_63, zl_64, zl_65, zl_74, zl_86, zl_90, zl_97, zl_98, zl_99, zl_100, zl_122, zl_140, zl_141, zl_142, zl_143, zl_145, zl_146, zl_147, zl_149, zl_150, zl_159, zl_160, zl_161, zl_162, zl_178, zl_199, zl_200, zl_201, zl_210, zl_230, zl_240, zl_245, zl_255, zl_256, zl_257, zl_288, zl_312, zl_332, zl_340, zl_356, zl_366, zl_399, zl_400, zl_500, zl_820, zl_966, zl_982, zl_998, zl_999, zl_1000, zl_1002, zl_1003, zl_1004, zl_1012, zl_1013, zl_1014, zl_1015, zl_1016, zl_1017, zl_1018, zl_1020, zl_1021, zl_1024, zl_1030, zl_1850, zl_2412, zl_2613, zl_9999, zl_10000, zl_99999, zl_1000000, lm_1, lm_2, lm_3, lm_4, lm_5, lm_6, lm_7, lm_8, lm_9, lm_10, lm_11, lm_12, lm_13, lm_14, lm_15]
      exact ⟨s, rfl, fun _ _ _ => rfl, fun j j0 => by first | rfl | rw [if_neg (by omega)]⟩
    · simp (disch := omega) only [zi_div, zi_and31, zi_neg, zi_add, zi_sub, zi_mul, zi_lt, zi_le, zi_eq, zi_imx, zi_imn, zi_iab, gd_i, vpb_0, vpb_1, b2i_0, b2i_1, b2i_e0, b2i_e1, lf_b, lf_s, lf_n, Option.bind_some, decide_eq_false_iff_not, decide_eq_true_eq, cif_t, cif_f, cif_pos, cif_neg, if_true, if_false, if_pos, if_neg, zi_ofNat, Nat.zero_add, Nat.reduceAdd, Nat.reduceSub, Nat.reduceMul, Int.reduceAdd, Int.reduceSub, Int.reduceMul, Int.reduceNeg, Bool.false_eq_true, reduceCtorEq, rI_wI_s, rI_wI_f, rI_wI_c, rI_wd_c, rd_wI_c, rd_wd_c, rd_wd_s, rd_wd_n, rI_wJ, rd_wJ, rI_ix, wI_ix, rJ_ix, wJ_ix, zl_0, zl_1, zl_2, zl_3, zl_4, zl_5, zl_6, zl_7, zl_8, zl_9, zl_10, zl_11, zl_12, zl_13, zl_14, zl_15, zl_16, zl_20, zl_21, zl_22, zl_23, zl_24, zl_25, zl_26, zl_27, zl_28, zl_29, zl_30, zl_31, zl_32, zl_37, zl_40, zl_41, zl_42, zl_43, zl_44, zl_45, zl_46, zl_47, zl_48, zl_49, zl_50, zl_51, zl_52, zl_53, zl_54, zl_55, zl_56, zl_57, zl_58, zl_59, zl_60, zl_61, zl_62, zl_63, zl_64, zl_65, zl_74, zl_86, zl_90, zl_97, zl_98, zl_99, zl_100, zl_122, zl_140, zl_141, zl_142, zl_143, zl_145, zl_146, zl_147, zl_149, zl_150, zl_159, zl_160, zl_161, zl_162, zl_178, zl_199, zl_200, zl_201, zl_210, zl_230, zl_240, zl_245, zl_255, zl_256, zl_257, zl_288, zl_312, zl_332, zl_340, zl_356, zl_366, zl_399, zl_400, zl_500, zl_820, zl_966, zl_982, zl_998, zl_999, zl_1000, zl_1002, zl_1003, zl_1004, zl_1012, zl_1013, zl_1014, zl_1015, zl_1016, zl_1017, zl_1018, zl_1020, zl_1021, zl_1024, zl_1030, zl_1850, zl_2412, zl_2613, zl_9999, zl_10000, zl_99999, zl_1000000, lm_1, lm_2, lm_3, lm_4, lm_5, lm_6, lm_7, lm_8, lm_9, lm_10, lm_11, lm_12, lm_13, lm_14, lm_15]
      obtain ⟨s', e1, e2, v0⟩ := ih (i + 1) (wd s (2) (i) (rd s (1) (i))) (by omega) (by omega) (by omega)  
      refine ⟨s', e1, fun k j k0 => (e2 k j k0).trans (by simp (disch := omega) only [rI_wI_s, rI_wI_f, rI_wI_c, rI_wd_c, rd_wI_c, rd_wd_c, rd_wd_s, rd_wd_n, rI_wJ, rd_wJ, rI_ix, wI_ix, rJ_ix, wJ_ix, rI_wI_o, Nat.reduceAdd]), fun j j0 => ?_⟩
      · rw [v0 j j0]
        by_cases g1 : (i + 1) ≤ j ∧ j < 1850
        · rw [if_pos g1, if_pos (by omega)]
          simp (disch := omega) only [rI_wI_s, rI_wI_f, rI_wI_c, rI_wd_c, rd_wI_c, rd_wd_c, rd_wd_s, rd_wd_n, rI_wJ, rd_wJ, rI_ix, wI_ix, rJ_ix, wJ_ix, rI_wI_o, Nat.reduceAdd]
        · rw [if_neg g1]
          by_cases g2 : j = i
          · rw [if_pos (by omega), g2]
            simp (disch := omega) only [rI_wI_s, rI_wI_f, rI_wI_c, rI_wd_c, rd_wI_c, rd_wd_c, rd_wd_s, rd_wd_n, rI_wJ, rd_wJ, rI_ix, wI_ix, rJ_ix, wJ_ix, rI_wI_o, Nat.reduceAdd]
          · rw [if_neg (by omega)]
            simp (disch := omega) only [rI_wI_s, rI_wI_f, rI_wI_c, rI_wd_c, rd_wI_c, rd_wd_c, rd_wd_s, rd_wd_n, rI_wJ, rd_wJ, rI_ix, wI_ix, rJ_ix, wJ_ix, rI_wI_o, Nat.reduceAdd]
theorem RHa.mv {h h' : Nat} {s s' : Mem} {W W' : Int → Int32} (H : RHa h s W) (hs : ∀ c : Int, rI s (h + 1) 3 = zi c → 0 ≤ c → c ≤ 20 → rI s' (h' + 1) 3 = zi c ∧ ∀ i : Int, 0 ≤ i → i < c → rd s' (h' + 2) i = rd s (h + 2) i ∧ rd s' (h' + 3) i = rd s (h + 3) i ∧ rd s' (h' + 4) i = rd s (h + 4) i) (hw : ∀ z : Int, z = 56 ∨ (210 ≤ z ∧ z < 230) → W' z = W z) : RHa h' s' W' := by
  obtain ⟨c, a1, a2, a3, a4, a5⟩ := H
  obtain ⟨e1, e2⟩ := hs c a3 a1 a2
  refine ⟨c, a1, a2, e1, ?_, ?_⟩
  · simp (disch := omega) only [hw]; exact a4
  · intro i i1 i2
    obtain ⟨u1, u2, u3⟩ := e2 i i1 i2
    simp (disch := omega) only [hw, u1, u2, u3]
    exact a5 i i1 i2
theorem RHb.mv {h h' : Nat} {s s' : Mem} {W W' : Int → Int32} (H : RHb h s W) (hs : ∀ c : Int, rI s (h + 5) 3 = zi c → 0 ≤ c → c ≤ 10 → rI s' (h' + 5) 3 = zi c ∧ ∀ i : Int, 0 ≤ i → i < c → rd s' (h' + 6) i = rd s (h + 6) i ∧ rd s' (h' + 7) i = rd s (h + 7) i ∧ rd s' (h' + 8) i = rd s (h + 8) i) (hw : ∀ z : Int, z = 57 ∨ (230 ≤ z ∧ z < 240) → W' z = W z) : RHb h' s' W' := by
  obtain ⟨c, a1, a2, a3, a4, a5⟩ := H
  obtain ⟨e1, e2⟩ := hs c a3 a1 a2
  refine ⟨c, a1, a2, e1, ?_, ?_⟩
  · simp (disch := omega) only [hw]; exact a4
  · intro i i1 i2
    obtain ⟨u1, u2, u3⟩ := e2 i i1 i2
    simp (disch := omega) only [hw, u1, u2, u3]
    exact a5 i i1 i2
theorem RHc.mv {h h' : Nat} {s s' : Mem} {W W' : Int → Int32} (H : RHc h s W) (hs : ∀ c : Int, rI s (h + 9) 3 = zi c → 0 ≤ c → c ≤ 16 → rI s' (h' + 9) 3 = zi c ∧ ∀ i : Int, 0 ≤ i → i < c → rd s' (h' + 10) i = rd s (h + 10) i ∧ rd s' (h' + 11) i = rd s (h + 11) i ∧ rd s' (h' + 12) i = rd s (h + 12) i) (hw : ∀ z : Int, z = 58 ∨ (240 ≤ z ∧ z < 288) → W' z = W z) : RHc h' s' W' := by
  obtain ⟨c, a1, a2, a3, a4, a5⟩ := H
  obtain ⟨e1, e2⟩ := hs c a3 a1 a2
  refine ⟨c, a1, a2, e1, ?_, ?_⟩
  · simp (disch := omega) only [hw]; exact a4
  · intro i i1 i2
    obtain ⟨u1, u2, u3⟩ := e2 i i1 i2
    simp (disch := omega) only [hw, u1, u2, u3]
    exact a5 i i1 i2
theorem RHd.mv {h h' : Nat} {s s' : Mem} {W W' : Int → Int32} (H : RHd h s W) (hs : ∀ c : Int, rI s (h + 13) 3 = zi c → 0 ≤ c → c ≤ 12 → rI s' (h' + 13) 3 = zi c ∧ ∀ i : Int, 0 ≤ i → i < c → rd s' (h' + 14) i = rd s (h + 14) i ∧ rd s' (h' + 15) i = rd s (h + 15) i ∧ rd s' (h' + 16) i = rd s (h + 16) i) (hw : ∀ z : Int, z = 59 ∨ (288 ≤ z ∧ z < 312) → W' z = W z) : RHd h' s' W' := by
  obtain ⟨c, a1, a2, a3, a4, a5⟩ := H
  obtain ⟨e1, e2⟩ := hs c a3 a1 a2
  refine ⟨c, a1, a2, e1, ?_, ?_⟩
  · simp (disch := omega) only [hw]; exact a4
  · intro i i1 i2
    obtain ⟨u1, u2, u3⟩ := e2 i i1 i2
    simp (disch := omega) only [hw, u1, u2, u3]
    exact a5 i i1 i2
theorem RHe.mv {h h' : Nat} {s s' : Mem} {W W' : Int → Int32} (H : RHe h s W) (hs : ∀ c : Int, rI s (h + 17) 3 = zi c → 0 ≤ c → c ≤ 10 → rI s' (h' + 17) 3 = zi c ∧ ∀ i : Int, 0 ≤ i → i < c → rd s' (h' + 18) i = rd s (h + 18) i ∧ rd s' (h' + 19) i = rd s (h + 19) i ∧ rd s' (h' + 20) i = rd s (h + 20) i) (hw : ∀ z : Int, z = 60 ∨ (312 ≤ z ∧ z < 332) → W' z = W z) : RHe h' s' W' := by
  obtain ⟨c, a1, a2, a3, a4, a5⟩ := H
  obtain ⟨e1, e2⟩ := hs c a3 a1 a2
  refine ⟨c, a1, a2, e1, ?_, ?_⟩
  · simp (disch := omega) only [hw]; exact a4
  · intro i i1 i2
    obtain ⟨u1, u2, u3⟩ := e2 i i1 i2
    simp (disch := omega) only [hw, u1, u2, u3]
    exact a5 i i1 i2
theorem RHf.mv {h h' : Nat} {s s' : Mem} {W W' : Int → Int32} (H : RHf h s W) (hs : ∀ c : Int, rI s (h + 21) 3 = zi c → 0 ≤ c → c ≤ 8 → rI s' (h' + 21) 3 = zi c ∧ ∀ i : Int, 0 ≤ i → i < c → rd s' (h' + 22) i = rd s (h + 22) i ∧ rd s' (h' + 23) i = rd s (h + 23) i ∧ rd s' (h' + 24) i = rd s (h + 24) i) (hw : ∀ z : Int, z = 61 ∨ (332 ≤ z ∧ z < 340) → W' z = W z) : RHf h' s' W' := by
  obtain ⟨c, a1, a2, a3, a4, a5⟩ := H
  obtain ⟨e1, e2⟩ := hs c a3 a1 a2
  refine ⟨c, a1, a2, e1, ?_, ?_⟩
  · simp (disch := omega) only [hw]; exact a4
  · intro i i1 i2
    obtain ⟨u1, u2, u3⟩ := e2 i i1 i2
    simp (disch := omega) only [hw, u1, u2, u3]
    exact a5 i i1 i2
theorem RTd.mv {h h' : Nat} {s s' : Mem} {W W' : Int → Int32} (H : RTd h s W) (hs : ∀ c : Int, rI s (h + 11) 3 = zi c → 0 ≤ c → c ≤ 16 → rI s' (h' + 11) 3 = zi c ∧ ∀ i : Int, 0 ≤ i → i < c → rd s' (h' + 12) i = rd s (h + 12) i ∧ rd s' (h' + 13) i = rd s (h + 13) i ∧ rd s' (h' + 14) i = rd s (h + 14) i) (hw : ∀ z : Int, z = 53 ∨ (98 ≤ z ∧ z < 146) → W' z = W z) : RTd h' s' W' := by
  obtain ⟨c, a1, a2, a3, a4, a5⟩ := H
  obtain ⟨e1, e2⟩ := hs c a3 a1 a2
  refine ⟨c, a1, a2, e1, ?_, ?_⟩
  · simp (disch := omega) only [hw]; exact a4
  · intro i i1 i2
    obtain ⟨u1, u2, u3⟩ := e2 i i1 i2
    simp (disch := omega) only [hw, u1, u2, u3]
    exact a5 i i1 i2
theorem RTq.mv {h h' : Nat} {s s' : Mem} {W W' : Int → Int32} (H : RTq h s W) (hs : ∀ c : Int, rI s (h + 15) 3 = zi c → 0 ≤ c → c ≤ 16 → rI s' (h' + 15) 3 = zi c ∧ ∀ i : Int, 0 ≤ i → i < c → rd s' (h' + 16) i = rd s (h + 16) i ∧ rd s' (h' + 17) i = rd s (h + 17) i ∧ rd s' (h' + 18) i = rd s (h + 18) i) (hw : ∀ z : Int, z = 54 ∨ (146 ≤ z ∧ z < 178) → W' z = W z) : RTq h' s' W' := by
  obtain ⟨c, a1, a2, a3, a4, a5⟩ := H
  obtain ⟨e1, e2⟩ := hs c a3 a1 a2
  refine ⟨c, a1, a2, e1, ?_, ?_⟩
  · simp (disch := omega) only [hw]; exact a4
  · intro i i1 i2
    obtain ⟨u1, u2, u3⟩ := e2 i i1 i2
    simp (disch := omega) only [hw, u1, u2, u3]
    exact a5 i i1 i2
theorem RTs.mv {h h' : Nat} {s s' : Mem} {W W' : Int → Int32} {N : Int} (H : RTs h s W N) (hs : ∀ c : Int, rI s (h + 19) 3 = zi c → 0 ≤ c → c ≤ 16 → rI s' (h' + 19) 3 = zi c ∧ ∀ i : Int, 0 ≤ i → i < c → rd s' (h' + 20) i = rd s (h + 20) i ∧ rd s' (h' + 21) i = rd s (h + 21) i ∧ rd s' (h' + 22) i = rd s (h + 22) i) (hw : ∀ z : Int, z = 55 ∨ (178 ≤ z ∧ z < 210) → W' z = W z) : RTs h' s' W' N := by
  obtain ⟨c, a1, a2, a3, a4, a5⟩ := H
  obtain ⟨e1, e2⟩ := hs c a3 a1 a2
  refine ⟨c, a1, a2, e1, ?_, ?_⟩
  · simp (disch := omega) only [hw]; exact a4
  · intro i i1 i2
    obtain ⟨u1, u2, u3⟩ := e2 i i1 i2
    simp (disch := omega) only [hw, u1, u2, u3]
    exact a5 i i1 i2
theorem RL1.mv {a b : Nat} {s s' : Mem} {W W' : Int → Int32} (h : RL1 b s W) (e6 : rI s' a 6 = rI s b 6) (e7 : rI s' a 7 = rI s b 7) (e1 : ∀ i : Int, 0 ≤ i → i < 16 → rd s' (a + 1) i = rd s (b + 1) i) (e2 : ∀ i : Int, 0 ≤ i → i < 16 → rd s' (a + 2) i = rd s (b + 2) i) (e3 : ∀ i : Int, 0 ≤ i → i < 16 → rd s' (a + 3) i = rd s (b + 3) i) (e4 : ∀ i : Int, 0 ≤ i → i < 16 → rd s' (a + 4) i = rd s (b + 4) i) (e5 : ∀ i : Int, 0 ≤ i → i < 400 → rd s' (a + 5) i = rd s (b + 5) i) (hw : ∀ z : Int, z = 52 ∨ (966 ≤ z ∧ z < 1850) → W' z = W z) : RL1 a s' W' := by
  obtain ⟨n, u, v, a1, a2, a3, a4, a5, a6, a7, a8, a9, hi⟩ := h
  refine ⟨n, u, v, a1, a2, a3, a4, a5, a6, e7.trans a7, (hw 52 (by omega)).trans a8, e6.trans a9, ?_⟩
  intro i i1 i2
  obtain ⟨w, f, m, t, x, y, z, ee, kk, b1, b2, b3, b4, b5, b6, b7, b8, b9, b10, b11, c1, c2, c3, c4, c5, c6, c7, d1, d2, d3, d4⟩ := hi i i1 i2
  refine ⟨w, f, m, t, x, y, z, ee, kk, b1, b2, ?_, ?_, b5, b6, b7, b8, ?_, ?_, ?_, c1, c2, c3, c4, ?_, ?_, ?_, ?_, ?_, d3, d4⟩
  · rw [hw _ (by omega)]; exact b3
  · rw [e1 i i1 (by omega)]; exact b4
  · rw [hw _ (by omega)]; exact b9
  · rw [hw _ (by omega)]; exact b10
  · rw [hw _ (by omega)]; exact b11
  · rw [e2 i i1 (by omega)]; exact c5
  · rw [e3 i i1 (by omega)]; exact c6
  · rw [e4 i i1 (by omega)]; exact c7
  · refine stM_cg _ _ b5 (fun q h1 h2 => ?_) d1
    rw [List.length_append] at h2
    exact hw _ (by omega)
  · refine stC_cg _ _ c1 (fun q h1 h2 => ?_) d2
    rw [List.length_append] at h2
    exact e5 q (by omega) (by omega)
theorem ok_lcopy {a b : Nat} {s : Mem} (pa : LB a) (pb : LB b) (hab : a + 6 ≤ b ∨ b + 6 ≤ a) : Ok (f_La_copyFrom a b s) (fun s' => (∀ k j : Nat, ¬ (a ≤ k ∧ k ≤ a + 5) → rI s' k j = rI s k j) ∧ rI s' a 7 = rI s b 7 ∧ ∀ W : Int → Int32, RL1 b s W → RL1 a s' W) := by
  rw [f_La_copyFrom_eq, b_La_copyFrom, show (0 : Int32) = zi 0 from rfl]
  obtain ⟨s1, e1, f1, v1, v2, v3, v4⟩ := cp_La_2 pa pb hab (fun k0 k1 s => f_La_copyFrom_62 k0 k1 s) FU 0 s (by omega) (by omega) (by have := FU_ge; omega)
  rw [e1]
  show Ok (f_La_copyFrom_62 a b s1) _
  rw [f_La_copyFrom_62, show (0 : Int32) = zi 0 from rfl]
  obtain ⟨s2, e2, f2, v5⟩ := cp_La_64 pa pb hab (fun k0 k1 s => f_La_copyFrom_100 k0 k1 s) FU 0 s1 (by omega) (by omega) (by have := FU_ge; omega)
  rw [e2]
  show Ok (f_La_copyFrom_100 a b s2) _
  rw [f_La_copyFrom_100]
  have g : ∀ k j : Nat, ¬ (a < k ∧ k ≤ a + 5) → rI s2 k j = rI s k j := fun k j h => (f2 k j (by omega)).trans (f1 k j (by omega) (by omega) (by omega) (by omega))
  refine ok_s ⟨fun k j h1 => by simp (disch := omega) only [rI_wI_s, rI_wI_f, rI_wI_c, rI_wd_c, rd_wI_c, rd_wd_c, rd_wd_s, rd_wd_n, rI_wJ, rd_wJ, rI_ix, wI_ix, rJ_ix, wJ_ix, rI_wI_o, Nat.reduceAdd, g], by simp (disch := omega) only [rI_wI_s, rI_wI_f, rI_wI_c, rI_wd_c, rd_wI_c, rd_wd_c, rd_wd_s, rd_wd_n, rI_wJ, rd_wJ, rI_ix, wI_ix, rJ_ix, wJ_ix, rI_wI_o, Nat.reduceAdd, g], fun W h => h.mv (by simp (disch := omega) only [rI_wI_s, rI_wI_f, rI_wI_c, rI_wd_c, rd_wI_c, rd_wd_c, rd_wd_s, rd_wd_n, rI_wJ, rd_wJ, rI_ix, wI_ix, rJ_ix, wJ_ix, rI_wI_o, Nat.reduceAdd, g]) (by simp (disch := omega) only [rI_wI_s, rI_wI_f, rI_wI_c, rI_wd_c, rd_wI_c, rd_wd_c, rd_wd_s, rd_wd_n, rI_wJ, rd_wJ, rI_ix, wI_ix, rJ_ix, wJ_ix, rI_wI_o, Nat.reduceAdd, g]) (fun i i0 i1 => ?_) (fun i i0 i1 => ?_) (fun i i0 i1 => ?_) (fun i i0 i1 => ?_) (fun i i0 i1 => ?_) (fun _ _ => rfl)⟩
  · simp (disch := omega) only [rI_wI_s, rI_wI_f, rI_wI_c, rI_wd_c, rd_wI_c, rd_wd_c, rd_wd_s, rd_wd_n, rI_wJ, rd_wJ, rI_ix, wI_ix, rJ_ix, wJ_ix, rI_wI_o, Nat.reduceAdd]; rw [show rd s2 (a + 1) i = rd s1 (a + 1) i from f2 _ _ (by omega), v1 i i0, if_pos (by omega)]
  · simp (disch := omega) only [rI_wI_s, rI_wI_f, rI_wI_c, rI_wd_c, rd_wI_c, rd_wd_c, rd_wd_s, rd_wd_n, rI_wJ, rd_wJ, rI_ix, wI_ix, rJ_ix, wJ_ix, rI_wI_o, Nat.reduceAdd]; rw [show rd s2 (a + 2) i = rd s1 (a + 2) i from f2 _ _ (by omega), v2 i i0, if_pos (by omega)]
  · simp (disch := omega) only [rI_wI_s, rI_wI_f, rI_wI_c, rI_wd_c, rd_wI_c, rd_wd_c, rd_wd_s, rd_wd_n, rI_wJ, rd_wJ, rI_ix, wI_ix, rJ_ix, wJ_ix, rI_wI_o, Nat.reduceAdd]; rw [show rd s2 (a + 3) i = rd s1 (a + 3) i from f2 _ _ (by omega), v3 i i0, if_pos (by omega)]
  · simp (disch := omega) only [rI_wI_s, rI_wI_f, rI_wI_c, rI_wd_c, rd_wI_c, rd_wd_c, rd_wd_s, rd_wd_n, rI_wJ, rd_wJ, rI_ix, wI_ix, rJ_ix, wJ_ix, rI_wI_o, Nat.reduceAdd]; rw [show rd s2 (a + 4) i = rd s1 (a + 4) i from f2 _ _ (by omega), v4 i i0, if_pos (by omega)]
  · simp (disch := omega) only [rI_wI_s, rI_wI_f, rI_wI_c, rI_wd_c, rd_wI_c, rd_wd_c, rd_wd_s, rd_wd_n, rI_wJ, rd_wJ, rI_ix, wI_ix, rJ_ix, wJ_ix, rI_wI_o, Nat.reduceAdd]; rw [v5 i i0, if_pos (by omega)]; exact f1 _ _ (by omega) (by omega) (by omega) (by omega)
/-- Rows copied -/
def RoCp (r q n : Nat) (s s' : Mem) : Prop := (∀ k j : Nat, ¬ (r ≤ k ∧ k ≤ r + 3) → rI s' k j = rI s k j) ∧ ∀ c : Int, rI s q 3 = zi c → 0 ≤ c → c ≤ n → rI s' r 3 = zi c ∧ ∀ i : Int, 0 ≤ i → i < c → rd s' (r + 1) i = rd s (q + 1) i ∧ rd s' (r + 2) i = rd s (q + 2) i ∧ rd s' (r + 3) i = rd s (q + 3) i
theorem ok_rocopy {r q n : Nat} {s : Mem} {c : Int} (l1 : lenC (r + 1) = n) (l2 : lenC (r + 2) = n) (l3 : lenC (r + 3) = n) (m1 : lenC (q + 1) = n) (m2 : lenC (q + 2) = n) (m3 : lenC (q + 3) = n) (hn : n < 1000) (hrq : r + 4 ≤ q ∨ q + 4 ≤ r) (hc : rI s q 3 = zi c) (c0 : 0 ≤ c) (c1 : c ≤ n) : Ok (f_Ro_copyFrom r q s) (fun x => x.1 = zi c ∧ RoCp r q n s x.2) := by
  rw [f_Ro_copyFrom_eq, b_Ro_copyFrom, e_Ro_clear]
  have key : ∀ (m : Nat) (i : Int) (s' : Mem), 0 ≤ i → i ≤ c → c - i < m → rI s' r 3 = zi i → (∀ k j : Nat, ¬ (r ≤ k ∧ k ≤ r + 3) → rI s' k j = rI s k j) → (∀ j : Int, 0 ≤ j → j < i → rd s' (r + 1) j = rd s (q + 1) j ∧ rd s' (r + 2) j = rd s (q + 2) j ∧ rd s' (r + 3) j = rd s (q + 3) j) → Ok (f_Ro_copyFrom_7 m r q (zi i) s') (fun x => x.1 = zi c ∧ RoCp r q n s x.2) := by
    intro m
    induction m with
    | zero => intro i s' i0 i1 i2; omega
    | succ m ih =>
      intro i s' i0 i1 i2 hi hf hv
      have hc' : rI s' q 3 = zi c := (hf _ _ (by omega)).trans hc
      rw [f_Ro_copyFrom_7]
      by_cases g : i = c
      · simp (disch := omega) only [zi_div, zi_and31, zi_neg, zi_add, zi_sub, zi_mul, zi_lt, zi_le, zi_eq, zi_imx, zi_imn, zi_iab, gd_i, vpb_0, vpb_1, b2i_0, b2i_1, b2i_e0, b2i_e1, lf_b, lf_s, lf_n, Option.bind_some, decide_eq_false_iff_not, decide_eq_true_eq, cif_t, cif_f, cif_pos, cif_neg, if_true, if_false, if_pos, if_neg, zi_ofNat, Nat.zero_add, Nat.reduceAdd, Nat.reduceSub, Nat.reduceMul, Int.reduceAdd, Int.reduceSub, Int.reduceMul, Int.reduceNeg, Bool.false_eq_true, reduceCtorEq, rI_wI_s, rI_wI_f, rI_wI_c, rI_wd_c, rd_wI_c, rd_wd_c, rd_wd_s, rd_wd_n, rI_wJ, rd_wJ, rI_ix, wI_ix, rJ_ix, wJ_ix, zl_0, zl_1, zl_2, zl_3, zl_4, zl_5, zl_6, zl_7, zl_8, zl_9, zl_10, zl_11, zl_12, zl_13, zl_14, zl_15, zl_16, zl_20, zl_21, zl_22, zl_23, zl_24, zl_25, zl_26, zl_27, zl_28, zl_29, zl_30, zl_31, zl_32, zl_37, zl_40, zl_41, zl_42, zl_43, zl_44, zl_45, zl_46, zl_47, zl_48, zl_49, zl_50, zl_51, zl_52, zl_53, zl_54, zl_55, zl_56, zl_57, zl_58, zl_59, zl_60, zl_61, zl_62, zl_63, zl_64, zl_65, zl_74, zl_86, zl_90, zl_97, zl_98, zl_99, zl_100, zl_122, zl_140, zl_141, zl_142, zl_143, zl_145, zl_146, zl_147, zl_149, zl_150, zl_159, zl_160, zl_161, zl_162, zl_178, zl_199, zl_200, zl_201, zl_210, zl_230, zl_240, zl_245, zl_255, zl_256, zl_257, zl_288, zl_312, zl_332, zl_340, zl_356, zl_366, zl_399, zl_400, zl_500, zl_820, zl_966, zl_982, zl_998, zl_999, zl_1000, zl_1002, zl_1003, zl_1004, zl_1012, zl_1013, zl_1014, zl_1015, zl_1016, zl_1017, zl_1018, zl_1020, zl_1021, zl_1024, zl_1030, zl_1850, zl_2412, zl_2613, zl_9999, zl_10000, zl_99999, zl_1000000, hc', hi]
        refine ok_s ⟨by rw [g], hf, fun c' k1 k2 k3 => ?_⟩
        have : c' = c := zi_inj (by omega) (by omega) (by omega) (by omega) (k1.symm.trans hc)
        subst this
        exact ⟨by rw [hi, g], fun j j0 j1 => hv j j0 (by omega)⟩
      · have ea := e_Ro_add (s := s') (a := rd s' (q + 1) i) (b := rd s' (q + 2) i) (d := rd s' (q + 3) i) l1 l2 l3 hn hi i0 (by omega)
        rw [if_pos (by omega)] at ea
        simp (disch := omega) only [zi_div, zi_and31, zi_neg, zi_add, zi_sub, zi_mul, zi_lt, zi_le, zi_eq, zi_imx, zi_imn, zi_iab, gd_i, vpb_0, vpb_1, b2i_0, b2i_1, b2i_e0, b2i_e1, lf_b, lf_s, lf_n, Option.bind_some, decide_eq_false_iff_not, decide_eq_true_eq, cif_t, cif_f, cif_pos, cif_neg, if_true, if_false, if_pos, if_neg, zi_ofNat, Nat.zero_add, Nat.reduceAdd, Nat.reduceSub, Nat.reduceMul, Int.reduceAdd, Int.reduceSub, Int.reduceMul, Int.reduceNeg, Bool.false_eq_true, reduceCtorEq, rI_wI_s, rI_wI_f, rI_wI_c, rI_wd_c, rd_wI_c, rd_wd_c, rd_wd_s, rd_wd_n, rI_wJ, rd_wJ, rI_ix, wI_ix, rJ_ix, wJ_ix, zl_0, zl_1, zl_2, zl_3, zl_4, zl_5, zl_6, zl_7, zl_8, zl_9, zl_10, zl_11, zl_12, zl_13, zl_14, zl_15, zl_16, zl_20, zl_21, zl_22, zl_23, zl_24, zl_25, zl_26, zl_27, zl_28, zl_29, zl_30, zl_31, zl_32, zl_37, zl_40, zl_41, zl_42, zl_43, zl_44, zl_45, zl_46, zl_47, zl_48, zl_49, zl_50, zl_51, zl_52, zl_53, zl_54, zl_55, zl_56, zl_57, zl_58, zl_59, zl_60, zl_61, zl_62, zl_63, zl_64, zl_65, zl_74, zl_86, zl_90, zl_97, zl_98, zl_99, zl_100, zl_122, zl_140, zl_141, zl_142, zl_143, zl_145, zl_146, zl_147, zl_149, zl_150, zl_159, zl_160, zl_161, zl_162, zl_178, zl_199, zl_200, zl_201, zl_210, zl_230, zl_240, zl_245, zl_255, zl_256, zl_257, zl_288, zl_312, zl_332, zl_340, zl_356, zl_366, zl_399, zl_400, zl_500, zl_820, zl_966, zl_982, zl_998, zl_999, zl_1000, zl_1002, zl_1003, zl_1004, zl_1012, zl_1013, zl_1014, zl_1015, zl_1016, zl_1017, zl_1018, zl_1020, zl_1021, zl_1024, zl_1030, zl_1850, zl_2412, zl_2613, zl_9999, zl_10000, zl_99999, zl_1000000, hc', m1, m2, m3, ea]
        refine ih (i + 1) _ (by omega) (by omega) (by omega) (by simp (disch := omega) only [rI_wI_s, rI_wI_f, rI_wI_c, rI_wd_c, rd_wI_c, rd_wd_c, rd_wd_s, rd_wd_n, rI_wJ, rd_wJ, rI_ix, wI_ix, rJ_ix, wJ_ix, rI_wI_o, Nat.reduceAdd]) (fun k j h => ?_) (fun j j0 j1 => ?_)
        · simp (disch := omega) only [rI_wI_s, rI_wI_f, rI_wI_c, rI_wd_c, rd_wI_c, rd_wd_c, rd_wd_s, rd_wd_n, rI_wJ, rd_wJ, rI_ix, wI_ix, rJ_ix, wJ_ix, rI_wI_o, Nat.reduceAdd]; exact hf k j h
        · have q1 : rd s' (q + 1) i = rd s (q + 1) i := hf _ _ (by omega)
          have q2 : rd s' (q + 2) i = rd s (q + 2) i := hf _ _ (by omega)
          have q3 : rd s' (q + 3) i = rd s (q + 3) i := hf _ _ (by omega)
          by_cases gj : j = i
          · subst gj
            refine ⟨?_, ?_, ?_⟩
            · simp (disch := omega) only [rI_wI_s, rI_wI_f, rI_wI_c, rI_wd_c, rd_wI_c, rd_wd_c, rd_wd_s, rd_wd_n, rI_wJ, rd_wJ, rI_ix, wI_ix, rJ_ix, wJ_ix, rI_wI_o, Nat.reduceAdd]; exact q1
            · simp (disch := omega) only [rI_wI_s, rI_wI_f, rI_wI_c, rI_wd_c, rd_wI_c, rd_wd_c, rd_wd_s, rd_wd_n, rI_wJ, rd_wJ, rI_ix, wI_ix, rJ_ix, wJ_ix, rI_wI_o, Nat.reduceAdd]; exact q2
            · simp (disch := omega) only [rI_wI_s, rI_wI_f, rI_wI_c, rI_wd_c, rd_wI_c, rd_wd_c, rd_wd_s, rd_wd_n, rI_wJ, rd_wJ, rI_ix, wI_ix, rJ_ix, wJ_ix, rI_wI_o, Nat.reduceAdd]; exact q3
          · obtain ⟨p1, p2, p3⟩ := hv j j0 (by omega)
            refine ⟨?_, ?_, ?_⟩
            · simp (disch := omega) only [rI_wI_s, rI_wI_f, rI_wI_c, rI_wd_c, rd_wI_c, rd_wd_c, rd_wd_s, rd_wd_n, rI_wJ, rd_wJ, rI_ix, wI_ix, rJ_ix, wJ_ix, rI_wI_o, Nat.reduceAdd]; exact p1
            · simp (disch := omega) only [rI_wI_s, rI_wI_f, rI_wI_c, rI_wd_c, rd_wI_c, rd_wd_c, rd_wd_s, rd_wd_n, rI_wJ, rd_wJ, rI_ix, wI_ix, rJ_ix, wJ_ix, rI_wI_o, Nat.reduceAdd]; exact p2
            · simp (disch := omega) only [rI_wI_s, rI_wI_f, rI_wI_c, rI_wd_c, rd_wI_c, rd_wd_c, rd_wd_s, rd_wd_n, rI_wJ, rd_wJ, rI_ix, wI_ix, rJ_ix, wJ_ix, rI_wI_o, Nat.reduceAdd]; exact p3
  simp (disch := omega) only [zi_div, zi_and31, zi_neg, zi_add, zi_sub, zi_mul, zi_lt, zi_le, zi_eq, zi_imx, zi_imn, zi_iab, gd_i, vpb_0, vpb_1, b2i_0, b2i_1, b2i_e0, b2i_e1, lf_b, lf_s, lf_n, Option.bind_some, decide_eq_false_iff_not, decide_eq_true_eq, cif_t, cif_f, cif_pos, cif_neg, if_true, if_false, if_pos, if_neg, zi_ofNat, Nat.zero_add, Nat.reduceAdd, Nat.reduceSub, Nat.reduceMul, Int.reduceAdd, Int.reduceSub, Int.reduceMul, Int.reduceNeg, Bool.false_eq_true, reduceCtorEq, rI_wI_s, rI_wI_f, rI_wI_c, rI_wd_c, rd_wI_c, rd_wd_c, rd_wd_s, rd_wd_n, rI_wJ, rd_wJ, rI_ix, wI_ix, rJ_ix, wJ_ix, zl_0, zl_1, zl_2, zl_3, zl_4, zl_5, zl_6, zl_7, zl_8, zl_9, zl_10, zl_11, zl_12, zl_13, zl_14, zl_15, zl_16, zl_20, zl_21, zl_22, zl_23, zl_24, zl_25, zl_26, zl_27, zl_28, zl_29, zl_30, zl_31, zl_32, zl_37, zl_40, zl_41, zl_42, zl_43, zl_44, zl_45, zl_46, zl_47, zl_48, zl_49, zl_50, zl_51, zl_52, zl_53, zl_54, zl_55, zl_56, zl_57, zl_58, zl_59, zl_60, zl_61, zl_62, zl_63, zl_64, zl_65, zl_74, zl_86, zl_90, zl_97, zl_98, zl_99, zl_100, zl_122, zl_140, zl_141, zl_142, zl_143, zl_145, zl_146, zl_147, zl_149, zl_150, zl_159, zl_160, zl_161, zl_162, zl_178, zl_199, zl_200, zl_201, zl_210, zl_230, zl_240, zl_245, zl_255, zl_256, zl_257, zl_288, zl_312, zl_332, zl_340, zl_356, zl_366, zl_399, zl_400, zl_500, zl_820, zl_966, zl_982, zl_998, zl_999, zl_1000, zl_1002, zl_1003, zl_1004, zl_1012, zl_1013, zl_1014, zl_1015, zl_1016, zl_1017, zl_1018, zl_1020, zl_1021, zl_1024, zl_1030, zl_1850, zl_2412, zl_2613, zl_9999, zl_10000, zl_99999, zl_1000000]
  exact key FU 0 _ (by omega) c0 (by have := FU_ge; omega) (by simp (disch := omega) only [rI_wI_s, rI_wI_f, rI_wI_c, rI_wd_c, rd_wI_c, rd_wd_c, rd_wd_s, rd_wd_n, rI_wJ, rd_wJ, rI_ix, wI_ix, rJ_ix, wJ_ix, rI_wI_o, Nat.reduceAdd]) (fun k j h => by simp (disch := omega) only [rI_wI_s, rI_wI_f, rI_wI_c, rI_wd_c, rd_wI_c, rd_wd_c, rd_wd_s, rd_wd_n, rI_wJ, rd_wJ, rI_ix, wI_ix, rJ_ix, wJ_ix, rI_wI_o, Nat.reduceAdd]) (fun j j0 j1 => by omega)
theorem ok_copyW_t {s : Mem} {W : Int → Int32} {N : Int} (h : RW 61 s W N) : Ok (f_Wh_copyFrom 1 61 s) (fun s' => (∀ k j : Nat, ¬ (2 ≤ k ∧ k ≤ 60) → rI s' k j = rI s k j) ∧ rI s' 2 0 = rI s 2 0 ∧ RW 1 s' W N) := by
  obtain ⟨hP, ⟨hTn, hTw, hTp, hTd, hTq, hTs, hTl⟩, ⟨ha, hb, hc, hd, he, hf, hm, ho⟩, hB⟩ := h
  simp only [Nat.reduceAdd] at hP hTn hTw hTp hTd hTq hTs hTl ha hb hc hd he hf hm ho hB
  rw [f_Wh_copyFrom_eq, b_Wh_copyFrom]
  simp only [Nat.reduceAdd]
  refine ok_b (ok_pcopy pb_2 pb_62 (by omega) hP) (fun s1 ⟨f1, P1⟩ => ?_)
  have F1 : ∀ k j : Nat, ¬ (2 ≤ k ∧ k ≤ 6) → rI s1 k j = rI s k j := fun k j h => f1 k j (by omega) (by omega)
  rw [f_To_copyFrom_eq, b_To_copyFrom, show (0 : Int32) = zi 0 from rfl]
  obtain ⟨s2, e2, f2, v1, v2, v3⟩ := cp_To_2t (fun k0 k1 s => f_To_copyFrom_50 k0 k1 s) FU 0 s1 (by omega) (by omega) (by have := FU_ge; omega)
  rw [e2]
  have F2 : ∀ k j : Nat, ¬ (8 ≤ k ∧ k ≤ 10) → rI s2 k j = rI s1 k j := fun k j h => f2 k j (by omega) (by omega) (by omega)
  show Ok ((f_To_copyFrom_50 7 67 s2).bind _) _
  rw [f_To_copyFrom_50]
  simp only [Option.bind_assoc, Nat.reduceAdd, Option.bind_some]
  refine ok_b (ok_lcopy lb_11 lb_71 (by omega)) (fun s3 ⟨F3, _, L3⟩ => ?_)
  obtain ⟨cd, d1, d2, d3, -⟩ := id hTd
  simp only [Nat.reduceAdd] at d3
  refine ok_b (ok_rocopy (n := 16) (c := cd) rfl rfl rfl rfl rfl rfl (by decide) (by omega) ((F3 _ _ (by omega)).trans ((F2 _ _ (by omega)).trans ((F1 _ _ (by omega)).trans d3))) d1 d2) (fun x4 ⟨_, F4, C4⟩ => ?_)
  obtain ⟨cq, q1, q2, q3, -⟩ := id hTq
  simp only [Nat.reduceAdd] at q3
  refine ok_b (ok_rocopy (n := 16) (c := cq) rfl rfl rfl rfl rfl rfl (by decide) (by omega) ((F4 _ _ (by omega)).trans ((F3 _ _ (by omega)).trans ((F2 _ _ (by omega)).trans ((F1 _ _ (by omega)).trans q3)))) q1 q2) (fun x5 ⟨_, F5, C5⟩ => ?_)
  obtain ⟨cs, t1, t2, t3, -⟩ := id hTs
  simp only [Nat.reduceAdd] at t3
  refine ok_b (ok_rocopy (n := 16) (c := cs) rfl rfl rfl rfl rfl rfl (by decide) (by omega) ((F5 _ _ (by omega)).trans ((F4 _ _ (by omega)).trans ((F3 _ _ (by omega)).trans ((F2 _ _ (by omega)).trans ((F1 _ _ (by omega)).trans t3))))) t1 t2) (fun x6 ⟨_, F6, C6⟩ => ?_)
  obtain ⟨s7, hs7⟩ : ∃ s7 : Mem, wI (wI (wI x6.2 7 7 (rI x6.2 67 7)) 7 8 (rI (wI x6.2 7 7 (rI x6.2 67 7)) 67 8)) 7 9 (rI (wI (wI x6.2 7 7 (rI x6.2 67 7)) 7 8 (rI (wI x6.2 7 7 (rI x6.2 67 7)) 67 8)) 67 9) = s7 := ⟨_, rfl⟩
  rw [hs7]
  have F7 : ∀ k j : Nat, k ≠ 7 → rI s7 k j = rI x6.2 k j := fun k j h => by rw [← hs7]; simp (disch := omega) only [rI_wI_s, rI_wI_f, rI_wI_c, rI_wd_c, rd_wI_c, rd_wd_c, rd_wd_s, rd_wd_n, rI_wJ, rd_wJ, rI_ix, wI_ix, rJ_ix, wJ_ix, rI_wI_o, Nat.reduceAdd]
  have S26 : ∀ k j : Nat, ¬ (2 ≤ k ∧ k ≤ 29) → rI x6.2 k j = rI s k j := fun k j h => (F6 _ _ (by omega)).trans ((F5 _ _ (by omega)).trans ((F4 _ _ (by omega)).trans ((F3 _ _ (by omega)).trans ((F2 _ _ (by omega)).trans (F1 _ _ (by omega))))))
  have V7 : rI s7 7 7 = rI s 67 7 ∧ rI s7 7 8 = rI s 67 8 ∧ rI s7 7 9 = rI s 67 9 := by
    rw [← hs7]
    refine ⟨?_, ?_, ?_⟩
    · simp (disch := omega) only [rI_wI_s, rI_wI_f, rI_wI_c, rI_wd_c, rd_wI_c, rd_wd_c, rd_wd_s, rd_wd_n, rI_wJ, rd_wJ, rI_ix, wI_ix, rJ_ix, wJ_ix, rI_wI_o, Nat.reduceAdd]; exact S26 _ _ (by omega)
    · simp (disch := omega) only [rI_wI_s, rI_wI_f, rI_wI_c, rI_wd_c, rd_wI_c, rd_wd_c, rd_wd_s, rd_wd_n, rI_wJ, rd_wJ, rI_ix, wI_ix, rJ_ix, wJ_ix, rI_wI_o, Nat.reduceAdd]; exact S26 _ _ (by omega)
    · simp (disch := omega) only [rI_wI_s, rI_wI_f, rI_wI_c, rI_wd_c, rd_wI_c, rd_wd_c, rd_wd_s, rd_wd_n, rI_wJ, rd_wJ, rI_ix, wI_ix, rJ_ix, wJ_ix, rI_wI_o, Nat.reduceAdd]; exact S26 _ _ (by omega)
  have S27 : ∀ k j : Nat, ¬ (2 ≤ k ∧ k ≤ 29) → rI s7 k j = rI s k j := fun k j h => (F7 k j (by omega)).trans (S26 k j h)
  have hT7 : RT 7 s7 W N := by
    refine ⟨⟨hTn.1, hTn.2.1, V7.1.trans hTn.2.2.1, hTn.2.2.2⟩, ⟨?_, V7.2.2.trans hTw.2⟩, fun i i0 i1 => ?_, hTd.mv (fun c k1 k2 k3 => ?_) (fun _ _ => rfl), hTq.mv (fun c k1 k2 k3 => ?_) (fun _ _ => rfl), hTs.mv (fun c k1 k2 k3 => ?_) (fun _ _ => rfl), ?_⟩
    · obtain ⟨w, w1, w2, w3, w4⟩ := hTw.1
      exact ⟨w, w1, w2, V7.2.1.trans w3, w4⟩
    · obtain ⟨x, y, z, y1, y2, y3, y4, y5, y6, y7, y8, y9, y10, y11, y12⟩ := hTp i i0 i1
      have hN := hTn.2.1
      refine ⟨x, y, z, y1, y2, y3, y4, y5, y6, ?_, y8, ?_, y10, ?_, y12⟩
      · rw [show rd s7 (7 + 1) i = rd s2 8 i from (F7 _ _ (by omega)).trans ((F6 _ _ (by omega)).trans ((F5 _ _ (by omega)).trans ((F4 _ _ (by omega)).trans (F3 _ _ (by omega))))), v1 i i0, if_pos ⟨i0, by omega⟩]
        exact (F1 _ _ (by omega)).trans y7
      · rw [show rd s7 (7 + 2) i = rd s2 9 i from (F7 _ _ (by omega)).trans ((F6 _ _ (by omega)).trans ((F5 _ _ (by omega)).trans ((F4 _ _ (by omega)).trans (F3 _ _ (by omega))))), v2 i i0, if_pos ⟨i0, by omega⟩]
        exact (F1 _ _ (by omega)).trans y9
      · rw [show rd s7 (7 + 3) i = rd s2 10 i from (F7 _ _ (by omega)).trans ((F6 _ _ (by omega)).trans ((F5 _ _ (by omega)).trans ((F4 _ _ (by omega)).trans (F3 _ _ (by omega))))), v3 i i0, if_pos ⟨i0, by omega⟩]
        exact (F1 _ _ (by omega)).trans y11
    · have s3' : ∀ k j : Nat, 62 ≤ k → k ≤ 120 → rI s3 k j = rI s k j := fun k j h h' => (F3 _ _ (by omega)).trans ((F2 _ _ (by omega)).trans (F1 _ _ (by omega)))
      obtain ⟨y1, y2⟩ := C4 c ((s3' _ _ (by omega) (by omega)).trans k1) k2 k3
      refine ⟨(F7 _ _ (by omega)).trans ((F6 _ _ (by omega)).trans ((F5 _ _ (by omega)).trans y1)), fun i i0 i1 => ?_⟩
      obtain ⟨z1, z2, z3⟩ := y2 i i0 i1
      exact ⟨(F7 _ _ (by omega)).trans ((F6 _ _ (by omega)).trans ((F5 _ _ (by omega)).trans (z1.trans (s3' _ _ (by omega) (by omega))))), (F7 _ _ (by omega)).trans ((F6 _ _ (by omega)).trans ((F5 _ _ (by omega)).trans (z2.trans (s3' _ _ (by omega) (by omega))))), (F7 _ _ (by omega)).trans ((F6 _ _ (by omega)).trans ((F5 _ _ (by omega)).trans (z3.trans (s3' _ _ (by omega) (by omega)))))⟩
    · have s3' : ∀ k j : Nat, 62 ≤ k → k ≤ 120 → rI x4.2 k j = rI s k j := fun k j h h' => (F4 _ _ (by omega)).trans ((F3 _ _ (by omega)).trans ((F2 _ _ (by omega)).trans (F1 _ _ (by omega))))
      obtain ⟨y1, y2⟩ := C5 c ((s3' _ _ (by omega) (by omega)).trans k1) k2 k3
      refine ⟨(F7 _ _ (by omega)).trans ((F6 _ _ (by omega)).trans y1), fun i i0 i1 => ?_⟩
      obtain ⟨z1, z2, z3⟩ := y2 i i0 i1
      exact ⟨(F7 _ _ (by omega)).trans ((F6 _ _ (by omega)).trans (z1.trans (s3' _ _ (by omega) (by omega)))), (F7 _ _ (by omega)).trans ((F6 _ _ (by omega)).trans (z2.trans (s3' _ _ (by omega) (by omega)))), (F7 _ _ (by omega)).trans ((F6 _ _ (by omega)).trans (z3.trans (s3' _ _ (by omega) (by omega))))⟩
    · have s3' : ∀ k j : Nat, 62 ≤ k → k ≤ 120 → rI x5.2 k j = rI s k j := fun k j h h' => (F5 _ _ (by omega)).trans ((F4 _ _ (by omega)).trans ((F3 _ _ (by omega)).trans ((F2 _ _ (by omega)).trans (F1 _ _ (by omega)))))
      obtain ⟨y1, y2⟩ := C6 c ((s3' _ _ (by omega) (by omega)).trans k1) k2 k3
      refine ⟨(F7 _ _ (by omega)).trans y1, fun i i0 i1 => ?_⟩
      obtain ⟨z1, z2, z3⟩ := y2 i i0 i1
      exact ⟨(F7 _ _ (by omega)).trans (z1.trans (s3' _ _ (by omega) (by omega))), (F7 _ _ (by omega)).trans (z2.trans (s3' _ _ (by omega) (by omega))), (F7 _ _ (by omega)).trans (z3.trans (s3' _ _ (by omega) (by omega)))⟩
    · exact (L3 W (hTl.cg (fun k j h h' => (F2 _ _ (by omega)).trans (F1 _ _ (by omega))) (fun _ _ => rfl))).cg (fun k j h h' => (F7 _ _ (by omega)).trans ((F6 _ _ (by omega)).trans ((F5 _ _ (by omega)).trans (F4 _ _ (by omega))))) (fun _ _ => rfl)
  rw [f_Th_copyFrom_eq, b_Th_copyFrom]
  simp only [Option.bind_assoc, Nat.reduceAdd, Option.bind_some]
  obtain ⟨c0, -, -, -, -⟩ := id ha
  obtain ⟨c1, a11, a12, a13, -⟩ := id ha
  obtain ⟨c2, b11, b12, b13, -⟩ := id hb
  obtain ⟨c3, c11, c12, c13, -⟩ := id hc
  obtain ⟨c4, d11, d12, d13, -⟩ := id hd
  obtain ⟨c5, e11, e12, e13, -⟩ := id he
  obtain ⟨c6, f11, f12, f13, -⟩ := id hf
  simp only [Nat.reduceAdd] at a13 b13 c13 d13 e13 f13
  refine ok_b (ok_rocopy (n := 20) (c := c1) rfl rfl rfl rfl rfl rfl (by decide) (by omega) ((S27 _ _ (by omega)).trans a13) a11 a12) (fun y1 ⟨_, G1, D1⟩ => ?_)
  refine ok_b (ok_rocopy (n := 10) (c := c2) rfl rfl rfl rfl rfl rfl (by decide) (by omega) ((G1 _ _ (by omega)).trans ((S27 _ _ (by omega)).trans b13)) b11 b12) (fun y2 ⟨_, G2, D2⟩ => ?_)
  refine ok_b (ok_rocopy (n := 16) (c := c3) rfl rfl rfl rfl rfl rfl (by decide) (by omega) ((G2 _ _ (by omega)).trans ((G1 _ _ (by omega)).trans ((S27 _ _ (by omega)).trans c13))) c11 c12) (fun y3 ⟨_, G3, D3⟩ => ?_)
  refine ok_b (ok_rocopy (n := 12) (c := c4) rfl rfl rfl rfl rfl rfl (by decide) (by omega) ((G3 _ _ (by omega)).trans ((G2 _ _ (by omega)).trans ((G1 _ _ (by omega)).trans ((S27 _ _ (by omega)).trans d13)))) d11 d12) (fun y4 ⟨_, G4, D4⟩ => ?_)
  refine ok_b (ok_rocopy (n := 10) (c := c5) rfl rfl rfl rfl rfl rfl (by decide) (by omega) ((G4 _ _ (by omega)).trans ((G3 _ _ (by omega)).trans ((G2 _ _ (by omega)).trans ((G1 _ _ (by omega)).trans ((S27 _ _ (by omega)).trans e13))))) e11 e12) (fun y5 ⟨_, G5, D5⟩ => ?_)
  refine ok_b (ok_rocopy (n := 8) (c := c6) rfl rfl rfl rfl rfl rfl (by decide) (by omega) ((G5 _ _ (by omega)).trans ((G4 _ _ (by omega)).trans ((G3 _ _ (by omega)).trans ((G2 _ _ (by omega)).trans ((G1 _ _ (by omega)).trans ((S27 _ _ (by omega)).trans f13)))))) f11 f12) (fun y6 ⟨_, G6, D6⟩ => ?_)
  rw [show (0 : Int32) = zi 0 from rfl]
  obtain ⟨z1, ez1, fz1, vz1, vz2⟩ := cp_Th_74t (fun k0 k1 s => f_Th_copyFrom_110 k0 k1 s) FU 0 y6.2 (by omega) (by omega) (by have := FU_ge; omega)
  rw [ez1]
  show Ok ((f_Th_copyFrom_110 30 90 z1).bind _) _
  rw [f_Th_copyFrom_110, show (0 : Int32) = zi 0 from rfl]
  obtain ⟨z2, ez2, fz2, vz3⟩ := cp_Th_112t FU 0 z1 (by omega) (by omega) (by have := FU_ge; omega)
  rw [ez2]
  show Ok ((f_Lo_copyFrom 59 119 z2).bind _) _
  rw [f_Lo_copyFrom_eq, b_Lo_copyFrom, show (0 : Int32) = zi 0 from rfl]
  obtain ⟨z3, ez3, fz3, vz4⟩ := cp_Lo_2t FU 0 z2 (by omega) (by omega) (by have := FU_ge; omega)
  rw [ez3]
  have Z2 : ∀ k j : Nat, ¬ (55 ≤ k ∧ k ≤ 60) → rI z3 k j = rI y6.2 k j := fun k j h => (fz3 k j (by omega)).trans ((fz2 k j (by omega)).trans (fz1 k j (by omega) (by omega)))
  have Y7 : ∀ k j : Nat, ¬ (31 ≤ k ∧ k ≤ 54) → rI y6.2 k j = rI s7 k j := fun k j h => (G6 _ _ (by omega)).trans ((G5 _ _ (by omega)).trans ((G4 _ _ (by omega)).trans ((G3 _ _ (by omega)).trans ((G2 _ _ (by omega)).trans (G1 _ _ (by omega))))))
  refine ok_s ⟨fun k j h => (Z2 k j (by omega)).trans ((Y7 k j (by omega)).trans (S27 k j (by omega))), ?_, P1.cg (fun k j h h' h'' => ?_) (fun _ _ _ => rfl), hT7.cg (fun k j h h' h'' => (Z2 k j (by omega)).trans (Y7 k j (by omega))) (fun _ _ => rfl), ⟨ha.mv (fun c k1 k2 k3 => ?_) (fun _ _ => rfl), hb.mv (fun c k1 k2 k3 => ?_) (fun _ _ => rfl), hc.mv (fun c k1 k2 k3 => ?_) (fun _ _ => rfl), hd.mv (fun c k1 k2 k3 => ?_) (fun _ _ => rfl), he.mv (fun c k1 k2 k3 => ?_) (fun _ _ => rfl), hf.mv (fun c k1 k2 k3 => ?_) (fun _ _ => rfl), fun i i0 i1 => ?_, fun i i0 i1 => ?_⟩, fun i i0 i1 => ?_⟩
  · exact (Z2 _ _ (by omega)).trans ((Y7 _ _ (by omega)).trans ((F7 _ _ (by omega)).trans ((F6 _ _ (by omega)).trans ((F5 _ _ (by omega)).trans ((F4 _ _ (by omega)).trans ((F3 _ _ (by omega)).trans ((F2 _ _ (by omega)).trans (f1 _ _ (by omega) (by omega)))))))))
  · exact (Z2 _ _ (by omega)).trans ((Y7 _ _ (by omega)).trans ((F7 _ _ (by omega)).trans ((F6 _ _ (by omega)).trans ((F5 _ _ (by omega)).trans ((F4 _ _ (by omega)).trans ((F3 _ _ (by omega)).trans (F2 _ _ (by omega))))))))
  · have up : ∀ k j : Nat, 31 ≤ k → k ≤ 34 → rI z3 k j = rI y1.2 k j := fun k j h h' => (Z2 _ _ (by omega)).trans ((G6 _ _ (by omega)).trans ((G5 _ _ (by omega)).trans ((G4 _ _ (by omega)).trans ((G3 _ _ (by omega)).trans (G2 _ _ (by omega))))))
    have dn : ∀ k j : Nat, 62 ≤ k → k ≤ 120 → rI s7 k j = rI s k j := fun k j h h' => S27 _ _ (by omega)
    obtain ⟨y1, y2⟩ := D1 c ((dn _ _ (by omega) (by omega)).trans k1) k2 k3
    refine ⟨(up _ _ (by omega) (by omega)).trans y1, fun i i0 i1 => ?_⟩
    obtain ⟨z1, z2, z3⟩ := y2 i i0 i1
    exact ⟨(up _ _ (by omega) (by omega)).trans (z1.trans (dn _ _ (by omega) (by omega))), (up _ _ (by omega) (by omega)).trans (z2.trans (dn _ _ (by omega) (by omega))), (up _ _ (by omega) (by omega)).trans (z3.trans (dn _ _ (by omega) (by omega)))⟩
  · have up : ∀ k j : Nat, 35 ≤ k → k ≤ 38 → rI z3 k j = rI y2.2 k j := fun k j h h' => (Z2 _ _ (by omega)).trans ((G6 _ _ (by omega)).trans ((G5 _ _ (by omega)).trans ((G4 _ _ (by omega)).trans (G3 _ _ (by omega)))))
    have dn : ∀ k j : Nat, 62 ≤ k → k ≤ 120 → rI y1.2 k j = rI s k j := fun k j h h' => (G1 _ _ (by omega)).trans (S27 _ _ (by omega))
    obtain ⟨y1, y2⟩ := D2 c ((dn _ _ (by omega) (by omega)).trans k1) k2 k3
    refine ⟨(up _ _ (by omega) (by omega)).trans y1, fun i i0 i1 => ?_⟩
    obtain ⟨z1, z2, z3⟩ := y2 i i0 i1
    exact ⟨(up _ _ (by omega) (by omega)).trans (z1.trans (dn _ _ (by omega) (by omega))), (up _ _ (by omega) (by omega)).trans (z2.trans (dn _ _ (by omega) (by omega))), (up _ _ (by omega) (by omega)).trans (z3.trans (dn _ _ (by omega) (by omega)))⟩
  · have up : ∀ k j : Nat, 39 ≤ k → k ≤ 42 → rI z3 k j = rI y3.2 k j := fun k j h h' => (Z2 _ _ (by omega)).trans ((G6 _ _ (by omega)).trans ((G5 _ _ (by omega)).trans (G4 _ _ (by omega))))
    have dn : ∀ k j : Nat, 62 ≤ k → k ≤ 120 → rI y2.2 k j = rI s k j := fun k j h h' => (G2 _ _ (by omega)).trans ((G1 _ _ (by omega)).trans (S27 _ _ (by omega)))
    obtain ⟨y1, y2⟩ := D3 c ((dn _ _ (by omega) (by omega)).trans k1) k2 k3
    refine ⟨(up _ _ (by omega) (by omega)).trans y1, fun i i0 i1 => ?_⟩
    obtain ⟨z1, z2, z3⟩ := y2 i i0 i1
    exact ⟨(up _ _ (by omega) (by omega)).trans (z1.trans (dn _ _ (by omega) (by omega))), (up _ _ (by omega) (by omega)).trans (z2.trans (dn _ _ (by omega) (by omega))), (up _ _ (by omega) (by omega)).trans (z3.trans (dn _ _ (by omega) (by omega)))⟩
  · have up : ∀ k j : Nat, 43 ≤ k → k ≤ 46 → rI z3 k j = rI y4.2 k j := fun k j h h' => (Z2 _ _ (by omega)).trans ((G6 _ _ (by omega)).trans (G5 _ _ (by omega)))
    have dn : ∀ k j : Nat, 62 ≤ k → k ≤ 120 → rI y3.2 k j = rI s k j := fun k j h h' => (G3 _ _ (by omega)).trans ((G2 _ _ (by omega)).trans ((G1 _ _ (by omega)).trans (S27 _ _ (by omega))))
    obtain ⟨y1, y2⟩ := D4 c ((dn _ _ (by omega) (by omega)).trans k1) k2 k3
    refine ⟨(up _ _ (by omega) (by omega)).trans y1, fun i i0 i1 => ?_⟩
    obtain ⟨z1, z2, z3⟩ := y2 i i0 i1
    exact ⟨(up _ _ (by omega) (by omega)).trans (z1.trans (dn _ _ (by omega) (by omega))), (up _ _ (by omega) (by omega)).trans (z2.trans (dn _ _ (by omega) (by omega))), (up _ _ (by omega) (by omega)).trans (z3.trans (dn _ _ (by omega) (by omega)))⟩
  · have up : ∀ k j : Nat, 47 ≤ k → k ≤ 50 → rI z3 k j = rI y5.2 k j := fun k j h h' => (Z2 _ _ (by omega)).trans (G6 _ _ (by omega))
    have dn : ∀ k j : Nat, 62 ≤ k → k ≤ 120 → rI y4.2 k j = rI s k j := fun k j h h' => (G4 _ _ (by omega)).trans ((G3 _ _ (by omega)).trans ((G2 _ _ (by omega)).trans ((G1 _ _ (by omega)).trans (S27 _ _ (by omega)))))
    obtain ⟨y1, y2⟩ := D5 c ((dn _ _ (by omega) (by omega)).trans k1) k2 k3
    refine ⟨(up _ _ (by omega) (by omega)).trans y1, fun i i0 i1 => ?_⟩
    obtain ⟨z1, z2, z3⟩ := y2 i i0 i1
    exact ⟨(up _ _ (by omega) (by omega)).trans (z1.trans (dn _ _ (by omega) (by omega))), (up _ _ (by omega) (by omega)).trans (z2.trans (dn _ _ (by omega) (by omega))), (up _ _ (by omega) (by omega)).trans (z3.trans (dn _ _ (by omega) (by omega)))⟩
  · have up : ∀ k j : Nat, 51 ≤ k → k ≤ 54 → rI z3 k j = rI y6.2 k j := fun k j h h' => Z2 _ _ (by omega)
    have dn : ∀ k j : Nat, 62 ≤ k → k ≤ 120 → rI y5.2 k j = rI s k j := fun k j h h' => (G5 _ _ (by omega)).trans ((G4 _ _ (by omega)).trans ((G3 _ _ (by omega)).trans ((G2 _ _ (by omega)).trans ((G1 _ _ (by omega)).trans (S27 _ _ (by omega))))))
    obtain ⟨y1, y2⟩ := D6 c ((dn _ _ (by omega) (by omega)).trans k1) k2 k3
    refine ⟨(up _ _ (by omega) (by omega)).trans y1, fun i i0 i1 => ?_⟩
    obtain ⟨z1, z2, z3⟩ := y2 i i0 i1
    exact ⟨(up _ _ (by omega) (by omega)).trans (z1.trans (dn _ _ (by omega) (by omega))), (up _ _ (by omega) (by omega)).trans (z2.trans (dn _ _ (by omega) (by omega))), (up _ _ (by omega) (by omega)).trans (z3.trans (dn _ _ (by omega) (by omega)))⟩
  · obtain ⟨n, b, w1, w2, w3, w4, w5, w6, w7, w8⟩ := hm i i0 i1
    refine ⟨n, b, w1, w2, w3, w4, ?_, w6, ?_, w8⟩
    · rw [show rd z3 (30 + 25) i = rd z1 55 i from (fz3 _ _ (by omega)).trans (fz2 _ _ (by omega)), vz1 i i0, if_pos ⟨i0, i1⟩]
      exact (Y7 _ _ (by omega)).trans ((S27 _ _ (by omega)).trans w5)
    · rw [show rd z3 (30 + 26) i = rd z1 56 i from (fz3 _ _ (by omega)).trans (fz2 _ _ (by omega)), vz2 i i0, if_pos ⟨i0, i1⟩]
      exact (Y7 _ _ (by omega)).trans ((S27 _ _ (by omega)).trans w7)
  · obtain ⟨x, w1, w2, w3, w4⟩ := ho i i0 i1
    refine ⟨x, w1, w2, ?_, w4⟩
    rw [show rd z3 (30 + 27) i = rd z2 57 i from fz3 _ _ (by omega), vz3 i i0, if_pos ⟨i0, i1⟩]
    exact (fz1 _ _ (by omega) (by omega)).trans ((Y7 _ _ (by omega)).trans ((S27 _ _ (by omega)).trans w3))
  · rw [show rd z3 (59 + 1) i = rd z3 60 i from rfl, vz4 i i0, if_pos ⟨i0, i1⟩]
    exact (fz2 _ _ (by omega)).trans ((fz1 _ _ (by omega) (by omega)).trans ((Y7 _ _ (by omega)).trans ((S27 _ _ (by omega)).trans (hB i i0 i1))))

theorem ok_copyW_o {s : Mem} {W : Int → Int32} {N : Int} (h : RW 1 s W N) : Ok (f_Wh_copyFrom 61 1 s) (fun s' => (∀ k j : Nat, ¬ (62 ≤ k ∧ k ≤ 120) → rI s' k j = rI s k j) ∧ rI s' 62 0 = rI s 62 0 ∧ RW 61 s' W N) := by
  obtain ⟨hP, ⟨hTn, hTw, hTp, hTd, hTq, hTs, hTl⟩, ⟨ha, hb, hc, hd, he, hf, hm, ho⟩, hB⟩ := h
  simp only [Nat.reduceAdd] at hP hTn hTw hTp hTd hTq hTs hTl ha hb hc hd he hf hm ho hB
  rw [f_Wh_copyFrom_eq, b_Wh_copyFrom]
  simp only [Nat.reduceAdd]
  refine ok_b (ok_pcopy pb_62 pb_2 (by omega) hP) (fun s1 ⟨f1, P1⟩ => ?_)
  have F1 : ∀ k j : Nat, ¬ (62 ≤ k ∧ k ≤ 66) → rI s1 k j = rI s k j := fun k j h => f1 k j (by omega) (by omega)
  rw [f_To_copyFrom_eq, b_To_copyFrom, show (0 : Int32) = zi 0 from rfl]
  obtain ⟨s2, e2, f2, v1, v2, v3⟩ := cp_To_2o (fun k0 k1 s => f_To_copyFrom_50 k0 k1 s) FU 0 s1 (by omega) (by omega) (by have := FU_ge; omega)
  rw [e2]
  have F2 : ∀ k j : Nat, ¬ (68 ≤ k ∧ k ≤ 70) → rI s2 k j = rI s1 k j := fun k j h => f2 k j (by omega) (by omega) (by omega)
  show Ok ((f_To_copyFrom_50 67 7 s2).bind _) _
  rw [f_To_copyFrom_50]
  simp only [Option.bind_assoc, Nat.reduceAdd, Option.bind_some]
  refine ok_b (ok_lcopy lb_71 lb_11 (by omega)) (fun s3 ⟨F3, _, L3⟩ => ?_)
  obtain ⟨cd, d1, d2, d3, -⟩ := id hTd
  simp only [Nat.reduceAdd] at d3
  refine ok_b (ok_rocopy (n := 16) (c := cd) rfl rfl rfl rfl rfl rfl (by decide) (by omega) ((F3 _ _ (by omega)).trans ((F2 _ _ (by omega)).trans ((F1 _ _ (by omega)).trans d3))) d1 d2) (fun x4 ⟨_, F4, C4⟩ => ?_)
  obtain ⟨cq, q1, q2, q3, -⟩ := id hTq
  simp only [Nat.reduceAdd] at q3
  refine ok_b (ok_rocopy (n := 16) (c := cq) rfl rfl rfl rfl rfl rfl (by decide) (by omega) ((F4 _ _ (by omega)).trans ((F3 _ _ (by omega)).trans ((F2 _ _ (by omega)).trans ((F1 _ _ (by omega)).trans q3)))) q1 q2) (fun x5 ⟨_, F5, C5⟩ => ?_)
  obtain ⟨cs, t1, t2, t3, -⟩ := id hTs
  simp only [Nat.reduceAdd] at t3
  refine ok_b (ok_rocopy (n := 16) (c := cs) rfl rfl rfl rfl rfl rfl (by decide) (by omega) ((F5 _ _ (by omega)).trans ((F4 _ _ (by omega)).trans ((F3 _ _ (by omega)).trans ((F2 _ _ (by omega)).trans ((F1 _ _ (by omega)).trans t3))))) t1 t2) (fun x6 ⟨_, F6, C6⟩ => ?_)
  obtain ⟨s7, hs7⟩ : ∃ s7 : Mem, wI (wI (wI x6.2 67 7 (rI x6.2 7 7)) 67 8 (rI (wI x6.2 67 7 (rI x6.2 7 7)) 7 8)) 67 9 (rI (wI (wI x6.2 67 7 (rI x6.2 7 7)) 67 8 (rI (wI x6.2 67 7 (rI x6.2 7 7)) 7 8)) 7 9) = s7 := ⟨_, rfl⟩
  rw [hs7]
  have F7 : ∀ k j : Nat, k ≠ 67 → rI s7 k j = rI x6.2 k j := fun k j h => by rw [← hs7]; simp (disch := omega) only [rI_wI_s, rI_wI_f, rI_wI_c, rI_wd_c, rd_wI_c, rd_wd_c, rd_wd_s, rd_wd_n, rI_wJ, rd_wJ, rI_ix, wI_ix, rJ_ix, wJ_ix, rI_wI_o, Nat.reduceAdd]
  have S26 : ∀ k j : Nat, ¬ (62 ≤ k ∧ k ≤ 89) → rI x6.2 k j = rI s k j := fun k j h => (F6 _ _ (by omega)).trans ((F5 _ _ (by omega)).trans ((F4 _ _ (by omega)).trans ((F3 _ _ (by omega)).trans ((F2 _ _ (by omega)).trans (F1 _ _ (by omega))))))
  have V7 : rI s7 67 7 = rI s 7 7 ∧ rI s7 67 8 = rI s 7 8 ∧ rI s7 67 9 = rI s 7 9 := by
    rw [← hs7]
    refine ⟨?_, ?_, ?_⟩
    · simp (disch := omega) only [rI_wI_s, rI_wI_f, rI_wI_c, rI_wd_c, rd_wI_c, rd_wd_c, rd_wd_s, rd_wd_n, rI_wJ, rd_wJ, rI_ix, wI_ix, rJ_ix, wJ_ix, rI_wI_o, Nat.reduceAdd]; exact S26 _ _ (by omega)
    · simp (disch := omega) only [rI_wI_s, rI_wI_f, rI_wI_c, rI_wd_c, rd_wI_c, rd_wd_c, rd_wd_s, rd_wd_n, rI_wJ, rd_wJ, rI_ix, wI_ix, rJ_ix, wJ_ix, rI_wI_o, Nat.reduceAdd]; exact S26 _ _ (by omega)
    · simp (disch := omega) only [rI_wI_s, rI_wI_f, rI_wI_c, rI_wd_c, rd_wI_c, rd_wd_c, rd_wd_s, rd_wd_n, rI_wJ, rd_wJ, rI_ix, wI_ix, rJ_ix, wJ_ix, rI_wI_o, Nat.reduceAdd]; exact S26 _ _ (by omega)
  have S27 : ∀ k j : Nat, ¬ (62 ≤ k ∧ k ≤ 89) → rI s7 k j = rI s k j := fun k j h => (F7 k j (by omega)).trans (S26 k j h)
  have hT7 : RT 67 s7 W N := by
    refine ⟨⟨hTn.1, hTn.2.1, V7.1.trans hTn.2.2.1, hTn.2.2.2⟩, ⟨?_, V7.2.2.trans hTw.2⟩, fun i i0 i1 => ?_, hTd.mv (fun c k1 k2 k3 => ?_) (fun _ _ => rfl), hTq.mv (fun c k1 k2 k3 => ?_) (fun _ _ => rfl), hTs.mv (fun c k1 k2 k3 => ?_) (fun _ _ => rfl), ?_⟩
    · obtain ⟨w, w1, w2, w3, w4⟩ := hTw.1
      exact ⟨w, w1, w2, V7.2.1.trans w3, w4⟩
    · obtain ⟨x, y, z, y1, y2, y3, y4, y5, y6, y7, y8, y9, y10, y11, y12⟩ := hTp i i0 i1
      have hN := hTn.2.1
      refine ⟨x, y, z, y1, y2, y3, y4, y5, y6, ?_, y8, ?_, y10, ?_, y12⟩
      · rw [show rd s7 (67 + 1) i = rd s2 68 i from (F7 _ _ (by omega)).trans ((F6 _ _ (by omega)).trans ((F5 _ _ (by omega)).trans ((F4 _ _ (by omega)).trans (F3 _ _ (by omega))))), v1 i i0, if_pos ⟨i0, by omega⟩]
        exact (F1 _ _ (by omega)).trans y7
      · rw [show rd s7 (67 + 2) i = rd s2 69 i from (F7 _ _ (by omega)).trans ((F6 _ _ (by omega)).trans ((F5 _ _ (by omega)).trans ((F4 _ _ (by omega)).trans (F3 _ _ (by omega))))), v2 i i0, if_pos ⟨i0, by omega⟩]
        exact (F1 _ _ (by omega)).trans y9
      · rw [show rd s7 (67 + 3) i = rd s2 70 i from (F7 _ _ (by omega)).trans ((F6 _ _ (by omega)).trans ((F5 _ _ (by omega)).trans ((F4 _ _ (by omega)).trans (F3 _ _ (by omega))))), v3 i i0, if_pos ⟨i0, by omega⟩]
        exact (F1 _ _ (by omega)).trans y11
    · have s3' : ∀ k j : Nat, 2 ≤ k → k ≤ 60 → rI s3 k j = rI s k j := fun k j h h' => (F3 _ _ (by omega)).trans ((F2 _ _ (by omega)).trans (F1 _ _ (by omega)))
      obtain ⟨y1, y2⟩ := C4 c ((s3' _ _ (by omega) (by omega)).trans k1) k2 k3
      refine ⟨(F7 _ _ (by omega)).trans ((F6 _ _ (by omega)).trans ((F5 _ _ (by omega)).trans y1)), fun i i0 i1 => ?_⟩
      obtain ⟨z1, z2, z3⟩ := y2 i i0 i1
      exact ⟨(F7 _ _ (by omega)).trans ((F6 _ _ (by omega)).trans ((F5 _ _ (by omega)).trans (z1.trans (s3' _ _ (by omega) (by omega))))), (F7 _ _ (by omega)).trans ((F6 _ _ (by omega)).trans ((F5 _ _ (by omega)).trans (z2.trans (s3' _ _ (by omega) (by omega))))), (F7 _ _ (by omega)).trans ((F6 _ _ (by omega)).trans ((F5 _ _ (by omega)).trans (z3.trans (s3' _ _ (by omega) (by omega)))))⟩
    · have s3' : ∀ k j : Nat, 2 ≤ k → k ≤ 60 → rI x4.2 k j = rI s k j := fun k j h h' => (F4 _ _ (by omega)).trans ((F3 _ _ (by omega)).trans ((F2 _ _ (by omega)).trans (F1 _ _ (by omega))))
      obtain ⟨y1, y2⟩ := C5 c ((s3' _ _ (by omega) (by omega)).trans k1) k2 k3
      refine ⟨(F7 _ _ (by omega)).trans ((F6 _ _ (by omega)).trans y1), fun i i0 i1 => ?_⟩
      obtain ⟨z1, z2, z3⟩ := y2 i i0 i1
      exact ⟨(F7 _ _ (by omega)).trans ((F6 _ _ (by omega)).trans (z1.trans (s3' _ _ (by omega) (by omega)))), (F7 _ _ (by omega)).trans ((F6 _ _ (by omega)).trans (z2.trans (s3' _ _ (by omega) (by omega)))), (F7 _ _ (by omega)).trans ((F6 _ _ (by omega)).trans (z3.trans (s3' _ _ (by omega) (by omega))))⟩
    · have s3' : ∀ k j : Nat, 2 ≤ k → k ≤ 60 → rI x5.2 k j = rI s k j := fun k j h h' => (F5 _ _ (by omega)).trans ((F4 _ _ (by omega)).trans ((F3 _ _ (by omega)).trans ((F2 _ _ (by omega)).trans (F1 _ _ (by omega)))))
      obtain ⟨y1, y2⟩ := C6 c ((s3' _ _ (by omega) (by omega)).trans k1) k2 k3
      refine ⟨(F7 _ _ (by omega)).trans y1, fun i i0 i1 => ?_⟩
      obtain ⟨z1, z2, z3⟩ := y2 i i0 i1
      exact ⟨(F7 _ _ (by omega)).trans (z1.trans (s3' _ _ (by omega) (by omega))), (F7 _ _ (by omega)).trans (z2.trans (s3' _ _ (by omega) (by omega))), (F7 _ _ (by omega)).trans (z3.trans (s3' _ _ (by omega) (by omega)))⟩
    · exact (L3 W (hTl.cg (fun k j h h' => (F2 _ _ (by omega)).trans (F1 _ _ (by omega))) (fun _ _ => rfl))).cg (fun k j h h' => (F7 _ _ (by omega)).trans ((F6 _ _ (by omega)).trans ((F5 _ _ (by omega)).trans (F4 _ _ (by omega))))) (fun _ _ => rfl)
  rw [f_Th_copyFrom_eq, b_Th_copyFrom]
  simp only [Option.bind_assoc, Nat.reduceAdd, Option.bind_some]
  obtain ⟨c0, -, -, -, -⟩ := id ha
  obtain ⟨c1, a11, a12, a13, -⟩ := id ha
  obtain ⟨c2, b11, b12, b13, -⟩ := id hb
  obtain ⟨c3, c11, c12, c13, -⟩ := id hc
  obtain ⟨c4, d11, d12, d13, -⟩ := id hd
  obtain ⟨c5, e11, e12, e13, -⟩ := id he
  obtain ⟨c6, f11, f12, f13, -⟩ := id hf
  simp only [Nat.reduceAdd] at a13 b13 c13 d13 e13 f13
  refine ok_b (ok_rocopy (n := 20) (c := c1) rfl rfl rfl rfl rfl rfl (by decide) (by omega) ((S27 _ _ (by omega)).trans a13) a11 a12) (fun y1 ⟨_, G1, D1⟩ => ?_)
  refine ok_b (ok_rocopy (n := 10) (c := c2) rfl rfl rfl rfl rfl rfl (by decide) (by omega) ((G1 _ _ (by omega)).trans ((S27 _ _ (by omega)).trans b13)) b11 b12) (fun y2 ⟨_, G2, D2⟩ => ?_)
  refine ok_b (ok_rocopy (n := 16) (c := c3) rfl rfl rfl rfl rfl rfl (by decide) (by omega) ((G2 _ _ (by omega)).trans ((G1 _ _ (by omega)).trans ((S27 _ _ (by omega)).trans c13))) c11 c12) (fun y3 ⟨_, G3, D3⟩ => ?_)
  refine ok_b (ok_rocopy (n := 12) (c := c4) rfl rfl rfl rfl rfl rfl (by decide) (by omega) ((G3 _ _ (by omega)).trans ((G2 _ _ (by omega)).trans ((G1 _ _ (by omega)).trans ((S27 _ _ (by omega)).trans d13)))) d11 d12) (fun y4 ⟨_, G4, D4⟩ => ?_)
  refine ok_b (ok_rocopy (n := 10) (c := c5) rfl rfl rfl rfl rfl rfl (by decide) (by omega) ((G4 _ _ (by omega)).trans ((G3 _ _ (by omega)).trans ((G2 _ _ (by omega)).trans ((G1 _ _ (by omega)).trans ((S27 _ _ (by omega)).trans e13))))) e11 e12) (fun y5 ⟨_, G5, D5⟩ => ?_)
  refine ok_b (ok_rocopy (n := 8) (c := c6) rfl rfl rfl rfl rfl rfl (by decide) (by omega) ((G5 _ _ (by omega)).trans ((G4 _ _ (by omega)).trans ((G3 _ _ (by omega)).trans ((G2 _ _ (by omega)).trans ((G1 _ _ (by omega)).trans ((S27 _ _ (by omega)).trans f13)))))) f11 f12) (fun y6 ⟨_, G6, D6⟩ => ?_)
  rw [show (0 : Int32) = zi 0 from rfl]
  obtain ⟨z1, ez1, fz1, vz1, vz2⟩ := cp_Th_74o (fun k0 k1 s => f_Th_copyFrom_110 k0 k1 s) FU 0 y6.2 (by omega) (by omega) (by have := FU_ge; omega)
  rw [ez1]
  show Ok ((f_Th_copyFrom_110 90 30 z1).bind _) _
  rw [f_Th_copyFrom_110, show (0 : Int32) = zi 0 from rfl]
  obtain ⟨z2, ez2, fz2, vz3⟩ := cp_Th_112o FU 0 z1 (by omega) (by omega) (by have := FU_ge; omega)
  rw [ez2]
  show Ok ((f_Lo_copyFrom 119 59 z2).bind _) _
  rw [f_Lo_copyFrom_eq, b_Lo_copyFrom, show (0 : Int32) = zi 0 from rfl]
  obtain ⟨z3, ez3, fz3, vz4⟩ := cp_Lo_2o FU 0 z2 (by omega) (by omega) (by have := FU_ge; omega)
  rw [ez3]
  have Z2 : ∀ k j : Nat, ¬ (115 ≤ k ∧ k ≤ 120) → rI z3 k j = rI y6.2 k j := fun k j h => (fz3 k j (by omega)).trans ((fz2 k j (by omega)).trans (fz1 k j (by omega) (by omega)))
  have Y7 : ∀ k j : Nat, ¬ (91 ≤ k ∧ k ≤ 114) → rI y6.2 k j = rI s7 k j := fun k j h => (G6 _ _ (by omega)).trans ((G5 _ _ (by omega)).trans ((G4 _ _ (by omega)).trans ((G3 _ _ (by omega)).trans ((G2 _ _ (by omega)).trans (G1 _ _ (by omega))))))
  refine ok_s ⟨fun k j h => (Z2 k j (by omega)).trans ((Y7 k j (by omega)).trans (S27 k j (by omega))), ?_, P1.cg (fun k j h h' h'' => ?_) (fun _ _ _ => rfl), hT7.cg (fun k j h h' h'' => (Z2 k j (by omega)).trans (Y7 k j (by omega))) (fun _ _ => rfl), ⟨ha.mv (fun c k1 k2 k3 => ?_) (fun _ _ => rfl), hb.mv (fun c k1 k2 k3 => ?_) (fun _ _ => rfl), hc.mv (fun c k1 k2 k3 => ?_) (fun _ _ => rfl), hd.mv (fun c k1 k2 k3 => ?_) (fun _ _ => rfl), he.mv (fun c k1 k2 k3 => ?_) (fun _ _ => rfl), hf.mv (fun c k1 k2 k3 => ?_) (fun _ _ => rfl), fun i i0 i1 => ?_, fun i i0 i1 => ?_⟩, fun i i0 i1 => ?_⟩
  · exact (Z2 _ _ (by omega)).trans ((Y7 _ _ (by omega)).trans ((F7 _ _ (by omega)).trans ((F6 _ _ (by omega)).trans ((F5 _ _ (by omega)).trans ((F4 _ _ (by omega)).trans ((F3 _ _ (by omega)).trans ((F2 _ _ (by omega)).trans (f1 _ _ (by omega) (by omega)))))))))
  · exact (Z2 _ _ (by omega)).trans ((Y7 _ _ (by omega)).trans ((F7 _ _ (by omega)).trans ((F6 _ _ (by omega)).trans ((F5 _ _ (by omega)).trans ((F4 _ _ (by omega)).trans ((F3 _ _ (by omega)).trans (F2 _ _ (by omega))))))))
  · have up : ∀ k j : Nat, 91 ≤ k → k ≤ 94 → rI z3 k j = rI y1.2 k j := fun k j h h' => (Z2 _ _ (by omega)).trans ((G6 _ _ (by omega)).trans ((G5 _ _ (by omega)).trans ((G4 _ _ (by omega)).trans ((G3 _ _ (by omega)).trans (G2 _ _ (by omega))))))
    have dn : ∀ k j : Nat, 2 ≤ k → k ≤ 60 → rI s7 k j = rI s k j := fun k j h h' => S27 _ _ (by omega)
    obtain ⟨y1, y2⟩ := D1 c ((dn _ _ (by omega) (by omega)).trans k1) k2 k3
    refine ⟨(up _ _ (by omega) (by omega)).trans y1, fun i i0 i1 => ?_⟩
    obtain ⟨z1, z2, z3⟩ := y2 i i0 i1
    exact ⟨(up _ _ (by omega) (by omega)).trans (z1.trans (dn _ _ (by omega) (by omega))), (up _ _ (by omega) (by omega)).trans (z2.trans (dn _ _ (by omega) (by omega))), (up _ _ (by omega) (by omega)).trans (z3.trans (dn _ _ (by omega) (by omega)))⟩
  · have up : ∀ k j : Nat, 95 ≤ k → k ≤ 98 → rI z3 k j = rI y2.2 k j := fun k j h h' => (Z2 _ _ (by omega)).trans ((G6 _ _ (by omega)).trans ((G5 _ _ (by omega)).trans ((G4 _ _ (by omega)).trans (G3 _ _ (by omega)))))
    have dn : ∀ k j : Nat, 2 ≤ k → k ≤ 60 → rI y1.2 k j = rI s k j := fun k j h h' => (G1 _ _ (by omega)).trans (S27 _ _ (by omega))
    obtain ⟨y1, y2⟩ := D2 c ((dn _ _ (by omega) (by omega)).trans k1) k2 k3
    refine ⟨(up _ _ (by omega) (by omega)).trans y1, fun i i0 i1 => ?_⟩
    obtain ⟨z1, z2, z3⟩ := y2 i i0 i1
    exact ⟨(up _ _ (by omega) (by omega)).trans (z1.trans (dn _ _ (by omega) (by omega))), (up _ _ (by omega) (by omega)).trans (z2.trans (dn _ _ (by omega) (by omega))), (up _ _ (by omega) (by omega)).trans (z3.trans (dn _ _ (by omega) (by omega)))⟩
  · have up : ∀ k j : Nat, 99 ≤ k → k ≤ 102 → rI z3 k j = rI y3.2 k j := fun k j h h' => (Z2 _ _ (by omega)).trans ((G6 _ _ (by omega)).trans ((G5 _ _ (by omega)).trans (G4 _ _ (by omega))))
    have dn : ∀ k j : Nat, 2 ≤ k → k ≤ 60 → rI y2.2 k j = rI s k j := fun k j h h' => (G2 _ _ (by omega)).trans ((G1 _ _ (by omega)).trans (S27 _ _ (by omega)))
    obtain ⟨y1, y2⟩ := D3 c ((dn _ _ (by omega) (by omega)).trans k1) k2 k3
    refine ⟨(up _ _ (by omega) (by omega)).trans y1, fun i i0 i1 => ?_⟩
    obtain ⟨z1, z2, z3⟩ := y2 i i0 i1
    exact ⟨(up _ _ (by omega) (by omega)).trans (z1.trans (dn _ _ (by omega) (by omega))), (up _ _ (by omega) (by omega)).trans (z2.trans (dn _ _ (by omega) (by omega))), (up _ _ (by omega) (by omega)).trans (z3.trans (dn _ _ (by omega) (by omega)))⟩
  · have up : ∀ k j : Nat, 103 ≤ k → k ≤ 106 → rI z3 k j = rI y4.2 k j := fun k j h h' => (Z2 _ _ (by omega)).trans ((G6 _ _ (by omega)).trans (G5 _ _ (by omega)))
    have dn : ∀ k j : Nat, 2 ≤ k → k ≤ 60 → rI y3.2 k j = rI s k j := fun k j h h' => (G3 _ _ (by omega)).trans ((G2 _ _ (by omega)).trans ((G1 _ _ (by omega)).trans (S27 _ _ (by omega))))
    obtain ⟨y1, y2⟩ := D4 c ((dn _ _ (by omega) (by omega)).trans k1) k2 k3
    refine ⟨(up _ _ (by omega) (by omega)).trans y1, fun i i0 i1 => ?_⟩
    obtain ⟨z1, z2, z3⟩ := y2 i i0 i1
    exact ⟨(up _ _ (by omega) (by omega)).trans (z1.trans (dn _ _ (by omega) (by omega))), (up _ _ (by omega) (by omega)).trans (z2.trans (dn _ _ (by omega) (by omega))), (up _ _ (by omega) (by omega)).trans (z3.trans (dn _ _ (by omega) (by omega)))⟩
  · have up : ∀ k j : Nat, 107 ≤ k → k ≤ 110 → rI z3 k j = rI y5.2 k j := fun k j h h' => (Z2 _ _ (by omega)).trans (G6 _ _ (by omega))
    have dn : ∀ k j : Nat, 2 ≤ k → k ≤ 60 → rI y4.2 k j = rI s k j := fun k j h h' => (G4 _ _ (by omega)).trans ((G3 _ _ (by omega)).trans ((G2 _ _ (by omega)).trans ((G1 _ _ (by omega)).trans (S27 _ _ (by omega)))))
    obtain ⟨y1, y2⟩ := D5 c ((dn _ _ (by omega) (by omega)).trans k1) k2 k3
    refine ⟨(up _ _ (by omega) (by omega)).trans y1, fun i i0 i1 => ?_⟩
    obtain ⟨z1, z2, z3⟩ := y2 i i0 i1
    exact ⟨(up _ _ (by omega) (by omega)).trans (z1.trans (dn _ _ (by omega) (by omega))), (up _ _ (by omega) (by omega)).trans (z2.trans (dn _ _ (by omega) (by omega))), (up _ _ (by omega) (by omega)).trans (z3.trans (dn _ _ (by omega) (by omega)))⟩
  · have up : ∀ k j : Nat, 111 ≤ k → k ≤ 114 → rI z3 k j = rI y6.2 k j := fun k j h h' => Z2 _ _ (by omega)
    have dn : ∀ k j : Nat, 2 ≤ k → k ≤ 60 → rI y5.2 k j = rI s k j := fun k j h h' => (G5 _ _ (by omega)).trans ((G4 _ _ (by omega)).trans ((G3 _ _ (by omega)).trans ((G2 _ _ (by omega)).trans ((G1 _ _ (by omega)).trans (S27 _ _ (by omega))))))
    obtain ⟨y1, y2⟩ := D6 c ((dn _ _ (by omega) (by omega)).trans k1) k2 k3
    refine ⟨(up _ _ (by omega) (by omega)).trans y1, fun i i0 i1 => ?_⟩
    obtain ⟨z1, z2, z3⟩ := y2 i i0 i1
    exact ⟨(up _ _ (by omega) (by omega)).trans (z1.trans (dn _ _ (by omega) (by omega))), (up _ _ (by omega) (by omega)).trans (z2.trans (dn _ _ (by omega) (by omega))), (up _ _ (by omega) (by omega)).trans (z3.trans (dn _ _ (by omega) (by omega)))⟩
  · obtain ⟨n, b, w1, w2, w3, w4, w5, w6, w7, w8⟩ := hm i i0 i1
    refine ⟨n, b, w1, w2, w3, w4, ?_, w6, ?_, w8⟩
    · rw [show rd z3 (90 + 25) i = rd z1 115 i from (fz3 _ _ (by omega)).trans (fz2 _ _ (by omega)), vz1 i i0, if_pos ⟨i0, i1⟩]
      exact (Y7 _ _ (by omega)).trans ((S27 _ _ (by omega)).trans w5)
    · rw [show rd z3 (90 + 26) i = rd z1 116 i from (fz3 _ _ (by omega)).trans (fz2 _ _ (by omega)), vz2 i i0, if_pos ⟨i0, i1⟩]
      exact (Y7 _ _ (by omega)).trans ((S27 _ _ (by omega)).trans w7)
  · obtain ⟨x, w1, w2, w3, w4⟩ := ho i i0 i1
    refine ⟨x, w1, w2, ?_, w4⟩
    rw [show rd z3 (90 + 27) i = rd z2 117 i from fz3 _ _ (by omega), vz3 i i0, if_pos ⟨i0, i1⟩]
    exact (fz1 _ _ (by omega) (by omega)).trans ((Y7 _ _ (by omega)).trans ((S27 _ _ (by omega)).trans w3))
  · rw [show rd z3 (119 + 1) i = rd z3 120 i from rfl, vz4 i i0, if_pos ⟨i0, i1⟩]
    exact (fz2 _ _ (by omega)).trans ((fz1 _ _ (by omega) (by omega)).trans ((Y7 _ _ (by omega)).trans ((S27 _ _ (by omega)).trans (hB i i0 i1))))

theorem pr_image {s σ : Mem} (R : RC s σ) {v : Int} (hv : v = 0 ∨ v = 1) : Ok2 (f_P_image 0 (zi v) s) (f_M_image 0 (zi v) σ) QB := by
  obtain ⟨⟨N, hW, hY, hK⟩, ⟨c, i1, i2, i3⟩, hR, h2, h121, h15⟩ := id R
  rw [f_P_image_eq, f_M_image_eq, b_P_image, b_M_image]
  rcases hv with rfl | rfl
  · rcases i3 with rfl | ⟨rfl, N', hW', hY'⟩
    · simp (disch := omega) only [zi_div, zi_and31, zi_neg, zi_add, zi_sub, zi_mul, zi_lt, zi_le, zi_eq, zi_imx, zi_imn, zi_iab, gd_i, vpb_0, vpb_1, b2i_0, b2i_1, b2i_e0, b2i_e1, lf_b, lf_s, lf_n, Option.bind_some, decide_eq_false_iff_not, decide_eq_true_eq, cif_t, cif_f, cif_pos, cif_neg, if_true, if_false, if_pos, if_neg, zi_ofNat, Nat.zero_add, Nat.reduceAdd, Nat.reduceSub, Nat.reduceMul, Int.reduceAdd, Int.reduceSub, Int.reduceMul, Int.reduceNeg, Bool.false_eq_true, reduceCtorEq, rI_wI_s, rI_wI_f, rI_wI_c, rI_wd_c, rd_wI_c, rd_wd_c, rd_wd_s, rd_wd_n, rI_wJ, rd_wJ, rI_ix, wI_ix, rJ_ix, wJ_ix, zl_0, zl_1, zl_2, zl_3, zl_4, zl_5, zl_6, zl_7, zl_8, zl_9, zl_10, zl_11, zl_12, zl_13, zl_14, zl_15, zl_16, zl_20, zl_21, zl_22, zl_23, zl_24, zl_25, zl_26, zl_27, zl_28, zl_29, zl_30, zl_31, zl_32, zl_37, zl_40, zl_41, zl_42, zl_43, zl_44, zl_45, zl_46, zl_47, zl_48, zl_49, zl_50, zl_51, zl_52, zl_53, zl_54, zl_55, zl_56, zl_57, zl_58, zl_59, zl_60, zl_61, zl_62, zl_63, zl_64, zl_65, zl_74, zl_86, zl_90, zl_97, zl_98, zl_99, zl_100, zl_122, zl_140, zl_141, zl_142, zl_143, zl_145, zl_146, zl_147, zl_149, zl_150, zl_159, zl_160, zl_161, zl_162, zl_178, zl_199, zl_200, zl_201, zl_210, zl_230, zl_240, zl_245, zl_255, zl_256, zl_257, zl_288, zl_312, zl_332, zl_340, zl_356, zl_366, zl_399, zl_400, zl_500, zl_820, zl_966, zl_982, zl_998, zl_999, zl_1000, zl_1002, zl_1003, zl_1004, zl_1012, zl_1013, zl_1014, zl_1015, zl_1016, zl_1017, zl_1018, zl_1020, zl_1021, zl_1024, zl_1030, zl_1850, zl_2412, zl_2613, zl_9999, zl_10000, zl_99999, zl_1000000, i1, i2]
      rw [show zi 0 = b2i false from rfl, lf_b]
      exact ok2_s ⟨rfl, R⟩
    · simp (disch := omega) only [zi_div, zi_and31, zi_neg, zi_add, zi_sub, zi_mul, zi_lt, zi_le, zi_eq, zi_imx, zi_imn, zi_iab, gd_i, vpb_0, vpb_1, b2i_0, b2i_1, b2i_e0, b2i_e1, lf_b, lf_s, lf_n, Option.bind_some, decide_eq_false_iff_not, decide_eq_true_eq, cif_t, cif_f, cif_pos, cif_neg, if_true, if_false, if_pos, if_neg, zi_ofNat, Nat.zero_add, Nat.reduceAdd, Nat.reduceSub, Nat.reduceMul, Int.reduceAdd, Int.reduceSub, Int.reduceMul, Int.reduceNeg, Bool.false_eq_true, reduceCtorEq, rI_wI_s, rI_wI_f, rI_wI_c, rI_wd_c, rd_wI_c, rd_wd_c, rd_wd_s, rd_wd_n, rI_wJ, rd_wJ, rI_ix, wI_ix, rJ_ix, wJ_ix, zl_0, zl_1, zl_2, zl_3, zl_4, zl_5, zl_6, zl_7, zl_8, zl_9, zl_10, zl_11, zl_12, zl_13, zl_14, zl_15, zl_16, zl_20, zl_21, zl_22, zl_23, zl_24, zl_25, zl_26, zl_27, zl_28, zl_29, zl_30, zl_31, zl_32, zl_37, zl_40, zl_41, zl_42, zl_43, zl_44, zl_45, zl_46, zl_47, zl_48, zl_49, zl_50, zl_51, zl_52, zl_53, zl_54, zl_55, zl_56, zl_57, zl_58, zl_59, zl_60, zl_61, zl_62, zl_63, zl_64, zl_65, zl_74, zl_86, zl_90, zl_97, zl_98, zl_99, zl_100, zl_122, zl_140, zl_141, zl_142, zl_143, zl_145, zl_146, zl_147, zl_149, zl_150, zl_159, zl_160, zl_161, zl_162, zl_178, zl_199, zl_200, zl_201, zl_210, zl_230, zl_240, zl_245, zl_255, zl_256, zl_257, zl_288, zl_312, zl_332, zl_340, zl_356, zl_366, zl_399, zl_400, zl_500, zl_820, zl_966, zl_982, zl_998, zl_999, zl_1000, zl_1002, zl_1003, zl_1004, zl_1012, zl_1013, zl_1014, zl_1015, zl_1016, zl_1017, zl_1018, zl_1020, zl_1021, zl_1024, zl_1030, zl_1850, zl_2412, zl_2613, zl_9999, zl_10000, zl_99999, zl_1000000, i1, i2]
      obtain ⟨s1, e1, f1, f2, W1⟩ := ok_copyW_t hW'
      obtain ⟨σ1, e2, g2, v2⟩ := cp_image_0 (fun k0 v1 s => f_M_image_59 k0 v1 s) FU 0 σ (by omega) (by omega) (by have := FU_ge; omega)
      rw [e1, e2]
      simp (disch := omega) only [zi_div, zi_and31, zi_neg, zi_add, zi_sub, zi_mul, zi_lt, zi_le, zi_eq, zi_imx, zi_imn, zi_iab, gd_i, vpb_0, vpb_1, b2i_0, b2i_1, b2i_e0, b2i_e1, lf_b, lf_s, lf_n, Option.bind_some, decide_eq_false_iff_not, decide_eq_true_eq, cif_t, cif_f, cif_pos, cif_neg, if_true, if_false, if_pos, if_neg, zi_ofNat, Nat.zero_add, Nat.reduceAdd, Nat.reduceSub, Nat.reduceMul, Int.reduceAdd, Int.reduceSub, Int.reduceMul, Int.reduceNeg, Bool.false_eq_true, reduceCtorEq, rI_wI_s, rI_wI_f, rI_wI_c, rI_wd_c, rd_wI_c, rd_wd_c, rd_wd_s, rd_wd_n, rI_wJ, rd_wJ, rI_ix, wI_ix, rJ_ix, wJ_ix, zl_0, zl_1, zl_2, zl_3, zl_4, zl_5, zl_6, zl_7, zl_8, zl_9, zl_10, zl_11, zl_12, zl_13, zl_14, zl_15, zl_16, zl_20, zl_21, zl_22, zl_23, zl_24, zl_25, zl_26, zl_27, zl_28, zl_29, zl_30, zl_31, zl_32, zl_37, zl_40, zl_41, zl_42, zl_43, zl_44, zl_45, zl_46, zl_47, zl_48, zl_49, zl_50, zl_51, zl_52, zl_53, zl_54, zl_55, zl_56, zl_57, zl_58, zl_59, zl_60, zl_61, zl_62, zl_63, zl_64, zl_65, zl_74, zl_86, zl_90, zl_97, zl_98, zl_99, zl_100, zl_122, zl_140, zl_141, zl_142, zl_143, zl_145, zl_146, zl_147, zl_149, zl_150, zl_159, zl_160, zl_161, zl_162, zl_178, zl_199, zl_200, zl_201, zl_210, zl_230, zl_240, zl_245, zl_255, zl_256, zl_257, zl_288, zl_312, zl_332, zl_340, zl_356, zl_366, zl_399, zl_400, zl_500, zl_820, zl_966, zl_982, zl_998, zl_999, zl_1000, zl_1002, zl_1003, zl_1004, zl_1012, zl_1013, zl_1014, zl_1015, zl_1016, zl_1017, zl_1018, zl_1020, zl_1021, zl_1024, zl_1030, zl_1850, zl_2412, zl_2613, zl_9999, zl_10000, zl_99999, zl_1000000, e_forgetC, f_M_image_59, e_forgetM]
      rw [show rI s1 0 7 = zi 1 from (f1 _ _ (by omega)).trans i1, show zi 1 = b2i true from rfl, lf_b]
      have v2' : ∀ z : Int, 0 ≤ z → z < 1850 → rd σ1 1 z = rd σ 2 z := fun z z0 z1 => by rw [v2 z z0, if_pos ⟨z0, z1⟩]
      refine ok2_s ⟨rfl, ⟨N', W1.cg (fun k j a b c d e => by simp (disch := omega) only [rI_wI_s, rI_wI_f, rI_wI_c, rI_wd_c, rd_wI_c, rd_wd_c, rd_wd_s, rd_wd_n, rI_wJ, rd_wJ, rI_ix, wI_ix, rJ_ix, wJ_ix, rI_wI_o, Nat.reduceAdd]) (fun z z0 z1 => by simp (disch := omega) only [rI_wI_s, rI_wI_f, rI_wI_c, rI_wd_c, rd_wI_c, rd_wd_c, rd_wd_s, rd_wd_n, rI_wJ, rd_wJ, rI_ix, wI_ix, rJ_ix, wJ_ix, rI_wI_o, Nat.reduceAdd]; exact v2' z z0 z1), hY'.cg (by simp (disch := omega) only [rI_wI_s, rI_wI_f, rI_wI_c, rI_wd_c, rd_wI_c, rd_wd_c, rd_wd_s, rd_wd_n, rI_wJ, rd_wJ, rI_ix, wI_ix, rJ_ix, wJ_ix, rI_wI_o, Nat.reduceAdd]; exact v2' 1 (by omega) (by omega)) (by simp (disch := omega) only [rI_wI_s, rI_wI_f, rI_wI_c, rI_wd_c, rd_wI_c, rd_wd_c, rd_wd_s, rd_wd_n, rI_wJ, rd_wJ, rI_ix, wI_ix, rJ_ix, wJ_ix, rI_wI_o, Nat.reduceAdd]; exact v2' 2 (by omega) (by omega)), ?_⟩, ⟨1, ?_, ?_, Or.inr ⟨rfl, N', hW'.cg (fun k j a b c d e => by simp (disch := omega) only [rI_wI_s, rI_wI_f, rI_wI_c, rI_wd_c, rd_wI_c, rd_wd_c, rd_wd_s, rd_wd_n, rI_wJ, rd_wJ, rI_ix, wI_ix, rJ_ix, wJ_ix, rI_wI_o, Nat.reduceAdd]; exact f1 k j (by omega)) (fun z z0 z1 => by simp (disch := omega) only [rI_wI_s, rI_wI_f, rI_wI_c, rI_wd_c, rd_wI_c, rd_wd_c, rd_wd_s, rd_wd_n, rI_wJ, rd_wJ, rI_ix, wI_ix, rJ_ix, wJ_ix, rI_wI_o, Nat.reduceAdd]; exact g2 2 _ (by omega)), hY'.cg (by simp (disch := omega) only [rI_wI_s, rI_wI_f, rI_wI_c, rI_wd_c, rd_wI_c, rd_wd_c, rd_wd_s, rd_wd_n, rI_wJ, rd_wJ, rI_ix, wI_ix, rJ_ix, wJ_ix, rI_wI_o, Nat.reduceAdd]; exact g2 2 _ (by omega)) (by simp (disch := omega) only [rI_wI_s, rI_wI_f, rI_wI_c, rI_wd_c, rd_wI_c, rd_wd_c, rd_wd_s, rd_wd_n, rI_wJ, rd_wJ, rI_ix, wI_ix, rJ_ix, wJ_ix, rI_wI_o, Nat.reduceAdd]; exact g2 2 _ (by omega))⟩⟩, hR.cg (fun k j h => by simp (disch := omega) only [rI_wI_s, rI_wI_f, rI_wI_c, rI_wd_c, rd_wI_c, rd_wd_c, rd_wd_s, rd_wd_n, rI_wJ, rd_wJ, rI_ix, wI_ix, rJ_ix, wJ_ix, rI_wI_o, Nat.reduceAdd]; exact f1 k j (by omega)) (fun j h => by simp (disch := omega) only [rI_wI_s, rI_wI_f, rI_wI_c, rI_wd_c, rd_wI_c, rd_wd_c, rd_wd_s, rd_wd_n, rI_wJ, rd_wJ, rI_ix, wI_ix, rJ_ix, wJ_ix, rI_wI_o, Nat.reduceAdd]; exact g2 0 j (by omega)) (fun j => by simp (disch := omega) only [rI_wI_s, rI_wI_f, rI_wI_c, rI_wd_c, rd_wI_c, rd_wd_c, rd_wd_s, rd_wd_n, rI_wJ, rd_wJ, rI_ix, wI_ix, rJ_ix, wJ_ix, rI_wI_o, Nat.reduceAdd]; exact g2 8 j (by omega)), ?_, ?_, ?_⟩
      · exact hK.fg (by simp (disch := omega) only [rI_wI_s, rI_wI_f, rI_wI_c, rI_wd_c, rd_wI_c, rd_wd_c, rd_wd_s, rd_wd_n, rI_wJ, rd_wJ, rI_ix, wI_ix, rJ_ix, wJ_ix, rI_wI_o, Nat.reduceAdd]; exact f1 _ _ (by omega)) (by simp (disch := omega) only [rI_wI_s, rI_wI_f, rI_wI_c, rI_wd_c, rd_wI_c, rd_wd_c, rd_wd_s, rd_wd_n, rI_wJ, rd_wJ, rI_ix, wI_ix, rJ_ix, wJ_ix, rI_wI_o, Nat.reduceAdd]) (by simp (disch := omega) only [rI_wI_s, rI_wI_f, rI_wI_c, rI_wd_c, rd_wI_c, rd_wd_c, rd_wd_s, rd_wd_n, rI_wJ, rd_wJ, rI_ix, wI_ix, rJ_ix, wJ_ix, rI_wI_o, Nat.reduceAdd])
      · simp (disch := omega) only [rI_wI_s, rI_wI_f, rI_wI_c, rI_wd_c, rd_wI_c, rd_wd_c, rd_wd_s, rd_wd_n, rI_wJ, rd_wJ, rI_ix, wI_ix, rJ_ix, wJ_ix, rI_wI_o, Nat.reduceAdd]; exact (f1 0 7 (by omega)).trans i1
      · simp (disch := omega) only [rI_wI_s, rI_wI_f, rI_wI_c, rI_wd_c, rd_wI_c, rd_wd_c, rd_wd_s, rd_wd_n, rI_wJ, rd_wJ, rI_ix, wI_ix, rJ_ix, wJ_ix, rI_wI_o, Nat.reduceAdd]; rfl
      · simp (disch := omega) only [rI_wI_s, rI_wI_f, rI_wI_c, rI_wd_c, rd_wI_c, rd_wd_c, rd_wd_s, rd_wd_n, rI_wJ, rd_wJ, rI_ix, wI_ix, rJ_ix, wJ_ix, rI_wI_o, Nat.reduceAdd]; exact f2.trans h2
      · simp (disch := omega) only [rI_wI_s, rI_wI_f, rI_wI_c, rI_wd_c, rd_wI_c, rd_wd_c, rd_wd_s, rd_wd_n, rI_wJ, rd_wJ, rI_ix, wI_ix, rJ_ix, wJ_ix, rI_wI_o, Nat.reduceAdd]; exact (f1 121 0 (by omega)).trans h121
      · simp (disch := omega) only [rI_wI_s, rI_wI_f, rI_wI_c, rI_wd_c, rd_wI_c, rd_wd_c, rd_wd_s, rd_wd_n, rI_wJ, rd_wJ, rI_ix, wI_ix, rJ_ix, wJ_ix, rI_wI_o, Nat.reduceAdd]; exact (g2 15 _ (by omega)).trans h15
  · simp (disch := omega) only [zi_div, zi_and31, zi_neg, zi_add, zi_sub, zi_mul, zi_lt, zi_le, zi_eq, zi_imx, zi_imn, zi_iab, gd_i, vpb_0, vpb_1, b2i_0, b2i_1, b2i_e0, b2i_e1, lf_b, lf_s, lf_n, Option.bind_some, decide_eq_false_iff_not, decide_eq_true_eq, cif_t, cif_f, cif_pos, cif_neg, if_true, if_false, if_pos, if_neg, zi_ofNat, Nat.zero_add, Nat.reduceAdd, Nat.reduceSub, Nat.reduceMul, Int.reduceAdd, Int.reduceSub, Int.reduceMul, Int.reduceNeg, Bool.false_eq_true, reduceCtorEq, rI_wI_s, rI_wI_f, rI_wI_c, rI_wd_c, rd_wI_c, rd_wd_c, rd_wd_s, rd_wd_n, rI_wJ, rd_wJ, rI_ix, wI_ix, rJ_ix, wJ_ix, zl_0, zl_1, zl_2, zl_3, zl_4, zl_5, zl_6, zl_7, zl_8, zl_9, zl_10, zl_11, zl_12, zl_13, zl_14, zl_15, zl_16, zl_20, zl_21, zl_22, zl_23, zl_24, zl_25, zl_26, zl_27, zl_28, zl_29, zl_30, zl_31, zl_32, zl_37, zl_40, zl_41, zl_42, zl_43, zl_44, zl_45, zl_46, zl_47, zl_48, zl_49, zl_50, zl_51, zl_52, zl_53, zl_54, zl_55, zl_56, zl_57, zl_58, zl_59, zl_60, zl_61, zl_62, zl_63, zl_64, zl_65, zl_74, zl_86, zl_90, zl_97, zl_98, zl_99, zl_100, zl_122, zl_140, zl_141, zl_142, zl_143, zl_145, zl_146, zl_147, zl_149, zl_150, zl_159, zl_160, zl_161, zl_162, zl_178, zl_199, zl_200, zl_201, zl_210, zl_230, zl_240, zl_245, zl_255, zl_256, zl_257, zl_288, zl_312, zl_332, zl_340, zl_356, zl_366, zl_399, zl_400, zl_500, zl_820, zl_966, zl_982, zl_998, zl_999, zl_1000, zl_1002, zl_1003, zl_1004, zl_1012, zl_1013, zl_1014, zl_1015, zl_1016, zl_1017, zl_1018, zl_1020, zl_1021, zl_1024, zl_1030, zl_1850, zl_2412, zl_2613, zl_9999, zl_10000, zl_99999, zl_1000000, i1, i2]
    obtain ⟨s1, e1, f1, f2, W1⟩ := ok_copyW_o hW
    obtain ⟨σ1, e2, g2, v2⟩ := cp_image_1 (fun k0 v1 s => f_M_image_59 k0 v1 s) FU 0 σ (by omega) (by omega) (by have := FU_ge; omega)
    rw [e1, e2]
    simp (disch := omega) only [zi_div, zi_and31, zi_neg, zi_add, zi_sub, zi_mul, zi_lt, zi_le, zi_eq, zi_imx, zi_imn, zi_iab, gd_i, vpb_0, vpb_1, b2i_0, b2i_1, b2i_e0, b2i_e1, lf_b, lf_s, lf_n, Option.bind_some, decide_eq_false_iff_not, decide_eq_true_eq, cif_t, cif_f, cif_pos, cif_neg, if_true, if_false, if_pos, if_neg, zi_ofNat, Nat.zero_add, Nat.reduceAdd, Nat.reduceSub, Nat.reduceMul, Int.reduceAdd, Int.reduceSub, Int.reduceMul, Int.reduceNeg, Bool.false_eq_true, reduceCtorEq, rI_wI_s, rI_wI_f, rI_wI_c, rI_wd_c, rd_wI_c, rd_wd_c, rd_wd_s, rd_wd_n, rI_wJ, rd_wJ, rI_ix, wI_ix, rJ_ix, wJ_ix, zl_0, zl_1, zl_2, zl_3, zl_4, zl_5, zl_6, zl_7, zl_8, zl_9, zl_10, zl_11, zl_12, zl_13, zl_14, zl_15, zl_16, zl_20, zl_21, zl_22, zl_23, zl_24, zl_25, zl_26, zl_27, zl_28, zl_29, zl_30, zl_31, zl_32, zl_37, zl_40, zl_41, zl_42, zl_43, zl_44, zl_45, zl_46, zl_47, zl_48, zl_49, zl_50, zl_51, zl_52, zl_53, zl_54, zl_55, zl_56, zl_57, zl_58, zl_59, zl_60, zl_61, zl_62, zl_63, zl_64, zl_65, zl_74, zl_86, zl_90, zl_97, zl_98, zl_99, zl_100, zl_122, zl_140, zl_141, zl_142, zl_143, zl_145, zl_146, zl_147, zl_149, zl_150, zl_159, zl_160, zl_161, zl_162, zl_178, zl_199, zl_200, zl_201, zl_210, zl_230, zl_240, zl_245, zl_255, zl_256, zl_257, zl_288, zl_312, zl_332, zl_340, zl_356, zl_366, zl_399, zl_400, zl_500, zl_820, zl_966, zl_982, zl_998, zl_999, zl_1000, zl_1002, zl_1003, zl_1004, zl_1012, zl_1013, zl_1014, zl_1015, zl_1016, zl_1017, zl_1018, zl_1020, zl_1021, zl_1024, zl_1030, zl_1850, zl_2412, zl_2613, zl_9999, zl_10000, zl_99999, zl_1000000, f_M_image_59]
    rw [show zi 1 = b2i true from rfl, lf_b]
    have v2' : ∀ z : Int, 0 ≤ z → z < 1850 → rd σ1 2 z = rd σ 1 z := fun z z0 z1 => by rw [v2 z z0, if_pos ⟨z0, z1⟩]
    refine ok2_s ⟨rfl, ⟨N, hW.cg (fun k j a b c d e => by simp (disch := omega) only [rI_wI_s, rI_wI_f, rI_wI_c, rI_wd_c, rd_wI_c, rd_wd_c, rd_wd_s, rd_wd_n, rI_wJ, rd_wJ, rI_ix, wI_ix, rJ_ix, wJ_ix, rI_wI_o, Nat.reduceAdd]; exact f1 k j (by omega)) (fun z z0 z1 => by simp (disch := omega) only [rI_wI_s, rI_wI_f, rI_wI_c, rI_wd_c, rd_wI_c, rd_wd_c, rd_wd_s, rd_wd_n, rI_wJ, rd_wJ, rI_ix, wI_ix, rJ_ix, wJ_ix, rI_wI_o, Nat.reduceAdd]; exact g2 1 _ (by omega)), hY.cg (by simp (disch := omega) only [rI_wI_s, rI_wI_f, rI_wI_c, rI_wd_c, rd_wI_c, rd_wd_c, rd_wd_s, rd_wd_n, rI_wJ, rd_wJ, rI_ix, wI_ix, rJ_ix, wJ_ix, rI_wI_o, Nat.reduceAdd]; exact g2 1 _ (by omega)) (by simp (disch := omega) only [rI_wI_s, rI_wI_f, rI_wI_c, rI_wd_c, rd_wI_c, rd_wd_c, rd_wd_s, rd_wd_n, rI_wJ, rd_wJ, rI_ix, wI_ix, rJ_ix, wJ_ix, rI_wI_o, Nat.reduceAdd]; exact g2 1 _ (by omega)), hK.cg (fun k j h => by simp (disch := omega) only [rI_wI_s, rI_wI_f, rI_wI_c, rI_wd_c, rd_wI_c, rd_wd_c, rd_wd_s, rd_wd_n, rI_wJ, rd_wJ, rI_ix, wI_ix, rJ_ix, wJ_ix, rI_wI_o, Nat.reduceAdd]; exact f1 k j (by omega)) (by simp (disch := omega) only [rI_wI_s, rI_wI_f, rI_wI_c, rI_wd_c, rd_wI_c, rd_wd_c, rd_wd_s, rd_wd_n, rI_wJ, rd_wJ, rI_ix, wI_ix, rJ_ix, wJ_ix, rI_wI_o, Nat.reduceAdd]; exact g2 0 4 (by omega)) (fun j => by simp (disch := omega) only [rI_wI_s, rI_wI_f, rI_wI_c, rI_wd_c, rd_wI_c, rd_wd_c, rd_wd_s, rd_wd_n, rI_wJ, rd_wJ, rI_ix, wI_ix, rJ_ix, wJ_ix, rI_wI_o, Nat.reduceAdd]; exact g2 3 j (by omega))⟩, ⟨1, by simp (disch := omega) only [rI_wI_s, rI_wI_f, rI_wI_c, rI_wd_c, rd_wI_c, rd_wd_c, rd_wd_s, rd_wd_n, rI_wJ, rd_wJ, rI_ix, wI_ix, rJ_ix, wJ_ix, rI_wI_o, Nat.reduceAdd]; rfl, by simp (disch := omega) only [rI_wI_s, rI_wI_f, rI_wI_c, rI_wd_c, rd_wI_c, rd_wd_c, rd_wd_s, rd_wd_n, rI_wJ, rd_wJ, rI_ix, wI_ix, rJ_ix, wJ_ix, rI_wI_o, Nat.reduceAdd]; rfl, Or.inr ⟨rfl, N, W1.cg (fun k j a b c d e => by simp (disch := omega) only [rI_wI_s, rI_wI_f, rI_wI_c, rI_wd_c, rd_wI_c, rd_wd_c, rd_wd_s, rd_wd_n, rI_wJ, rd_wJ, rI_ix, wI_ix, rJ_ix, wJ_ix, rI_wI_o, Nat.reduceAdd]) (fun z z0 z1 => by simp (disch := omega) only [rI_wI_s, rI_wI_f, rI_wI_c, rI_wd_c, rd_wI_c, rd_wd_c, rd_wd_s, rd_wd_n, rI_wJ, rd_wJ, rI_ix, wI_ix, rJ_ix, wJ_ix, rI_wI_o, Nat.reduceAdd]; exact v2' z z0 z1), hY.cg (by simp (disch := omega) only [rI_wI_s, rI_wI_f, rI_wI_c, rI_wd_c, rd_wI_c, rd_wd_c, rd_wd_s, rd_wd_n, rI_wJ, rd_wJ, rI_ix, wI_ix, rJ_ix, wJ_ix, rI_wI_o, Nat.reduceAdd]; exact v2' 1 (by omega) (by omega)) (by simp (disch := omega) only [rI_wI_s, rI_wI_f, rI_wI_c, rI_wd_c, rd_wI_c, rd_wd_c, rd_wd_s, rd_wd_n, rI_wJ, rd_wJ, rI_ix, wI_ix, rJ_ix, wJ_ix, rI_wI_o, Nat.reduceAdd]; exact v2' 2 (by omega) (by omega))⟩⟩, hR.cg (fun k j h => by simp (disch := omega) only [rI_wI_s, rI_wI_f, rI_wI_c, rI_wd_c, rd_wI_c, rd_wd_c, rd_wd_s, rd_wd_n, rI_wJ, rd_wJ, rI_ix, wI_ix, rJ_ix, wJ_ix, rI_wI_o, Nat.reduceAdd]; exact f1 k j (by omega)) (fun j h => by simp (disch := omega) only [rI_wI_s, rI_wI_f, rI_wI_c, rI_wd_c, rd_wI_c, rd_wd_c, rd_wd_s, rd_wd_n, rI_wJ, rd_wJ, rI_ix, wI_ix, rJ_ix, wJ_ix, rI_wI_o, Nat.reduceAdd]; exact g2 0 j (by omega)) (fun j => by simp (disch := omega) only [rI_wI_s, rI_wI_f, rI_wI_c, rI_wd_c, rd_wI_c, rd_wd_c, rd_wd_s, rd_wd_n, rI_wJ, rd_wJ, rI_ix, wI_ix, rJ_ix, wJ_ix, rI_wI_o, Nat.reduceAdd]; exact g2 8 j (by omega)), ?_, ?_, ?_⟩
    · simp (disch := omega) only [rI_wI_s, rI_wI_f, rI_wI_c, rI_wd_c, rd_wI_c, rd_wd_c, rd_wd_s, rd_wd_n, rI_wJ, rd_wJ, rI_ix, wI_ix, rJ_ix, wJ_ix, rI_wI_o, Nat.reduceAdd]; exact (f1 2 0 (by omega)).trans h2
    · simp (disch := omega) only [rI_wI_s, rI_wI_f, rI_wI_c, rI_wd_c, rd_wI_c, rd_wd_c, rd_wd_s, rd_wd_n, rI_wJ, rd_wJ, rI_ix, wI_ix, rJ_ix, wJ_ix, rI_wI_o, Nat.reduceAdd]; exact (f1 121 0 (by omega)).trans h121
    · simp (disch := omega) only [rI_wI_s, rI_wI_f, rI_wI_c, rI_wd_c, rd_wI_c, rd_wd_c, rd_wd_s, rd_wd_n, rI_wJ, rd_wJ, rI_ix, wI_ix, rJ_ix, wJ_ix, rI_wI_o, Nat.reduceAdd]; exact (g2 15 _ (by omega)).trans h15
