/-! both readers at the same token -/
def tkh : List Tok → Int
  | [] => 0
  | x :: _ => x.1
def tkv : List Tok → Int
  | [] => 0
  | x :: _ => x.2.1
def tkp (t : Int) : List Tok → Int
  | [] => t
  | x :: _ => x.2.2
def tmh (R : Int) : List Tok → Int
  | [] => 0
  | x :: _ => tm R x.1
def St (T : Int → Int) (t R h : Int) (rest : List Tok) (s σ : Mem) : Prop := 0 ≤ h ∧ rI s 160 9 = zi h ∧ rI s 160 8 = zi (h + rest.length) ∧ h + rest.length ≤ 400 ∧ rI s 160 7 = zi t ∧ Ar s h rest ∧ TpM T t σ ∧ rI σ 0 12 = zi R ∧ 0 ≤ R ∧ R ≤ 3 ∧ Lk T t R σ rest
theorem St.cg {T : Int → Int} {t R h : Int} {rest : List Tok} {s σ s' σ' : Mem} (H : St T t R h rest s σ) (hs : ∀ k j : Nat, (k = 160 ∧ 7 ≤ j ∧ j ≤ 9) ∨ (162 ≤ k ∧ k ≤ 164) → rI s' k j = rI s k j) (hσ : ∀ k j : Nat, (k = 0 ∧ (j = 12 ∨ (16 ≤ j ∧ j ≤ 20))) ∨ k = 8 → rI σ' k j = rI σ k j) : St T t R h rest s' σ' := by
  obtain ⟨a1, a2, a3, a4, a5, a6, ⟨b1, b2, b3, b4⟩, a8, a9, a10, a11⟩ := H
  refine ⟨a1, (hs _ _ (by omega)).trans a2, (hs _ _ (by omega)).trans a3, a4, (hs _ _ (by omega)).trans a5, Ar.cg _ _ a1 (fun k z k0 k1 z0 => hs _ _ (by omega)) a6, ⟨b1, b2, (hσ _ _ (by omega)).trans b3, fun i i0 i1 => ?_⟩, (hσ _ _ (by omega)).trans a8, a9, a10, ?_⟩
  · obtain ⟨x, y, z⟩ := b4 i i0 i1
    exact ⟨x, y, (hσ 8 _ (by omega)).trans z⟩
  · cases rest with
    | nil => exact ⟨(hσ _ _ (by omega)).trans a11.1, (hσ _ _ (by omega)).trans a11.2⟩
    | cons x r =>
      obtain ⟨c1, c2, c3, e, c4, c5⟩ := a11
      exact ⟨(hσ _ _ (by omega)).trans c1, (hσ _ _ (by omega)).trans c2, fun h => (hσ _ _ (by omega)).trans (c3 h), e, (hσ _ _ (by omega)).trans c4, c5⟩
theorem St.ok {T : Int → Int} {t R h : Int} {x : Tok} {r : List Tok} {s σ : Mem} (H : St T t R h (x :: r) s σ) : tokOk x := H.2.2.2.2.2.1.2.2.2.1
theorem St.bd {T : Int → Int} {t R h : Int} {rest : List Tok} {s σ : Mem} (H : St T t R h rest s σ) : 0 ≤ tkh rest ∧ tkh rest ≤ 1021 ∧ 0 ≤ tkv rest ∧ tkv rest ≤ 9999 ∧ 0 ≤ tkp t rest ∧ tkp t rest ≤ 400 ∧ 0 ≤ h ∧ h ≤ 400 ∧ -100 ≤ tmh R rest ∧ tmh R rest ≤ 2000 ∧ (rest ≠ [] → h < 400) := by
  have h0 := H.1
  have h4 := H.2.2.2.1
  have hT := H.2.2.2.2.2.2.1
  cases rest with
  | nil =>
    simp only [List.length_nil] at h4
    exact ⟨Int.le_refl _, by show (0 : Int) ≤ 1021; omega, Int.le_refl _, by show (0 : Int) ≤ 9999; omega, hT.1, hT.2.1, h0, by omega, by show (-100 : Int) ≤ 0; omega, by show (0 : Int) ≤ 2000; omega, fun z => absurd rfl z⟩
  | cons x r =>
    obtain ⟨k1, k2, k3, k4, k5⟩ := H.ok
    simp only [List.length_cons] at h4
    have hb : 0 ≤ x.1 ∧ x.1 ≤ 1021 := by omega
    have hR0 := H.2.2.2.2.2.2.2.2.1
    refine ⟨hb.1, hb.2, k2, k3, k4, k5, h0, by omega, ?_, ?_, fun _ => by omega⟩
    · show -100 ≤ tm R x.1
      unfold tm tw
      omega
    · show tm R x.1 ≤ 2000
      unfold tm tw
      omega
theorem St.tok {T : Int → Int} {t R h : Int} {rest : List Tok} {s σ : Mem} (H : St T t R h rest s σ) : rI σ 0 18 = zi (tmh R rest) ∧ rI σ 0 19 = zi (tkp t rest) := by
  have := H.2.2.2.2.2.2.2.2.2.2
  cases rest with
  | nil => exact this
  | cons x r => exact ⟨this.1, this.2.1⟩
theorem e_sort {T : Int → Int} {t R h : Int} {rest : List Tok} {s σ : Mem} (H : St T t R h rest s σ) : f_Re_sort 160 s = some (zi (tkh rest), s) := by
  have hb := H.bd
  obtain ⟨a1, a2, a3, a4, a5, a6, -⟩ := id H
  rw [f_Re_sort_eq, b_Re_sort]
  cases rest with
  | nil =>
    simp only [List.length_nil] at a3
    simp (disch := omega) only [zi_div, zi_and31, zi_neg, zi_add, zi_sub, zi_mul, zi_lt, zi_le, zi_eq, zi_imx, zi_imn, zi_iab, gd_i, vpb_0, vpb_1, b2i_0, b2i_1, b2i_e0, b2i_e1, lf_b, lf_s, lf_n, Option.bind_some, decide_eq_false_iff_not, decide_eq_true_eq, cif_t, cif_f, cif_pos, cif_neg, if_true, if_false, if_pos, if_neg, zi_ofNat, Nat.zero_add, Nat.reduceAdd, Nat.reduceSub, Nat.reduceMul, Int.reduceAdd, Int.reduceSub, Int.reduceMul, Int.reduceNeg, Bool.false_eq_true, reduceCtorEq, rI_wI_s, rI_wI_f, rI_wI_c, rI_wd_c, rd_wI_c, rd_wd_c, rd_wd_s, rd_wd_n, rI_wJ, rd_wJ, rI_ix, wI_ix, rJ_ix, wJ_ix, zl_0, zl_1, zl_2, zl_3, zl_4, zl_5, zl_6, zl_7, zl_8, zl_9, zl_10, zl_11, zl_12, zl_13, zl_14, zl_15, zl_16, zl_20, zl_21, zl_22, zl_23, zl_24, zl_25, zl_26, zl_27, zl_28, zl_29, zl_30, zl_31, zl_32, zl_37, zl_40, zl_41, zl_42, zl_43, zl_44, zl_45, zl_46, zl_47, zl_48, zl_49, zl_50, zl_51, zl_52, zl_53, zl_54, zl_55, zl_56, zl_57, zl_58, zl_59, zl_60, zl_61, zl_62, zl_63, zl_64, zl_65, zl_74, zl_86, zl_90, zl_97, zl_98, zl_99, zl_100, zl_122, zl_140, zl_141, zl_142, zl_143, zl_145, zl_146, zl_147, zl_149, zl_150, zl_159, zl_160, zl_161, zl_162, zl_178, zl_199, zl_200, zl_201, zl_210, zl_230, zl_240, zl_245, zl_255, zl_256, zl_257, zl_288, zl_312, zl_332, zl_340, zl_356, zl_366, zl_399, zl_400, zl_500, zl_820, zl_966, zl_982, zl_998, zl_999, zl_1000, zl_1002, zl_1003, zl_1004, zl_1012, zl_1013, zl_1014, zl_1015, zl_1016, zl_1017, zl_1018, zl_1020, zl_1021, zl_1024, zl_1030, zl_1850, zl_2412, zl_2613, zl_9999, zl_10000, zl_99999, zl_1000000, lc_3, lc_4, lc_5, lc_6, lc_8, lc_9, lc_10, lc_12, lc_13, lc_14, lc_15, lc_16, lc_17, lc_19, lc_20, lc_21, lc_23, lc_24, lc_25, lc_27, lc_28, lc_29, lc_32, lc_33, lc_34, lc_36, lc_37, lc_38, lc_40, lc_41, lc_42, lc_44, lc_45, lc_46, lc_48, lc_49, lc_50, lc_52, lc_53, lc_54, lc_55, lc_56, lc_57, lc_58, lc_60, lc_122, lc_123, lc_124, lc_125, lc_127, lc_129, lc_161, lc_162, lc_163, lc_164, lc_166, lc_167, lc_168, lc_169, lc_170, lc_171, lc_173, lc_174, lc_175, lc_177, lc_190, a2, a3]
    rfl
  | cons x r =>
    simp only [List.length_cons] at a3 a4
    simp (disch := omega) only [zi_div, zi_and31, zi_neg, zi_add, zi_sub, zi_mul, zi_lt, zi_le, zi_eq, zi_imx, zi_imn, zi_iab, gd_i, vpb_0, vpb_1, b2i_0, b2i_1, b2i_e0, b2i_e1, lf_b, lf_s, lf_n, Option.bind_some, decide_eq_false_iff_not, decide_eq_true_eq, cif_t, cif_f, cif_pos, cif_neg, if_true, if_false, if_pos, if_neg, zi_ofNat, Nat.zero_add, Nat.reduceAdd, Nat.reduceSub, Nat.reduceMul, Int.reduceAdd, Int.reduceSub, Int.reduceMul, Int.reduceNeg, Bool.false_eq_true, reduceCtorEq, rI_wI_s, rI_wI_f, rI_wI_c, rI_wd_c, rd_wI_c, rd_wd_c, rd_wd_s, rd_wd_n, rI_wJ, rd_wJ, rI_ix, wI_ix, rJ_ix, wJ_ix, zl_0, zl_1, zl_2, zl_3, zl_4, zl_5, zl_6, zl_7, zl_8, zl_9, zl_10, zl_11, zl_12, zl_13, zl_14, zl_15, zl_16, zl_20, zl_21, zl_22, zl_23, zl_24, zl_25, zl_26, zl_27, zl_28, zl_29, zl_30, zl_31, zl_32, zl_37, zl_40, zl_41, zl_42, zl_43, zl_44, zl_45, zl_46, zl_47, zl_48, zl_49, zl_50, zl_51, zl_52, zl_53, zl_54, zl_55, zl_56, zl_57, zl_58, zl_59, zl_60, zl_61, zl_62, zl_63, zl_64, zl_65, zl_74, zl_86, zl_90, zl_97, zl_98, zl_99, zl_100, zl_122, zl_140, zl_141, zl_142, zl_143, zl_145, zl_146, zl_147, zl_149, zl_150, zl_159, zl_160, zl_161, zl_162, zl_178, zl_199, zl_200, zl_201, zl_210, zl_230, zl_240, zl_245, zl_255, zl_256, zl_257, zl_288, zl_312, zl_332, zl_340, zl_356, zl_366, zl_399, zl_400, zl_500, zl_820, zl_966, zl_982, zl_998, zl_999, zl_1000, zl_1002, zl_1003, zl_1004, zl_1012, zl_1013, zl_1014, zl_1015, zl_1016, zl_1017, zl_1018, zl_1020, zl_1021, zl_1024, zl_1030, zl_1850, zl_2412, zl_2613, zl_9999, zl_10000, zl_99999, zl_1000000, lc_3, lc_4, lc_5, lc_6, lc_8, lc_9, lc_10, lc_12, lc_13, lc_14, lc_15, lc_16, lc_17, lc_19, lc_20, lc_21, lc_23, lc_24, lc_25, lc_27, lc_28, lc_29, lc_32, lc_33, lc_34, lc_36, lc_37, lc_38, lc_40, lc_41, lc_42, lc_44, lc_45, lc_46, lc_48, lc_49, lc_50, lc_52, lc_53, lc_54, lc_55, lc_56, lc_57, lc_58, lc_60, lc_122, lc_123, lc_124, lc_125, lc_127, lc_129, lc_161, lc_162, lc_163, lc_164, lc_166, lc_167, lc_168, lc_169, lc_170, lc_171, lc_173, lc_174, lc_175, lc_177, lc_190, a2, a3, a6.1]
    rfl
theorem e_value {T : Int → Int} {t R h : Int} {rest : List Tok} {s σ : Mem} (H : St T t R h rest s σ) : f_Re_value 160 s = some (zi (tkv rest), s) := by
  have hb := H.bd
  obtain ⟨a1, a2, a3, a4, a5, a6, -⟩ := id H
  rw [f_Re_value_eq, b_Re_value]
  cases rest with
  | nil =>
    simp only [List.length_nil] at a3
    simp (disch := omega) only [zi_div, zi_and31, zi_neg, zi_add, zi_sub, zi_mul, zi_lt, zi_le, zi_eq, zi_imx, zi_imn, zi_iab, gd_i, vpb_0, vpb_1, b2i_0, b2i_1, b2i_e0, b2i_e1, lf_b, lf_s, lf_n, Option.bind_some, decide_eq_false_iff_not, decide_eq_true_eq, cif_t, cif_f, cif_pos, cif_neg, if_true, if_false, if_pos, if_neg, zi_ofNat, Nat.zero_add, Nat.reduceAdd, Nat.reduceSub, Nat.reduceMul, Int.reduceAdd, Int.reduceSub, Int.reduceMul, Int.reduceNeg, Bool.false_eq_true, reduceCtorEq, rI_wI_s, rI_wI_f, rI_wI_c, rI_wd_c, rd_wI_c, rd_wd_c, rd_wd_s, rd_wd_n, rI_wJ, rd_wJ, rI_ix, wI_ix, rJ_ix, wJ_ix, zl_0, zl_1, zl_2, zl_3, zl_4, zl_5, zl_6, zl_7, zl_8, zl_9, zl_10, zl_11, zl_12, zl_13, zl_14, zl_15, zl_16, zl_20, zl_21, zl_22, zl_23, zl_24, zl_25, zl_26, zl_27, zl_28, zl_29, zl_30, zl_31, zl_32, zl_37, zl_40, zl_41, zl_42, zl_43, zl_44, zl_45, zl_46, zl_47, zl_48, zl_49, zl_50, zl_51, zl_52, zl_53, zl_54, zl_55, zl_56, zl_57, zl_58, zl_59, zl_60, zl_61, zl_62, zl_63, zl_64, zl_65, zl_74, zl_86, zl_90, zl_97, zl_98, zl_99, zl_100, zl_122, zl_140, zl_141, zl_142, zl_143, zl_145, zl_146, zl_147, zl_149, zl_150, zl_159, zl_160, zl_161, zl_162, zl_178, zl_199, zl_200, zl_201, zl_210, zl_230, zl_240, zl_245, zl_255, zl_256, zl_257, zl_288, zl_312, zl_332, zl_340, zl_356, zl_366, zl_399, zl_400, zl_500, zl_820, zl_966, zl_982, zl_998, zl_999, zl_1000, zl_1002, zl_1003, zl_1004, zl_1012, zl_1013, zl_1014, zl_1015, zl_1016, zl_1017, zl_1018, zl_1020, zl_1021, zl_1024, zl_1030, zl_1850, zl_2412, zl_2613, zl_9999, zl_10000, zl_99999, zl_1000000, lc_3, lc_4, lc_5, lc_6, lc_8, lc_9, lc_10, lc_12, lc_13, lc_14, lc_15, lc_16, lc_17, lc_19, lc_20, lc_21, lc_23, lc_24, lc_25, lc_27, lc_28, lc_29, lc_32, lc_33, lc_34, lc_36, lc_37, lc_38, lc_40, lc_41, lc_42, lc_44, lc_45, lc_46, lc_48, lc_49, lc_50, lc_52, lc_53, lc_54, lc_55, lc_56, lc_57, lc_58, lc_60, lc_122, lc_123, lc_124, lc_125, lc_127, lc_129, lc_161, lc_162, lc_163, lc_164, lc_166, lc_167, lc_168, lc_169, lc_170, lc_171, lc_173, lc_174, lc_175, lc_177, lc_190, a2, a3]
    rfl
  | cons x r =>
    simp only [List.length_cons] at a3 a4
    simp (disch := omega) only [zi_div, zi_and31, zi_neg, zi_add, zi_sub, zi_mul, zi_lt, zi_le, zi_eq, zi_imx, zi_imn, zi_iab, gd_i, vpb_0, vpb_1, b2i_0, b2i_1, b2i_e0, b2i_e1, lf_b, lf_s, lf_n, Option.bind_some, decide_eq_false_iff_not, decide_eq_true_eq, cif_t, cif_f, cif_pos, cif_neg, if_true, if_false, if_pos, if_neg, zi_ofNat, Nat.zero_add, Nat.reduceAdd, Nat.reduceSub, Nat.reduceMul, Int.reduceAdd, Int.reduceSub, Int.reduceMul, Int.reduceNeg, Bool.false_eq_true, reduceCtorEq, rI_wI_s, rI_wI_f, rI_wI_c, rI_wd_c, rd_wI_c, rd_wd_c, rd_wd_s, rd_wd_n, rI_wJ, rd_wJ, rI_ix, wI_ix, rJ_ix, wJ_ix, zl_0, zl_1, zl_2, zl_3, zl_4, zl_5, zl_6, zl_7, zl_8, zl_9, zl_10, zl_11, zl_12, zl_13, zl_14, zl_15, zl_16, zl_20, zl_21, zl_22, zl_23, zl_24, zl_25, zl_26, zl_27, zl_28, zl_29, zl_30, zl_31, zl_32, zl_37, zl_40, zl_41, zl_42, zl_43, zl_44, zl_45, zl_46, zl_47, zl_48, zl_49, zl_50, zl_51, zl_52, zl_53, zl_54, zl_55, zl_56, zl_57, zl_58, zl_59, zl_60, zl_61, zl_62, zl_63, zl_64, zl_65, zl_74, zl_86, zl_90, zl_97, zl_98, zl_99, zl_100, zl_122, zl_140, zl_141, zl_142, zl_143, zl_145, zl_146, zl_147, zl_149, zl_150, zl_159, zl_160, zl_161, zl_162, zl_178, zl_199, zl_200, zl_201, zl_210, zl_230, zl_240, zl_245, zl_255, zl_256, zl_257, zl_288, zl_312, zl_332, zl_340, zl_356, zl_366, zl_399, zl_400, zl_500, zl_820, zl_966, zl_982, zl_998, zl_999, zl_1000, zl_1002, zl_1003, zl_1004, zl_1012, zl_1013, zl_1014, zl_1015, zl_1016, zl_1017, zl_1018, zl_1020, zl_1021, zl_1024, zl_1030, zl_1850, zl_2412, zl_2613, zl_9999, zl_10000, zl_99999, zl_1000000, lc_3, lc_4, lc_5, lc_6, lc_8, lc_9, lc_10, lc_12, lc_13, lc_14, lc_15, lc_16, lc_17, lc_19, lc_20, lc_21, lc_23, lc_24, lc_25, lc_27, lc_28, lc_29, lc_32, lc_33, lc_34, lc_36, lc_37, lc_38, lc_40, lc_41, lc_42, lc_44, lc_45, lc_46, lc_48, lc_49, lc_50, lc_52, lc_53, lc_54, lc_55, lc_56, lc_57, lc_58, lc_60, lc_122, lc_123, lc_124, lc_125, lc_127, lc_129, lc_161, lc_162, lc_163, lc_164, lc_166, lc_167, lc_168, lc_169, lc_170, lc_171, lc_173, lc_174, lc_175, lc_177, lc_190, a2, a3, a6.2.1]
    rfl
def flC (s : Mem) (v p : Int) : Mem := wI (wI s 160 10 (zi v)) 160 11 (zi p)
def flM (σ : Mem) (v p : Int) : Mem := wI (wI σ 0 21 (zi v)) 0 22 (zi p)
theorem e_fail {T : Int → Int} {t R h : Int} {rest : List Tok} {s σ : Mem} (H : St T t R h rest s σ) (v : Int) : f_Re_fail 160 (zi v) s = some (false, flC s v (tkp t rest)) ∧ f_M_bad 0 (zi v) σ = some (false, flM σ v (tkp t rest)) := by
  obtain ⟨a1, a2, a3, a4, a5, a6, -⟩ := id H
  have h19 := H.tok.2
  constructor
  · rw [f_Re_fail_eq, b_Re_fail]
    cases rest with
    | nil =>
      simp only [List.length_nil] at a3 a4
      simp (disch := omega) only [zi_div, zi_and31, zi_neg, zi_add, zi_sub, zi_mul, zi_lt, zi_le, zi_eq, zi_imx, zi_imn, zi_iab, gd_i, vpb_0, vpb_1, b2i_0, b2i_1, b2i_e0, b2i_e1, lf_b, lf_s, lf_n, Option.bind_some, decide_eq_false_iff_not, decide_eq_true_eq, cif_t, cif_f, cif_pos, cif_neg, if_true, if_false, if_pos, if_neg, zi_ofNat, Nat.zero_add, Nat.reduceAdd, Nat.reduceSub, Nat.reduceMul, Int.reduceAdd, Int.reduceSub, Int.reduceMul, Int.reduceNeg, Bool.false_eq_true, reduceCtorEq, rI_wI_s, rI_wI_f, rI_wI_c, rI_wd_c, rd_wI_c, rd_wd_c, rd_wd_s, rd_wd_n, rI_wJ, rd_wJ, rI_ix, wI_ix, rJ_ix, wJ_ix, zl_0, zl_1, zl_2, zl_3, zl_4, zl_5, zl_6, zl_7, zl_8, zl_9, zl_10, zl_11, zl_12, zl_13, zl_14, zl_15, zl_16, zl_20, zl_21, zl_22, zl_23, zl_24, zl_25, zl_26, zl_27, zl_28, zl_29, zl_30, zl_31, zl_32, zl_37, zl_40, zl_41, zl_42, zl_43, zl_44, zl_45, zl_46, zl_47, zl_48, zl_49, zl_50, zl_51, zl_52, zl_53, zl_54, zl_55, zl_56, zl_57, zl_58, zl_59, zl_60, zl_61, zl_62, zl_63, zl_64, zl_65, zl_74, zl_86, zl_90, zl_97, zl_98, zl_99, zl_100, zl_122, zl_140, zl_141, zl_142, zl_143, zl_145, zl_146, zl_147, zl_149, zl_150, zl_159, zl_160, zl_161, zl_162, zl_178, zl_199, zl_200, zl_201, zl_210, zl_230, zl_240, zl_245, zl_255, zl_256, zl_257, zl_288, zl_312, zl_332, zl_340, zl_356, zl_366, zl_399, zl_400, zl_500, zl_820, zl_966, zl_982, zl_998, zl_999, zl_1000, zl_1002, zl_1003, zl_1004, zl_1012, zl_1013, zl_1014, zl_1015, zl_1016, zl_1017, zl_1018, zl_1020, zl_1021, zl_1024, zl_1030, zl_1850, zl_2412, zl_2613, zl_9999, zl_10000, zl_99999, zl_1000000, lc_3, lc_4, lc_5, lc_6, lc_8, lc_9, lc_10, lc_12, lc_13, lc_14, lc_15, lc_16, lc_17, lc_19, lc_20, lc_21, lc_23, lc_24, lc_25, lc_27, lc_28, lc_29, lc_32, lc_33, lc_34, lc_36, lc_37, lc_38, lc_40, lc_41, lc_42, lc_44, lc_45, lc_46, lc_48, lc_49, lc_50, lc_52, lc_53, lc_54, lc_55, lc_56, lc_57, lc_58, lc_60, lc_122, lc_123, lc_124, lc_125, lc_127, lc_129, lc_161, lc_162, lc_163, lc_164, lc_166, lc_167, lc_168, lc_169, lc_170, lc_171, lc_173, lc_174, lc_175, lc_177, lc_190, a2, a3, a5]
      rfl
    | cons x r =>
      simp only [List.length_cons] at a3 a4
      simp (disch := omega) only [zi_div, zi_and31, zi_neg, zi_add, zi_sub, zi_mul, zi_lt, zi_le, zi_eq, zi_imx, zi_imn, zi_iab, gd_i, vpb_0, vpb_1, b2i_0, b2i_1, b2i_e0, b2i_e1, lf_b, lf_s, lf_n, Option.bind_some, decide_eq_false_iff_not, decide_eq_true_eq, cif_t, cif_f, cif_pos, cif_neg, if_true, if_false, if_pos, if_neg, zi_ofNat, Nat.zero_add, Nat.reduceAdd, Nat.reduceSub, Nat.reduceMul, Int.reduceAdd, Int.reduceSub, Int.reduceMul, Int.reduceNeg, Bool.false_eq_true, reduceCtorEq, rI_wI_s, rI_wI_f, rI_wI_c, rI_wd_c, rd_wI_c, rd_wd_c, rd_wd_s, rd_wd_n, rI_wJ, rd_wJ, rI_ix, wI_ix, rJ_ix, wJ_ix, zl_0, zl_1, zl_2, zl_3, zl_4, zl_5, zl_6, zl_7, zl_8, zl_9, zl_10, zl_11, zl_12, zl_13, zl_14, zl_15, zl_16, zl_20, zl_21, zl_22, zl_23, zl_24, zl_25, zl_26, zl_27, zl_28, zl_29, zl_30, zl_31, zl_32, zl_37, zl_40, zl_41, zl_42, zl_43, zl_44, zl_45, zl_46, zl_47, zl_48, zl_49, zl_50, zl_51, zl_52, zl_53, zl_54, zl_55, zl_56, zl_57, zl_58, zl_59, zl_60, zl_61, zl_62, zl_63, zl_64, zl_65, zl_74, zl_86, zl_90, zl_97, zl_98, zl_99, zl_100, zl_122, zl_140, zl_141, zl_142, zl_143, zl_145, zl_146, zl_147, zl_149, zl_150, zl_159, zl_160, zl_161, zl_162, zl_178, zl_199, zl_200, zl_201, zl_210, zl_230, zl_240, zl_245, zl_255, zl_256, zl_257, zl_288, zl_312, zl_332, zl_340, zl_356, zl_366, zl_399, zl_400, zl_500, zl_820, zl_966, zl_982, zl_998, zl_999, zl_1000, zl_1002, zl_1003, zl_1004, zl_1012, zl_1013, zl_1014, zl_1015, zl_1016, zl_1017, zl_1018, zl_1020, zl_1021, zl_1024, zl_1030, zl_1850, zl_2412, zl_2613, zl_9999, zl_10000, zl_99999, zl_1000000, lc_3, lc_4, lc_5, lc_6, lc_8, lc_9, lc_10, lc_12, lc_13, lc_14, lc_15, lc_16, lc_17, lc_19, lc_20, lc_21, lc_23, lc_24, lc_25, lc_27, lc_28, lc_29, lc_32, lc_33, lc_34, lc_36, lc_37, lc_38, lc_40, lc_41, lc_42, lc_44, lc_45, lc_46, lc_48, lc_49, lc_50, lc_52, lc_53, lc_54, lc_55, lc_56, lc_57, lc_58, lc_60, lc_122, lc_123, lc_124, lc_125, lc_127, lc_129, lc_161, lc_162, lc_163, lc_164, lc_166, lc_167, lc_168, lc_169, lc_170, lc_171, lc_173, lc_174, lc_175, lc_177, lc_190, a2, a3, a5, a6.2.2.1]
      rfl
  · rw [f_M_bad_eq, b_M_bad]
    simp (disch := omega) only [zi_div, zi_and31, zi_neg, zi_add, zi_sub, zi_mul, zi_lt, zi_le, zi_eq, zi_imx, zi_imn, zi_iab, gd_i, vpb_0, vpb_1, b2i_0, b2i_1, b2i_e0, b2i_e1, lf_b, lf_s, lf_n, Option.bind_some, decide_eq_false_iff_not, decide_eq_true_eq, cif_t, cif_f, cif_pos, cif_neg, if_true, if_false, if_pos, if_neg, zi_ofNat, Nat.zero_add, Nat.reduceAdd, Nat.reduceSub, Nat.reduceMul, Int.reduceAdd, Int.reduceSub, Int.reduceMul, Int.reduceNeg, Bool.false_eq_true, reduceCtorEq, rI_wI_s, rI_wI_f, rI_wI_c, rI_wd_c, rd_wI_c, rd_wd_c, rd_wd_s, rd_wd_n, rI_wJ, rd_wJ, rI_ix, wI_ix, rJ_ix, wJ_ix, zl_0, zl_1, zl_2, zl_3, zl_4, zl_5, zl_6, zl_7, zl_8, zl_9, zl_10, zl_11, zl_12, zl_13, zl_14, zl_15, zl_16, zl_20, zl_21, zl_22, zl_23, zl_24, zl_25, zl_26, zl_27, zl_28, zl_29, zl_30, zl_31, zl_32, zl_37, zl_40, zl_41, zl_42, zl_43, zl_44, zl_45, zl_46, zl_47, zl_48, zl_49, zl_50, zl_51, zl_52, zl_53, zl_54, zl_55, zl_56, zl_57, zl_58, zl_59, zl_60, zl_61, zl_62, zl_63, zl_64, zl_65, zl_74, zl_86, zl_90, zl_97, zl_98, zl_99, zl_100, zl_122, zl_140, zl_141, zl_142, zl_143, zl_145, zl_146, zl_147, zl_149, zl_150, zl_159, zl_160, zl_161, zl_162, zl_178, zl_199, zl_200, zl_201, zl_210, zl_230, zl_240, zl_245, zl_255, zl_256, zl_257, zl_288, zl_312, zl_332, zl_340, zl_356, zl_366, zl_399, zl_400, zl_500, zl_820, zl_966, zl_982, zl_998, zl_999, zl_1000, zl_1002, zl_1003, zl_1004, zl_1012, zl_1013, zl_1014, zl_1015, zl_1016, zl_1017, zl_1018, zl_1020, zl_1021, zl_1024, zl_1030, zl_1850, zl_2412, zl_2613, zl_9999, zl_10000, zl_99999, zl_1000000, h19]
    rfl
theorem e_adv {T : Int → Int} {t R h : Int} {x : Tok} {r : List Tok} {s σ : Mem} (H : St T t R h (x :: r) s σ) : ∃ σ' : Mem, f_M_next0 0 σ = some σ' ∧ St T t R (h + 1) r (wI s 160 9 (zi (h + 1))) σ' ∧ fr4 σ σ' := by
  obtain ⟨a1, a2, a3, a4, a5, a6, a7, a8, a9, a10, c1, c2, c3, e, c4, c5, c6, c7⟩ := id H
  obtain ⟨σ', f1, f2, f3⟩ := e_next0 a7 c4 a8 a9 a10 c5 c6 c7
  simp only [List.length_cons] at a3 a4
  refine ⟨σ', f1, ⟨by omega, by simp (disch := omega) only [rI_wI_s, rI_wI_f, rI_wI_c, rI_wd_c, rd_wI_c, rd_wd_c, rd_wd_s, rd_wd_n, rI_wJ, rd_wJ, rI_ix, wI_ix, rJ_ix, wJ_ix, rI_wI_o, Nat.reduceAdd], ?_, by omega, by simp (disch := omega) only [rI_wI_s, rI_wI_f, rI_wI_c, rI_wd_c, rd_wI_c, rd_wd_c, rd_wd_s, rd_wd_n, rI_wJ, rd_wJ, rI_ix, wI_ix, rJ_ix, wJ_ix, rI_wI_o, Nat.reduceAdd]; exact a5, Ar.cg _ _ (by omega) (fun k z k0 k1 z0 => by simp (disch := omega) only [rI_wI_s, rI_wI_f, rI_wI_c, rI_wd_c, rd_wI_c, rd_wd_c, rd_wd_s, rd_wd_n, rI_wJ, rd_wJ, rI_ix, wI_ix, rJ_ix, wJ_ix, rI_wI_o, Nat.reduceAdd]) a6.2.2.2.2, a7.fr f3, (f3 _ _ (by omega)).trans a8, a9, a10, f2⟩, f3⟩
  simp (disch := omega) only [rI_wI_s, rI_wI_f, rI_wI_c, rI_wd_c, rd_wI_c, rd_wd_c, rd_wd_s, rd_wd_n, rI_wJ, rd_wJ, rI_ix, wI_ix, rJ_ix, wJ_ix, rI_wI_o, Nat.reduceAdd]
  rw [a3, show h + ((r.length + 1 : Nat) : Int) = h + 1 + r.length by omega]
theorem rb_f {s : Mem} : lf (rB (b2i false)) s = some (false, s) := lf_b
theorem rb_t {s : Mem} : lf (rB (b2i true)) s = some (true, s) := lf_b
def FrT (s s' : Mem) : Prop := ∀ k j : Nat, ¬ (k = 160 ∧ 9 ≤ j ∧ j ≤ 11) → rI s' k j = rI s k j
def FrS (s s' : Mem) : Prop := ∀ k j : Nat, ¬ (k = 160 ∧ j = 9) → rI s' k j = rI s k j
def FrTM (σ σ' : Mem) : Prop := ∀ k j : Nat, ¬ (k = 0 ∧ 17 ≤ j ∧ j ≤ 22) → rI σ' k j = rI σ k j
def Flt (s σ : Mem) : Prop := rI s 160 10 = rI σ 0 21 ∧ rI s 160 11 = rI σ 0 22
theorem flt_fl {s σ : Mem} {v p : Int} : Flt (flC s v p) (flM σ v p) := by
  unfold Flt flC flM
  constructor <;> simp (disch := omega) only [rI_wI_s, rI_wI_f, rI_wI_c, rI_wd_c, rd_wI_c, rd_wd_c, rd_wd_s, rd_wd_n, rI_wJ, rd_wJ, rI_ix, wI_ix, rJ_ix, wJ_ix, rI_wI_o, Nat.reduceAdd]
theorem frT_fl {s : Mem} {v p : Int} : FrT s (flC s v p) := fun k j h => by unfold flC; simp (disch := omega) only [rI_wI_s, rI_wI_f, rI_wI_c, rI_wd_c, rd_wI_c, rd_wd_c, rd_wd_s, rd_wd_n, rI_wJ, rd_wJ, rI_ix, wI_ix, rJ_ix, wJ_ix, rI_wI_o, Nat.reduceAdd]
theorem frTM_fl {σ : Mem} {v p : Int} : FrTM σ (flM σ v p) := fun k j h => by unfold flM; simp (disch := omega) only [rI_wI_s, rI_wI_f, rI_wI_c, rI_wd_c, rd_wI_c, rd_wd_c, rd_wd_s, rd_wd_n, rI_wJ, rd_wJ, rI_ix, wI_ix, rJ_ix, wJ_ix, rI_wI_o, Nat.reduceAdd]
theorem e_take {T : Int → Int} {t R h : Int} {rest : List Tok} {s σ : Mem} (H : St T t R h rest s σ) {c d : Int} (c0 : 0 < c) (c1 : c ≤ 2000) (d0 : -100 ≤ d) (d1 : d ≤ 2000) (hcd : tkh rest = c ↔ tmh R rest = d) : Ok2 (f_Re_take 160 (zi c) s) (f_M_need 0 (zi d) σ) (fun r q => (r.1 = true ∧ q.1 = true ∧ (∃ (x : Tok) (r' : List Tok), rest = x :: r' ∧ St T t R (h + 1) r' r.2 q.2) ∧ FrS s r.2 ∧ FrTM σ q.2) ∨ (r.1 = false ∧ q.1 = false ∧ Flt r.2 q.2 ∧ FrT s r.2 ∧ FrTM σ q.2)) := by
  obtain ⟨b1, b2, b3, b4, b5, b6, b7, b8, b9, b10, b11⟩ := H.bd
  have e1 := e_sort H
  obtain ⟨e2, e3⟩ := H.tok
  obtain ⟨e4, e5⟩ := e_fail H 1
  rw [f_Re_take_eq, f_M_need_eq, b_Re_take, b_M_need]
  by_cases g : tkh rest = c
  · have g' := hcd.mp g
    obtain ⟨x, r', rfl⟩ : ∃ (x : Tok) (r' : List Tok), rest = x :: r' := by
      cases rest with
      | nil => exact absurd g (by show ¬ (0 : Int) = c; omega)
      | cons x r => exact ⟨x, r, rfl⟩
    obtain ⟨σ', f1, f2, f3⟩ := e_adv H
    simp (disch := omega) only [zi_div, zi_and31, zi_neg, zi_add, zi_sub, zi_mul, zi_lt, zi_le, zi_eq, zi_imx, zi_imn, zi_iab, gd_i, vpb_0, vpb_1, b2i_0, b2i_1, b2i_e0, b2i_e1, lf_b, lf_s, lf_n, Option.bind_some, decide_eq_false_iff_not, decide_eq_true_eq, cif_t, cif_f, cif_pos, cif_neg, if_true, if_false, if_pos, if_neg, zi_ofNat, Nat.zero_add, Nat.reduceAdd, Nat.reduceSub, Nat.reduceMul, Int.reduceAdd, Int.reduceSub, Int.reduceMul, Int.reduceNeg, Bool.false_eq_true, reduceCtorEq, rI_wI_s, rI_wI_f, rI_wI_c, rI_wd_c, rd_wI_c, rd_wd_c, rd_wd_s, rd_wd_n, rI_wJ, rd_wJ, rI_ix, wI_ix, rJ_ix, wJ_ix, zl_0, zl_1, zl_2, zl_3, zl_4, zl_5, zl_6, zl_7, zl_8, zl_9, zl_10, zl_11, zl_12, zl_13, zl_14, zl_15, zl_16, zl_20, zl_21, zl_22, zl_23, zl_24, zl_25, zl_26, zl_27, zl_28, zl_29, zl_30, zl_31, zl_32, zl_37, zl_40, zl_41, zl_42, zl_43, zl_44, zl_45, zl_46, zl_47, zl_48, zl_49, zl_50, zl_51, zl_52, zl_53, zl_54, zl_55, zl_56, zl_57, zl_58, zl_59, zl_60, zl_61, zl_62, zl_63, zl_64, zl_65, zl_74, zl_86, zl_90, zl_97, zl_98, zl_99, zl_100, zl_122, zl_140, zl_141, zl_142, zl_143, zl_145, zl_146, zl_147, zl_149, zl_150, zl_159, zl_160, zl_161, zl_162, zl_178, zl_199, zl_200, zl_201, zl_210, zl_230, zl_240, zl_245, zl_255, zl_256, zl_257, zl_288, zl_312, zl_332, zl_340, zl_356, zl_366, zl_399, zl_400, zl_500, zl_820, zl_966, zl_982, zl_998, zl_999, zl_1000, zl_1002, zl_1003, zl_1004, zl_1012, zl_1013, zl_1014, zl_1015, zl_1016, zl_1017, zl_1018, zl_1020, zl_1021, zl_1024, zl_1030, zl_1850, zl_2412, zl_2613, zl_9999, zl_10000, zl_99999, zl_1000000, e1, e2, H.2.1, f1]
    exact ok2_s (Or.inl ⟨rfl, rfl, ⟨x, r', rfl, f2⟩, fun k j hk => by simp (disch := omega) only [rI_wI_s, rI_wI_f, rI_wI_c, rI_wd_c, rd_wI_c, rd_wd_c, rd_wd_s, rd_wd_n, rI_wJ, rd_wJ, rI_ix, wI_ix, rJ_ix, wJ_ix, rI_wI_o, Nat.reduceAdd], fun k j hk => f3 k j (by omega)⟩)
  · have g' : ¬ tmh R rest = d := fun z => g (hcd.mpr z)
    simp (disch := omega) only [zi_div, zi_and31, zi_neg, zi_add, zi_sub, zi_mul, zi_lt, zi_le, zi_eq, zi_imx, zi_imn, zi_iab, gd_i, vpb_0, vpb_1, b2i_0, b2i_1, b2i_e0, b2i_e1, lf_b, lf_s, lf_n, Option.bind_some, decide_eq_false_iff_not, decide_eq_true_eq, cif_t, cif_f, cif_pos, cif_neg, if_true, if_false, if_pos, if_neg, zi_ofNat, Nat.zero_add, Nat.reduceAdd, Nat.reduceSub, Nat.reduceMul, Int.reduceAdd, Int.reduceSub, Int.reduceMul, Int.reduceNeg, Bool.false_eq_true, reduceCtorEq, rI_wI_s, rI_wI_f, rI_wI_c, rI_wd_c, rd_wI_c, rd_wd_c, rd_wd_s, rd_wd_n, rI_wJ, rd_wJ, rI_ix, wI_ix, rJ_ix, wJ_ix, zl_0, zl_1, zl_2, zl_3, zl_4, zl_5, zl_6, zl_7, zl_8, zl_9, zl_10, zl_11, zl_12, zl_13, zl_14, zl_15, zl_16, zl_20, zl_21, zl_22, zl_23, zl_24, zl_25, zl_26, zl_27, zl_28, zl_29, zl_30, zl_31, zl_32, zl_37, zl_40, zl_41, zl_42, zl_43, zl_44, zl_45, zl_46, zl_47, zl_48, zl_49, zl_50, zl_51, zl_52, zl_53, zl_54, zl_55, zl_56, zl_57, zl_58, zl_59, zl_60, zl_61, zl_62, zl_63, zl_64, zl_65, zl_74, zl_86, zl_90, zl_97, zl_98, zl_99, zl_100, zl_122, zl_140, zl_141, zl_142, zl_143, zl_145, zl_146, zl_147, zl_149, zl_150, zl_159, zl_160, zl_161, zl_162, zl_178, zl_199, zl_200, zl_201, zl_210, zl_230, zl_240, zl_245, zl_255, zl_256, zl_257, zl_288, zl_312, zl_332, zl_340, zl_356, zl_366, zl_399, zl_400, zl_500, zl_820, zl_966, zl_982, zl_998, zl_999, zl_1000, zl_1002, zl_1003, zl_1004, zl_1012, zl_1013, zl_1014, zl_1015, zl_1016, zl_1017, zl_1018, zl_1020, zl_1021, zl_1024, zl_1030, zl_1850, zl_2412, zl_2613, zl_9999, zl_10000, zl_99999, zl_1000000, e1, e2, e4, e5]
    exact ok2_s (Or.inr ⟨rfl, rfl, flt_fl, frT_fl, frTM_fl⟩)
theorem tm_256 {T : Int → Int} {t R h : Int} {rest : List Tok} {s σ : Mem} (H : St T t R h rest s σ) : tkh rest = 256 ↔ tmh R rest = 2 := by
  cases rest with
  | nil => exact ⟨fun z => absurd (show (0 : Int) = 256 from z) (by decide), fun z => absurd (show (0 : Int) = 2 from z) (by decide)⟩
  | cons x r =>
    obtain ⟨k1, k2, k3, k4, k5⟩ := H.ok
    have hR0 := H.2.2.2.2.2.2.2.2.1
    have hR1 := H.2.2.2.2.2.2.2.2.2.1
    show x.1 = 256 ↔ tm R x.1 = 2
    unfold tm tw
    omega
theorem tm_59 {T : Int → Int} {t R h : Int} {rest : List Tok} {s σ : Mem} (H : St T t R h rest s σ) : tkh rest = 59 ↔ tmh R rest = 159 := by
  cases rest with
  | nil => exact ⟨fun z => absurd (show (0 : Int) = 59 from z) (by decide), fun z => absurd (show (0 : Int) = 159 from z) (by decide)⟩
  | cons x r =>
    obtain ⟨k1, k2, k3, k4, k5⟩ := H.ok
    have hR0 := H.2.2.2.2.2.2.2.2.1
    have hR1 := H.2.2.2.2.2.2.2.2.2.1
    show x.1 = 59 ↔ tm R x.1 = 159
    unfold tm tw
    omega
theorem tm_0 {T : Int → Int} {t R h : Int} {rest : List Tok} {s σ : Mem} (H : St T t R h rest s σ) : (tkh rest = 0 ↔ rest = []) ∧ (tmh R rest = 0 ↔ rest = []) := by
  cases rest with
  | nil => exact ⟨⟨fun _ => rfl, fun _ => rfl⟩, ⟨fun _ => rfl, fun _ => rfl⟩⟩
  | cons x r =>
    obtain ⟨k1, k2, k3, k4, k5⟩ := H.ok
    have hR0 := H.2.2.2.2.2.2.2.2.1
    have hR1 := H.2.2.2.2.2.2.2.2.2.1
    refine ⟨⟨fun z => ?_, fun z => by cases z⟩, ⟨fun z => ?_, fun z => by cases z⟩⟩
    · have z : x.1 = 0 := z
      omega
    · have z : tm R x.1 = 0 := z
      unfold tm tw at z
      omega
theorem St.val {T : Int → Int} {t R h : Int} {rest : List Tok} {s σ : Mem} (H : St T t R h rest s σ) (g : tkh rest = 256) : rI σ 0 20 = zi (tkv rest) := by
  have := H.2.2.2.2.2.2.2.2.2.2
  cases rest with
  | nil => exact absurd g (by decide)
  | cons x r => exact this.2.2.1 g
/-- a number taken -/
theorem e_number {T : Int → Int} {t R h : Int} {rest : List Tok} {s σ : Mem} (H : St T t R h rest s σ) {m p : Int} (m0 : -1 ≤ m) (m1 : m ≤ 9999) (p0 : 0 ≤ p) (p1 : p < 48) : Ok2 (f_Re_takeNumber 160 (zi m) s) (f_M_number 0 (zi p) (zi 0) (zi m) σ) (fun r q => (q.1 = true ∧ (∃ (x : Tok) (r' : List Tok) (a : Int), rest = x :: r' ∧ r.1 = zi a ∧ 0 ≤ a ∧ a ≤ m ∧ a ≤ 9999 ∧ rd q.2 7 p = zi a ∧ St T t R (h + 1) r' r.2 q.2) ∧ FrS s r.2 ∧ (∀ k j : Nat, ¬ (k = 0 ∧ 17 ≤ j ∧ j ≤ 22) → k ≠ 7 → rI q.2 k j = rI σ k j) ∧ ∀ z : Int, 0 ≤ z → z ≠ p → rd q.2 7 z = rd σ 7 z) ∨ (r.1 = zi (-1) ∧ q.1 = false ∧ Flt r.2 q.2 ∧ FrT s r.2 ∧ FrTM σ q.2)) := by
  obtain ⟨b1, b2, b3, b4, b5, b6, b7, b8, b9, b10, b11⟩ := H.bd
  have e1 := e_sort H
  have ev := e_value H
  obtain ⟨e2, e3⟩ := H.tok
  obtain ⟨e4, e5⟩ := e_fail H 1
  obtain ⟨e6, e7⟩ := e_fail H 2
  have hc := tm_256 H
  rw [f_Re_takeNumber_eq, f_M_number_eq, b_Re_takeNumber, b_M_number]
  by_cases g : tkh rest = 256
  · have g' := hc.mp g
    have hval := H.val g
    by_cases gm : tkv rest ≤ m
    · obtain ⟨x, r', rfl⟩ : ∃ (x : Tok) (r' : List Tok), rest = x :: r' := by
        cases rest with
        | nil => exact absurd g (by decide)
        | cons x r => exact ⟨x, r, rfl⟩
      have H2 : St T t R h (x :: r') s (wd σ 7 p (zi (tkv (x :: r')))) := H.cg (fun _ _ _ => rfl) (fun k j hk => by simp (disch := omega) only [rI_wI_s, rI_wI_f, rI_wI_c, rI_wd_c, rd_wI_c, rd_wd_c, rd_wd_s, rd_wd_n, rI_wJ, rd_wJ, rI_ix, wI_ix, rJ_ix, wJ_ix, rI_wI_o, Nat.reduceAdd])
      obtain ⟨σ', f1, f2, f3⟩ := e_adv H2
      simp (disch := omega) only [zi_div, zi_and31, zi_neg, zi_add, zi_sub, zi_mul, zi_lt, zi_le, zi_eq, zi_imx, zi_imn, zi_iab, gd_i, vpb_0, vpb_1, b2i_0, b2i_1, b2i_e0, b2i_e1, lf_b, lf_s, lf_n, Option.bind_some, decide_eq_false_iff_not, decide_eq_true_eq, cif_t, cif_f, cif_pos, cif_neg, if_true, if_false, if_pos, if_neg, zi_ofNat, Nat.zero_add, Nat.reduceAdd, Nat.reduceSub, Nat.reduceMul, Int.reduceAdd, Int.reduceSub, Int.reduceMul, Int.reduceNeg, Bool.false_eq_true, reduceCtorEq, rI_wI_s, rI_wI_f, rI_wI_c, rI_wd_c, rd_wI_c, rd_wd_c, rd_wd_s, rd_wd_n, rI_wJ, rd_wJ, rI_ix, wI_ix, rJ_ix, wJ_ix, zl_0, zl_1, zl_2, zl_3, zl_4, zl_5, zl_6, zl_7, zl_8, zl_9, zl_10, zl_11, zl_12, zl_13, zl_14, zl_15, zl_16, zl_20, zl_21, zl_22, zl_23, zl_24, zl_25, zl_26, zl_27, zl_28, zl_29, zl_30, zl_31, zl_32, zl_37, zl_40, zl_41, zl_42, zl_43, zl_44, zl_45, zl_46, zl_47, zl_48, zl_49, zl_50, zl_51, zl_52, zl_53, zl_54, zl_55, zl_56, zl_57, zl_58, zl_59, zl_60, zl_61, zl_62, zl_63, zl_64, zl_65, zl_74, zl_86, zl_90, zl_97, zl_98, zl_99, zl_100, zl_122, zl_140, zl_141, zl_142, zl_143, zl_145, zl_146, zl_147, zl_149, zl_150, zl_159, zl_160, zl_161, zl_162, zl_178, zl_199, zl_200, zl_201, zl_210, zl_230, zl_240, zl_245, zl_255, zl_256, zl_257, zl_288, zl_312, zl_332, zl_340, zl_356, zl_366, zl_399, zl_400, zl_500, zl_820, zl_966, zl_982, zl_998, zl_999, zl_1000, zl_1002, zl_1003, zl_1004, zl_1012, zl_1013, zl_1014, zl_1015, zl_1016, zl_1017, zl_1018, zl_1020, zl_1021, zl_1024, zl_1030, zl_1850, zl_2412, zl_2613, zl_9999, zl_10000, zl_99999, zl_1000000, lm_1, lm_2, lm_3, lm_4, lm_5, lm_6, lm_7, lm_8, lm_9, lm_10, lm_11, lm_12, lm_13, lm_14, lm_15, e1, e2, ev, hval, e_isIn, H.2.1, f1]
      refine ok2_s (Or.inl ⟨rfl, ⟨x, r', tkv (x :: r'), rfl, rfl, b3, gm, b4, ?_, f2⟩, fun k j hk => by simp (disch := omega) only [rI_wI_s, rI_wI_f, rI_wI_c, rI_wd_c, rd_wI_c, rd_wd_c, rd_wd_s, rd_wd_n, rI_wJ, rd_wJ, rI_ix, wI_ix, rJ_ix, wJ_ix, rI_wI_o, Nat.reduceAdd], fun k j h1 h2 => (f3 k j (by omega)).trans (by simp (disch := omega) only [rI_wI_s, rI_wI_f, rI_wI_c, rI_wd_c, rd_wI_c, rd_wd_c, rd_wd_s, rd_wd_n, rI_wJ, rd_wJ, rI_ix, wI_ix, rJ_ix, wJ_ix, rI_wI_o, Nat.reduceAdd]), fun z z0 z1 => ?_⟩)
      · show rd σ' 7 p = _
        rw [show rd σ' 7 p = rd (wd σ 7 p (zi (tkv (x :: r')))) 7 p from f3 7 _ (by omega), rd_wd_s rfl]
      · show rd σ' 7 z = _
        rw [show rd σ' 7 z = rd (wd σ 7 p (zi (tkv (x :: r')))) 7 z from f3 7 _ (by omega), rd_wd_n p0 z0 (by omega)]
    · simp (disch := omega) only [zi_div, zi_and31, zi_neg, zi_add, zi_sub, zi_mul, zi_lt, zi_le, zi_eq, zi_imx, zi_imn, zi_iab, gd_i, vpb_0, vpb_1, b2i_0, b2i_1, b2i_e0, b2i_e1, lf_b, lf_s, lf_n, Option.bind_some, decide_eq_false_iff_not, decide_eq_true_eq, cif_t, cif_f, cif_pos, cif_neg, if_true, if_false, if_pos, if_neg, zi_ofNat, Nat.zero_add, Nat.reduceAdd, Nat.reduceSub, Nat.reduceMul, Int.reduceAdd, Int.reduceSub, Int.reduceMul, Int.reduceNeg, Bool.false_eq_true, reduceCtorEq, rI_wI_s, rI_wI_f, rI_wI_c, rI_wd_c, rd_wI_c, rd_wd_c, rd_wd_s, rd_wd_n, rI_wJ, rd_wJ, rI_ix, wI_ix, rJ_ix, wJ_ix, zl_0, zl_1, zl_2, zl_3, zl_4, zl_5, zl_6, zl_7, zl_8, zl_9, zl_10, zl_11, zl_12, zl_13, zl_14, zl_15, zl_16, zl_20, zl_21, zl_22, zl_23, zl_24, zl_25, zl_26, zl_27, zl_28, zl_29, zl_30, zl_31, zl_32, zl_37, zl_40, zl_41, zl_42, zl_43, zl_44, zl_45, zl_46, zl_47, zl_48, zl_49, zl_50, zl_51, zl_52, zl_53, zl_54, zl_55, zl_56, zl_57, zl_58, zl_59, zl_60, zl_61, zl_62, zl_63, zl_64, zl_65, zl_74, zl_86, zl_90, zl_97, zl_98, zl_99, zl_100, zl_122, zl_140, zl_141, zl_142, zl_143, zl_145, zl_146, zl_147, zl_149, zl_150, zl_159, zl_160, zl_161, zl_162, zl_178, zl_199, zl_200, zl_201, zl_210, zl_230, zl_240, zl_245, zl_255, zl_256, zl_257, zl_288, zl_312, zl_332, zl_340, zl_356, zl_366, zl_399, zl_400, zl_500, zl_820, zl_966, zl_982, zl_998, zl_999, zl_1000, zl_1002, zl_1003, zl_1004, zl_1012, zl_1013, zl_1014, zl_1015, zl_1016, zl_1017, zl_1018, zl_1020, zl_1021, zl_1024, zl_1030, zl_1850, zl_2412, zl_2613, zl_9999, zl_10000, zl_99999, zl_1000000, lm_1, lm_2, lm_3, lm_4, lm_5, lm_6, lm_7, lm_8, lm_9, lm_10, lm_11, lm_12, lm_13, lm_14, lm_15, e1, e2, ev, hval, e_isIn, e6, e7]
      exact ok2_s (Or.inr ⟨rfl, rfl, flt_fl, frT_fl, frTM_fl⟩)
  · have g' : ¬ tmh R rest = 2 := fun z => g (hc.mpr z)
    simp (disch := omega) only [zi_div, zi_and31, zi_neg, zi_add, zi_sub, zi_mul, zi_lt, zi_le, zi_eq, zi_imx, zi_imn, zi_iab, gd_i, vpb_0, vpb_1, b2i_0, b2i_1, b2i_e0, b2i_e1, lf_b, lf_s, lf_n, Option.bind_some, decide_eq_false_iff_not, decide_eq_true_eq, cif_t, cif_f, cif_pos, cif_neg, if_true, if_false, if_pos, if_neg, zi_ofNat, Nat.zero_add, Nat.reduceAdd, Nat.reduceSub, Nat.reduceMul, Int.reduceAdd, Int.reduceSub, Int.reduceMul, Int.reduceNeg, Bool.false_eq_true, reduceCtorEq, rI_wI_s, rI_wI_f, rI_wI_c, rI_wd_c, rd_wI_c, rd_wd_c, rd_wd_s, rd_wd_n, rI_wJ, rd_wJ, rI_ix, wI_ix, rJ_ix, wJ_ix, zl_0, zl_1, zl_2, zl_3, zl_4, zl_5, zl_6, zl_7, zl_8, zl_9, zl_10, zl_11, zl_12, zl_13, zl_14, zl_15, zl_16, zl_20, zl_21, zl_22, zl_23, zl_24, zl_25, zl_26, zl_27, zl_28, zl_29, zl_30, zl_31, zl_32, zl_37, zl_40, zl_41, zl_42, zl_43, zl_44, zl_45, zl_46, zl_47, zl_48, zl_49, zl_50, zl_51, zl_52, zl_53, zl_54, zl_55, zl_56, zl_57, zl_58, zl_59, zl_60, zl_61, zl_62, zl_63, zl_64, zl_65, zl_74, zl_86, zl_90, zl_97, zl_98, zl_99, zl_100, zl_122, zl_140, zl_141, zl_142, zl_143, zl_145, zl_146, zl_147, zl_149, zl_150, zl_159, zl_160, zl_161, zl_162, zl_178, zl_199, zl_200, zl_201, zl_210, zl_230, zl_240, zl_245, zl_255, zl_256, zl_257, zl_288, zl_312, zl_332, zl_340, zl_356, zl_366, zl_399, zl_400, zl_500, zl_820, zl_966, zl_982, zl_998, zl_999, zl_1000, zl_1002, zl_1003, zl_1004, zl_1012, zl_1013, zl_1014, zl_1015, zl_1016, zl_1017, zl_1018, zl_1020, zl_1021, zl_1024, zl_1030, zl_1850, zl_2412, zl_2613, zl_9999, zl_10000, zl_99999, zl_1000000, lm_1, lm_2, lm_3, lm_4, lm_5, lm_6, lm_7, lm_8, lm_9, lm_10, lm_11, lm_12, lm_13, lm_14, lm_15, e1, e2, e4, e5]
    exact ok2_s (Or.inr ⟨rfl, rfl, flt_fl, frT_fl, frTM_fl⟩)
