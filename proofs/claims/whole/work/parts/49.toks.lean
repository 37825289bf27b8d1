/-! tokens: told by the class all at once, by the model one by one -/
abbrev Tok : Type := Int × Int × Int
def nv (T : Int → Int) (p : Int) : Nat → Int
  | 0 => 0
  | k + 1 => 10 * nv T p k + T (p + k) - 48
theorem nv_bd {T : Int → Int} {p : Int} : ∀ (k : Nat), (∀ i : Nat, i < k → dgt (T (p + i))) → 0 ≤ nv T p k ∧ nv T p k < 10 ^ k
  | 0, _ => by simp [nv]
  | k + 1, h => by
    obtain ⟨a, b⟩ := nv_bd k (fun i hi => h i (by omega))
    have c := h k (by omega)
    have e : (10 : Int) ^ (k + 1) = 10 ^ k * 10 := Int.pow_succ 10 k
    rw [e]
    show 0 ≤ 10 * nv T p k + T (p + k) - 48 ∧ 10 * nv T p k + T (p + k) - 48 < _
    omega
def TkA (T : Int → Int) (t p e : Int) (x : Tok) : Prop := x.2.2 = p ∧ TE T t p e ∧ ((ltr (T p) ∧ x.2.1 = 0 ∧ ((x.1 = 257 ∧ ∀ w : Nat, w < 22 → ¬ eqW T p e w) ∨ ∃ w : Nat, w < 22 ∧ x.1 = 1000 + w ∧ eqW T p e w)) ∨ (dgt (T p) ∧ ((e - p ≤ 4 ∧ x.1 = 256 ∧ x.2.1 = nv T p (e - p).toNat) ∨ (4 < e - p ∧ x.1 = 257 ∧ x.2.1 = 0))) ∨ (¬ ltr (T p) ∧ ¬ dgt (T p) ∧ x.2.1 = 0 ∧ ((sgn (T p) ∧ x.1 = T p) ∨ (¬ sgn (T p) ∧ x.1 = 257))))
/-- behind p the tokens are these -/
def NX (T : Int → Int) (t : Int) : Int → List Tok → Prop
  | p, [] => ∀ i : Int, p ≤ i → i < t → blk (T i)
  | p, x :: r => p ≤ x.2.2 ∧ x.2.2 < t ∧ (∀ i : Int, p ≤ i → i < x.2.2 → blk (T i)) ∧ ¬ blk (T x.2.2) ∧ ∃ e : Int, TkA T t x.2.2 e x ∧ NX T t e r
def tokOk (x : Tok) : Prop := (x.1 = 256 ∨ x.1 = 257 ∨ (1000 ≤ x.1 ∧ x.1 ≤ 1021) ∨ sgn x.1) ∧ 0 ≤ x.2.1 ∧ x.2.1 ≤ 9999 ∧ 0 ≤ x.2.2 ∧ x.2.2 ≤ 400
/-- tokens in the class's rows -/
def Ar (s : Mem) : Int → List Tok → Prop
  | _, [] => True
  | h, x :: r => rd s 162 h = zi x.1 ∧ rd s 163 h = zi x.2.1 ∧ rd s 164 h = zi x.2.2 ∧ tokOk x ∧ Ar s (h + 1) r
theorem Ar.cg {s s' : Mem} : ∀ (r : List Tok) (h : Int), 0 ≤ h → (∀ (k : Nat) (z : Int), 162 ≤ k → k ≤ 164 → h ≤ z → rd s' k z = rd s k z) → Ar s h r → Ar s' h r
  | [], _, _, _, _ => trivial
  | x :: r, h, h0, hs, ⟨a, b, c, d, e⟩ => ⟨(hs _ _ (by omega) (by omega) (by omega)).trans a, (hs _ _ (by omega) (by omega) (by omega)).trans b, (hs _ _ (by omega) (by omega) (by omega)).trans c, d, Ar.cg r (h + 1) (by omega) (fun k z k0 k1 z0 => hs k z k0 k1 (by omega)) e⟩
theorem sg_all : ∀ c : Fin 256, ∀ i : Fin 10, ((ext0 1000).2 i.val = (zi ((c.val : Nat) : Int)).toInt8.toInt32) ↔ (ext0 1000).2 i.val = zi ((c.val : Nat) : Int) := by decide +kernel
theorem sg_has : ∀ c : Fin 256, (∃ i : Fin 10, (ext0 1000).2 i.val = zi ((c.val : Nat) : Int)) ↔ sgn ((c.val : Nat) : Int) := by decide +kernel
theorem sg_len : (ext0 1000).1 = 10 := by decide +kernel
theorem e_indexOf {c : Int} {s : Mem} (c0 : 0 ≤ c) (c1 : c ≤ 255) : ∃ r : Int, f_St_indexOf_0 0 (zi c) s = some (zi r, s) ∧ -1 ≤ r ∧ r ≤ 9 ∧ (r < 0 ↔ ¬ sgn c) := by
  obtain ⟨c, rfl⟩ : ∃ m : Nat, c = m := ⟨c.toNat, by omega⟩
  have key : ∀ (n : Nat) (i : Nat), i ≤ 10 → 10 - i < n → (∀ j : Nat, j < i → ¬ (ext0 1000).2 j = zi (c : Int)) → ∃ r : Int, f_Sl_indexOfChar_7 n 0 (zi 10) (zi (c : Int)).toInt8.toInt32 (zi i) s = some (zi r, s) ∧ -1 ≤ r ∧ r ≤ 9 ∧ (r < 0 ↔ ¬ sgn (c : Int)) := by
    intro n
    induction n with
    | zero => intro i i1 i2; omega
    | succ n ih =>
      intro i i1 i2 hj
      rw [f_Sl_indexOfChar_7]
      by_cases g : i = 10
      · simp (disch := omega) only [zi_div, zi_and31, zi_neg, zi_add, zi_sub, zi_mul, zi_lt, zi_le, zi_eq, zi_imx, zi_imn, zi_iab, gd_i, vpb_0, vpb_1, b2i_0, b2i_1, b2i_e0, b2i_e1, lf_b, lf_s, lf_n, Option.bind_some, decide_eq_false_iff_not, decide_eq_true_eq, cif_t, cif_f, cif_pos, cif_neg, if_true, if_false, if_pos, if_neg, zi_ofNat, Nat.zero_add, Nat.reduceAdd, Nat.reduceSub, Nat.reduceMul, Int.reduceAdd, Int.reduceSub, Int.reduceMul, Int.reduceNeg, Bool.false_eq_true, reduceCtorEq, rI_wI_s, rI_wI_f, rI_wI_c, rI_wd_c, rd_wI_c, rd_wd_c, rd_wd_s, rd_wd_n, rI_wJ, rd_wJ, rI_ix, wI_ix, rJ_ix, wJ_ix, zl_0, zl_1, zl_2, zl_3, zl_4, zl_5, zl_6, zl_7, zl_8, zl_9, zl_10, zl_11, zl_12, zl_13, zl_14, zl_15, zl_16, zl_20, zl_21, zl_22, zl_23, zl_24, zl_25, zl_26, zl_27, zl_28, zl_29, zl_30, zl_31, zl_32, zl_37, zl_40, zl_41, zl_42, zl_43, zl_44, zl_45, zl_46, zl_47, zl_48, zl_49, zl_50, zl_51, zl_52, zl_53, zl_54, zl_55, zl_56, zl_57, zl_58, zl_59, zl_60, zl_61, zl_62, zl_63, zl_64, zl_65, zl_74, zl_86, zl_90, zl_97, zl_98, zl_99, zl_100, zl_122, zl_140, zl_141, zl_142, zl_143, zl_145, zl_146, zl_147, zl_149, zl_150, zl_159, zl_160, zl_161, zl_162, zl_178, zl_199, zl_200, zl_201, zl_210, zl_230, zl_240, zl_245, zl_255, zl_256, zl_257, zl_288, zl_312, zl_332, zl_340, zl_356, zl_366, zl_399, zl_400, zl_500, zl_820, zl_966, zl_982, zl_998, zl_999, zl_1000, zl_1002, zl_1003, zl_1004, zl_1012, zl_1013, zl_1014, zl_1015, zl_1016, zl_1017, zl_1018, zl_1020, zl_1021, zl_1024, zl_1030, zl_1850, zl_2412, zl_2613, zl_9999, zl_10000, zl_99999, zl_1000000]
        refine ⟨-1, rfl, by omega, by omega, ⟨fun _ z => ?_, fun _ => by omega⟩⟩
        obtain ⟨j, j1⟩ := (sg_has ⟨c, by omega⟩).mpr z
        exact hj j.val (by have := j.isLt; omega) j1
      · have hsg := sg_all ⟨c, by omega⟩ ⟨i, by omega⟩
        dsimp only at hsg
        have hl : (ext0 (0 + 1000)).1 = 10 := sg_len
        by_cases gi : (ext0 1000).2 i = zi (c : Int)
        · have gi' := hsg.mpr gi
          simp (disch := omega) only [zi_div, zi_and31, zi_neg, zi_add, zi_sub, zi_mul, zi_lt, zi_le, zi_eq, zi_imx, zi_imn, zi_iab, gd_i, vpb_0, vpb_1, b2i_0, b2i_1, b2i_e0, b2i_e1, lf_b, lf_s, lf_n, Option.bind_some, decide_eq_false_iff_not, decide_eq_true_eq, cif_t, cif_f, cif_pos, cif_neg, if_true, if_false, if_pos, if_neg, zi_ofNat, Nat.zero_add, Nat.reduceAdd, Nat.reduceSub, Nat.reduceMul, Int.reduceAdd, Int.reduceSub, Int.reduceMul, Int.reduceNeg, Bool.false_eq_true, reduceCtorEq, rI_wI_s, rI_wI_f, rI_wI_c, rI_wd_c, rd_wI_c, rd_wd_c, rd_wd_s, rd_wd_n, rI_wJ, rd_wJ, rI_ix, wI_ix, rJ_ix, wJ_ix, zl_0, zl_1, zl_2, zl_3, zl_4, zl_5, zl_6, zl_7, zl_8, zl_9, zl_10, zl_11, zl_12, zl_13, zl_14, zl_15, zl_16, zl_20, zl_21, zl_22, zl_23, zl_24, zl_25, zl_26, zl_27, zl_28, zl_29, zl_30, zl_31, zl_32, zl_37, zl_40, zl_41, zl_42, zl_43, zl_44, zl_45, zl_46, zl_47, zl_48, zl_49, zl_50, zl_51, zl_52, zl_53, zl_54, zl_55, zl_56, zl_57, zl_58, zl_59, zl_60, zl_61, zl_62, zl_63, zl_64, zl_65, zl_74, zl_86, zl_90, zl_97, zl_98, zl_99, zl_100, zl_122, zl_140, zl_141, zl_142, zl_143, zl_145, zl_146, zl_147, zl_149, zl_150, zl_159, zl_160, zl_161, zl_162, zl_178, zl_199, zl_200, zl_201, zl_210, zl_230, zl_240, zl_245, zl_255, zl_256, zl_257, zl_288, zl_312, zl_332, zl_340, zl_356, zl_366, zl_399, zl_400, zl_500, zl_820, zl_966, zl_982, zl_998, zl_999, zl_1000, zl_1002, zl_1003, zl_1004, zl_1012, zl_1013, zl_1014, zl_1015, zl_1016, zl_1017, zl_1018, zl_1020, zl_1021, zl_1024, zl_1030, zl_1850, zl_2412, zl_2613, zl_9999, zl_10000, zl_99999, zl_1000000, hl, ix_zi]
          rw [cif_pos (by rw [show ((i : Int)).toNat = i by omega]; exact gi')]
          exact ⟨i, rfl, by omega, by omega, ⟨fun z => by omega, fun z => absurd ((sg_has ⟨c, by omega⟩).mp ⟨⟨i, by omega⟩, gi⟩) z⟩⟩
        · have gi' : ¬ (ext0 1000).2 i = (zi (c : Int)).toInt8.toInt32 := fun z => gi (hsg.mp z)
          simp (disch := omega) only [zi_div, zi_and31, zi_neg, zi_add, zi_sub, zi_mul, zi_lt, zi_le, zi_eq, zi_imx, zi_imn, zi_iab, gd_i, vpb_0, vpb_1, b2i_0, b2i_1, b2i_e0, b2i_e1, lf_b, lf_s, lf_n, Option.bind_some, decide_eq_false_iff_not, decide_eq_true_eq, cif_t, cif_f, cif_pos, cif_neg, if_true, if_false, if_pos, if_neg, zi_ofNat, Nat.zero_add, Nat.reduceAdd, Nat.reduceSub, Nat.reduceMul, Int.reduceAdd, Int.reduceSub, Int.reduceMul, Int.reduceNeg, Bool.false_eq_true, reduceCtorEq, rI_wI_s, rI_wI_f, rI_wI_c, rI_wd_c, rd_wI_c, rd_wd_c, rd_wd_s, rd_wd_n, rI_wJ, rd_wJ, rI_ix, wI_ix, rJ_ix, wJ_ix, zl_0, zl_1, zl_2, zl_3, zl_4, zl_5, zl_6, zl_7, zl_8, zl_9, zl_10, zl_11, zl_12, zl_13, zl_14, zl_15, zl_16, zl_20, zl_21, zl_22, zl_23, zl_24, zl_25, zl_26, zl_27, zl_28, zl_29, zl_30, zl_31, zl_32, zl_37, zl_40, zl_41, zl_42, zl_43, zl_44, zl_45, zl_46, zl_47, zl_48, zl_49, zl_50, zl_51, zl_52, zl_53, zl_54, zl_55, zl_56, zl_57, zl_58, zl_59, zl_60, zl_61, zl_62, zl_63, zl_64, zl_65, zl_74, zl_86, zl_90, zl_97, zl_98, zl_99, zl_100, zl_122, zl_140, zl_141, zl_142, zl_143, zl_145, zl_146, zl_147, zl_149, zl_150, zl_159, zl_160, zl_161, zl_162, zl_178, zl_199, zl_200, zl_201, zl_210, zl_230, zl_240, zl_245, zl_255, zl_256, zl_257, zl_288, zl_312, zl_332, zl_340, zl_356, zl_366, zl_399, zl_400, zl_500, zl_820, zl_966, zl_982, zl_998, zl_999, zl_1000, zl_1002, zl_1003, zl_1004, zl_1012, zl_1013, zl_1014, zl_1015, zl_1016, zl_1017, zl_1018, zl_1020, zl_1021, zl_1024, zl_1030, zl_1850, zl_2412, zl_2613, zl_9999, zl_10000, zl_99999, zl_1000000, hl, ix_zi]
          rw [cif_neg (by rw [show ((i : Int)).toNat = i by omega]; exact gi')]
          exact ih (i + 1) (by omega) (by omega) (fun j j1 => by
            by_cases hji : j = i
            · rw [hji]; exact gi
            · exact hj j (by omega))
  obtain ⟨r, e1, r0, r1, hr⟩ := key FU 0 (by omega) (by have := FU_ge; omega) (fun j j1 => by omega)
  refine ⟨r, ?_, r0, r1, hr⟩
  have el : f_St_length 0 s = some (zi 10, s) := by
    rw [e_strlen (by omega), show (ext0 (0 + 1000)).1 = 10 from sg_len]
    rfl
  rw [f_St_indexOf_0_eq, b_St_indexOf_0, f_St_indexOf_1_eq, b_St_indexOf_1, f_St_isLatin1_eq, b_St_isLatin1, cif_neg (by decide : ¬ ((1 : Int32) = 0)), cif_pos (by decide : ((0 : Int32) = 0))]
  simp only [Option.bind_some]
  rw [cif_neg (by decide : ¬ (b2i true = 0)), el]
  simp only [Option.bind_some]
  rw [f_Sl_indexOf_eq, b_Sl_indexOf, f_Sl_canEncode_eq, b_Sl_canEncode, show (ext0 (0 + 1000)).1 = 10 from sg_len, show Int32.ofNat 10 = zi 10 from rfl]
  simp (disch := omega) only [zi_div, zi_and31, zi_neg, zi_add, zi_sub, zi_mul, zi_lt, zi_le, zi_eq, zi_imx, zi_imn, zi_iab, gd_i, vpb_0, vpb_1, b2i_0, b2i_1, b2i_e0, b2i_e1, lf_b, lf_s, lf_n, Option.bind_some, decide_eq_false_iff_not, decide_eq_true_eq, cif_t, cif_f, cif_pos, cif_neg, if_true, if_false, if_pos, if_neg, zi_ofNat, Nat.zero_add, Nat.reduceAdd, Nat.reduceSub, Nat.reduceMul, Int.reduceAdd, Int.reduceSub, Int.reduceMul, Int.reduceNeg, Bool.false_eq_true, reduceCtorEq, rI_wI_s, rI_wI_f, rI_wI_c, rI_wd_c, rd_wI_c, rd_wd_c, rd_wd_s, rd_wd_n, rI_wJ, rd_wJ, rI_ix, wI_ix, rJ_ix, wJ_ix, zl_0, zl_1, zl_2, zl_3, zl_4, zl_5, zl_6, zl_7, zl_8, zl_9, zl_10, zl_11, zl_12, zl_13, zl_14, zl_15, zl_16, zl_20, zl_21, zl_22, zl_23, zl_24, zl_25, zl_26, zl_27, zl_28, zl_29, zl_30, zl_31, zl_32, zl_37, zl_40, zl_41, zl_42, zl_43, zl_44, zl_45, zl_46, zl_47, zl_48, zl_49, zl_50, zl_51, zl_52, zl_53, zl_54, zl_55, zl_56, zl_57, zl_58, zl_59, zl_60, zl_61, zl_62, zl_63, zl_64, zl_65, zl_74, zl_86, zl_90, zl_97, zl_98, zl_99, zl_100, zl_122, zl_140, zl_141, zl_142, zl_143, zl_145, zl_146, zl_147, zl_149, zl_150, zl_159, zl_160, zl_161, zl_162, zl_178, zl_199, zl_200, zl_201, zl_210, zl_230, zl_240, zl_245, zl_255, zl_256, zl_257, zl_288, zl_312, zl_332, zl_340, zl_356, zl_366, zl_399, zl_400, zl_500, zl_820, zl_966, zl_982, zl_998, zl_999, zl_1000, zl_1002, zl_1003, zl_1004, zl_1012, zl_1013, zl_1014, zl_1015, zl_1016, zl_1017, zl_1018, zl_1020, zl_1021, zl_1024, zl_1030, zl_1850, zl_2412, zl_2613, zl_9999, zl_10000, zl_99999, zl_1000000, f_Sl_indexOfChar_eq, b_Sl_indexOfChar]
  rw [show zi (max 0 0) = zi ((0 : Nat) : Int) from rfl, show zi (min 10 10) = zi 10 from rfl, e1]
  rfl
def stT (s : Mem) (m : Int) (x : Tok) : Mem := wI (wd (wd (wd s 162 m (zi x.1)) 163 m (zi x.2.1)) 164 m (zi x.2.2)) 160 8 (zi (m + 1))
theorem e_add85 {s : Mem} {m : Int} {x : Tok} (hm : rI s 160 8 = zi m) (m0 : 0 ≤ m) (m1 : m < 400) : f_Re_addToken_85 160 (zi x.2.2) (zi x.1) (zi x.2.1) s = some (stT s m x) := by
  rw [f_Re_addToken_85]
  simp (disch := omega) only [zi_div, zi_and31, zi_neg, zi_add, zi_sub, zi_mul, zi_lt, zi_le, zi_eq, zi_imx, zi_imn, zi_iab, gd_i, vpb_0, vpb_1, b2i_0, b2i_1, b2i_e0, b2i_e1, lf_b, lf_s, lf_n, Option.bind_some, decide_eq_false_iff_not, decide_eq_true_eq, cif_t, cif_f, cif_pos, cif_neg, if_true, if_false, if_pos, if_neg, zi_ofNat, Nat.zero_add, Nat.reduceAdd, Nat.reduceSub, Nat.reduceMul, Int.reduceAdd, Int.reduceSub, Int.reduceMul, Int.reduceNeg, Bool.false_eq_true, reduceCtorEq, rI_wI_s, rI_wI_f, rI_wI_c, rI_wd_c, rd_wI_c, rd_wd_c, rd_wd_s, rd_wd_n, rI_wJ, rd_wJ, rI_ix, wI_ix, rJ_ix, wJ_ix, zl_0, zl_1, zl_2, zl_3, zl_4, zl_5, zl_6, zl_7, zl_8, zl_9, zl_10, zl_11, zl_12, zl_13, zl_14, zl_15, zl_16, zl_20, zl_21, zl_22, zl_23, zl_24, zl_25, zl_26, zl_27, zl_28, zl_29, zl_30, zl_31, zl_32, zl_37, zl_40, zl_41, zl_42, zl_43, zl_44, zl_45, zl_46, zl_47, zl_48, zl_49, zl_50, zl_51, zl_52, zl_53, zl_54, zl_55, zl_56, zl_57, zl_58, zl_59, zl_60, zl_61, zl_62, zl_63, zl_64, zl_65, zl_74, zl_86, zl_90, zl_97, zl_98, zl_99, zl_100, zl_122, zl_140, zl_141, zl_142, zl_143, zl_145, zl_146, zl_147, zl_149, zl_150, zl_159, zl_160, zl_161, zl_162, zl_178, zl_199, zl_200, zl_201, zl_210, zl_230, zl_240, zl_245, zl_255, zl_256, zl_257, zl_288, zl_312, zl_332, zl_340, zl_356, zl_366, zl_399, zl_400, zl_500, zl_820, zl_966, zl_982, zl_998, zl_999, zl_1000, zl_1002, zl_1003, zl_1004, zl_1012, zl_1013, zl_1014, zl_1015, zl_1016, zl_1017, zl_1018, zl_1020, zl_1021, zl_1024, zl_1030, zl_1850, zl_2412, zl_2613, zl_9999, zl_10000, zl_99999, zl_1000000, lc_3, lc_4, lc_5, lc_6, lc_8, lc_9, lc_10, lc_12, lc_13, lc_14, lc_15, lc_16, lc_17, lc_19, lc_20, lc_21, lc_23, lc_24, lc_25, lc_27, lc_28, lc_29, lc_32, lc_33, lc_34, lc_36, lc_37, lc_38, lc_40, lc_41, lc_42, lc_44, lc_45, lc_46, lc_48, lc_49, lc_50, lc_52, lc_53, lc_54, lc_55, lc_56, lc_57, lc_58, lc_60, lc_122, lc_123, lc_124, lc_125, lc_127, lc_129, lc_161, lc_162, lc_163, lc_164, lc_166, lc_167, lc_168, lc_169, lc_170, lc_171, lc_173, lc_174, lc_175, lc_177, lc_190, hm]
  rfl
theorem e_addToken {T : Int → Int} {t p e m : Int} {s : Mem} (h : TpC T t s) (p0 : 0 ≤ p) (p1 : p < t) (hE : TE T t p e) (hm : rI s 160 8 = zi m) (m0 : 0 ≤ m) (m1 : m < 400) : ∃ x : Tok, f_Re_addToken 160 (zi p) (zi e) s = some (stT s m x) ∧ TkA T t p e x ∧ tokOk x := by
  obtain ⟨t0, t1, hT⟩ := id h
  obtain ⟨q1, q2, q3, q4, q5⟩ := id hE
  have e1 := e_byteAt h p0 p1
  obtain ⟨a0, a1, a2⟩ := hT p p0 p1
  have e2 := e_isLetterC (s := s) a0 a1
  have e3 := e_isDigitC (s := s) a0 a1
  rw [f_Re_addToken_eq, b_Re_addToken]
  by_cases gl : ltr (T p)
  · rw [decide_eq_true gl] at e2
    obtain ⟨k, ek, hk⟩ := e_keyword h p0 q1 q2
    have kb : k = 257 ∨ (1000 ≤ k ∧ k ≤ 1021) := by
      rcases hk with ⟨h1, _⟩ | ⟨w, w1, w2, _⟩ <;> omega
    have e85 := e_add85 (x := (k, 0, p)) hm m0 m1
    refine ⟨(k, 0, p), ?_, ⟨rfl, hE, Or.inl ⟨gl, rfl, hk⟩⟩, ⟨by rcases kb with h1 | h1; exact Or.inr (Or.inl h1); exact Or.inr (Or.inr (Or.inl h1)), Int.le_refl _, by show (0 : Int) ≤ 9999; omega, p0, by show p ≤ 400; omega⟩⟩
    clear gl
    simp (disch := omega) only [zi_div, zi_and31, zi_neg, zi_add, zi_sub, zi_mul, zi_lt, zi_le, zi_eq, zi_imx, zi_imn, zi_iab, gd_i, vpb_0, vpb_1, b2i_0, b2i_1, b2i_e0, b2i_e1, lf_b, lf_s, lf_n, Option.bind_some, decide_eq_false_iff_not, decide_eq_true_eq, cif_t, cif_f, cif_pos, cif_neg, if_true, if_false, if_pos, if_neg, zi_ofNat, Nat.zero_add, Nat.reduceAdd, Nat.reduceSub, Nat.reduceMul, Int.reduceAdd, Int.reduceSub, Int.reduceMul, Int.reduceNeg, Bool.false_eq_true, reduceCtorEq, rI_wI_s, rI_wI_f, rI_wI_c, rI_wd_c, rd_wI_c, rd_wd_c, rd_wd_s, rd_wd_n, rI_wJ, rd_wJ, rI_ix, wI_ix, rJ_ix, wJ_ix, zl_0, zl_1, zl_2, zl_3, zl_4, zl_5, zl_6, zl_7, zl_8, zl_9, zl_10, zl_11, zl_12, zl_13, zl_14, zl_15, zl_16, zl_20, zl_21, zl_22, zl_23, zl_24, zl_25, zl_26, zl_27, zl_28, zl_29, zl_30, zl_31, zl_32, zl_37, zl_40, zl_41, zl_42, zl_43, zl_44, zl_45, zl_46, zl_47, zl_48, zl_49, zl_50, zl_51, zl_52, zl_53, zl_54, zl_55, zl_56, zl_57, zl_58, zl_59, zl_60, zl_61, zl_62, zl_63, zl_64, zl_65, zl_74, zl_86, zl_90, zl_97, zl_98, zl_99, zl_100, zl_122, zl_140, zl_141, zl_142, zl_143, zl_145, zl_146, zl_147, zl_149, zl_150, zl_159, zl_160, zl_161, zl_162, zl_178, zl_199, zl_200, zl_201, zl_210, zl_230, zl_240, zl_245, zl_255, zl_256, zl_257, zl_288, zl_312, zl_332, zl_340, zl_356, zl_366, zl_399, zl_400, zl_500, zl_820, zl_966, zl_982, zl_998, zl_999, zl_1000, zl_1002, zl_1003, zl_1004, zl_1012, zl_1013, zl_1014, zl_1015, zl_1016, zl_1017, zl_1018, zl_1020, zl_1021, zl_1024, zl_1030, zl_1850, zl_2412, zl_2613, zl_9999, zl_10000, zl_99999, zl_1000000, hm, e1, e2, ek]
    exact e85
  · rw [decide_eq_false gl] at e2
    have gl' := gl
    clear gl
    by_cases gd : dgt (T p)
    · rw [decide_eq_true gd] at e3
      have gd' := gd
      clear gd
      by_cases g4 : e - p ≤ 4
      · have hdg : ∀ i : Nat, i < (e - p).toNat → dgt (T (p + i)) := fun i hi => (q4 gd').1 _ (by omega) (by omega)
        have hnv := nv_bd (T := T) (p := p) (e - p).toNat hdg
        have hnv2 : nv T p (e - p).toNat ≤ 9999 := by
          have : (e - p).toNat = 1 ∨ (e - p).toNat = 2 ∨ (e - p).toNat = 3 ∨ (e - p).toNat = 4 := by omega
          rcases this with h1 | h1 | h1 | h1 <;> rw [h1] at hnv ⊢ <;> simp at hnv <;> omega
        have key : ∀ (n : Nat) (k : Nat), (k : Int) ≤ e - p → e - p - k < n → f_Re_number_5 n 160 (zi e) (zi (nv T p k)) (zi (p + k)) s = some (zi (nv T p (e - p).toNat), s) := by
          intro n
          induction n with
          | zero => intro k i1 i2; omega
          | succ n ih =>
            intro k i1 i2
            rw [f_Re_number_5]
            by_cases g : p + k = e
            · simp (disch := omega) only [zi_div, zi_and31, zi_neg, zi_add, zi_sub, zi_mul, zi_lt, zi_le, zi_eq, zi_imx, zi_imn, zi_iab, gd_i, vpb_0, vpb_1, b2i_0, b2i_1, b2i_e0, b2i_e1, lf_b, lf_s, lf_n, Option.bind_some, decide_eq_false_iff_not, decide_eq_true_eq, cif_t, cif_f, cif_pos, cif_neg, if_true, if_false, if_pos, if_neg, zi_ofNat, Nat.zero_add, Nat.reduceAdd, Nat.reduceSub, Nat.reduceMul, Int.reduceAdd, Int.reduceSub, Int.reduceMul, Int.reduceNeg, Bool.false_eq_true, reduceCtorEq, rI_wI_s, rI_wI_f, rI_wI_c, rI_wd_c, rd_wI_c, rd_wd_c, rd_wd_s, rd_wd_n, rI_wJ, rd_wJ, rI_ix, wI_ix, rJ_ix, wJ_ix, zl_0, zl_1, zl_2, zl_3, zl_4, zl_5, zl_6, zl_7, zl_8, zl_9, zl_10, zl_11, zl_12, zl_13, zl_14, zl_15, zl_16, zl_20, zl_21, zl_22, zl_23, zl_24, zl_25, zl_26, zl_27, zl_28, zl_29, zl_30, zl_31, zl_32, zl_37, zl_40, zl_41, zl_42, zl_43, zl_44, zl_45, zl_46, zl_47, zl_48, zl_49, zl_50, zl_51, zl_52, zl_53, zl_54, zl_55, zl_56, zl_57, zl_58, zl_59, zl_60, zl_61, zl_62, zl_63, zl_64, zl_65, zl_74, zl_86, zl_90, zl_97, zl_98, zl_99, zl_100, zl_122, zl_140, zl_141, zl_142, zl_143, zl_145, zl_146, zl_147, zl_149, zl_150, zl_159, zl_160, zl_161, zl_162, zl_178, zl_199, zl_200, zl_201, zl_210, zl_230, zl_240, zl_245, zl_255, zl_256, zl_257, zl_288, zl_312, zl_332, zl_340, zl_356, zl_366, zl_399, zl_400, zl_500, zl_820, zl_966, zl_982, zl_998, zl_999, zl_1000, zl_1002, zl_1003, zl_1004, zl_1012, zl_1013, zl_1014, zl_1015, zl_1016, zl_1017, zl_1018, zl_1020, zl_1021, zl_1024, zl_1030, zl_1850, zl_2412, zl_2613, zl_9999, zl_10000, zl_99999, zl_1000000]
              rw [show (e - p).toNat = k by omega]
            · have e4 := e_byteAt h (i := p + k) (by omega) (by omega)
              have e5 := ih (k + 1) (by omega) (by omega)
              rw [show nv T p (k + 1) = 10 * nv T p k + T (p + k) - 48 from rfl, show p + ((k + 1 : Nat) : Int) = p + k + 1 by omega] at e5
              simp (disch := omega) only [zi_div, zi_and31, zi_neg, zi_add, zi_sub, zi_mul, zi_lt, zi_le, zi_eq, zi_imx, zi_imn, zi_iab, gd_i, vpb_0, vpb_1, b2i_0, b2i_1, b2i_e0, b2i_e1, lf_b, lf_s, lf_n, Option.bind_some, decide_eq_false_iff_not, decide_eq_true_eq, cif_t, cif_f, cif_pos, cif_neg, if_true, if_false, if_pos, if_neg, zi_ofNat, Nat.zero_add, Nat.reduceAdd, Nat.reduceSub, Nat.reduceMul, Int.reduceAdd, Int.reduceSub, Int.reduceMul, Int.reduceNeg, Bool.false_eq_true, reduceCtorEq, rI_wI_s, rI_wI_f, rI_wI_c, rI_wd_c, rd_wI_c, rd_wd_c, rd_wd_s, rd_wd_n, rI_wJ, rd_wJ, rI_ix, wI_ix, rJ_ix, wJ_ix, zl_0, zl_1, zl_2, zl_3, zl_4, zl_5, zl_6, zl_7, zl_8, zl_9, zl_10, zl_11, zl_12, zl_13, zl_14, zl_15, zl_16, zl_20, zl_21, zl_22, zl_23, zl_24, zl_25, zl_26, zl_27, zl_28, zl_29, zl_30, zl_31, zl_32, zl_37, zl_40, zl_41, zl_42, zl_43, zl_44, zl_45, zl_46, zl_47, zl_48, zl_49, zl_50, zl_51, zl_52, zl_53, zl_54, zl_55, zl_56, zl_57, zl_58, zl_59, zl_60, zl_61, zl_62, zl_63, zl_64, zl_65, zl_74, zl_86, zl_90, zl_97, zl_98, zl_99, zl_100, zl_122, zl_140, zl_141, zl_142, zl_143, zl_145, zl_146, zl_147, zl_149, zl_150, zl_159, zl_160, zl_161, zl_162, zl_178, zl_199, zl_200, zl_201, zl_210, zl_230, zl_240, zl_245, zl_255, zl_256, zl_257, zl_288, zl_312, zl_332, zl_340, zl_356, zl_366, zl_399, zl_400, zl_500, zl_820, zl_966, zl_982, zl_998, zl_999, zl_1000, zl_1002, zl_1003, zl_1004, zl_1012, zl_1013, zl_1014, zl_1015, zl_1016, zl_1017, zl_1018, zl_1020, zl_1021, zl_1024, zl_1030, zl_1850, zl_2412, zl_2613, zl_9999, zl_10000, zl_99999, zl_1000000, zl_48, e4]
              exact e5
        have e6 := key FU 0 (by omega) (by have := FU_ge; omega)
        rw [show p + ((0 : Nat) : Int) = p by omega, show nv T p 0 = 0 from rfl] at e6
        have e85 := e_add85 (x := (256, nv T p (e - p).toNat, p)) hm m0 m1
        refine ⟨(256, nv T p (e - p).toNat, p), ?_, ⟨rfl, hE, Or.inr (Or.inl ⟨gd', Or.inl ⟨g4, rfl, rfl⟩⟩)⟩, ⟨Or.inl rfl, hnv.1, hnv2, p0, by show p ≤ 400; omega⟩⟩
        simp (disch := omega) only [zi_div, zi_and31, zi_neg, zi_add, zi_sub, zi_mul, zi_lt, zi_le, zi_eq, zi_imx, zi_imn, zi_iab, gd_i, vpb_0, vpb_1, b2i_0, b2i_1, b2i_e0, b2i_e1, lf_b, lf_s, lf_n, Option.bind_some, decide_eq_false_iff_not, decide_eq_true_eq, cif_t, cif_f, cif_pos, cif_neg, if_true, if_false, if_pos, if_neg, zi_ofNat, Nat.zero_add, Nat.reduceAdd, Nat.reduceSub, Nat.reduceMul, Int.reduceAdd, Int.reduceSub, Int.reduceMul, Int.reduceNeg, Bool.false_eq_true, reduceCtorEq, rI_wI_s, rI_wI_f, rI_wI_c, rI_wd_c, rd_wI_c, rd_wd_c, rd_wd_s, rd_wd_n, rI_wJ, rd_wJ, rI_ix, wI_ix, rJ_ix, wJ_ix, zl_0, zl_1, zl_2, zl_3, zl_4, zl_5, zl_6, zl_7, zl_8, zl_9, zl_10, zl_11, zl_12, zl_13, zl_14, zl_15, zl_16, zl_20, zl_21, zl_22, zl_23, zl_24, zl_25, zl_26, zl_27, zl_28, zl_29, zl_30, zl_31, zl_32, zl_37, zl_40, zl_41, zl_42, zl_43, zl_44, zl_45, zl_46, zl_47, zl_48, zl_49, zl_50, zl_51, zl_52, zl_53, zl_54, zl_55, zl_56, zl_57, zl_58, zl_59, zl_60, zl_61, zl_62, zl_63, zl_64, zl_65, zl_74, zl_86, zl_90, zl_97, zl_98, zl_99, zl_100, zl_122, zl_140, zl_141, zl_142, zl_143, zl_145, zl_146, zl_147, zl_149, zl_150, zl_159, zl_160, zl_161, zl_162, zl_178, zl_199, zl_200, zl_201, zl_210, zl_230, zl_240, zl_245, zl_255, zl_256, zl_257, zl_288, zl_312, zl_332, zl_340, zl_356, zl_366, zl_399, zl_400, zl_500, zl_820, zl_966, zl_982, zl_998, zl_999, zl_1000, zl_1002, zl_1003, zl_1004, zl_1012, zl_1013, zl_1014, zl_1015, zl_1016, zl_1017, zl_1018, zl_1020, zl_1021, zl_1024, zl_1030, zl_1850, zl_2412, zl_2613, zl_9999, zl_10000, zl_99999, zl_1000000, hm, e1, e2, e3, f_Re_number_eq, b_Re_number, e6]
        exact e85
      · obtain ⟨r, er, r0, r1, hr⟩ := e_indexOf (s := s) a0 a1
        have hr' : r < 0 := hr.mpr (by omega)
        have e85 := e_add85 (x := (257, 0, p)) hm m0 m1
        refine ⟨(257, 0, p), ?_, ⟨rfl, hE, Or.inr (Or.inl ⟨gd', Or.inr ⟨by omega, rfl, rfl⟩⟩)⟩, ⟨Or.inr (Or.inl rfl), Int.le_refl _, by show (0 : Int) ≤ 9999; omega, p0, by show p ≤ 400; omega⟩⟩
        simp (disch := omega) only [zi_div, zi_and31, zi_neg, zi_add, zi_sub, zi_mul, zi_lt, zi_le, zi_eq, zi_imx, zi_imn, zi_iab, gd_i, vpb_0, vpb_1, b2i_0, b2i_1, b2i_e0, b2i_e1, lf_b, lf_s, lf_n, Option.bind_some, decide_eq_false_iff_not, decide_eq_true_eq, cif_t, cif_f, cif_pos, cif_neg, if_true, if_false, if_pos, if_neg, zi_ofNat, Nat.zero_add, Nat.reduceAdd, Nat.reduceSub, Nat.reduceMul, Int.reduceAdd, Int.reduceSub, Int.reduceMul, Int.reduceNeg, Bool.false_eq_true, reduceCtorEq, rI_wI_s, rI_wI_f, rI_wI_c, rI_wd_c, rd_wI_c, rd_wd_c, rd_wd_s, rd_wd_n, rI_wJ, rd_wJ, rI_ix, wI_ix, rJ_ix, wJ_ix, zl_0, zl_1, zl_2, zl_3, zl_4, zl_5, zl_6, zl_7, zl_8, zl_9, zl_10, zl_11, zl_12, zl_13, zl_14, zl_15, zl_16, zl_20, zl_21, zl_22, zl_23, zl_24, zl_25, zl_26, zl_27, zl_28, zl_29, zl_30, zl_31, zl_32, zl_37, zl_40, zl_41, zl_42, zl_43, zl_44, zl_45, zl_46, zl_47, zl_48, zl_49, zl_50, zl_51, zl_52, zl_53, zl_54, zl_55, zl_56, zl_57, zl_58, zl_59, zl_60, zl_61, zl_62, zl_63, zl_64, zl_65, zl_74, zl_86, zl_90, zl_97, zl_98, zl_99, zl_100, zl_122, zl_140, zl_141, zl_142, zl_143, zl_145, zl_146, zl_147, zl_149, zl_150, zl_159, zl_160, zl_161, zl_162, zl_178, zl_199, zl_200, zl_201, zl_210, zl_230, zl_240, zl_245, zl_255, zl_256, zl_257, zl_288, zl_312, zl_332, zl_340, zl_356, zl_366, zl_399, zl_400, zl_500, zl_820, zl_966, zl_982, zl_998, zl_999, zl_1000, zl_1002, zl_1003, zl_1004, zl_1012, zl_1013, zl_1014, zl_1015, zl_1016, zl_1017, zl_1018, zl_1020, zl_1021, zl_1024, zl_1030, zl_1850, zl_2412, zl_2613, zl_9999, zl_10000, zl_99999, zl_1000000, hm, e1, e2, e3, f_Re_addToken_73, er]
        exact e85
    · rw [decide_eq_false gd] at e3
      have gd' := gd
      clear gd
      obtain ⟨r, er, r0, r1, hr⟩ := e_indexOf (s := s) a0 a1
      by_cases gs : sgn (T p)
      · have hr' : ¬ r < 0 := fun z => (hr.mp z) gs
        have e85 := e_add85 (x := (T p, 0, p)) hm m0 m1
        refine ⟨(T p, 0, p), ?_, ⟨rfl, hE, Or.inr (Or.inr ⟨gl', gd', rfl, Or.inl ⟨gs, rfl⟩⟩)⟩, ⟨Or.inr (Or.inr (Or.inr gs)), Int.le_refl _, by show (0 : Int) ≤ 9999; omega, p0, by show p ≤ 400; omega⟩⟩
        clear gs hr
        simp (disch := omega) only [zi_div, zi_and31, zi_neg, zi_add, zi_sub, zi_mul, zi_lt, zi_le, zi_eq, zi_imx, zi_imn, zi_iab, gd_i, vpb_0, vpb_1, b2i_0, b2i_1, b2i_e0, b2i_e1, lf_b, lf_s, lf_n, Option.bind_some, decide_eq_false_iff_not, decide_eq_true_eq, cif_t, cif_f, cif_pos, cif_neg, if_true, if_false, if_pos, if_neg, zi_ofNat, Nat.zero_add, Nat.reduceAdd, Nat.reduceSub, Nat.reduceMul, Int.reduceAdd, Int.reduceSub, Int.reduceMul, Int.reduceNeg, Bool.false_eq_true, reduceCtorEq, rI_wI_s, rI_wI_f, rI_wI_c, rI_wd_c, rd_wI_c, rd_wd_c, rd_wd_s, rd_wd_n, rI_wJ, rd_wJ, rI_ix, wI_ix, rJ_ix, wJ_ix, zl_0, zl_1, zl_2, zl_3, zl_4, zl_5, zl_6, zl_7, zl_8, zl_9, zl_10, zl_11, zl_12, zl_13, zl_14, zl_15, zl_16, zl_20, zl_21, zl_22, zl_23, zl_24, zl_25, zl_26, zl_27, zl_28, zl_29, zl_30, zl_31, zl_32, zl_37, zl_40, zl_41, zl_42, zl_43, zl_44, zl_45, zl_46, zl_47, zl_48, zl_49, zl_50, zl_51, zl_52, zl_53, zl_54, zl_55, zl_56, zl_57, zl_58, zl_59, zl_60, zl_61, zl_62, zl_63, zl_64, zl_65, zl_74, zl_86, zl_90, zl_97, zl_98, zl_99, zl_100, zl_122, zl_140, zl_141, zl_142, zl_143, zl_145, zl_146, zl_147, zl_149, zl_150, zl_159, zl_160, zl_161, zl_162, zl_178, zl_199, zl_200, zl_201, zl_210, zl_230, zl_240, zl_245, zl_255, zl_256, zl_257, zl_288, zl_312, zl_332, zl_340, zl_356, zl_366, zl_399, zl_400, zl_500, zl_820, zl_966, zl_982, zl_998, zl_999, zl_1000, zl_1002, zl_1003, zl_1004, zl_1012, zl_1013, zl_1014, zl_1015, zl_1016, zl_1017, zl_1018, zl_1020, zl_1021, zl_1024, zl_1030, zl_1850, zl_2412, zl_2613, zl_9999, zl_10000, zl_99999, zl_1000000, hm, e1, e2, e3, f_Re_addToken_73, er]
        exact e85
      · have hr' : r < 0 := hr.mpr gs
        have e85 := e_add85 (x := (257, 0, p)) hm m0 m1
        refine ⟨(257, 0, p), ?_, ⟨rfl, hE, Or.inr (Or.inr ⟨gl', gd', rfl, Or.inr ⟨gs, rfl⟩⟩)⟩, ⟨Or.inr (Or.inl rfl), Int.le_refl _, by show (0 : Int) ≤ 9999; omega, p0, by show p ≤ 400; omega⟩⟩
        clear gs hr
        simp (disch := omega) only [zi_div, zi_and31, zi_neg, zi_add, zi_sub, zi_mul, zi_lt, zi_le, zi_eq, zi_imx, zi_imn, zi_iab, gd_i, vpb_0, vpb_1, b2i_0, b2i_1, b2i_e0, b2i_e1, lf_b, lf_s, lf_n, Option.bind_some, decide_eq_false_iff_not, decide_eq_true_eq, cif_t, cif_f, cif_pos, cif_neg, if_true, if_false, if_pos, if_neg, zi_ofNat, Nat.zero_add, Nat.reduceAdd, Nat.reduceSub, Nat.reduceMul, Int.reduceAdd, Int.reduceSub, Int.reduceMul, Int.reduceNeg, Bool.false_eq_true, reduceCtorEq, rI_wI_s, rI_wI_f, rI_wI_c, rI_wd_c, rd_wI_c, rd_wd_c, rd_wd_s, rd_wd_n, rI_wJ, rd_wJ, rI_ix, wI_ix, rJ_ix, wJ_ix, zl_0, zl_1, zl_2, zl_3, zl_4, zl_5, zl_6, zl_7, zl_8, zl_9, zl_10, zl_11, zl_12, zl_13, zl_14, zl_15, zl_16, zl_20, zl_21, zl_22, zl_23, zl_24, zl_25, zl_26, zl_27, zl_28, zl_29, zl_30, zl_31, zl_32, zl_37, zl_40, zl_41, zl_42, zl_43, zl_44, zl_45, zl_46, zl_47, zl_48, zl_49, zl_50, zl_51, zl_52, zl_53, zl_54, zl_55, zl_56, zl_57, zl_58, zl_59, zl_60, zl_61, zl_62, zl_63, zl_64, zl_65, zl_74, zl_86, zl_90, zl_97, zl_98, zl_99, zl_100, zl_122, zl_140, zl_141, zl_142, zl_143, zl_145, zl_146, zl_147, zl_149, zl_150, zl_159, zl_160, zl_161, zl_162, zl_178, zl_199, zl_200, zl_201, zl_210, zl_230, zl_240, zl_245, zl_255, zl_256, zl_257, zl_288, zl_312, zl_332, zl_340, zl_356, zl_366, zl_399, zl_400, zl_500, zl_820, zl_966, zl_982, zl_998, zl_999, zl_1000, zl_1002, zl_1003, zl_1004, zl_1012, zl_1013, zl_1014, zl_1015, zl_1016, zl_1017, zl_1018, zl_1020, zl_1021, zl_1024, zl_1030, zl_1850, zl_2412, zl_2613, zl_9999, zl_10000, zl_99999, zl_1000000, hm, e1, e2, e3, f_Re_addToken_73, er]
        exact e85
/-- all tokens -/
theorem e_scan26 {T : Int → Int} {t : Int} : ∀ (n : Nat) (p i m : Int) (s : Mem), TpC T t s → rI s 160 7 = zi t → rI s 160 8 = zi m → 0 ≤ p → p ≤ t → 0 ≤ i → i ≤ p → 0 ≤ m → m ≤ p → t - p < n → ∃ (rest : List Tok) (s' : Mem), f_Re_scan_26 n 160 (zi p) (zi i) s = some s' ∧ rI s' 160 8 = zi (m + rest.length) ∧ m + rest.length ≤ t ∧ Ar s' m rest ∧ NX T t p rest ∧ (∀ k j : Nat, ¬ (k = 160 ∧ j = 8) → ¬ (162 ≤ k ∧ k ≤ 164) → rI s' k j = rI s k j) ∧ (∀ (k : Nat) (z : Int), 162 ≤ k → k ≤ 164 → 0 ≤ z → z < m → rd s' k z = rd s k z) := by
  intro n
  induction n with
  | zero => intro p i m s hT h7 h8 p0 p1 i0 i1 m0 m1 hn; omega
  | succ n ih =>
    intro p i m s hT h7 h8 p0 p1 i0 i1 m0 m1 hn
    obtain ⟨t0, t1, hTT⟩ := id hT
    rw [f_Re_scan_26]
    by_cases g : p = t
    · refine ⟨[], s, ?_, by simpa using h8, by simp; omega, trivial, fun i i0 i1 => by omega, fun _ _ _ _ => rfl, fun _ _ _ _ _ _ => rfl⟩
      by_cases gi : i = 400
      · simp (disch := omega) only [zi_div, zi_and31, zi_neg, zi_add, zi_sub, zi_mul, zi_lt, zi_le, zi_eq, zi_imx, zi_imn, zi_iab, gd_i, vpb_0, vpb_1, b2i_0, b2i_1, b2i_e0, b2i_e1, lf_b, lf_s, lf_n, Option.bind_some, decide_eq_false_iff_not, decide_eq_true_eq, cif_t, cif_f, cif_pos, cif_neg, if_true, if_false, if_pos, if_neg, zi_ofNat, Nat.zero_add, Nat.reduceAdd, Nat.reduceSub, Nat.reduceMul, Int.reduceAdd, Int.reduceSub, Int.reduceMul, Int.reduceNeg, Bool.false_eq_true, reduceCtorEq, rI_wI_s, rI_wI_f, rI_wI_c, rI_wd_c, rd_wI_c, rd_wd_c, rd_wd_s, rd_wd_n, rI_wJ, rd_wJ, rI_ix, wI_ix, rJ_ix, wJ_ix, zl_0, zl_1, zl_2, zl_3, zl_4, zl_5, zl_6, zl_7, zl_8, zl_9, zl_10, zl_11, zl_12, zl_13, zl_14, zl_15, zl_16, zl_20, zl_21, zl_22, zl_23, zl_24, zl_25, zl_26, zl_27, zl_28, zl_29, zl_30, zl_31, zl_32, zl_37, zl_40, zl_41, zl_42, zl_43, zl_44, zl_45, zl_46, zl_47, zl_48, zl_49, zl_50, zl_51, zl_52, zl_53, zl_54, zl_55, zl_56, zl_57, zl_58, zl_59, zl_60, zl_61, zl_62, zl_63, zl_64, zl_65, zl_74, zl_86, zl_90, zl_97, zl_98, zl_99, zl_100, zl_122, zl_140, zl_141, zl_142, zl_143, zl_145, zl_146, zl_147, zl_149, zl_150, zl_159, zl_160, zl_161, zl_162, zl_178, zl_199, zl_200, zl_201, zl_210, zl_230, zl_240, zl_245, zl_255, zl_256, zl_257, zl_288, zl_312, zl_332, zl_340, zl_356, zl_366, zl_399, zl_400, zl_500, zl_820, zl_966, zl_982, zl_998, zl_999, zl_1000, zl_1002, zl_1003, zl_1004, zl_1012, zl_1013, zl_1014, zl_1015, zl_1016, zl_1017, zl_1018, zl_1020, zl_1021, zl_1024, zl_1030, zl_1850, zl_2412, zl_2613, zl_9999, zl_10000, zl_99999, zl_1000000, h7]
      · simp (disch := omega) only [zi_div, zi_and31, zi_neg, zi_add, zi_sub, zi_mul, zi_lt, zi_le, zi_eq, zi_imx, zi_imn, zi_iab, gd_i, vpb_0, vpb_1, b2i_0, b2i_1, b2i_e0, b2i_e1, lf_b, lf_s, lf_n, Option.bind_some, decide_eq_false_iff_not, decide_eq_true_eq, cif_t, cif_f, cif_pos, cif_neg, if_true, if_false, if_pos, if_neg, zi_ofNat, Nat.zero_add, Nat.reduceAdd, Nat.reduceSub, Nat.reduceMul, Int.reduceAdd, Int.reduceSub, Int.reduceMul, Int.reduceNeg, Bool.false_eq_true, reduceCtorEq, rI_wI_s, rI_wI_f, rI_wI_c, rI_wd_c, rd_wI_c, rd_wd_c, rd_wd_s, rd_wd_n, rI_wJ, rd_wJ, rI_ix, wI_ix, rJ_ix, wJ_ix, zl_0, zl_1, zl_2, zl_3, zl_4, zl_5, zl_6, zl_7, zl_8, zl_9, zl_10, zl_11, zl_12, zl_13, zl_14, zl_15, zl_16, zl_20, zl_21, zl_22, zl_23, zl_24, zl_25, zl_26, zl_27, zl_28, zl_29, zl_30, zl_31, zl_32, zl_37, zl_40, zl_41, zl_42, zl_43, zl_44, zl_45, zl_46, zl_47, zl_48, zl_49, zl_50, zl_51, zl_52, zl_53, zl_54, zl_55, zl_56, zl_57, zl_58, zl_59, zl_60, zl_61, zl_62, zl_63, zl_64, zl_65, zl_74, zl_86, zl_90, zl_97, zl_98, zl_99, zl_100, zl_122, zl_140, zl_141, zl_142, zl_143, zl_145, zl_146, zl_147, zl_149, zl_150, zl_159, zl_160, zl_161, zl_162, zl_178, zl_199, zl_200, zl_201, zl_210, zl_230, zl_240, zl_245, zl_255, zl_256, zl_257, zl_288, zl_312, zl_332, zl_340, zl_356, zl_366, zl_399, zl_400, zl_500, zl_820, zl_966, zl_982, zl_998, zl_999, zl_1000, zl_1002, zl_1003, zl_1004, zl_1012, zl_1013, zl_1014, zl_1015, zl_1016, zl_1017, zl_1018, zl_1020, zl_1021, zl_1024, zl_1030, zl_1850, zl_2412, zl_2613, zl_9999, zl_10000, zl_99999, zl_1000000, h7]
    · obtain ⟨e, ee, hE⟩ := e_tokenEnd hT h7 p0 (by omega)
      obtain ⟨q1, q2, -, -, q5⟩ := id hE
      have e1 := e_byteAt hT p0 (by omega : p < t)
      obtain ⟨a0, a1, a2⟩ := hTT p p0 (by omega)
      have e2 := e_isBlank (s := s) a0 a1
      by_cases gb : blk (T p)
      · have e51 := q5 (by omega) (by omega)
        rw [decide_eq_true gb] at e2
        obtain ⟨rest, s', f1, f2, f3, f4, f5, f6, f7⟩ := ih e (i + 1) m s hT h7 h8 (by omega) q2 (by omega) (by omega) m0 (by omega) (by omega)
        refine ⟨rest, s', ?_, f2, f3, f4, ?_, f6, f7⟩
        · clear gb
          simp (disch := omega) only [zi_div, zi_and31, zi_neg, zi_add, zi_sub, zi_mul, zi_lt, zi_le, zi_eq, zi_imx, zi_imn, zi_iab, gd_i, vpb_0, vpb_1, b2i_0, b2i_1, b2i_e0, b2i_e1, lf_b, lf_s, lf_n, Option.bind_some, decide_eq_false_iff_not, decide_eq_true_eq, cif_t, cif_f, cif_pos, cif_neg, if_true, if_false, if_pos, if_neg, zi_ofNat, Nat.zero_add, Nat.reduceAdd, Nat.reduceSub, Nat.reduceMul, Int.reduceAdd, Int.reduceSub, Int.reduceMul, Int.reduceNeg, Bool.false_eq_true, reduceCtorEq, rI_wI_s, rI_wI_f, rI_wI_c, rI_wd_c, rd_wI_c, rd_wd_c, rd_wd_s, rd_wd_n, rI_wJ, rd_wJ, rI_ix, wI_ix, rJ_ix, wJ_ix, zl_0, zl_1, zl_2, zl_3, zl_4, zl_5, zl_6, zl_7, zl_8, zl_9, zl_10, zl_11, zl_12, zl_13, zl_14, zl_15, zl_16, zl_20, zl_21, zl_22, zl_23, zl_24, zl_25, zl_26, zl_27, zl_28, zl_29, zl_30, zl_31, zl_32, zl_37, zl_40, zl_41, zl_42, zl_43, zl_44, zl_45, zl_46, zl_47, zl_48, zl_49, zl_50, zl_51, zl_52, zl_53, zl_54, zl_55, zl_56, zl_57, zl_58, zl_59, zl_60, zl_61, zl_62, zl_63, zl_64, zl_65, zl_74, zl_86, zl_90, zl_97, zl_98, zl_99, zl_100, zl_122, zl_140, zl_141, zl_142, zl_143, zl_145, zl_146, zl_147, zl_149, zl_150, zl_159, zl_160, zl_161, zl_162, zl_178, zl_199, zl_200, zl_201, zl_210, zl_230, zl_240, zl_245, zl_255, zl_256, zl_257, zl_288, zl_312, zl_332, zl_340, zl_356, zl_366, zl_399, zl_400, zl_500, zl_820, zl_966, zl_982, zl_998, zl_999, zl_1000, zl_1002, zl_1003, zl_1004, zl_1012, zl_1013, zl_1014, zl_1015, zl_1016, zl_1017, zl_1018, zl_1020, zl_1021, zl_1024, zl_1030, zl_1850, zl_2412, zl_2613, zl_9999, zl_10000, zl_99999, zl_1000000, h7, ee, e1, e2]
          exact f1
        · cases rest with
          | nil =>
            intro j j0 j1
            by_cases hj : j = p
            · rw [hj]; exact gb
            · exact f5 j (by omega) j1
          | cons x r =>
            obtain ⟨x1, x2, x3, x4, x5⟩ := f5
            refine ⟨by omega, x2, ?_, x4, x5⟩
            intro j j0 j1
            by_cases hj : j = p
            · rw [hj]; exact gb
            · exact x3 j (by omega) j1
      · rw [decide_eq_false gb] at e2
        obtain ⟨x, ex, hx, hok⟩ := e_addToken hT p0 (by omega) hE h8 m0 (by omega)
        have hT' : TpC T t (stT s m x) := by
          refine ⟨t0, t1, fun j j0 j1 => ?_⟩
          obtain ⟨b0, b1, b2⟩ := hTT j j0 j1
          refine ⟨b0, b1, ?_⟩
          unfold stT
          simp (disch := omega) only [rI_wI_s, rI_wI_f, rI_wI_c, rI_wd_c, rd_wI_c, rd_wd_c, rd_wd_s, rd_wd_n, rI_wJ, rd_wJ, rI_ix, wI_ix, rJ_ix, wJ_ix, rI_wI_o, Nat.reduceAdd]
          exact b2
        obtain ⟨rest, s', f1, f2, f3, f4, f5, f6, f7⟩ := ih e (i + 1) (m + 1) (stT s m x) hT' (by unfold stT; simp (disch := omega) only [rI_wI_s, rI_wI_f, rI_wI_c, rI_wd_c, rd_wI_c, rd_wd_c, rd_wd_s, rd_wd_n, rI_wJ, rd_wJ, rI_ix, wI_ix, rJ_ix, wJ_ix, rI_wI_o, Nat.reduceAdd]; exact h7) (by unfold stT; simp (disch := omega) only [rI_wI_s, rI_wI_f, rI_wI_c, rI_wd_c, rd_wI_c, rd_wd_c, rd_wd_s, rd_wd_n, rI_wJ, rd_wJ, rI_ix, wI_ix, rJ_ix, wJ_ix, rI_wI_o, Nat.reduceAdd]) (by omega) q2 (by omega) (by omega) (by omega) (by omega) (by omega)
        refine ⟨x :: rest, s', ?_, ?_, ?_, ⟨?_, ?_, ?_, hok, f4⟩, ?_, fun k j h1 h2 => (f6 k j h1 h2).trans (by unfold stT; simp (disch := omega) only [rI_wI_s, rI_wI_f, rI_wI_c, rI_wd_c, rd_wI_c, rd_wd_c, rd_wd_s, rd_wd_n, rI_wJ, rd_wJ, rI_ix, wI_ix, rJ_ix, wJ_ix, rI_wI_o, Nat.reduceAdd]), fun k z k0 k1 z0 z1 => (f7 k z k0 k1 z0 (by omega)).trans ?_⟩
        · clear gb
          simp (disch := omega) only [zi_div, zi_and31, zi_neg, zi_add, zi_sub, zi_mul, zi_lt, zi_le, zi_eq, zi_imx, zi_imn, zi_iab, gd_i, vpb_0, vpb_1, b2i_0, b2i_1, b2i_e0, b2i_e1, lf_b, lf_s, lf_n, Option.bind_some, decide_eq_false_iff_not, decide_eq_true_eq, cif_t, cif_f, cif_pos, cif_neg, if_true, if_false, if_pos, if_neg, zi_ofNat, Nat.zero_add, Nat.reduceAdd, Nat.reduceSub, Nat.reduceMul, Int.reduceAdd, Int.reduceSub, Int.reduceMul, Int.reduceNeg, Bool.false_eq_true, reduceCtorEq, rI_wI_s, rI_wI_f, rI_wI_c, rI_wd_c, rd_wI_c, rd_wd_c, rd_wd_s, rd_wd_n, rI_wJ, rd_wJ, rI_ix, wI_ix, rJ_ix, wJ_ix, zl_0, zl_1, zl_2, zl_3, zl_4, zl_5, zl_6, zl_7, zl_8, zl_9, zl_10, zl_11, zl_12, zl_13, zl_14, zl_15, zl_16, zl_20, zl_21, zl_22, zl_23, zl_24, zl_25, zl_26, zl_27, zl_28, zl_29, zl_30, zl_31, zl_32, zl_37, zl_40, zl_41, zl_42, zl_43, zl_44, zl_45, zl_46, zl_47, zl_48, zl_49, zl_50, zl_51, zl_52, zl_53, zl_54, zl_55, zl_56, zl_57, zl_58, zl_59, zl_60, zl_61, zl_62, zl_63, zl_64, zl_65, zl_74, zl_86, zl_90, zl_97, zl_98, zl_99, zl_100, zl_122, zl_140, zl_141, zl_142, zl_143, zl_145, zl_146, zl_147, zl_149, zl_150, zl_159, zl_160, zl_161, zl_162, zl_178, zl_199, zl_200, zl_201, zl_210, zl_230, zl_240, zl_245, zl_255, zl_256, zl_257, zl_288, zl_312, zl_332, zl_340, zl_356, zl_366, zl_399, zl_400, zl_500, zl_820, zl_966, zl_982, zl_998, zl_999, zl_1000, zl_1002, zl_1003, zl_1004, zl_1012, zl_1013, zl_1014, zl_1015, zl_1016, zl_1017, zl_1018, zl_1020, zl_1021, zl_1024, zl_1030, zl_1850, zl_2412, zl_2613, zl_9999, zl_10000, zl_99999, zl_1000000, h7, ee, e1, e2, ex]
          exact f1
        · rw [f2]
          simp only [List.length_cons]
          rw [show m + 1 + (rest.length : Int) = m + ((rest.length + 1 : Nat) : Int) by omega]
        · simp only [List.length_cons]; omega
        · rw [f7 162 m (by omega) (by omega) m0 (by omega)]
          unfold stT
          simp (disch := omega) only [rI_wI_s, rI_wI_f, rI_wI_c, rI_wd_c, rd_wI_c, rd_wd_c, rd_wd_s, rd_wd_n, rI_wJ, rd_wJ, rI_ix, wI_ix, rJ_ix, wJ_ix, rI_wI_o, Nat.reduceAdd]
        · rw [f7 163 m (by omega) (by omega) m0 (by omega)]
          unfold stT
          simp (disch := omega) only [rI_wI_s, rI_wI_f, rI_wI_c, rI_wd_c, rd_wI_c, rd_wd_c, rd_wd_s, rd_wd_n, rI_wJ, rd_wJ, rI_ix, wI_ix, rJ_ix, wJ_ix, rI_wI_o, Nat.reduceAdd]
        · rw [f7 164 m (by omega) (by omega) m0 (by omega)]
          unfold stT
          simp (disch := omega) only [rI_wI_s, rI_wI_f, rI_wI_c, rI_wd_c, rd_wI_c, rd_wd_c, rd_wd_s, rd_wd_n, rI_wJ, rd_wJ, rI_ix, wI_ix, rJ_ix, wJ_ix, rI_wI_o, Nat.reduceAdd]
        · have hpl : x.2.2 = p := hx.1
          refine ⟨by omega, by omega, fun j j0 j1 => by omega, by rw [hpl]; exact gb, e, by rw [hpl]; exact hx, f5⟩
        · unfold stT
          have hk : k = 162 ∨ k = 163 ∨ k = 164 := by omega
          rcases hk with rfl | rfl | rfl <;> simp (disch := omega) only [rI_wI_s, rI_wI_f, rI_wI_c, rI_wd_c, rd_wI_c, rd_wd_c, rd_wd_s, rd_wd_n, rI_wJ, rd_wJ, rI_ix, wI_ix, rJ_ix, wJ_ix, rI_wI_o, Nat.reduceAdd]
theorem e_scan {T : Int → Int} {t : Int} {s : Mem} (hT : TpC T t s) (h6 : rI s 160 6 = zi t) : ∃ (rest : List Tok) (s' : Mem), f_Re_scan 160 s = some s' ∧ rI s' 160 8 = zi rest.length ∧ rest.length ≤ t ∧ Ar s' 0 rest ∧ NX T t 0 rest ∧ rI s' 160 9 = zi 0 ∧ rI s' 160 7 = zi t ∧ rI s' 160 6 = zi 0 ∧ rI s' 160 10 = zi 0 ∧ rI s' 160 11 = zi (-1) ∧ (∀ k j : Nat, k ≠ 160 → ¬ (162 ≤ k ∧ k ≤ 164) → rI s' k j = rI s k j) := by
  rw [f_Re_scan_eq, b_Re_scan, f_Re_discard_eq, b_Re_discard]
  simp (disch := omega) only [zi_div, zi_and31, zi_neg, zi_add, zi_sub, zi_mul, zi_lt, zi_le, zi_eq, zi_imx, zi_imn, zi_iab, gd_i, vpb_0, vpb_1, b2i_0, b2i_1, b2i_e0, b2i_e1, lf_b, lf_s, lf_n, Option.bind_some, decide_eq_false_iff_not, decide_eq_true_eq, cif_t, cif_f, cif_pos, cif_neg, if_true, if_false, if_pos, if_neg, zi_ofNat, Nat.zero_add, Nat.reduceAdd, Nat.reduceSub, Nat.reduceMul, Int.reduceAdd, Int.reduceSub, Int.reduceMul, Int.reduceNeg, Bool.false_eq_true, reduceCtorEq, rI_wI_s, rI_wI_f, rI_wI_c, rI_wd_c, rd_wI_c, rd_wd_c, rd_wd_s, rd_wd_n, rI_wJ, rd_wJ, rI_ix, wI_ix, rJ_ix, wJ_ix, zl_0, zl_1, zl_2, zl_3, zl_4, zl_5, zl_6, zl_7, zl_8, zl_9, zl_10, zl_11, zl_12, zl_13, zl_14, zl_15, zl_16, zl_20, zl_21, zl_22, zl_23, zl_24, zl_25, zl_26, zl_27, zl_28, zl_29, zl_30, zl_31, zl_32, zl_37, zl_40, zl_41, zl_42, zl_43, zl_44, zl_45, zl_46, zl_47, zl_48, zl_49, zl_50, zl_51, zl_52, zl_53, zl_54, zl_55, zl_56, zl_57, zl_58, zl_59, zl_60, zl_61, zl_62, zl_63, zl_64, zl_65, zl_74, zl_86, zl_90, zl_97, zl_98, zl_99, zl_100, zl_122, zl_140, zl_141, zl_142, zl_143, zl_145, zl_146, zl_147, zl_149, zl_150, zl_159, zl_160, zl_161, zl_162, zl_178, zl_199, zl_200, zl_201, zl_210, zl_230, zl_240, zl_245, zl_255, zl_256, zl_257, zl_288, zl_312, zl_332, zl_340, zl_356, zl_366, zl_399, zl_400, zl_500, zl_820, zl_966, zl_982, zl_998, zl_999, zl_1000, zl_1002, zl_1003, zl_1004, zl_1012, zl_1013, zl_1014, zl_1015, zl_1016, zl_1017, zl_1018, zl_1020, zl_1021, zl_1024, zl_1030, zl_1850, zl_2412, zl_2613, zl_9999, zl_10000, zl_99999, zl_1000000, h6]
  obtain ⟨t0, t1, hTT⟩ := id hT
  obtain ⟨rest, s', f1, f2, f3, f4, f5, f6, f7⟩ := e_scan26 (T := T) (t := t) FU 0 0 0 (wI (wI (wI (wI (wI (wI s 160 8 (zi 0)) 160 9 (zi 0)) 160 7 (zi t)) 160 10 (zi 0)) 160 11 (zi (-1))) 160 6 (zi 0)) ⟨t0, t1, fun j j0 j1 => by simp (disch := omega) only [rI_wI_s, rI_wI_f, rI_wI_c, rI_wd_c, rd_wI_c, rd_wd_c, rd_wd_s, rd_wd_n, rI_wJ, rd_wJ, rI_ix, wI_ix, rJ_ix, wJ_ix, rI_wI_o, Nat.reduceAdd]; exact hTT j j0 j1⟩ (by simp (disch := omega) only [rI_wI_s, rI_wI_f, rI_wI_c, rI_wd_c, rd_wI_c, rd_wd_c, rd_wd_s, rd_wd_n, rI_wJ, rd_wJ, rI_ix, wI_ix, rJ_ix, wJ_ix, rI_wI_o, Nat.reduceAdd]) (by simp (disch := omega) only [rI_wI_s, rI_wI_f, rI_wI_c, rI_wd_c, rd_wI_c, rd_wd_c, rd_wd_s, rd_wd_n, rI_wJ, rd_wJ, rI_ix, wI_ix, rJ_ix, wJ_ix, rI_wI_o, Nat.reduceAdd]) (by omega) t0 (by omega) (by omega) (by omega) (by omega) (by have := FU_ge; omega)
  refine ⟨rest, s', f1, by rw [f2, Int.zero_add], by omega, f4, f5, ?_, ?_, ?_, ?_, ?_, fun k j h1 h2 => ?_⟩
  · rw [f6 160 9 (by omega) (by omega)]; simp (disch := omega) only [rI_wI_s, rI_wI_f, rI_wI_c, rI_wd_c, rd_wI_c, rd_wd_c, rd_wd_s, rd_wd_n, rI_wJ, rd_wJ, rI_ix, wI_ix, rJ_ix, wJ_ix, rI_wI_o, Nat.reduceAdd]
  · rw [f6 160 7 (by omega) (by omega)]; simp (disch := omega) only [rI_wI_s, rI_wI_f, rI_wI_c, rI_wd_c, rd_wI_c, rd_wd_c, rd_wd_s, rd_wd_n, rI_wJ, rd_wJ, rI_ix, wI_ix, rJ_ix, wJ_ix, rI_wI_o, Nat.reduceAdd]
  · rw [f6 160 6 (by omega) (by omega)]; simp (disch := omega) only [rI_wI_s, rI_wI_f, rI_wI_c, rI_wd_c, rd_wI_c, rd_wd_c, rd_wd_s, rd_wd_n, rI_wJ, rd_wJ, rI_ix, wI_ix, rJ_ix, wJ_ix, rI_wI_o, Nat.reduceAdd]
  · rw [f6 160 10 (by omega) (by omega)]; simp (disch := omega) only [rI_wI_s, rI_wI_f, rI_wI_c, rI_wd_c, rd_wI_c, rd_wd_c, rd_wd_s, rd_wd_n, rI_wJ, rd_wJ, rI_ix, wI_ix, rJ_ix, wJ_ix, rI_wI_o, Nat.reduceAdd]
  · rw [f6 160 11 (by omega) (by omega)]; simp (disch := omega) only [rI_wI_s, rI_wI_f, rI_wI_c, rI_wd_c, rd_wI_c, rd_wd_c, rd_wd_s, rd_wd_n, rI_wJ, rd_wJ, rI_ix, wI_ix, rJ_ix, wJ_ix, rI_wI_o, Nat.reduceAdd]
  · rw [f6 k j (by omega) h2]; simp (disch := omega) only [rI_wI_s, rI_wI_f, rI_wI_c, rI_wd_c, rd_wI_c, rd_wd_c, rd_wd_s, rd_wd_n, rI_wJ, rd_wJ, rI_ix, wI_ix, rJ_ix, wJ_ix, rI_wI_o, Nat.reduceAdd]
