/-! tokens told by the model one by one -/
def tw (R w : Int) : Int := if R = 0 then (if w ≤ 2 then 20 + w else if w ≤ 12 then 38 + w else if w = 13 then 3 else if w = 14 then 4 else if w = 15 then 5 else if w = 16 then 6 else 1) else if R = 1 then (if w = 17 then 7 else if w = 3 then 8 else if w = 4 then 9 else 1) else if R = 2 then (if 18 ≤ w ∧ w ≤ 20 then w - 8 else 1) else (if w = 21 then 13 else 1)
def tm (R so : Int) : Int := if so = 256 then 2 else if so < 256 then 100 + so else if so = 257 then 1 else tw R (so - 1000)
theorem cfF {α : Type} {x y : α} : cif (b2i false = 0) x y = x := cif_pos rfl
theorem cfT {α : Type} {x y : α} : cif (b2i true = 0) x y = y := cif_neg (by decide)
theorem e_word0 {σ : Mem} {v : Nat} (hb : ∀ w : Nat, w < 22 → f_M_is 0 (wtx w) σ = some (decide (v = w), σ)) (hv : v < 22 ∨ v = 99) (hR : rI σ 0 12 = zi 0) : f_M_word 0 σ = some (zi (tw 0 v), σ) := by
  rw [f_M_word_eq, b_M_word]
  simp (disch := omega) only [zi_div, zi_and31, zi_neg, zi_add, zi_sub, zi_mul, zi_lt, zi_le, zi_eq, zi_imx, zi_imn, zi_iab, gd_i, vpb_0, vpb_1, b2i_0, b2i_1, b2i_e0, b2i_e1, lf_b, lf_s, lf_n, Option.bind_some, decide_eq_false_iff_not, decide_eq_true_eq, cif_t, cif_f, cif_pos, cif_neg, if_true, if_false, if_pos, if_neg, zi_ofNat, Nat.zero_add, Nat.reduceAdd, Nat.reduceSub, Nat.reduceMul, Int.reduceAdd, Int.reduceSub, Int.reduceMul, Int.reduceNeg, Bool.false_eq_true, reduceCtorEq, rI_wI_s, rI_wI_f, rI_wI_c, rI_wd_c, rd_wI_c, rd_wd_c, rd_wd_s, rd_wd_n, rI_wJ, rd_wJ, rI_ix, wI_ix, rJ_ix, wJ_ix, zl_0, zl_1, zl_2, zl_3, zl_4, zl_5, zl_6, zl_7, zl_8, zl_9, zl_10, zl_11, zl_12, zl_13, zl_14, zl_15, zl_16, zl_20, zl_21, zl_22, zl_23, zl_24, zl_25, zl_26, zl_27, zl_28, zl_29, zl_30, zl_31, zl_32, zl_37, zl_40, zl_41, zl_42, zl_43, zl_44, zl_45, zl_46, zl_47, zl_48, zl_49, zl_50, zl_51, zl_52, zl_53, zl_54, zl_55, zl_56, zl_57, zl_58, zl_59, zl_60, zl_61, zl_62, zl_63, zl_64, zl_65, zl_74, zl_86, zl_90, zl_97, zl_98, zl_99, zl_100, zl_122, zl_140, zl_141, zl_142, zl_143, zl_145, zl_146, zl_147, zl_149, zl_150, zl_159, zl_160, zl_161, zl_162, zl_178, zl_199, zl_200, zl_201, zl_210, zl_230, zl_240, zl_245, zl_255, zl_256, zl_257, zl_288, zl_312, zl_332, zl_340, zl_356, zl_366, zl_399, zl_400, zl_500, zl_820, zl_966, zl_982, zl_998, zl_999, zl_1000, zl_1002, zl_1003, zl_1004, zl_1012, zl_1013, zl_1014, zl_1015, zl_1016, zl_1017, zl_1018, zl_1020, zl_1021, zl_1024, zl_1030, zl_1850, zl_2412, zl_2613, zl_9999, zl_10000, zl_99999, zl_1000000, hR]
  have hv' : v = 0 ∨ v = 1 ∨ v = 2 ∨ v = 3 ∨ v = 4 ∨ v = 5 ∨ v = 6 ∨ v = 7 ∨ v = 8 ∨ v = 9 ∨ v = 10 ∨ v = 11 ∨ v = 12 ∨ v = 13 ∨ v = 14 ∨ v = 15 ∨ v = 16 ∨ v = 17 ∨ v = 18 ∨ v = 19 ∨ v = 20 ∨ v = 21 ∨ v = 99 := by omega
  rcases hv' with rfl | rfl | rfl | rfl | rfl | rfl | rfl | rfl | rfl | rfl | rfl | rfl | rfl | rfl | rfl | rfl | rfl | rfl | rfl | rfl | rfl | rfl | rfl
  · have i13 : f_M_is 0 21 σ = some (false, σ) := hb 13 (by decide)
    have i14 : f_M_is 0 14 σ = some (false, σ) := hb 14 (by decide)
    have i15 : f_M_is 0 1 σ = some (false, σ) := hb 15 (by decide)
    have i16 : f_M_is 0 12 σ = some (false, σ) := hb 16 (by decide)
    have i0 : f_M_is 0 16 σ = some (true, σ) := hb 0 (by decide)
    simp only [f_M_lawWord_eq, b_M_lawWord, f_M_asked_eq, b_M_asked, i13, i14, i15, i16, i0, Option.bind_some, cfF, cfT, reduceCtorEq, cif_t, cif_f]
    rfl
  · have i13 : f_M_is 0 21 σ = some (false, σ) := hb 13 (by decide)
    have i14 : f_M_is 0 14 σ = some (false, σ) := hb 14 (by decide)
    have i15 : f_M_is 0 1 σ = some (false, σ) := hb 15 (by decide)
    have i16 : f_M_is 0 12 σ = some (false, σ) := hb 16 (by decide)
    have i0 : f_M_is 0 16 σ = some (false, σ) := hb 0 (by decide)
    have i1 : f_M_is 0 20 σ = some (true, σ) := hb 1 (by decide)
    simp only [f_M_lawWord_eq, b_M_lawWord, f_M_asked_eq, b_M_asked, i13, i14, i15, i16, i0, i1, Option.bind_some, cfF, cfT, reduceCtorEq, cif_t, cif_f]
    rfl
  · have i13 : f_M_is 0 21 σ = some (false, σ) := hb 13 (by decide)
    have i14 : f_M_is 0 14 σ = some (false, σ) := hb 14 (by decide)
    have i15 : f_M_is 0 1 σ = some (false, σ) := hb 15 (by decide)
    have i16 : f_M_is 0 12 σ = some (false, σ) := hb 16 (by decide)
    have i0 : f_M_is 0 16 σ = some (false, σ) := hb 0 (by decide)
    have i1 : f_M_is 0 20 σ = some (false, σ) := hb 1 (by decide)
    have i2 : f_M_is 0 18 σ = some (true, σ) := hb 2 (by decide)
    simp only [f_M_lawWord_eq, b_M_lawWord, f_M_asked_eq, b_M_asked, i13, i14, i15, i16, i0, i1, i2, Option.bind_some, cfF, cfT, reduceCtorEq, cif_t, cif_f]
    rfl
  · have i13 : f_M_is 0 21 σ = some (false, σ) := hb 13 (by decide)
    have i14 : f_M_is 0 14 σ = some (false, σ) := hb 14 (by decide)
    have i15 : f_M_is 0 1 σ = some (false, σ) := hb 15 (by decide)
    have i16 : f_M_is 0 12 σ = some (false, σ) := hb 16 (by decide)
    have i0 : f_M_is 0 16 σ = some (false, σ) := hb 0 (by decide)
    have i1 : f_M_is 0 20 σ = some (false, σ) := hb 1 (by decide)
    have i2 : f_M_is 0 18 σ = some (false, σ) := hb 2 (by decide)
    have i3 : f_M_is 0 4 σ = some (true, σ) := hb 3 (by decide)
    simp only [f_M_lawWord_eq, b_M_lawWord, f_M_asked_eq, b_M_asked, i13, i14, i15, i16, i0, i1, i2, i3, Option.bind_some, cfF, cfT, reduceCtorEq, cif_t, cif_f]
    rfl
  · have i13 : f_M_is 0 21 σ = some (false, σ) := hb 13 (by decide)
    have i14 : f_M_is 0 14 σ = some (false, σ) := hb 14 (by decide)
    have i15 : f_M_is 0 1 σ = some (false, σ) := hb 15 (by decide)
    have i16 : f_M_is 0 12 σ = some (false, σ) := hb 16 (by decide)
    have i0 : f_M_is 0 16 σ = some (false, σ) := hb 0 (by decide)
    have i1 : f_M_is 0 20 σ = some (false, σ) := hb 1 (by decide)
    have i2 : f_M_is 0 18 σ = some (false, σ) := hb 2 (by decide)
    have i3 : f_M_is 0 4 σ = some (false, σ) := hb 3 (by decide)
    have i4 : f_M_is 0 2 σ = some (true, σ) := hb 4 (by decide)
    simp only [f_M_lawWord_eq, b_M_lawWord, f_M_asked_eq, b_M_asked, i13, i14, i15, i16, i0, i1, i2, i3, i4, Option.bind_some, cfF, cfT, reduceCtorEq, cif_t, cif_f]
    rfl
  · have i13 : f_M_is 0 21 σ = some (false, σ) := hb 13 (by decide)
    have i14 : f_M_is 0 14 σ = some (false, σ) := hb 14 (by decide)
    have i15 : f_M_is 0 1 σ = some (false, σ) := hb 15 (by decide)
    have i16 : f_M_is 0 12 σ = some (false, σ) := hb 16 (by decide)
    have i0 : f_M_is 0 16 σ = some (false, σ) := hb 0 (by decide)
    have i1 : f_M_is 0 20 σ = some (false, σ) := hb 1 (by decide)
    have i2 : f_M_is 0 18 σ = some (false, σ) := hb 2 (by decide)
    have i3 : f_M_is 0 4 σ = some (false, σ) := hb 3 (by decide)
    have i4 : f_M_is 0 2 σ = some (false, σ) := hb 4 (by decide)
    have i5 : f_M_is 0 9 σ = some (true, σ) := hb 5 (by decide)
    simp only [f_M_lawWord_eq, b_M_lawWord, f_M_asked_eq, b_M_asked, i13, i14, i15, i16, i0, i1, i2, i3, i4, i5, Option.bind_some, cfF, cfT, reduceCtorEq, cif_t, cif_f]
    rfl
  · have i13 : f_M_is 0 21 σ = some (false, σ) := hb 13 (by decide)
    have i14 : f_M_is 0 14 σ = some (false, σ) := hb 14 (by decide)
    have i15 : f_M_is 0 1 σ = some (false, σ) := hb 15 (by decide)
    have i16 : f_M_is 0 12 σ = some (false, σ) := hb 16 (by decide)
    have i0 : f_M_is 0 16 σ = some (false, σ) := hb 0 (by decide)
    have i1 : f_M_is 0 20 σ = some (false, σ) := hb 1 (by decide)
    have i2 : f_M_is 0 18 σ = some (false, σ) := hb 2 (by decide)
    have i3 : f_M_is 0 4 σ = some (false, σ) := hb 3 (by decide)
    have i4 : f_M_is 0 2 σ = some (false, σ) := hb 4 (by decide)
    have i5 : f_M_is 0 9 σ = some (false, σ) := hb 5 (by decide)
    have i6 : f_M_is 0 15 σ = some (true, σ) := hb 6 (by decide)
    simp only [f_M_lawWord_eq, b_M_lawWord, f_M_asked_eq, b_M_asked, i13, i14, i15, i16, i0, i1, i2, i3, i4, i5, i6, Option.bind_some, cfF, cfT, reduceCtorEq, cif_t, cif_f]
    rfl
  · have i13 : f_M_is 0 21 σ = some (false, σ) := hb 13 (by decide)
    have i14 : f_M_is 0 14 σ = some (false, σ) := hb 14 (by decide)
    have i15 : f_M_is 0 1 σ = some (false, σ) := hb 15 (by decide)
    have i16 : f_M_is 0 12 σ = some (false, σ) := hb 16 (by decide)
    have i0 : f_M_is 0 16 σ = some (false, σ) := hb 0 (by decide)
    have i1 : f_M_is 0 20 σ = some (false, σ) := hb 1 (by decide)
    have i2 : f_M_is 0 18 σ = some (false, σ) := hb 2 (by decide)
    have i3 : f_M_is 0 4 σ = some (false, σ) := hb 3 (by decide)
    have i4 : f_M_is 0 2 σ = some (false, σ) := hb 4 (by decide)
    have i5 : f_M_is 0 9 σ = some (false, σ) := hb 5 (by decide)
    have i6 : f_M_is 0 15 σ = some (false, σ) := hb 6 (by decide)
    have i7 : f_M_is 0 11 σ = some (true, σ) := hb 7 (by decide)
    simp only [f_M_lawWord_eq, b_M_lawWord, f_M_asked_eq, b_M_asked, i13, i14, i15, i16, i0, i1, i2, i3, i4, i5, i6, i7, Option.bind_some, cfF, cfT, reduceCtorEq, cif_t, cif_f]
    rfl
  · have i13 : f_M_is 0 21 σ = some (false, σ) := hb 13 (by decide)
    have i14 : f_M_is 0 14 σ = some (false, σ) := hb 14 (by decide)
    have i15 : f_M_is 0 1 σ = some (false, σ) := hb 15 (by decide)
    have i16 : f_M_is 0 12 σ = some (false, σ) := hb 16 (by decide)
    have i0 : f_M_is 0 16 σ = some (false, σ) := hb 0 (by decide)
    have i1 : f_M_is 0 20 σ = some (false, σ) := hb 1 (by decide)
    have i2 : f_M_is 0 18 σ = some (false, σ) := hb 2 (by decide)
    have i3 : f_M_is 0 4 σ = some (false, σ) := hb 3 (by decide)
    have i4 : f_M_is 0 2 σ = some (false, σ) := hb 4 (by decide)
    have i5 : f_M_is 0 9 σ = some (false, σ) := hb 5 (by decide)
    have i6 : f_M_is 0 15 σ = some (false, σ) := hb 6 (by decide)
    have i7 : f_M_is 0 11 σ = some (false, σ) := hb 7 (by decide)
    have i8 : f_M_is 0 8 σ = some (true, σ) := hb 8 (by decide)
    simp only [f_M_lawWord_eq, b_M_lawWord, f_M_asked_eq, b_M_asked, i13, i14, i15, i16, i0, i1, i2, i3, i4, i5, i6, i7, i8, Option.bind_some, cfF, cfT, reduceCtorEq, cif_t, cif_f]
    rfl
  · have i13 : f_M_is 0 21 σ = some (false, σ) := hb 13 (by decide)
    have i14 : f_M_is 0 14 σ = some (false, σ) := hb 14 (by decide)
    have i15 : f_M_is 0 1 σ = some (false, σ) := hb 15 (by decide)
    have i16 : f_M_is 0 12 σ = some (false, σ) := hb 16 (by decide)
    have i0 : f_M_is 0 16 σ = some (false, σ) := hb 0 (by decide)
    have i1 : f_M_is 0 20 σ = some (false, σ) := hb 1 (by decide)
    have i2 : f_M_is 0 18 σ = some (false, σ) := hb 2 (by decide)
    have i3 : f_M_is 0 4 σ = some (false, σ) := hb 3 (by decide)
    have i4 : f_M_is 0 2 σ = some (false, σ) := hb 4 (by decide)
    have i5 : f_M_is 0 9 σ = some (false, σ) := hb 5 (by decide)
    have i6 : f_M_is 0 15 σ = some (false, σ) := hb 6 (by decide)
    have i7 : f_M_is 0 11 σ = some (false, σ) := hb 7 (by decide)
    have i8 : f_M_is 0 8 σ = some (false, σ) := hb 8 (by decide)
    have i9 : f_M_is 0 10 σ = some (true, σ) := hb 9 (by decide)
    simp only [f_M_lawWord_eq, b_M_lawWord, f_M_asked_eq, b_M_asked, i13, i14, i15, i16, i0, i1, i2, i3, i4, i5, i6, i7, i8, i9, Option.bind_some, cfF, cfT, reduceCtorEq, cif_t, cif_f]
    rfl
  · have i13 : f_M_is 0 21 σ = some (false, σ) := hb 13 (by decide)
    have i14 : f_M_is 0 14 σ = some (false, σ) := hb 14 (by decide)
    have i15 : f_M_is 0 1 σ = some (false, σ) := hb 15 (by decide)
    have i16 : f_M_is 0 12 σ = some (false, σ) := hb 16 (by decide)
    have i0 : f_M_is 0 16 σ = some (false, σ) := hb 0 (by decide)
    have i1 : f_M_is 0 20 σ = some (false, σ) := hb 1 (by decide)
    have i2 : f_M_is 0 18 σ = some (false, σ) := hb 2 (by decide)
    have i3 : f_M_is 0 4 σ = some (false, σ) := hb 3 (by decide)
    have i4 : f_M_is 0 2 σ = some (false, σ) := hb 4 (by decide)
    have i5 : f_M_is 0 9 σ = some (false, σ) := hb 5 (by decide)
    have i6 : f_M_is 0 15 σ = some (false, σ) := hb 6 (by decide)
    have i7 : f_M_is 0 11 σ = some (false, σ) := hb 7 (by decide)
    have i8 : f_M_is 0 8 σ = some (false, σ) := hb 8 (by decide)
    have i9 : f_M_is 0 10 σ = some (false, σ) := hb 9 (by decide)
    have i10 : f_M_is 0 22 σ = some (true, σ) := hb 10 (by decide)
    simp only [f_M_lawWord_eq, b_M_lawWord, f_M_asked_eq, b_M_asked, i13, i14, i15, i16, i0, i1, i2, i3, i4, i5, i6, i7, i8, i9, i10, Option.bind_some, cfF, cfT, reduceCtorEq, cif_t, cif_f]
    rfl
  · have i13 : f_M_is 0 21 σ = some (false, σ) := hb 13 (by decide)
    have i14 : f_M_is 0 14 σ = some (false, σ) := hb 14 (by decide)
    have i15 : f_M_is 0 1 σ = some (false, σ) := hb 15 (by decide)
    have i16 : f_M_is 0 12 σ = some (false, σ) := hb 16 (by decide)
    have i0 : f_M_is 0 16 σ = some (false, σ) := hb 0 (by decide)
    have i1 : f_M_is 0 20 σ = some (false, σ) := hb 1 (by decide)
    have i2 : f_M_is 0 18 σ = some (false, σ) := hb 2 (by decide)
    have i3 : f_M_is 0 4 σ = some (false, σ) := hb 3 (by decide)
    have i4 : f_M_is 0 2 σ = some (false, σ) := hb 4 (by decide)
    have i5 : f_M_is 0 9 σ = some (false, σ) := hb 5 (by decide)
    have i6 : f_M_is 0 15 σ = some (false, σ) := hb 6 (by decide)
    have i7 : f_M_is 0 11 σ = some (false, σ) := hb 7 (by decide)
    have i8 : f_M_is 0 8 σ = some (false, σ) := hb 8 (by decide)
    have i9 : f_M_is 0 10 σ = some (false, σ) := hb 9 (by decide)
    have i10 : f_M_is 0 22 σ = some (false, σ) := hb 10 (by decide)
    have i11 : f_M_is 0 23 σ = some (true, σ) := hb 11 (by decide)
    simp only [f_M_lawWord_eq, b_M_lawWord, f_M_asked_eq, b_M_asked, i13, i14, i15, i16, i0, i1, i2, i3, i4, i5, i6, i7, i8, i9, i10, i11, Option.bind_some, cfF, cfT, reduceCtorEq, cif_t, cif_f]
    rfl
  · have i13 : f_M_is 0 21 σ = some (false, σ) := hb 13 (by decide)
    have i14 : f_M_is 0 14 σ = some (false, σ) := hb 14 (by decide)
    have i15 : f_M_is 0 1 σ = some (false, σ) := hb 15 (by decide)
    have i16 : f_M_is 0 12 σ = some (false, σ) := hb 16 (by decide)
    have i0 : f_M_is 0 16 σ = some (false, σ) := hb 0 (by decide)
    have i1 : f_M_is 0 20 σ = some (false, σ) := hb 1 (by decide)
    have i2 : f_M_is 0 18 σ = some (false, σ) := hb 2 (by decide)
    have i3 : f_M_is 0 4 σ = some (false, σ) := hb 3 (by decide)
    have i4 : f_M_is 0 2 σ = some (false, σ) := hb 4 (by decide)
    have i5 : f_M_is 0 9 σ = some (false, σ) := hb 5 (by decide)
    have i6 : f_M_is 0 15 σ = some (false, σ) := hb 6 (by decide)
    have i7 : f_M_is 0 11 σ = some (false, σ) := hb 7 (by decide)
    have i8 : f_M_is 0 8 σ = some (false, σ) := hb 8 (by decide)
    have i9 : f_M_is 0 10 σ = some (false, σ) := hb 9 (by decide)
    have i10 : f_M_is 0 22 σ = some (false, σ) := hb 10 (by decide)
    have i11 : f_M_is 0 23 σ = some (false, σ) := hb 11 (by decide)
    have i12 : f_M_is 0 19 σ = some (true, σ) := hb 12 (by decide)
    simp only [f_M_lawWord_eq, b_M_lawWord, f_M_asked_eq, b_M_asked, i13, i14, i15, i16, i0, i1, i2, i3, i4, i5, i6, i7, i8, i9, i10, i11, i12, Option.bind_some, cfF, cfT, reduceCtorEq, cif_t, cif_f]
    rfl
  · have i13 : f_M_is 0 21 σ = some (true, σ) := hb 13 (by decide)
    simp only [f_M_lawWord_eq, b_M_lawWord, f_M_asked_eq, b_M_asked, i13, Option.bind_some, cfF, cfT, reduceCtorEq, cif_t, cif_f]
    rfl
  · have i13 : f_M_is 0 21 σ = some (false, σ) := hb 13 (by decide)
    have i14 : f_M_is 0 14 σ = some (true, σ) := hb 14 (by decide)
    simp only [f_M_lawWord_eq, b_M_lawWord, f_M_asked_eq, b_M_asked, i13, i14, Option.bind_some, cfF, cfT, reduceCtorEq, cif_t, cif_f]
    rfl
  · have i13 : f_M_is 0 21 σ = some (false, σ) := hb 13 (by decide)
    have i14 : f_M_is 0 14 σ = some (false, σ) := hb 14 (by decide)
    have i15 : f_M_is 0 1 σ = some (true, σ) := hb 15 (by decide)
    simp only [f_M_lawWord_eq, b_M_lawWord, f_M_asked_eq, b_M_asked, i13, i14, i15, Option.bind_some, cfF, cfT, reduceCtorEq, cif_t, cif_f]
    rfl
  · have i13 : f_M_is 0 21 σ = some (false, σ) := hb 13 (by decide)
    have i14 : f_M_is 0 14 σ = some (false, σ) := hb 14 (by decide)
    have i15 : f_M_is 0 1 σ = some (false, σ) := hb 15 (by decide)
    have i16 : f_M_is 0 12 σ = some (true, σ) := hb 16 (by decide)
    simp only [f_M_lawWord_eq, b_M_lawWord, f_M_asked_eq, b_M_asked, i13, i14, i15, i16, Option.bind_some, cfF, cfT, reduceCtorEq, cif_t, cif_f]
    rfl
  · have i13 : f_M_is 0 21 σ = some (false, σ) := hb 13 (by decide)
    have i14 : f_M_is 0 14 σ = some (false, σ) := hb 14 (by decide)
    have i15 : f_M_is 0 1 σ = some (false, σ) := hb 15 (by decide)
    have i16 : f_M_is 0 12 σ = some (false, σ) := hb 16 (by decide)
    have i0 : f_M_is 0 16 σ = some (false, σ) := hb 0 (by decide)
    have i1 : f_M_is 0 20 σ = some (false, σ) := hb 1 (by decide)
    have i2 : f_M_is 0 18 σ = some (false, σ) := hb 2 (by decide)
    have i3 : f_M_is 0 4 σ = some (false, σ) := hb 3 (by decide)
    have i4 : f_M_is 0 2 σ = some (false, σ) := hb 4 (by decide)
    have i5 : f_M_is 0 9 σ = some (false, σ) := hb 5 (by decide)
    have i6 : f_M_is 0 15 σ = some (false, σ) := hb 6 (by decide)
    have i7 : f_M_is 0 11 σ = some (false, σ) := hb 7 (by decide)
    have i8 : f_M_is 0 8 σ = some (false, σ) := hb 8 (by decide)
    have i9 : f_M_is 0 10 σ = some (false, σ) := hb 9 (by decide)
    have i10 : f_M_is 0 22 σ = some (false, σ) := hb 10 (by decide)
    have i11 : f_M_is 0 23 σ = some (false, σ) := hb 11 (by decide)
    have i12 : f_M_is 0 19 σ = some (false, σ) := hb 12 (by decide)
    simp only [f_M_lawWord_eq, b_M_lawWord, f_M_asked_eq, b_M_asked, i13, i14, i15, i16, i0, i1, i2, i3, i4, i5, i6, i7, i8, i9, i10, i11, i12, Option.bind_some, cfF, cfT, reduceCtorEq, cif_t, cif_f]
    rfl
  · have i13 : f_M_is 0 21 σ = some (false, σ) := hb 13 (by decide)
    have i14 : f_M_is 0 14 σ = some (false, σ) := hb 14 (by decide)
    have i15 : f_M_is 0 1 σ = some (false, σ) := hb 15 (by decide)
    have i16 : f_M_is 0 12 σ = some (false, σ) := hb 16 (by decide)
    have i0 : f_M_is 0 16 σ = some (false, σ) := hb 0 (by decide)
    have i1 : f_M_is 0 20 σ = some (false, σ) := hb 1 (by decide)
    have i2 : f_M_is 0 18 σ = some (false, σ) := hb 2 (by decide)
    have i3 : f_M_is 0 4 σ = some (false, σ) := hb 3 (by decide)
    have i4 : f_M_is 0 2 σ = some (false, σ) := hb 4 (by decide)
    have i5 : f_M_is 0 9 σ = some (false, σ) := hb 5 (by decide)
    have i6 : f_M_is 0 15 σ = some (false, σ) := hb 6 (by decide)
    have i7 : f_M_is 0 11 σ = some (false, σ) := hb 7 (by decide)
    have i8 : f_M_is 0 8 σ = some (false, σ) := hb 8 (by decide)
    have i9 : f_M_is 0 10 σ = some (false, σ) := hb 9 (by decide)
    have i10 : f_M_is 0 22 σ = some (false, σ) := hb 10 (by decide)
    have i11 : f_M_is 0 23 σ = some (false, σ) := hb 11 (by decide)
    have i12 : f_M_is 0 19 σ = some (false, σ) := hb 12 (by decide)
    simp only [f_M_lawWord_eq, b_M_lawWord, f_M_asked_eq, b_M_asked, i13, i14, i15, i16, i0, i1, i2, i3, i4, i5, i6, i7, i8, i9, i10, i11, i12, Option.bind_some, cfF, cfT, reduceCtorEq, cif_t, cif_f]
    rfl
  · have i13 : f_M_is 0 21 σ = some (false, σ) := hb 13 (by decide)
    have i14 : f_M_is 0 14 σ = some (false, σ) := hb 14 (by decide)
    have i15 : f_M_is 0 1 σ = some (false, σ) := hb 15 (by decide)
    have i16 : f_M_is 0 12 σ = some (false, σ) := hb 16 (by decide)
    have i0 : f_M_is 0 16 σ = some (false, σ) := hb 0 (by decide)
    have i1 : f_M_is 0 20 σ = some (false, σ) := hb 1 (by decide)
    have i2 : f_M_is 0 18 σ = some (false, σ) := hb 2 (by decide)
    have i3 : f_M_is 0 4 σ = some (false, σ) := hb 3 (by decide)
    have i4 : f_M_is 0 2 σ = some (false, σ) := hb 4 (by decide)
    have i5 : f_M_is 0 9 σ = some (false, σ) := hb 5 (by decide)
    have i6 : f_M_is 0 15 σ = some (false, σ) := hb 6 (by decide)
    have i7 : f_M_is 0 11 σ = some (false, σ) := hb 7 (by decide)
    have i8 : f_M_is 0 8 σ = some (false, σ) := hb 8 (by decide)
    have i9 : f_M_is 0 10 σ = some (false, σ) := hb 9 (by decide)
    have i10 : f_M_is 0 22 σ = some (false, σ) := hb 10 (by decide)
    have i11 : f_M_is 0 23 σ = some (false, σ) := hb 11 (by decide)
    have i12 : f_M_is 0 19 σ = some (false, σ) := hb 12 (by decide)
    simp only [f_M_lawWord_eq, b_M_lawWord, f_M_asked_eq, b_M_asked, i13, i14, i15, i16, i0, i1, i2, i3, i4, i5, i6, i7, i8, i9, i10, i11, i12, Option.bind_some, cfF, cfT, reduceCtorEq, cif_t, cif_f]
    rfl
  · have i13 : f_M_is 0 21 σ = some (false, σ) := hb 13 (by decide)
    have i14 : f_M_is 0 14 σ = some (false, σ) := hb 14 (by decide)
    have i15 : f_M_is 0 1 σ = some (false, σ) := hb 15 (by decide)
    have i16 : f_M_is 0 12 σ = some (false, σ) := hb 16 (by decide)
    have i0 : f_M_is 0 16 σ = some (false, σ) := hb 0 (by decide)
    have i1 : f_M_is 0 20 σ = some (false, σ) := hb 1 (by decide)
    have i2 : f_M_is 0 18 σ = some (false, σ) := hb 2 (by decide)
    have i3 : f_M_is 0 4 σ = some (false, σ) := hb 3 (by decide)
    have i4 : f_M_is 0 2 σ = some (false, σ) := hb 4 (by decide)
    have i5 : f_M_is 0 9 σ = some (false, σ) := hb 5 (by decide)
    have i6 : f_M_is 0 15 σ = some (false, σ) := hb 6 (by decide)
    have i7 : f_M_is 0 11 σ = some (false, σ) := hb 7 (by decide)
    have i8 : f_M_is 0 8 σ = some (false, σ) := hb 8 (by decide)
    have i9 : f_M_is 0 10 σ = some (false, σ) := hb 9 (by decide)
    have i10 : f_M_is 0 22 σ = some (false, σ) := hb 10 (by decide)
    have i11 : f_M_is 0 23 σ = some (false, σ) := hb 11 (by decide)
    have i12 : f_M_is 0 19 σ = some (false, σ) := hb 12 (by decide)
    simp only [f_M_lawWord_eq, b_M_lawWord, f_M_asked_eq, b_M_asked, i13, i14, i15, i16, i0, i1, i2, i3, i4, i5, i6, i7, i8, i9, i10, i11, i12, Option.bind_some, cfF, cfT, reduceCtorEq, cif_t, cif_f]
    rfl
  · have i13 : f_M_is 0 21 σ = some (false, σ) := hb 13 (by decide)
    have i14 : f_M_is 0 14 σ = some (false, σ) := hb 14 (by decide)
    have i15 : f_M_is 0 1 σ = some (false, σ) := hb 15 (by decide)
    have i16 : f_M_is 0 12 σ = some (false, σ) := hb 16 (by decide)
    have i0 : f_M_is 0 16 σ = some (false, σ) := hb 0 (by decide)
    have i1 : f_M_is 0 20 σ = some (false, σ) := hb 1 (by decide)
    have i2 : f_M_is 0 18 σ = some (false, σ) := hb 2 (by decide)
    have i3 : f_M_is 0 4 σ = some (false, σ) := hb 3 (by decide)
    have i4 : f_M_is 0 2 σ = some (false, σ) := hb 4 (by decide)
    have i5 : f_M_is 0 9 σ = some (false, σ) := hb 5 (by decide)
    have i6 : f_M_is 0 15 σ = some (false, σ) := hb 6 (by decide)
    have i7 : f_M_is 0 11 σ = some (false, σ) := hb 7 (by decide)
    have i8 : f_M_is 0 8 σ = some (false, σ) := hb 8 (by decide)
    have i9 : f_M_is 0 10 σ = some (false, σ) := hb 9 (by decide)
    have i10 : f_M_is 0 22 σ = some (false, σ) := hb 10 (by decide)
    have i11 : f_M_is 0 23 σ = some (false, σ) := hb 11 (by decide)
    have i12 : f_M_is 0 19 σ = some (false, σ) := hb 12 (by decide)
    simp only [f_M_lawWord_eq, b_M_lawWord, f_M_asked_eq, b_M_asked, i13, i14, i15, i16, i0, i1, i2, i3, i4, i5, i6, i7, i8, i9, i10, i11, i12, Option.bind_some, cfF, cfT, reduceCtorEq, cif_t, cif_f]
    rfl
  · have i13 : f_M_is 0 21 σ = some (false, σ) := hb 13 (by decide)
    have i14 : f_M_is 0 14 σ = some (false, σ) := hb 14 (by decide)
    have i15 : f_M_is 0 1 σ = some (false, σ) := hb 15 (by decide)
    have i16 : f_M_is 0 12 σ = some (false, σ) := hb 16 (by decide)
    have i0 : f_M_is 0 16 σ = some (false, σ) := hb 0 (by decide)
    have i1 : f_M_is 0 20 σ = some (false, σ) := hb 1 (by decide)
    have i2 : f_M_is 0 18 σ = some (false, σ) := hb 2 (by decide)
    have i3 : f_M_is 0 4 σ = some (false, σ) := hb 3 (by decide)
    have i4 : f_M_is 0 2 σ = some (false, σ) := hb 4 (by decide)
    have i5 : f_M_is 0 9 σ = some (false, σ) := hb 5 (by decide)
    have i6 : f_M_is 0 15 σ = some (false, σ) := hb 6 (by decide)
    have i7 : f_M_is 0 11 σ = some (false, σ) := hb 7 (by decide)
    have i8 : f_M_is 0 8 σ = some (false, σ) := hb 8 (by decide)
    have i9 : f_M_is 0 10 σ = some (false, σ) := hb 9 (by decide)
    have i10 : f_M_is 0 22 σ = some (false, σ) := hb 10 (by decide)
    have i11 : f_M_is 0 23 σ = some (false, σ) := hb 11 (by decide)
    have i12 : f_M_is 0 19 σ = some (false, σ) := hb 12 (by decide)
    simp only [f_M_lawWord_eq, b_M_lawWord, f_M_asked_eq, b_M_asked, i13, i14, i15, i16, i0, i1, i2, i3, i4, i5, i6, i7, i8, i9, i10, i11, i12, Option.bind_some, cfF, cfT, reduceCtorEq, cif_t, cif_f]
    rfl
theorem e_word1 {σ : Mem} {v : Nat} (hb : ∀ w : Nat, w < 22 → f_M_is 0 (wtx w) σ = some (decide (v = w), σ)) (hv : v < 22 ∨ v = 99) (hR : rI σ 0 12 = zi 1) : f_M_word 0 σ = some (zi (tw 1 v), σ) := by
  rw [f_M_word_eq, b_M_word]
  simp (disch := omega) only [zi_div, zi_and31, zi_neg, zi_add, zi_sub, zi_mul, zi_lt, zi_le, zi_eq, zi_imx, zi_imn, zi_iab, gd_i, vpb_0, vpb_1, b2i_0, b2i_1, b2i_e0, b2i_e1, lf_b, lf_s, lf_n, Option.bind_some, decide_eq_false_iff_not, decide_eq_true_eq, cif_t, cif_f, cif_pos, cif_neg, if_true, if_false, if_pos, if_neg, zi_ofNat, Nat.zero_add, Nat.reduceAdd, Nat.reduceSub, Nat.reduceMul, Int.reduceAdd, Int.reduceSub, Int.reduceMul, Int.reduceNeg, Bool.false_eq_true, reduceCtorEq, rI_wI_s, rI_wI_f, rI_wI_c, rI_wd_c, rd_wI_c, rd_wd_c, rd_wd_s, rd_wd_n, rI_wJ, rd_wJ, rI_ix, wI_ix, rJ_ix, wJ_ix, zl_0, zl_1, zl_2, zl_3, zl_4, zl_5, zl_6, zl_7, zl_8, zl_9, zl_10, zl_11, zl_12, zl_13, zl_14, zl_15, zl_16, zl_20, zl_21, zl_22, zl_23, zl_24, zl_25, zl_26, zl_27, zl_28, zl_29, zl_30, zl_31, zl_32, zl_37, zl_40, zl_41, zl_42, zl_43, zl_44, zl_45, zl_46, zl_47, zl_48, zl_49, zl_50, zl_51, zl_52, zl_53, zl_54, zl_55, zl_56, zl_57, zl_58, zl_59, zl_60, zl_61, zl_62, zl_63, zl_64, zl_65, zl_74, zl_86, zl_90, zl_97, zl_98, zl_99, zl_100, zl_122, zl_140, zl_141, zl_142, zl_143, zl_145, zl_146, zl_147, zl_149, zl_150, zl_159, zl_160, zl_161, zl_162, zl_178, zl_199, zl_200, zl_201, zl_210, zl_230, zl_240, zl_245, zl_255, zl_256, zl_257, zl_288, zl_312, zl_332, zl_340, zl_356, zl_366, zl_399, zl_400, zl_500, zl_820, zl_966, zl_982, zl_998, zl_999, zl_1000, zl_1002, zl_1003, zl_1004, zl_1012, zl_1013, zl_1014, zl_1015, zl_1016, zl_1017, zl_1018, zl_1020, zl_1021, zl_1024, zl_1030, zl_1850, zl_2412, zl_2613, zl_9999, zl_10000, zl_99999, zl_1000000, hR]
  have hv' : v = 0 ∨ v = 1 ∨ v = 2 ∨ v = 3 ∨ v = 4 ∨ v = 5 ∨ v = 6 ∨ v = 7 ∨ v = 8 ∨ v = 9 ∨ v = 10 ∨ v = 11 ∨ v = 12 ∨ v = 13 ∨ v = 14 ∨ v = 15 ∨ v = 16 ∨ v = 17 ∨ v = 18 ∨ v = 19 ∨ v = 20 ∨ v = 21 ∨ v = 99 := by omega
  rcases hv' with rfl | rfl | rfl | rfl | rfl | rfl | rfl | rfl | rfl | rfl | rfl | rfl | rfl | rfl | rfl | rfl | rfl | rfl | rfl | rfl | rfl | rfl | rfl
  · have i17 : f_M_is 0 5 σ = some (false, σ) := hb 17 (by decide)
    have i3 : f_M_is 0 4 σ = some (false, σ) := hb 3 (by decide)
    have i4 : f_M_is 0 2 σ = some (false, σ) := hb 4 (by decide)
    simp only [i17, i3, i4, Option.bind_some, cfF, cfT, reduceCtorEq, cif_t, cif_f]
    rfl
  · have i17 : f_M_is 0 5 σ = some (false, σ) := hb 17 (by decide)
    have i3 : f_M_is 0 4 σ = some (false, σ) := hb 3 (by decide)
    have i4 : f_M_is 0 2 σ = some (false, σ) := hb 4 (by decide)
    simp only [i17, i3, i4, Option.bind_some, cfF, cfT, reduceCtorEq, cif_t, cif_f]
    rfl
  · have i17 : f_M_is 0 5 σ = some (false, σ) := hb 17 (by decide)
    have i3 : f_M_is 0 4 σ = some (false, σ) := hb 3 (by decide)
    have i4 : f_M_is 0 2 σ = some (false, σ) := hb 4 (by decide)
    simp only [i17, i3, i4, Option.bind_some, cfF, cfT, reduceCtorEq, cif_t, cif_f]
    rfl
  · have i17 : f_M_is 0 5 σ = some (false, σ) := hb 17 (by decide)
    have i3 : f_M_is 0 4 σ = some (true, σ) := hb 3 (by decide)
    simp only [i17, i3, Option.bind_some, cfF, cfT, reduceCtorEq, cif_t, cif_f]
    rfl
  · have i17 : f_M_is 0 5 σ = some (false, σ) := hb 17 (by decide)
    have i3 : f_M_is 0 4 σ = some (false, σ) := hb 3 (by decide)
    have i4 : f_M_is 0 2 σ = some (true, σ) := hb 4 (by decide)
    simp only [i17, i3, i4, Option.bind_some, cfF, cfT, reduceCtorEq, cif_t, cif_f]
    rfl
  · have i17 : f_M_is 0 5 σ = some (false, σ) := hb 17 (by decide)
    have i3 : f_M_is 0 4 σ = some (false, σ) := hb 3 (by decide)
    have i4 : f_M_is 0 2 σ = some (false, σ) := hb 4 (by decide)
    simp only [i17, i3, i4, Option.bind_some, cfF, cfT, reduceCtorEq, cif_t, cif_f]
    rfl
  · have i17 : f_M_is 0 5 σ = some (false, σ) := hb 17 (by decide)
    have i3 : f_M_is 0 4 σ = some (false, σ) := hb 3 (by decide)
    have i4 : f_M_is 0 2 σ = some (false, σ) := hb 4 (by decide)
    simp only [i17, i3, i4, Option.bind_some, cfF, cfT, reduceCtorEq, cif_t, cif_f]
    rfl
  · have i17 : f_M_is 0 5 σ = some (false, σ) := hb 17 (by decide)
    have i3 : f_M_is 0 4 σ = some (false, σ) := hb 3 (by decide)
    have i4 : f_M_is 0 2 σ = some (false, σ) := hb 4 (by decide)
    simp only [i17, i3, i4, Option.bind_some, cfF, cfT, reduceCtorEq, cif_t, cif_f]
    rfl
  · have i17 : f_M_is 0 5 σ = some (false, σ) := hb 17 (by decide)
    have i3 : f_M_is 0 4 σ = some (false, σ) := hb 3 (by decide)
    have i4 : f_M_is 0 2 σ = some (false, σ) := hb 4 (by decide)
    simp only [i17, i3, i4, Option.bind_some, cfF, cfT, reduceCtorEq, cif_t, cif_f]
    rfl
  · have i17 : f_M_is 0 5 σ = some (false, σ) := hb 17 (by decide)
    have i3 : f_M_is 0 4 σ = some (false, σ) := hb 3 (by decide)
    have i4 : f_M_is 0 2 σ = some (false, σ) := hb 4 (by decide)
    simp only [i17, i3, i4, Option.bind_some, cfF, cfT, reduceCtorEq, cif_t, cif_f]
    rfl
  · have i17 : f_M_is 0 5 σ = some (false, σ) := hb 17 (by decide)
    have i3 : f_M_is 0 4 σ = some (false, σ) := hb 3 (by decide)
    have i4 : f_M_is 0 2 σ = some (false, σ) := hb 4 (by decide)
    simp only [i17, i3, i4, Option.bind_some, cfF, cfT, reduceCtorEq, cif_t, cif_f]
    rfl
  · have i17 : f_M_is 0 5 σ = some (false, σ) := hb 17 (by decide)
    have i3 : f_M_is 0 4 σ = some (false, σ) := hb 3 (by decide)
    have i4 : f_M_is 0 2 σ = some (false, σ) := hb 4 (by decide)
    simp only [i17, i3, i4, Option.bind_some, cfF, cfT, reduceCtorEq, cif_t, cif_f]
    rfl
  · have i17 : f_M_is 0 5 σ = some (false, σ) := hb 17 (by decide)
    have i3 : f_M_is 0 4 σ = some (false, σ) := hb 3 (by decide)
    have i4 : f_M_is 0 2 σ = some (false, σ) := hb 4 (by decide)
    simp only [i17, i3, i4, Option.bind_some, cfF, cfT, reduceCtorEq, cif_t, cif_f]
    rfl
  · have i17 : f_M_is 0 5 σ = some (false, σ) := hb 17 (by decide)
    have i3 : f_M_is 0 4 σ = some (false, σ) := hb 3 (by decide)
    have i4 : f_M_is 0 2 σ = some (false, σ) := hb 4 (by decide)
    simp only [i17, i3, i4, Option.bind_some, cfF, cfT, reduceCtorEq, cif_t, cif_f]
    rfl
  · have i17 : f_M_is 0 5 σ = some (false, σ) := hb 17 (by decide)
    have i3 : f_M_is 0 4 σ = some (false, σ) := hb 3 (by decide)
    have i4 : f_M_is 0 2 σ = some (false, σ) := hb 4 (by decide)
    simp only [i17, i3, i4, Option.bind_some, cfF, cfT, reduceCtorEq, cif_t, cif_f]
    rfl
  · have i17 : f_M_is 0 5 σ = some (false, σ) := hb 17 (by decide)
    have i3 : f_M_is 0 4 σ = some (false, σ) := hb 3 (by decide)
    have i4 : f_M_is 0 2 σ = some (false, σ) := hb 4 (by decide)
    simp only [i17, i3, i4, Option.bind_some, cfF, cfT, reduceCtorEq, cif_t, cif_f]
    rfl
  · have i17 : f_M_is 0 5 σ = some (false, σ) := hb 17 (by decide)
    have i3 : f_M_is 0 4 σ = some (false, σ) := hb 3 (by decide)
    have i4 : f_M_is 0 2 σ = some (false, σ) := hb 4 (by decide)
    simp only [i17, i3, i4, Option.bind_some, cfF, cfT, reduceCtorEq, cif_t, cif_f]
    rfl
  · have i17 : f_M_is 0 5 σ = some (true, σ) := hb 17 (by decide)
    simp only [i17, Option.bind_some, cfF, cfT, reduceCtorEq, cif_t, cif_f]
    rfl
  · have i17 : f_M_is 0 5 σ = some (false, σ) := hb 17 (by decide)
    have i3 : f_M_is 0 4 σ = some (false, σ) := hb 3 (by decide)
    have i4 : f_M_is 0 2 σ = some (false, σ) := hb 4 (by decide)
    simp only [i17, i3, i4, Option.bind_some, cfF, cfT, reduceCtorEq, cif_t, cif_f]
    rfl
  · have i17 : f_M_is 0 5 σ = some (false, σ) := hb 17 (by decide)
    have i3 : f_M_is 0 4 σ = some (false, σ) := hb 3 (by decide)
    have i4 : f_M_is 0 2 σ = some (false, σ) := hb 4 (by decide)
    simp only [i17, i3, i4, Option.bind_some, cfF, cfT, reduceCtorEq, cif_t, cif_f]
    rfl
  · have i17 : f_M_is 0 5 σ = some (false, σ) := hb 17 (by decide)
    have i3 : f_M_is 0 4 σ = some (false, σ) := hb 3 (by decide)
    have i4 : f_M_is 0 2 σ = some (false, σ) := hb 4 (by decide)
    simp only [i17, i3, i4, Option.bind_some, cfF, cfT, reduceCtorEq, cif_t, cif_f]
    rfl
  · have i17 : f_M_is 0 5 σ = some (false, σ) := hb 17 (by decide)
    have i3 : f_M_is 0 4 σ = some (false, σ) := hb 3 (by decide)
    have i4 : f_M_is 0 2 σ = some (false, σ) := hb 4 (by decide)
    simp only [i17, i3, i4, Option.bind_some, cfF, cfT, reduceCtorEq, cif_t, cif_f]
    rfl
  · have i17 : f_M_is 0 5 σ = some (false, σ) := hb 17 (by decide)
    have i3 : f_M_is 0 4 σ = some (false, σ) := hb 3 (by decide)
    have i4 : f_M_is 0 2 σ = some (false, σ) := hb 4 (by decide)
    simp only [i17, i3, i4, Option.bind_some, cfF, cfT, reduceCtorEq, cif_t, cif_f]
    rfl
theorem e_word2 {σ : Mem} {v : Nat} (hb : ∀ w : Nat, w < 22 → f_M_is 0 (wtx w) σ = some (decide (v = w), σ)) (hv : v < 22 ∨ v = 99) (hR : rI σ 0 12 = zi 2) : f_M_word 0 σ = some (zi (tw 2 v), σ) := by
  rw [f_M_word_eq, b_M_word]
  simp (disch := omega) only [zi_div, zi_and31, zi_neg, zi_add, zi_sub, zi_mul, zi_lt, zi_le, zi_eq, zi_imx, zi_imn, zi_iab, gd_i, vpb_0, vpb_1, b2i_0, b2i_1, b2i_e0, b2i_e1, lf_b, lf_s, lf_n, Option.bind_some, decide_eq_false_iff_not, decide_eq_true_eq, cif_t, cif_f, cif_pos, cif_neg, if_true, if_false, if_pos, if_neg, zi_ofNat, Nat.zero_add, Nat.reduceAdd, Nat.reduceSub, Nat.reduceMul, Int.reduceAdd, Int.reduceSub, Int.reduceMul, Int.reduceNeg, Bool.false_eq_true, reduceCtorEq, rI_wI_s, rI_wI_f, rI_wI_c, rI_wd_c, rd_wI_c, rd_wd_c, rd_wd_s, rd_wd_n, rI_wJ, rd_wJ, rI_ix, wI_ix, rJ_ix, wJ_ix, zl_0, zl_1, zl_2, zl_3, zl_4, zl_5, zl_6, zl_7, zl_8, zl_9, zl_10, zl_11, zl_12, zl_13, zl_14, zl_15, zl_16, zl_20, zl_21, zl_22, zl_23, zl_24, zl_25, zl_26, zl_27, zl_28, zl_29, zl_30, zl_31, zl_32, zl_37, zl_40, zl_41, zl_42, zl_43, zl_44, zl_45, zl_46, zl_47, zl_48, zl_49, zl_50, zl_51, zl_52, zl_53, zl_54, zl_55, zl_56, zl_57, zl_58, zl_59, zl_60, zl_61, zl_62, zl_63, zl_64, zl_65, zl_74, zl_86, zl_90, zl_97, zl_98, zl_99, zl_100, zl_122, zl_140, zl_141, zl_142, zl_143, zl_145, zl_146, zl_147, zl_149, zl_150, zl_159, zl_160, zl_161, zl_162, zl_178, zl_199, zl_200, zl_201, zl_210, zl_230, zl_240, zl_245, zl_255, zl_256, zl_257, zl_288, zl_312, zl_332, zl_340, zl_356, zl_366, zl_399, zl_400, zl_500, zl_820, zl_966, zl_982, zl_998, zl_999, zl_1000, zl_1002, zl_1003, zl_1004, zl_1012, zl_1013, zl_1014, zl_1015, zl_1016, zl_1017, zl_1018, zl_1020, zl_1021, zl_1024, zl_1030, zl_1850, zl_2412, zl_2613, zl_9999, zl_10000, zl_99999, zl_1000000, hR]
  have hv' : v = 0 ∨ v = 1 ∨ v = 2 ∨ v = 3 ∨ v = 4 ∨ v = 5 ∨ v = 6 ∨ v = 7 ∨ v = 8 ∨ v = 9 ∨ v = 10 ∨ v = 11 ∨ v = 12 ∨ v = 13 ∨ v = 14 ∨ v = 15 ∨ v = 16 ∨ v = 17 ∨ v = 18 ∨ v = 19 ∨ v = 20 ∨ v = 21 ∨ v = 99 := by omega
  rcases hv' with rfl | rfl | rfl | rfl | rfl | rfl | rfl | rfl | rfl | rfl | rfl | rfl | rfl | rfl | rfl | rfl | rfl | rfl | rfl | rfl | rfl | rfl | rfl
  · have i18 : f_M_is 0 6 σ = some (false, σ) := hb 18 (by decide)
    have i19 : f_M_is 0 3 σ = some (false, σ) := hb 19 (by decide)
    have i20 : f_M_is 0 7 σ = some (false, σ) := hb 20 (by decide)
    simp only [i18, i19, i20, Option.bind_some, cfF, cfT, reduceCtorEq, cif_t, cif_f]
    rfl
  · have i18 : f_M_is 0 6 σ = some (false, σ) := hb 18 (by decide)
    have i19 : f_M_is 0 3 σ = some (false, σ) := hb 19 (by decide)
    have i20 : f_M_is 0 7 σ = some (false, σ) := hb 20 (by decide)
    simp only [i18, i19, i20, Option.bind_some, cfF, cfT, reduceCtorEq, cif_t, cif_f]
    rfl
  · have i18 : f_M_is 0 6 σ = some (false, σ) := hb 18 (by decide)
    have i19 : f_M_is 0 3 σ = some (false, σ) := hb 19 (by decide)
    have i20 : f_M_is 0 7 σ = some (false, σ) := hb 20 (by decide)
    simp only [i18, i19, i20, Option.bind_some, cfF, cfT, reduceCtorEq, cif_t, cif_f]
    rfl
  · have i18 : f_M_is 0 6 σ = some (false, σ) := hb 18 (by decide)
    have i19 : f_M_is 0 3 σ = some (false, σ) := hb 19 (by decide)
    have i20 : f_M_is 0 7 σ = some (false, σ) := hb 20 (by decide)
    simp only [i18, i19, i20, Option.bind_some, cfF, cfT, reduceCtorEq, cif_t, cif_f]
    rfl
  · have i18 : f_M_is 0 6 σ = some (false, σ) := hb 18 (by decide)
    have i19 : f_M_is 0 3 σ = some (false, σ) := hb 19 (by decide)
    have i20 : f_M_is 0 7 σ = some (false, σ) := hb 20 (by decide)
    simp only [i18, i19, i20, Option.bind_some, cfF, cfT, reduceCtorEq, cif_t, cif_f]
    rfl
  · have i18 : f_M_is 0 6 σ = some (false, σ) := hb 18 (by decide)
    have i19 : f_M_is 0 3 σ = some (false, σ) := hb 19 (by decide)
    have i20 : f_M_is 0 7 σ = some (false, σ) := hb 20 (by decide)
    simp only [i18, i19, i20, Option.bind_some, cfF, cfT, reduceCtorEq, cif_t, cif_f]
    rfl
  · have i18 : f_M_is 0 6 σ = some (false, σ) := hb 18 (by decide)
    have i19 : f_M_is 0 3 σ = some (false, σ) := hb 19 (by decide)
    have i20 : f_M_is 0 7 σ = some (false, σ) := hb 20 (by decide)
    simp only [i18, i19, i20, Option.bind_some, cfF, cfT, reduceCtorEq, cif_t, cif_f]
    rfl
  · have i18 : f_M_is 0 6 σ = some (false, σ) := hb 18 (by decide)
    have i19 : f_M_is 0 3 σ = some (false, σ) := hb 19 (by decide)
    have i20 : f_M_is 0 7 σ = some (false, σ) := hb 20 (by decide)
    simp only [i18, i19, i20, Option.bind_some, cfF, cfT, reduceCtorEq, cif_t, cif_f]
    rfl
  · have i18 : f_M_is 0 6 σ = some (false, σ) := hb 18 (by decide)
    have i19 : f_M_is 0 3 σ = some (false, σ) := hb 19 (by decide)
    have i20 : f_M_is 0 7 σ = some (false, σ) := hb 20 (by decide)
    simp only [i18, i19, i20, Option.bind_some, cfF, cfT, reduceCtorEq, cif_t, cif_f]
    rfl
  · have i18 : f_M_is 0 6 σ = some (false, σ) := hb 18 (by decide)
    have i19 : f_M_is 0 3 σ = some (false, σ) := hb 19 (by decide)
    have i20 : f_M_is 0 7 σ = some (false, σ) := hb 20 (by decide)
    simp only [i18, i19, i20, Option.bind_some, cfF, cfT, reduceCtorEq, cif_t, cif_f]
    rfl
  · have i18 : f_M_is 0 6 σ = some (false, σ) := hb 18 (by decide)
    have i19 : f_M_is 0 3 σ = some (false, σ) := hb 19 (by decide)
    have i20 : f_M_is 0 7 σ = some (false, σ) := hb 20 (by decide)
    simp only [i18, i19, i20, Option.bind_some, cfF, cfT, reduceCtorEq, cif_t, cif_f]
    rfl
  · have i18 : f_M_is 0 6 σ = some (false, σ) := hb 18 (by decide)
    have i19 : f_M_is 0 3 σ = some (false, σ) := hb 19 (by decide)
    have i20 : f_M_is 0 7 σ = some (false, σ) := hb 20 (by decide)
    simp only [i18, i19, i20, Option.bind_some, cfF, cfT, reduceCtorEq, cif_t, cif_f]
    rfl
  · have i18 : f_M_is 0 6 σ = some (false, σ) := hb 18 (by decide)
    have i19 : f_M_is 0 3 σ = some (false, σ) := hb 19 (by decide)
    have i20 : f_M_is 0 7 σ = some (false, σ) := hb 20 (by decide)
    simp only [i18, i19, i20, Option.bind_some, cfF, cfT, reduceCtorEq, cif_t, cif_f]
    rfl
  · have i18 : f_M_is 0 6 σ = some (false, σ) := hb 18 (by decide)
    have i19 : f_M_is 0 3 σ = some (false, σ) := hb 19 (by decide)
    have i20 : f_M_is 0 7 σ = some (false, σ) := hb 20 (by decide)
    simp only [i18, i19, i20, Option.bind_some, cfF, cfT, reduceCtorEq, cif_t, cif_f]
    rfl
  · have i18 : f_M_is 0 6 σ = some (false, σ) := hb 18 (by decide)
    have i19 : f_M_is 0 3 σ = some (false, σ) := hb 19 (by decide)
    have i20 : f_M_is 0 7 σ = some (false, σ) := hb 20 (by decide)
    simp only [i18, i19, i20, Option.bind_some, cfF, cfT, reduceCtorEq, cif_t, cif_f]
    rfl
  · have i18 : f_M_is 0 6 σ = some (false, σ) := hb 18 (by decide)
    have i19 : f_M_is 0 3 σ = some (false, σ) := hb 19 (by decide)
    have i20 : f_M_is 0 7 σ = some (false, σ) := hb 20 (by decide)
    simp only [i18, i19, i20, Option.bind_some, cfF, cfT, reduceCtorEq, cif_t, cif_f]
    rfl
  · have i18 : f_M_is 0 6 σ = some (false, σ) := hb 18 (by decide)
    have i19 : f_M_is 0 3 σ = some (false, σ) := hb 19 (by decide)
    have i20 : f_M_is 0 7 σ = some (false, σ) := hb 20 (by decide)
    simp only [i18, i19, i20, Option.bind_some, cfF, cfT, reduceCtorEq, cif_t, cif_f]
    rfl
  · have i18 : f_M_is 0 6 σ = some (false, σ) := hb 18 (by decide)
    have i19 : f_M_is 0 3 σ = some (false, σ) := hb 19 (by decide)
    have i20 : f_M_is 0 7 σ = some (false, σ) := hb 20 (by decide)
    simp only [i18, i19, i20, Option.bind_some, cfF, cfT, reduceCtorEq, cif_t, cif_f]
    rfl
  · have i18 : f_M_is 0 6 σ = some (true, σ) := hb 18 (by decide)
    simp only [i18, Option.bind_some, cfF, cfT, reduceCtorEq, cif_t, cif_f]
    rfl
  · have i18 : f_M_is 0 6 σ = some (false, σ) := hb 18 (by decide)
    have i19 : f_M_is 0 3 σ = some (true, σ) := hb 19 (by decide)
    simp only [i18, i19, Option.bind_some, cfF, cfT, reduceCtorEq, cif_t, cif_f]
    rfl
  · have i18 : f_M_is 0 6 σ = some (false, σ) := hb 18 (by decide)
    have i19 : f_M_is 0 3 σ = some (false, σ) := hb 19 (by decide)
    have i20 : f_M_is 0 7 σ = some (true, σ) := hb 20 (by decide)
    simp only [i18, i19, i20, Option.bind_some, cfF, cfT, reduceCtorEq, cif_t, cif_f]
    rfl
  · have i18 : f_M_is 0 6 σ = some (false, σ) := hb 18 (by decide)
    have i19 : f_M_is 0 3 σ = some (false, σ) := hb 19 (by decide)
    have i20 : f_M_is 0 7 σ = some (false, σ) := hb 20 (by decide)
    simp only [i18, i19, i20, Option.bind_some, cfF, cfT, reduceCtorEq, cif_t, cif_f]
    rfl
  · have i18 : f_M_is 0 6 σ = some (false, σ) := hb 18 (by decide)
    have i19 : f_M_is 0 3 σ = some (false, σ) := hb 19 (by decide)
    have i20 : f_M_is 0 7 σ = some (false, σ) := hb 20 (by decide)
    simp only [i18, i19, i20, Option.bind_some, cfF, cfT, reduceCtorEq, cif_t, cif_f]
    rfl
theorem e_word3 {σ : Mem} {v : Nat} (hb : ∀ w : Nat, w < 22 → f_M_is 0 (wtx w) σ = some (decide (v = w), σ)) (hv : v < 22 ∨ v = 99) (hR : rI σ 0 12 = zi 3) : f_M_word 0 σ = some (zi (tw 3 v), σ) := by
  rw [f_M_word_eq, b_M_word]
  simp (disch := omega) only [zi_div, zi_and31, zi_neg, zi_add, zi_sub, zi_mul, zi_lt, zi_le, zi_eq, zi_imx, zi_imn, zi_iab, gd_i, vpb_0, vpb_1, b2i_0, b2i_1, b2i_e0, b2i_e1, lf_b, lf_s, lf_n, Option.bind_some, decide_eq_false_iff_not, decide_eq_true_eq, cif_t, cif_f, cif_pos, cif_neg, if_true, if_false, if_pos, if_neg, zi_ofNat, Nat.zero_add, Nat.reduceAdd, Nat.reduceSub, Nat.reduceMul, Int.reduceAdd, Int.reduceSub, Int.reduceMul, Int.reduceNeg, Bool.false_eq_true, reduceCtorEq, rI_wI_s, rI_wI_f, rI_wI_c, rI_wd_c, rd_wI_c, rd_wd_c, rd_wd_s, rd_wd_n, rI_wJ, rd_wJ, rI_ix, wI_ix, rJ_ix, wJ_ix, zl_0, zl_1, zl_2, zl_3, zl_4, zl_5, zl_6, zl_7, zl_8, zl_9, zl_10, zl_11, zl_12, zl_13, zl_14, zl_15, zl_16, zl_20, zl_21, zl_22, zl_23, zl_24, zl_25, zl_26, zl_27, zl_28, zl_29, zl_30, zl_31, zl_32, zl_37, zl_40, zl_41, zl_42, zl_43, zl_44, zl_45, zl_46, zl_47, zl_48, zl_49, zl_50, zl_51, zl_52, zl_53, zl_54, zl_55, zl_56, zl_57, zl_58, zl_59, zl_60, zl_61, zl_62, zl_63, zl_64, zl_65, zl_74, zl_86, zl_90, zl_97, zl_98, zl_99, zl_100, zl_122, zl_140, zl_141, zl_142, zl_143, zl_145, zl_146, zl_147, zl_149, zl_150, zl_159, zl_160, zl_161, zl_162, zl_178, zl_199, zl_200, zl_201, zl_210, zl_230, zl_240, zl_245, zl_255, zl_256, zl_257, zl_288, zl_312, zl_332, zl_340, zl_356, zl_366, zl_399, zl_400, zl_500, zl_820, zl_966, zl_982, zl_998, zl_999, zl_1000, zl_1002, zl_1003, zl_1004, zl_1012, zl_1013, zl_1014, zl_1015, zl_1016, zl_1017, zl_1018, zl_1020, zl_1021, zl_1024, zl_1030, zl_1850, zl_2412, zl_2613, zl_9999, zl_10000, zl_99999, zl_1000000, hR]
  have hv' : v = 0 ∨ v = 1 ∨ v = 2 ∨ v = 3 ∨ v = 4 ∨ v = 5 ∨ v = 6 ∨ v = 7 ∨ v = 8 ∨ v = 9 ∨ v = 10 ∨ v = 11 ∨ v = 12 ∨ v = 13 ∨ v = 14 ∨ v = 15 ∨ v = 16 ∨ v = 17 ∨ v = 18 ∨ v = 19 ∨ v = 20 ∨ v = 21 ∨ v = 99 := by omega
  rcases hv' with rfl | rfl | rfl | rfl | rfl | rfl | rfl | rfl | rfl | rfl | rfl | rfl | rfl | rfl | rfl | rfl | rfl | rfl | rfl | rfl | rfl | rfl | rfl
  · have i21 : f_M_is 0 13 σ = some (false, σ) := hb 21 (by decide)
    simp only [i21, Option.bind_some, cfF, cfT, reduceCtorEq, cif_t, cif_f]
    rfl
  · have i21 : f_M_is 0 13 σ = some (false, σ) := hb 21 (by decide)
    simp only [i21, Option.bind_some, cfF, cfT, reduceCtorEq, cif_t, cif_f]
    rfl
  · have i21 : f_M_is 0 13 σ = some (false, σ) := hb 21 (by decide)
    simp only [i21, Option.bind_some, cfF, cfT, reduceCtorEq, cif_t, cif_f]
    rfl
  · have i21 : f_M_is 0 13 σ = some (false, σ) := hb 21 (by decide)
    simp only [i21, Option.bind_some, cfF, cfT, reduceCtorEq, cif_t, cif_f]
    rfl
  · have i21 : f_M_is 0 13 σ = some (false, σ) := hb 21 (by decide)
    simp only [i21, Option.bind_some, cfF, cfT, reduceCtorEq, cif_t, cif_f]
    rfl
  · have i21 : f_M_is 0 13 σ = some (false, σ) := hb 21 (by decide)
    simp only [i21, Option.bind_some, cfF, cfT, reduceCtorEq, cif_t, cif_f]
    rfl
  · have i21 : f_M_is 0 13 σ = some (false, σ) := hb 21 (by decide)
    simp only [i21, Option.bind_some, cfF, cfT, reduceCtorEq, cif_t, cif_f]
    rfl
  · have i21 : f_M_is 0 13 σ = some (false, σ) := hb 21 (by decide)
    simp only [i21, Option.bind_some, cfF, cfT, reduceCtorEq, cif_t, cif_f]
    rfl
  · have i21 : f_M_is 0 13 σ = some (false, σ) := hb 21 (by decide)
    simp only [i21, Option.bind_some, cfF, cfT, reduceCtorEq, cif_t, cif_f]
    rfl
  · have i21 : f_M_is 0 13 σ = some (false, σ) := hb 21 (by decide)
    simp only [i21, Option.bind_some, cfF, cfT, reduceCtorEq, cif_t, cif_f]
    rfl
  · have i21 : f_M_is 0 13 σ = some (false, σ) := hb 21 (by decide)
    simp only [i21, Option.bind_some, cfF, cfT, reduceCtorEq, cif_t, cif_f]
    rfl
  · have i21 : f_M_is 0 13 σ = some (false, σ) := hb 21 (by decide)
    simp only [i21, Option.bind_some, cfF, cfT, reduceCtorEq, cif_t, cif_f]
    rfl
  · have i21 : f_M_is 0 13 σ = some (false, σ) := hb 21 (by decide)
    simp only [i21, Option.bind_some, cfF, cfT, reduceCtorEq, cif_t, cif_f]
    rfl
  · have i21 : f_M_is 0 13 σ = some (false, σ) := hb 21 (by decide)
    simp only [i21, Option.bind_some, cfF, cfT, reduceCtorEq, cif_t, cif_f]
    rfl
  · have i21 : f_M_is 0 13 σ = some (false, σ) := hb 21 (by decide)
    simp only [i21, Option.bind_some, cfF, cfT, reduceCtorEq, cif_t, cif_f]
    rfl
  · have i21 : f_M_is 0 13 σ = some (false, σ) := hb 21 (by decide)
    simp only [i21, Option.bind_some, cfF, cfT, reduceCtorEq, cif_t, cif_f]
    rfl
  · have i21 : f_M_is 0 13 σ = some (false, σ) := hb 21 (by decide)
    simp only [i21, Option.bind_some, cfF, cfT, reduceCtorEq, cif_t, cif_f]
    rfl
  · have i21 : f_M_is 0 13 σ = some (false, σ) := hb 21 (by decide)
    simp only [i21, Option.bind_some, cfF, cfT, reduceCtorEq, cif_t, cif_f]
    rfl
  · have i21 : f_M_is 0 13 σ = some (false, σ) := hb 21 (by decide)
    simp only [i21, Option.bind_some, cfF, cfT, reduceCtorEq, cif_t, cif_f]
    rfl
  · have i21 : f_M_is 0 13 σ = some (false, σ) := hb 21 (by decide)
    simp only [i21, Option.bind_some, cfF, cfT, reduceCtorEq, cif_t, cif_f]
    rfl
  · have i21 : f_M_is 0 13 σ = some (false, σ) := hb 21 (by decide)
    simp only [i21, Option.bind_some, cfF, cfT, reduceCtorEq, cif_t, cif_f]
    rfl
  · have i21 : f_M_is 0 13 σ = some (true, σ) := hb 21 (by decide)
    simp only [i21, Option.bind_some, cfF, cfT, reduceCtorEq, cif_t, cif_f]
    rfl
  · have i21 : f_M_is 0 13 σ = some (false, σ) := hb 21 (by decide)
    simp only [i21, Option.bind_some, cfF, cfT, reduceCtorEq, cif_t, cif_f]
    rfl
theorem e_word {T : Int → Int} {t p e R : Int} {σ : Mem} (h : TpM T t σ) (h17 : rI σ 0 17 = zi e) (h19 : rI σ 0 19 = zi p) (p0 : 0 ≤ p) (pe : p < e) (et : e ≤ t) (hR : rI σ 0 12 = zi R) (R0 : 0 ≤ R) (R1 : R ≤ 3) {k : Int} (hk : (k = 257 ∧ ∀ w : Nat, w < 22 → ¬ eqW T p e w) ∨ ∃ w : Nat, w < 22 ∧ k = 1000 + w ∧ eqW T p e w) : f_M_word 0 σ = some (zi (tm R k), σ) := by
  obtain ⟨v, hv, hb, hkv⟩ : ∃ v : Nat, (v < 22 ∨ v = 99) ∧ (∀ w : Nat, w < 22 → f_M_is 0 (wtx w) σ = some (decide (v = w), σ)) ∧ tm R k = tw R v := by
    rcases hk with ⟨h1, h2⟩ | ⟨w, w1, w2, w3⟩
    · refine ⟨99, Or.inr rfl, fun w hw => ?_, ?_⟩
      · obtain ⟨b, e1, e2⟩ := e_is h h17 h19 p0 pe et hw
        have : b = false := by
          cases b
          · rfl
          · exact absurd (e2.mp rfl) (h2 w hw)
        rw [e1, this, decide_eq_false (by omega)]
      · have hR' : R = 0 ∨ R = 1 ∨ R = 2 ∨ R = 3 := by omega
        rw [h1]
        rcases hR' with rfl | rfl | rfl | rfl <;> decide
    · refine ⟨w, Or.inl w1, fun w' hw' => ?_, ?_⟩
      · obtain ⟨b, e1, e2⟩ := e_is h h17 h19 p0 pe et hw'
        have : b = decide (w = w') := by
          by_cases hww : w = w'
          · rw [decide_eq_true hww]
            exact e2.mpr (by rw [← hww]; exact w3)
          · rw [decide_eq_false hww]
            cases b
            · rfl
            · exact absurd (eqW_uq w1 hw' w3 (e2.mp rfl)) hww
        rw [e1, this]
      · rw [w2]
        unfold tm
        rw [if_neg (by omega), if_neg (by omega), if_neg (by omega), show (1000 : Int) + w - 1000 = w by omega]
  rw [hkv]
  have hR' : R = 0 ∨ R = 1 ∨ R = 2 ∨ R = 3 := by omega
  rcases hR' with rfl | rfl | rfl | rfl
  · exact e_word0 hb hv hR
  · exact e_word1 hb hv hR
  · exact e_word2 hb hv hR
  · exact e_word3 hb hv hR
/-- the model looks at the first of these -/
def Lk (T : Int → Int) (t R : Int) (σ : Mem) : List Tok → Prop
  | [] => rI σ 0 18 = zi 0 ∧ rI σ 0 19 = zi t
  | x :: r => rI σ 0 18 = zi (tm R x.1) ∧ rI σ 0 19 = zi x.2.2 ∧ (x.1 = 256 → rI σ 0 20 = zi x.2.1) ∧ ∃ e : Int, rI σ 0 17 = zi e ∧ 0 ≤ e ∧ e ≤ t ∧ NX T t e r
def fr4 (σ σ' : Mem) : Prop := ∀ k j : Nat, ¬ (k = 0 ∧ 17 ≤ j ∧ j ≤ 20) → rI σ' k j = rI σ k j
theorem TpM.fr {T : Int → Int} {t : Int} {σ σ' : Mem} (h : TpM T t σ) (hf : fr4 σ σ') : TpM T t σ' := by
  obtain ⟨a, b, c, d⟩ := h
  exact ⟨a, b, (hf _ _ (by omega)).trans c, fun i i0 i1 => by
    obtain ⟨x, y, z⟩ := d i i0 i1
    exact ⟨x, y, (hf 8 _ (by omega)).trans z⟩⟩
theorem fr4.trans {a b c : Mem} (h : fr4 a b) (h' : fr4 b c) : fr4 a c := fun k j hk => (h' k j hk).trans (h k j hk)
theorem e_skip {T : Int → Int} {t q : Int} (q1 : q ≤ t) (hq : q = t ∨ (0 ≤ q ∧ ¬ blk (T q))) (K : Nat → Mem → Option Mem) : ∀ (n : Nat) (p : Int) (σ : Mem), TpM T t σ → rI σ 0 17 = zi p → 0 ≤ p → p ≤ q → q - p < n → (∀ i : Int, p ≤ i → i < q → blk (T i)) → ∃ σ' : Mem, f_M_next0_0 K n 0 σ = K 0 σ' ∧ rI σ' 0 17 = zi q ∧ ∀ k j : Nat, ¬ (k = 0 ∧ j = 17) → rI σ' k j = rI σ k j := by
  intro n
  induction n with
  | zero => intro p σ hT hp p0 p1 hn; omega
  | succ n ih =>
    intro p σ hT hp p0 p1 hn hb
    obtain ⟨t0, t1, ht, hTT⟩ := id hT
    have e1 := e_see hT (i := p) p0 (by omega)
    rw [f_M_next0_0]
    by_cases g : p = q
    · by_cases gt : p < t
      · have hnb : ¬ blk (T p) := by
          rcases hq with h | h
          · omega
          · rw [g]; exact h.2
        obtain ⟨c0, c1, -⟩ := hTT p p0 gt
        rw [if_pos gt] at e1
        simp (disch := omega) only [zi_div, zi_and31, zi_neg, zi_add, zi_sub, zi_mul, zi_lt, zi_le, zi_eq, zi_imx, zi_imn, zi_iab, gd_i, vpb_0, vpb_1, b2i_0, b2i_1, b2i_e0, b2i_e1, lf_b, lf_s, lf_n, Option.bind_some, decide_eq_false_iff_not, decide_eq_true_eq, cif_t, cif_f, cif_pos, cif_neg, if_true, if_false, if_pos, if_neg, zi_ofNat, Nat.zero_add, Nat.reduceAdd, Nat.reduceSub, Nat.reduceMul, Int.reduceAdd, Int.reduceSub, Int.reduceMul, Int.reduceNeg, Bool.false_eq_true, reduceCtorEq, rI_wI_s, rI_wI_f, rI_wI_c, rI_wd_c, rd_wI_c, rd_wd_c, rd_wd_s, rd_wd_n, rI_wJ, rd_wJ, rI_ix, wI_ix, rJ_ix, wJ_ix, zl_0, zl_1, zl_2, zl_3, zl_4, zl_5, zl_6, zl_7, zl_8, zl_9, zl_10, zl_11, zl_12, zl_13, zl_14, zl_15, zl_16, zl_20, zl_21, zl_22, zl_23, zl_24, zl_25, zl_26, zl_27, zl_28, zl_29, zl_30, zl_31, zl_32, zl_37, zl_40, zl_41, zl_42, zl_43, zl_44, zl_45, zl_46, zl_47, zl_48, zl_49, zl_50, zl_51, zl_52, zl_53, zl_54, zl_55, zl_56, zl_57, zl_58, zl_59, zl_60, zl_61, zl_62, zl_63, zl_64, zl_65, zl_74, zl_86, zl_90, zl_97, zl_98, zl_99, zl_100, zl_122, zl_140, zl_141, zl_142, zl_143, zl_145, zl_146, zl_147, zl_149, zl_150, zl_159, zl_160, zl_161, zl_162, zl_178, zl_199, zl_200, zl_201, zl_210, zl_230, zl_240, zl_245, zl_255, zl_256, zl_257, zl_288, zl_312, zl_332, zl_340, zl_356, zl_366, zl_399, zl_400, zl_500, zl_820, zl_966, zl_982, zl_998, zl_999, zl_1000, zl_1002, zl_1003, zl_1004, zl_1012, zl_1013, zl_1014, zl_1015, zl_1016, zl_1017, zl_1018, zl_1020, zl_1021, zl_1024, zl_1030, zl_1850, zl_2412, zl_2613, zl_9999, zl_10000, zl_99999, zl_1000000, hp, e1]
        exact ⟨σ, rfl, by rw [hp, g], fun _ _ _ => rfl⟩
      · rw [if_neg gt] at e1
        simp (disch := omega) only [zi_div, zi_and31, zi_neg, zi_add, zi_sub, zi_mul, zi_lt, zi_le, zi_eq, zi_imx, zi_imn, zi_iab, gd_i, vpb_0, vpb_1, b2i_0, b2i_1, b2i_e0, b2i_e1, lf_b, lf_s, lf_n, Option.bind_some, decide_eq_false_iff_not, decide_eq_true_eq, cif_t, cif_f, cif_pos, cif_neg, if_true, if_false, if_pos, if_neg, zi_ofNat, Nat.zero_add, Nat.reduceAdd, Nat.reduceSub, Nat.reduceMul, Int.reduceAdd, Int.reduceSub, Int.reduceMul, Int.reduceNeg, Bool.false_eq_true, reduceCtorEq, rI_wI_s, rI_wI_f, rI_wI_c, rI_wd_c, rd_wI_c, rd_wd_c, rd_wd_s, rd_wd_n, rI_wJ, rd_wJ, rI_ix, wI_ix, rJ_ix, wJ_ix, zl_0, zl_1, zl_2, zl_3, zl_4, zl_5, zl_6, zl_7, zl_8, zl_9, zl_10, zl_11, zl_12, zl_13, zl_14, zl_15, zl_16, zl_20, zl_21, zl_22, zl_23, zl_24, zl_25, zl_26, zl_27, zl_28, zl_29, zl_30, zl_31, zl_32, zl_37, zl_40, zl_41, zl_42, zl_43, zl_44, zl_45, zl_46, zl_47, zl_48, zl_49, zl_50, zl_51, zl_52, zl_53, zl_54, zl_55, zl_56, zl_57, zl_58, zl_59, zl_60, zl_61, zl_62, zl_63, zl_64, zl_65, zl_74, zl_86, zl_90, zl_97, zl_98, zl_99, zl_100, zl_122, zl_140, zl_141, zl_142, zl_143, zl_145, zl_146, zl_147, zl_149, zl_150, zl_159, zl_160, zl_161, zl_162, zl_178, zl_199, zl_200, zl_201, zl_210, zl_230, zl_240, zl_245, zl_255, zl_256, zl_257, zl_288, zl_312, zl_332, zl_340, zl_356, zl_366, zl_399, zl_400, zl_500, zl_820, zl_966, zl_982, zl_998, zl_999, zl_1000, zl_1002, zl_1003, zl_1004, zl_1012, zl_1013, zl_1014, zl_1015, zl_1016, zl_1017, zl_1018, zl_1020, zl_1021, zl_1024, zl_1030, zl_1850, zl_2412, zl_2613, zl_9999, zl_10000, zl_99999, zl_1000000, hp, e1]
        exact ⟨σ, rfl, by rw [hp, g], fun _ _ _ => rfl⟩
    · have gt : p < t := by omega
      rw [if_pos gt] at e1
      obtain ⟨c0, c1, -⟩ := hTT p p0 gt
      have hbp := hb p (by omega) (by omega)
      have hT' : TpM T t (wI σ 0 17 (zi (p + 1))) := hT.fr (fun k j hk => by simp (disch := omega) only [rI_wI_s, rI_wI_f, rI_wI_c, rI_wd_c, rd_wI_c, rd_wd_c, rd_wd_s, rd_wd_n, rI_wJ, rd_wJ, rI_ix, wI_ix, rJ_ix, wJ_ix, rI_wI_o, Nat.reduceAdd])
      obtain ⟨σ', f1, f2, f3⟩ := ih (p + 1) (wI σ 0 17 (zi (p + 1))) hT' (by simp (disch := omega) only [rI_wI_s, rI_wI_f, rI_wI_c, rI_wd_c, rd_wI_c, rd_wd_c, rd_wd_s, rd_wd_n, rI_wJ, rd_wJ, rI_ix, wI_ix, rJ_ix, wJ_ix, rI_wI_o, Nat.reduceAdd]) (by omega) (by omega) (by omega) (fun i i0 i1 => hb i (by omega) i1)
      refine ⟨σ', ?_, f2, fun k j hk => (f3 k j hk).trans (by simp (disch := omega) only [rI_wI_s, rI_wI_f, rI_wI_c, rI_wd_c, rd_wI_c, rd_wd_c, rd_wd_s, rd_wd_n, rI_wJ, rd_wJ, rI_ix, wI_ix, rJ_ix, wJ_ix, rI_wI_o, Nat.reduceAdd])⟩
      by_cases g32 : T p = 32
      · clear hbp
        simp (disch := omega) only [zi_div, zi_and31, zi_neg, zi_add, zi_sub, zi_mul, zi_lt, zi_le, zi_eq, zi_imx, zi_imn, zi_iab, gd_i, vpb_0, vpb_1, b2i_0, b2i_1, b2i_e0, b2i_e1, lf_b, lf_s, lf_n, Option.bind_some, decide_eq_false_iff_not, decide_eq_true_eq, cif_t, cif_f, cif_pos, cif_neg, if_true, if_false, if_pos, if_neg, zi_ofNat, Nat.zero_add, Nat.reduceAdd, Nat.reduceSub, Nat.reduceMul, Int.reduceAdd, Int.reduceSub, Int.reduceMul, Int.reduceNeg, Bool.false_eq_true, reduceCtorEq, rI_wI_s, rI_wI_f, rI_wI_c, rI_wd_c, rd_wI_c, rd_wd_c, rd_wd_s, rd_wd_n, rI_wJ, rd_wJ, rI_ix, wI_ix, rJ_ix, wJ_ix, zl_0, zl_1, zl_2, zl_3, zl_4, zl_5, zl_6, zl_7, zl_8, zl_9, zl_10, zl_11, zl_12, zl_13, zl_14, zl_15, zl_16, zl_20, zl_21, zl_22, zl_23, zl_24, zl_25, zl_26, zl_27, zl_28, zl_29, zl_30, zl_31, zl_32, zl_37, zl_40, zl_41, zl_42, zl_43, zl_44, zl_45, zl_46, zl_47, zl_48, zl_49, zl_50, zl_51, zl_52, zl_53, zl_54, zl_55, zl_56, zl_57, zl_58, zl_59, zl_60, zl_61, zl_62, zl_63, zl_64, zl_65, zl_74, zl_86, zl_90, zl_97, zl_98, zl_99, zl_100, zl_122, zl_140, zl_141, zl_142, zl_143, zl_145, zl_146, zl_147, zl_149, zl_150, zl_159, zl_160, zl_161, zl_162, zl_178, zl_199, zl_200, zl_201, zl_210, zl_230, zl_240, zl_245, zl_255, zl_256, zl_257, zl_288, zl_312, zl_332, zl_340, zl_356, zl_366, zl_399, zl_400, zl_500, zl_820, zl_966, zl_982, zl_998, zl_999, zl_1000, zl_1002, zl_1003, zl_1004, zl_1012, zl_1013, zl_1014, zl_1015, zl_1016, zl_1017, zl_1018, zl_1020, zl_1021, zl_1024, zl_1030, zl_1850, zl_2412, zl_2613, zl_9999, zl_10000, zl_99999, zl_1000000, hp, e1]
        exact f1
      · have g10 : T p = 10 := by omega
        clear hbp
        simp (disch := omega) only [zi_div, zi_and31, zi_neg, zi_add, zi_sub, zi_mul, zi_lt, zi_le, zi_eq, zi_imx, zi_imn, zi_iab, gd_i, vpb_0, vpb_1, b2i_0, b2i_1, b2i_e0, b2i_e1, lf_b, lf_s, lf_n, Option.bind_some, decide_eq_false_iff_not, decide_eq_true_eq, cif_t, cif_f, cif_pos, cif_neg, if_true, if_false, if_pos, if_neg, zi_ofNat, Nat.zero_add, Nat.reduceAdd, Nat.reduceSub, Nat.reduceMul, Int.reduceAdd, Int.reduceSub, Int.reduceMul, Int.reduceNeg, Bool.false_eq_true, reduceCtorEq, rI_wI_s, rI_wI_f, rI_wI_c, rI_wd_c, rd_wI_c, rd_wd_c, rd_wd_s, rd_wd_n, rI_wJ, rd_wJ, rI_ix, wI_ix, rJ_ix, wJ_ix, zl_0, zl_1, zl_2, zl_3, zl_4, zl_5, zl_6, zl_7, zl_8, zl_9, zl_10, zl_11, zl_12, zl_13, zl_14, zl_15, zl_16, zl_20, zl_21, zl_22, zl_23, zl_24, zl_25, zl_26, zl_27, zl_28, zl_29, zl_30, zl_31, zl_32, zl_37, zl_40, zl_41, zl_42, zl_43, zl_44, zl_45, zl_46, zl_47, zl_48, zl_49, zl_50, zl_51, zl_52, zl_53, zl_54, zl_55, zl_56, zl_57, zl_58, zl_59, zl_60, zl_61, zl_62, zl_63, zl_64, zl_65, zl_74, zl_86, zl_90, zl_97, zl_98, zl_99, zl_100, zl_122, zl_140, zl_141, zl_142, zl_143, zl_145, zl_146, zl_147, zl_149, zl_150, zl_159, zl_160, zl_161, zl_162, zl_178, zl_199, zl_200, zl_201, zl_210, zl_230, zl_240, zl_245, zl_255, zl_256, zl_257, zl_288, zl_312, zl_332, zl_340, zl_356, zl_366, zl_399, zl_400, zl_500, zl_820, zl_966, zl_982, zl_998, zl_999, zl_1000, zl_1002, zl_1003, zl_1004, zl_1012, zl_1013, zl_1014, zl_1015, zl_1016, zl_1017, zl_1018, zl_1020, zl_1021, zl_1024, zl_1030, zl_1850, zl_2412, zl_2613, zl_9999, zl_10000, zl_99999, zl_1000000, hp, e1]
        exact f1
theorem e_letters {T : Int → Int} {t p e R k : Int} (p0 : 0 ≤ p) (hpe : p < e) (et : e ≤ t) (hl : ∀ j : Int, p ≤ j → j < e → ltr (T j)) (hend : e = t ∨ ¬ ltr (T e)) (R0 : 0 ≤ R) (R1 : R ≤ 3) (hk : (k = 257 ∧ ∀ w : Nat, w < 22 → ¬ eqW T p e w) ∨ ∃ w : Nat, w < 22 ∧ k = 1000 + w ∧ eqW T p e w) : ∀ (n : Nat) (j : Int) (σ : Mem), TpM T t σ → rI σ 0 17 = zi j → rI σ 0 19 = zi p → rI σ 0 12 = zi R → p ≤ j → j ≤ e → e - j < n → ∃ σ' : Mem, f_M_next0_76 n 0 σ = some σ' ∧ rI σ' 0 17 = zi e ∧ rI σ' 0 18 = zi (tm R k) ∧ rI σ' 0 19 = zi p ∧ fr4 σ σ' := by
  intro n
  induction n with
  | zero => intro j σ hT h17 h19 h12 j0 j1 hn; omega
  | succ n ih =>
    intro j σ hT h17 h19 h12 j0 j1 hn
    obtain ⟨t0, t1, ht, hTT⟩ := id hT
    have e1 := e_see hT (i := j) (by omega) (by omega)
    rw [f_M_next0_76]
    by_cases g : j = e
    · subst g
      have ew := e_word hT h17 h19 p0 hpe et h12 R0 R1 hk
      have e2 : f_M_isLetter (zi (if j < t then T j else -1)) σ = some (false, σ) := by
        by_cases gt : j < t
        · obtain ⟨c0, c1, -⟩ := hTT j (by omega) gt
          rw [if_pos gt, e_isLetterM (by omega) c1, decide_eq_false (hend.resolve_left (by omega))]
        · rw [if_neg gt, e_isLetterM (by omega) (by omega), decide_eq_false (by omega)]
      rw [h17, e1]
      simp only [Option.bind_some]
      rw [e2]
      simp (disch := omega) only [zi_div, zi_and31, zi_neg, zi_add, zi_sub, zi_mul, zi_lt, zi_le, zi_eq, zi_imx, zi_imn, zi_iab, gd_i, vpb_0, vpb_1, b2i_0, b2i_1, b2i_e0, b2i_e1, lf_b, lf_s, lf_n, Option.bind_some, decide_eq_false_iff_not, decide_eq_true_eq, cif_t, cif_f, cif_pos, cif_neg, if_true, if_false, if_pos, if_neg, zi_ofNat, Nat.zero_add, Nat.reduceAdd, Nat.reduceSub, Nat.reduceMul, Int.reduceAdd, Int.reduceSub, Int.reduceMul, Int.reduceNeg, Bool.false_eq_true, reduceCtorEq, rI_wI_s, rI_wI_f, rI_wI_c, rI_wd_c, rd_wI_c, rd_wd_c, rd_wd_s, rd_wd_n, rI_wJ, rd_wJ, rI_ix, wI_ix, rJ_ix, wJ_ix, zl_0, zl_1, zl_2, zl_3, zl_4, zl_5, zl_6, zl_7, zl_8, zl_9, zl_10, zl_11, zl_12, zl_13, zl_14, zl_15, zl_16, zl_20, zl_21, zl_22, zl_23, zl_24, zl_25, zl_26, zl_27, zl_28, zl_29, zl_30, zl_31, zl_32, zl_37, zl_40, zl_41, zl_42, zl_43, zl_44, zl_45, zl_46, zl_47, zl_48, zl_49, zl_50, zl_51, zl_52, zl_53, zl_54, zl_55, zl_56, zl_57, zl_58, zl_59, zl_60, zl_61, zl_62, zl_63, zl_64, zl_65, zl_74, zl_86, zl_90, zl_97, zl_98, zl_99, zl_100, zl_122, zl_140, zl_141, zl_142, zl_143, zl_145, zl_146, zl_147, zl_149, zl_150, zl_159, zl_160, zl_161, zl_162, zl_178, zl_199, zl_200, zl_201, zl_210, zl_230, zl_240, zl_245, zl_255, zl_256, zl_257, zl_288, zl_312, zl_332, zl_340, zl_356, zl_366, zl_399, zl_400, zl_500, zl_820, zl_966, zl_982, zl_998, zl_999, zl_1000, zl_1002, zl_1003, zl_1004, zl_1012, zl_1013, zl_1014, zl_1015, zl_1016, zl_1017, zl_1018, zl_1020, zl_1021, zl_1024, zl_1030, zl_1850, zl_2412, zl_2613, zl_9999, zl_10000, zl_99999, zl_1000000, ew]
      refine ⟨_, rfl, ?_, ?_, ?_, fun k j hk => ?_⟩
      · simp (disch := omega) only [rI_wI_s, rI_wI_f, rI_wI_c, rI_wd_c, rd_wI_c, rd_wd_c, rd_wd_s, rd_wd_n, rI_wJ, rd_wJ, rI_ix, wI_ix, rJ_ix, wJ_ix, rI_wI_o, Nat.reduceAdd]; exact h17
      · simp (disch := omega) only [rI_wI_s, rI_wI_f, rI_wI_c, rI_wd_c, rd_wI_c, rd_wd_c, rd_wd_s, rd_wd_n, rI_wJ, rd_wJ, rI_ix, wI_ix, rJ_ix, wJ_ix, rI_wI_o, Nat.reduceAdd]
      · simp (disch := omega) only [rI_wI_s, rI_wI_f, rI_wI_c, rI_wd_c, rd_wI_c, rd_wd_c, rd_wd_s, rd_wd_n, rI_wJ, rd_wJ, rI_ix, wI_ix, rJ_ix, wJ_ix, rI_wI_o, Nat.reduceAdd]; exact h19
      · simp (disch := omega) only [rI_wI_s, rI_wI_f, rI_wI_c, rI_wd_c, rd_wI_c, rd_wd_c, rd_wd_s, rd_wd_n, rI_wJ, rd_wJ, rI_ix, wI_ix, rJ_ix, wJ_ix, rI_wI_o, Nat.reduceAdd]
    · have gt : j < t := by omega
      obtain ⟨c0, c1, -⟩ := hTT j (by omega) gt
      have hlj := hl j j0 (by omega)
      have e2 := e_isLetterM (c := T j) (s := σ) (by omega) c1
      rw [if_pos gt] at e1
      rw [decide_eq_true hlj] at e2
      clear hlj
      have hf : fr4 σ (wI σ 0 17 (zi (j + 1))) := fun k j hk => by simp (disch := omega) only [rI_wI_s, rI_wI_f, rI_wI_c, rI_wd_c, rd_wI_c, rd_wd_c, rd_wd_s, rd_wd_n, rI_wJ, rd_wJ, rI_ix, wI_ix, rJ_ix, wJ_ix, rI_wI_o, Nat.reduceAdd]
      obtain ⟨σ', f1, f2, f3, f4, f5⟩ := ih (j + 1) (wI σ 0 17 (zi (j + 1))) (hT.fr hf) (by simp (disch := omega) only [rI_wI_s, rI_wI_f, rI_wI_c, rI_wd_c, rd_wI_c, rd_wd_c, rd_wd_s, rd_wd_n, rI_wJ, rd_wJ, rI_ix, wI_ix, rJ_ix, wJ_ix, rI_wI_o, Nat.reduceAdd]) (by simp (disch := omega) only [rI_wI_s, rI_wI_f, rI_wI_c, rI_wd_c, rd_wI_c, rd_wd_c, rd_wd_s, rd_wd_n, rI_wJ, rd_wJ, rI_ix, wI_ix, rJ_ix, wJ_ix, rI_wI_o, Nat.reduceAdd]; exact h19) (by simp (disch := omega) only [rI_wI_s, rI_wI_f, rI_wI_c, rI_wd_c, rd_wI_c, rd_wd_c, rd_wd_s, rd_wd_n, rI_wJ, rd_wJ, rI_ix, wI_ix, rJ_ix, wJ_ix, rI_wI_o, Nat.reduceAdd]; exact h12) (by omega) (by omega) (by omega)
      refine ⟨σ', ?_, f2, f3, f4, hf.trans f5⟩
      simp (disch := omega) only [zi_div, zi_and31, zi_neg, zi_add, zi_sub, zi_mul, zi_lt, zi_le, zi_eq, zi_imx, zi_imn, zi_iab, gd_i, vpb_0, vpb_1, b2i_0, b2i_1, b2i_e0, b2i_e1, lf_b, lf_s, lf_n, Option.bind_some, decide_eq_false_iff_not, decide_eq_true_eq, cif_t, cif_f, cif_pos, cif_neg, if_true, if_false, if_pos, if_neg, zi_ofNat, Nat.zero_add, Nat.reduceAdd, Nat.reduceSub, Nat.reduceMul, Int.reduceAdd, Int.reduceSub, Int.reduceMul, Int.reduceNeg, Bool.false_eq_true, reduceCtorEq, rI_wI_s, rI_wI_f, rI_wI_c, rI_wd_c, rd_wI_c, rd_wd_c, rd_wd_s, rd_wd_n, rI_wJ, rd_wJ, rI_ix, wI_ix, rJ_ix, wJ_ix, zl_0, zl_1, zl_2, zl_3, zl_4, zl_5, zl_6, zl_7, zl_8, zl_9, zl_10, zl_11, zl_12, zl_13, zl_14, zl_15, zl_16, zl_20, zl_21, zl_22, zl_23, zl_24, zl_25, zl_26, zl_27, zl_28, zl_29, zl_30, zl_31, zl_32, zl_37, zl_40, zl_41, zl_42, zl_43, zl_44, zl_45, zl_46, zl_47, zl_48, zl_49, zl_50, zl_51, zl_52, zl_53, zl_54, zl_55, zl_56, zl_57, zl_58, zl_59, zl_60, zl_61, zl_62, zl_63, zl_64, zl_65, zl_74, zl_86, zl_90, zl_97, zl_98, zl_99, zl_100, zl_122, zl_140, zl_141, zl_142, zl_143, zl_145, zl_146, zl_147, zl_149, zl_150, zl_159, zl_160, zl_161, zl_162, zl_178, zl_199, zl_200, zl_201, zl_210, zl_230, zl_240, zl_245, zl_255, zl_256, zl_257, zl_288, zl_312, zl_332, zl_340, zl_356, zl_366, zl_399, zl_400, zl_500, zl_820, zl_966, zl_982, zl_998, zl_999, zl_1000, zl_1002, zl_1003, zl_1004, zl_1012, zl_1013, zl_1014, zl_1015, zl_1016, zl_1017, zl_1018, zl_1020, zl_1021, zl_1024, zl_1030, zl_1850, zl_2412, zl_2613, zl_9999, zl_10000, zl_99999, zl_1000000, h17, e1, e2]
      exact f1
theorem e_digits {T : Int → Int} {t p e : Int} (p0 : 0 ≤ p) (hpe : p < e) (et : e ≤ t) (hl : ∀ j : Int, p ≤ j → j < e → dgt (T j)) (hend : e = t ∨ ¬ dgt (T e)) (K : Nat → Mem → Option Mem) : ∀ (n : Nat) (i : Nat) (σ : Mem), TpM T t σ → rI σ 0 17 = zi (p + i) → rI σ 0 19 = zi p → (i ≤ 4 → rI σ 0 20 = zi (nv T p i)) → p + i ≤ e → e - (p + i) < n → ∃ σ' : Mem, f_M_next0_126 K n 0 σ = K 0 σ' ∧ rI σ' 0 17 = zi e ∧ rI σ' 0 19 = zi p ∧ (e - p ≤ 4 → rI σ' 0 20 = zi (nv T p (e - p).toNat)) ∧ fr4 σ σ' := by
  intro n
  induction n with
  | zero => intro i σ hT h17 h19 h20 j1 hn; omega
  | succ n ih =>
    intro i σ hT h17 h19 h20 j1 hn
    obtain ⟨t0, t1, ht, hTT⟩ := id hT
    have e1 := e_see hT (i := p + i) (by omega) (by omega)
    rw [f_M_next0_126]
    by_cases g : p + i = e
    · have e2 : f_M_isDigit (zi (if p + i < t then T (p + i) else -1)) σ = some (false, σ) := by
        by_cases gt : p + i < t
        · obtain ⟨c0, c1, -⟩ := hTT (p + i) (by omega) gt
          rw [if_pos gt, e_isDigitM (by omega) c1, decide_eq_false (by rw [g]; exact hend.resolve_left (by omega))]
        · rw [if_neg gt, e_isDigitM (by omega) (by omega), decide_eq_false (by omega)]
      rw [h17, e1]
      simp only [Option.bind_some]
      rw [e2]
      simp (disch := omega) only [zi_div, zi_and31, zi_neg, zi_add, zi_sub, zi_mul, zi_lt, zi_le, zi_eq, zi_imx, zi_imn, zi_iab, gd_i, vpb_0, vpb_1, b2i_0, b2i_1, b2i_e0, b2i_e1, lf_b, lf_s, lf_n, Option.bind_some, decide_eq_false_iff_not, decide_eq_true_eq, cif_t, cif_f, cif_pos, cif_neg, if_true, if_false, if_pos, if_neg, zi_ofNat, Nat.zero_add, Nat.reduceAdd, Nat.reduceSub, Nat.reduceMul, Int.reduceAdd, Int.reduceSub, Int.reduceMul, Int.reduceNeg, Bool.false_eq_true, reduceCtorEq, rI_wI_s, rI_wI_f, rI_wI_c, rI_wd_c, rd_wI_c, rd_wd_c, rd_wd_s, rd_wd_n, rI_wJ, rd_wJ, rI_ix, wI_ix, rJ_ix, wJ_ix, zl_0, zl_1, zl_2, zl_3, zl_4, zl_5, zl_6, zl_7, zl_8, zl_9, zl_10, zl_11, zl_12, zl_13, zl_14, zl_15, zl_16, zl_20, zl_21, zl_22, zl_23, zl_24, zl_25, zl_26, zl_27, zl_28, zl_29, zl_30, zl_31, zl_32, zl_37, zl_40, zl_41, zl_42, zl_43, zl_44, zl_45, zl_46, zl_47, zl_48, zl_49, zl_50, zl_51, zl_52, zl_53, zl_54, zl_55, zl_56, zl_57, zl_58, zl_59, zl_60, zl_61, zl_62, zl_63, zl_64, zl_65, zl_74, zl_86, zl_90, zl_97, zl_98, zl_99, zl_100, zl_122, zl_140, zl_141, zl_142, zl_143, zl_145, zl_146, zl_147, zl_149, zl_150, zl_159, zl_160, zl_161, zl_162, zl_178, zl_199, zl_200, zl_201, zl_210, zl_230, zl_240, zl_245, zl_255, zl_256, zl_257, zl_288, zl_312, zl_332, zl_340, zl_356, zl_366, zl_399, zl_400, zl_500, zl_820, zl_966, zl_982, zl_998, zl_999, zl_1000, zl_1002, zl_1003, zl_1004, zl_1012, zl_1013, zl_1014, zl_1015, zl_1016, zl_1017, zl_1018, zl_1020, zl_1021, zl_1024, zl_1030, zl_1850, zl_2412, zl_2613, zl_9999, zl_10000, zl_99999, zl_1000000]
      exact ⟨σ, rfl, by rw [h17, g], h19, fun h4 => by rw [show (e - p).toNat = i by omega]; exact h20 (by omega), fun _ _ _ => rfl⟩
    · have gt : p + i < t := by omega
      obtain ⟨c0, c1, -⟩ := hTT (p + i) (by omega) gt
      have hlj := hl (p + i) (by omega) (by omega)
      have e2 := e_isDigitM (c := T (p + i)) (s := σ) (by omega) c1
      rw [if_pos gt] at e1
      rw [decide_eq_true hlj] at e2
      clear hlj
      by_cases g4 : i < 4
      · have h20' := h20 (by omega)
        have hf : fr4 σ (wI (wI σ 0 20 (zi (10 * nv T p i + T (p + i) - 48))) 0 17 (zi (p + i + 1))) := fun k j hk => by simp (disch := omega) only [rI_wI_s, rI_wI_f, rI_wI_c, rI_wd_c, rd_wI_c, rd_wd_c, rd_wd_s, rd_wd_n, rI_wJ, rd_wJ, rI_ix, wI_ix, rJ_ix, wJ_ix, rI_wI_o, Nat.reduceAdd]
        obtain ⟨σ', f1, f2, f3, f4, f5⟩ := ih (i + 1) (wI (wI σ 0 20 (zi (10 * nv T p i + T (p + i) - 48))) 0 17 (zi (p + i + 1))) (hT.fr hf) (by simp (disch := omega) only [rI_wI_s, rI_wI_f, rI_wI_c, rI_wd_c, rd_wI_c, rd_wd_c, rd_wd_s, rd_wd_n, rI_wJ, rd_wJ, rI_ix, wI_ix, rJ_ix, wJ_ix, rI_wI_o, Nat.reduceAdd]; rw [show p + ((i + 1 : Nat) : Int) = p + i + 1 by omega]) (by simp (disch := omega) only [rI_wI_s, rI_wI_f, rI_wI_c, rI_wd_c, rd_wI_c, rd_wd_c, rd_wd_s, rd_wd_n, rI_wJ, rd_wJ, rI_ix, wI_ix, rJ_ix, wJ_ix, rI_wI_o, Nat.reduceAdd]; exact h19) (fun _ => by simp (disch := omega) only [rI_wI_s, rI_wI_f, rI_wI_c, rI_wd_c, rd_wI_c, rd_wd_c, rd_wd_s, rd_wd_n, rI_wJ, rd_wJ, rI_ix, wI_ix, rJ_ix, wJ_ix, rI_wI_o, Nat.reduceAdd]; rfl) (by omega) (by omega)
        refine ⟨σ', ?_, f2, f3, f4, hf.trans f5⟩
        simp (disch := omega) only [zi_div, zi_and31, zi_neg, zi_add, zi_sub, zi_mul, zi_lt, zi_le, zi_eq, zi_imx, zi_imn, zi_iab, gd_i, vpb_0, vpb_1, b2i_0, b2i_1, b2i_e0, b2i_e1, lf_b, lf_s, lf_n, Option.bind_some, decide_eq_false_iff_not, decide_eq_true_eq, cif_t, cif_f, cif_pos, cif_neg, if_true, if_false, if_pos, if_neg, zi_ofNat, Nat.zero_add, Nat.reduceAdd, Nat.reduceSub, Nat.reduceMul, Int.reduceAdd, Int.reduceSub, Int.reduceMul, Int.reduceNeg, Bool.false_eq_true, reduceCtorEq, rI_wI_s, rI_wI_f, rI_wI_c, rI_wd_c, rd_wI_c, rd_wd_c, rd_wd_s, rd_wd_n, rI_wJ, rd_wJ, rI_ix, wI_ix, rJ_ix, wJ_ix, zl_0, zl_1, zl_2, zl_3, zl_4, zl_5, zl_6, zl_7, zl_8, zl_9, zl_10, zl_11, zl_12, zl_13, zl_14, zl_15, zl_16, zl_20, zl_21, zl_22, zl_23, zl_24, zl_25, zl_26, zl_27, zl_28, zl_29, zl_30, zl_31, zl_32, zl_37, zl_40, zl_41, zl_42, zl_43, zl_44, zl_45, zl_46, zl_47, zl_48, zl_49, zl_50, zl_51, zl_52, zl_53, zl_54, zl_55, zl_56, zl_57, zl_58, zl_59, zl_60, zl_61, zl_62, zl_63, zl_64, zl_65, zl_74, zl_86, zl_90, zl_97, zl_98, zl_99, zl_100, zl_122, zl_140, zl_141, zl_142, zl_143, zl_145, zl_146, zl_147, zl_149, zl_150, zl_159, zl_160, zl_161, zl_162, zl_178, zl_199, zl_200, zl_201, zl_210, zl_230, zl_240, zl_245, zl_255, zl_256, zl_257, zl_288, zl_312, zl_332, zl_340, zl_356, zl_366, zl_399, zl_400, zl_500, zl_820, zl_966, zl_982, zl_998, zl_999, zl_1000, zl_1002, zl_1003, zl_1004, zl_1012, zl_1013, zl_1014, zl_1015, zl_1016, zl_1017, zl_1018, zl_1020, zl_1021, zl_1024, zl_1030, zl_1850, zl_2412, zl_2613, zl_9999, zl_10000, zl_99999, zl_1000000, zl_48, h17, h19, h20', e1, e2]
        exact f1
      · have hf : fr4 σ (wI σ 0 17 (zi (p + i + 1))) := fun k j hk => by simp (disch := omega) only [rI_wI_s, rI_wI_f, rI_wI_c, rI_wd_c, rd_wI_c, rd_wd_c, rd_wd_s, rd_wd_n, rI_wJ, rd_wJ, rI_ix, wI_ix, rJ_ix, wJ_ix, rI_wI_o, Nat.reduceAdd]
        obtain ⟨σ', f1, f2, f3, f4, f5⟩ := ih (i + 1) (wI σ 0 17 (zi (p + i + 1))) (hT.fr hf) (by simp (disch := omega) only [rI_wI_s, rI_wI_f, rI_wI_c, rI_wd_c, rd_wI_c, rd_wd_c, rd_wd_s, rd_wd_n, rI_wJ, rd_wJ, rI_ix, wI_ix, rJ_ix, wJ_ix, rI_wI_o, Nat.reduceAdd]; rw [show p + ((i + 1 : Nat) : Int) = p + i + 1 by omega]) (by simp (disch := omega) only [rI_wI_s, rI_wI_f, rI_wI_c, rI_wd_c, rd_wI_c, rd_wd_c, rd_wd_s, rd_wd_n, rI_wJ, rd_wJ, rI_ix, wI_ix, rJ_ix, wJ_ix, rI_wI_o, Nat.reduceAdd]; exact h19) (fun h => by omega) (by omega) (by omega)
        refine ⟨σ', ?_, f2, f3, f4, hf.trans f5⟩
        simp (disch := omega) only [zi_div, zi_and31, zi_neg, zi_add, zi_sub, zi_mul, zi_lt, zi_le, zi_eq, zi_imx, zi_imn, zi_iab, gd_i, vpb_0, vpb_1, b2i_0, b2i_1, b2i_e0, b2i_e1, lf_b, lf_s, lf_n, Option.bind_some, decide_eq_false_iff_not, decide_eq_true_eq, cif_t, cif_f, cif_pos, cif_neg, if_true, if_false, if_pos, if_neg, zi_ofNat, Nat.zero_add, Nat.reduceAdd, Nat.reduceSub, Nat.reduceMul, Int.reduceAdd, Int.reduceSub, Int.reduceMul, Int.reduceNeg, Bool.false_eq_true, reduceCtorEq, rI_wI_s, rI_wI_f, rI_wI_c, rI_wd_c, rd_wI_c, rd_wd_c, rd_wd_s, rd_wd_n, rI_wJ, rd_wJ, rI_ix, wI_ix, rJ_ix, wJ_ix, zl_0, zl_1, zl_2, zl_3, zl_4, zl_5, zl_6, zl_7, zl_8, zl_9, zl_10, zl_11, zl_12, zl_13, zl_14, zl_15, zl_16, zl_20, zl_21, zl_22, zl_23, zl_24, zl_25, zl_26, zl_27, zl_28, zl_29, zl_30, zl_31, zl_32, zl_37, zl_40, zl_41, zl_42, zl_43, zl_44, zl_45, zl_46, zl_47, zl_48, zl_49, zl_50, zl_51, zl_52, zl_53, zl_54, zl_55, zl_56, zl_57, zl_58, zl_59, zl_60, zl_61, zl_62, zl_63, zl_64, zl_65, zl_74, zl_86, zl_90, zl_97, zl_98, zl_99, zl_100, zl_122, zl_140, zl_141, zl_142, zl_143, zl_145, zl_146, zl_147, zl_149, zl_150, zl_159, zl_160, zl_161, zl_162, zl_178, zl_199, zl_200, zl_201, zl_210, zl_230, zl_240, zl_245, zl_255, zl_256, zl_257, zl_288, zl_312, zl_332, zl_340, zl_356, zl_366, zl_399, zl_400, zl_500, zl_820, zl_966, zl_982, zl_998, zl_999, zl_1000, zl_1002, zl_1003, zl_1004, zl_1012, zl_1013, zl_1014, zl_1015, zl_1016, zl_1017, zl_1018, zl_1020, zl_1021, zl_1024, zl_1030, zl_1850, zl_2412, zl_2613, zl_9999, zl_10000, zl_99999, zl_1000000, zl_48, h17, h19, e1, e2]
        exact f1
/-- the next token -/
theorem e_next0 {T : Int → Int} {t R p : Int} {σ : Mem} {rest : List Tok} (hT : TpM T t σ) (h17 : rI σ 0 17 = zi p) (h12 : rI σ 0 12 = zi R) (R0 : 0 ≤ R) (R1 : R ≤ 3) (p0 : 0 ≤ p) (p1 : p ≤ t) (hN : NX T t p rest) : ∃ σ' : Mem, f_M_next0 0 σ = some σ' ∧ Lk T t R σ' rest ∧ fr4 σ σ' := by
  obtain ⟨t0, t1, ht, hTT⟩ := id hT
  have e0 : f_M_next0 0 σ = f_M_next0_0 (fun k0 s => f_M_next0_39 k0 s) (FU + 1) 0 σ := by
    rw [f_M_next0_eq, b_M_next0, f_M_next0_0]
  rw [e0]
  cases rest with
  | nil =>
    obtain ⟨σ1, f1, f2, f3⟩ := e_skip (Int.le_refl t) (Or.inl rfl) (fun k0 s => f_M_next0_39 k0 s) (FU + 1) p σ hT h17 p0 p1 (by have := FU_ge; omega) hN
    have hf1 : fr4 σ σ1 := fun k j hk => f3 k j (by omega)
    have e1 := e_see ((hT.fr hf1).fr (σ' := wI σ1 0 19 (zi t)) (fun k j hk => by simp (disch := omega) only [rI_wI_s, rI_wI_f, rI_wI_c, rI_wd_c, rd_wI_c, rd_wd_c, rd_wd_s, rd_wd_n, rI_wJ, rd_wJ, rI_ix, wI_ix, rJ_ix, wJ_ix, rI_wI_o, Nat.reduceAdd])) (i := t) t0 t1
    rw [if_neg (by omega)] at e1
    rw [f1, f_M_next0_39]
    simp (disch := omega) only [zi_div, zi_and31, zi_neg, zi_add, zi_sub, zi_mul, zi_lt, zi_le, zi_eq, zi_imx, zi_imn, zi_iab, gd_i, vpb_0, vpb_1, b2i_0, b2i_1, b2i_e0, b2i_e1, lf_b, lf_s, lf_n, Option.bind_some, decide_eq_false_iff_not, decide_eq_true_eq, cif_t, cif_f, cif_pos, cif_neg, if_true, if_false, if_pos, if_neg, zi_ofNat, Nat.zero_add, Nat.reduceAdd, Nat.reduceSub, Nat.reduceMul, Int.reduceAdd, Int.reduceSub, Int.reduceMul, Int.reduceNeg, Bool.false_eq_true, reduceCtorEq, rI_wI_s, rI_wI_f, rI_wI_c, rI_wd_c, rd_wI_c, rd_wd_c, rd_wd_s, rd_wd_n, rI_wJ, rd_wJ, rI_ix, wI_ix, rJ_ix, wJ_ix, zl_0, zl_1, zl_2, zl_3, zl_4, zl_5, zl_6, zl_7, zl_8, zl_9, zl_10, zl_11, zl_12, zl_13, zl_14, zl_15, zl_16, zl_20, zl_21, zl_22, zl_23, zl_24, zl_25, zl_26, zl_27, zl_28, zl_29, zl_30, zl_31, zl_32, zl_37, zl_40, zl_41, zl_42, zl_43, zl_44, zl_45, zl_46, zl_47, zl_48, zl_49, zl_50, zl_51, zl_52, zl_53, zl_54, zl_55, zl_56, zl_57, zl_58, zl_59, zl_60, zl_61, zl_62, zl_63, zl_64, zl_65, zl_74, zl_86, zl_90, zl_97, zl_98, zl_99, zl_100, zl_122, zl_140, zl_141, zl_142, zl_143, zl_145, zl_146, zl_147, zl_149, zl_150, zl_159, zl_160, zl_161, zl_162, zl_178, zl_199, zl_200, zl_201, zl_210, zl_230, zl_240, zl_245, zl_255, zl_256, zl_257, zl_288, zl_312, zl_332, zl_340, zl_356, zl_366, zl_399, zl_400, zl_500, zl_820, zl_966, zl_982, zl_998, zl_999, zl_1000, zl_1002, zl_1003, zl_1004, zl_1012, zl_1013, zl_1014, zl_1015, zl_1016, zl_1017, zl_1018, zl_1020, zl_1021, zl_1024, zl_1030, zl_1850, zl_2412, zl_2613, zl_9999, zl_10000, zl_99999, zl_1000000, f2, e1]
    refine ⟨_, rfl, ⟨?_, ?_⟩, hf1.trans (fun k j hk => ?_)⟩
    · simp (disch := omega) only [rI_wI_s, rI_wI_f, rI_wI_c, rI_wd_c, rd_wI_c, rd_wd_c, rd_wd_s, rd_wd_n, rI_wJ, rd_wJ, rI_ix, wI_ix, rJ_ix, wJ_ix, rI_wI_o, Nat.reduceAdd]
    · simp (disch := omega) only [rI_wI_s, rI_wI_f, rI_wI_c, rI_wd_c, rd_wI_c, rd_wd_c, rd_wd_s, rd_wd_n, rI_wJ, rd_wJ, rI_ix, wI_ix, rJ_ix, wJ_ix, rI_wI_o, Nat.reduceAdd]
    · simp (disch := omega) only [rI_wI_s, rI_wI_f, rI_wI_c, rI_wd_c, rd_wI_c, rd_wd_c, rd_wd_s, rd_wd_n, rI_wJ, rd_wJ, rI_ix, wI_ix, rJ_ix, wJ_ix, rI_wI_o, Nat.reduceAdd]
  | cons x r =>
    obtain ⟨so, va, pl⟩ := x
    obtain ⟨x1, x2, x3, x4, e, ⟨-, hE, hx⟩, hr⟩ := hN
    dsimp only at x1 x2 x3 x4 hE hx
    obtain ⟨q1, q2, q3, q4, q5⟩ := id hE
    obtain ⟨σ1, f1, f2, f3⟩ := e_skip (Int.le_of_lt x2) (Or.inr ⟨by omega, x4⟩) (fun k0 s => f_M_next0_39 k0 s) (FU + 1) p σ hT h17 p0 x1 (by have := FU_ge; omega) x3
    have hf1 : fr4 σ σ1 := fun k j hk => f3 k j (by omega)
    have hf2 : fr4 σ1 (wI σ1 0 19 (zi pl)) := fun k j hk => by simp (disch := omega) only [rI_wI_s, rI_wI_f, rI_wI_c, rI_wd_c, rd_wI_c, rd_wd_c, rd_wd_s, rd_wd_n, rI_wJ, rd_wJ, rI_ix, wI_ix, rJ_ix, wJ_ix, rI_wI_o, Nat.reduceAdd]
    have hT2 := (hT.fr hf1).fr hf2
    have e1 := e_see hT2 (i := pl) (by omega) (by omega)
    rw [if_pos x2] at e1
    obtain ⟨c0, c1, -⟩ := hTT pl (by omega) x2
    have e2 := e_isLetterM (c := T pl) (s := wI σ1 0 19 (zi pl)) (by omega) c1
    have e3 := e_isDigitM (c := T pl) (s := wI σ1 0 19 (zi pl)) (by omega) c1
    have h12' : rI σ1 0 12 = zi R := (f3 0 12 (by omega)).trans h12
    rw [f1, f_M_next0_39]
    rcases hx with ⟨hl, hva, hk⟩ | ⟨hd, hdd⟩ | ⟨hnl, hnd, hva, hs⟩
    · rw [decide_eq_true hl] at e2
      obtain ⟨σ2, g1, g2, g3, g4, g5⟩ := e_letters (T := T) (t := t) (R := R) (by omega) q1 q2 (q3 hl).1 (q3 hl).2 R0 R1 hk FU pl (wI σ1 0 19 (zi pl)) hT2 (by simp (disch := omega) only [rI_wI_s, rI_wI_f, rI_wI_c, rI_wd_c, rd_wI_c, rd_wd_c, rd_wd_s, rd_wd_n, rI_wJ, rd_wJ, rI_ix, wI_ix, rJ_ix, wJ_ix, rI_wI_o, Nat.reduceAdd]; exact f2) (by simp (disch := omega) only [rI_wI_s, rI_wI_f, rI_wI_c, rI_wd_c, rd_wI_c, rd_wd_c, rd_wd_s, rd_wd_n, rI_wJ, rd_wJ, rI_ix, wI_ix, rJ_ix, wJ_ix, rI_wI_o, Nat.reduceAdd]) (by simp (disch := omega) only [rI_wI_s, rI_wI_f, rI_wI_c, rI_wd_c, rd_wI_c, rd_wd_c, rd_wd_s, rd_wd_n, rI_wJ, rd_wJ, rI_ix, wI_ix, rJ_ix, wJ_ix, rI_wI_o, Nat.reduceAdd]; exact h12') (Int.le_refl _) (by omega) (by have := FU_ge; omega)
      refine ⟨σ2, ?_, ⟨g3, g4, fun h => ?_, e, g2, by omega, q2, hr⟩, (hf1.trans hf2).trans g5⟩
      · clear hl
        simp (disch := omega) only [zi_div, zi_and31, zi_neg, zi_add, zi_sub, zi_mul, zi_lt, zi_le, zi_eq, zi_imx, zi_imn, zi_iab, gd_i, vpb_0, vpb_1, b2i_0, b2i_1, b2i_e0, b2i_e1, lf_b, lf_s, lf_n, Option.bind_some, decide_eq_false_iff_not, decide_eq_true_eq, cif_t, cif_f, cif_pos, cif_neg, if_true, if_false, if_pos, if_neg, zi_ofNat, Nat.zero_add, Nat.reduceAdd, Nat.reduceSub, Nat.reduceMul, Int.reduceAdd, Int.reduceSub, Int.reduceMul, Int.reduceNeg, Bool.false_eq_true, reduceCtorEq, rI_wI_s, rI_wI_f, rI_wI_c, rI_wd_c, rd_wI_c, rd_wd_c, rd_wd_s, rd_wd_n, rI_wJ, rd_wJ, rI_ix, wI_ix, rJ_ix, wJ_ix, zl_0, zl_1, zl_2, zl_3, zl_4, zl_5, zl_6, zl_7, zl_8, zl_9, zl_10, zl_11, zl_12, zl_13, zl_14, zl_15, zl_16, zl_20, zl_21, zl_22, zl_23, zl_24, zl_25, zl_26, zl_27, zl_28, zl_29, zl_30, zl_31, zl_32, zl_37, zl_40, zl_41, zl_42, zl_43, zl_44, zl_45, zl_46, zl_47, zl_48, zl_49, zl_50, zl_51, zl_52, zl_53, zl_54, zl_55, zl_56, zl_57, zl_58, zl_59, zl_60, zl_61, zl_62, zl_63, zl_64, zl_65, zl_74, zl_86, zl_90, zl_97, zl_98, zl_99, zl_100, zl_122, zl_140, zl_141, zl_142, zl_143, zl_145, zl_146, zl_147, zl_149, zl_150, zl_159, zl_160, zl_161, zl_162, zl_178, zl_199, zl_200, zl_201, zl_210, zl_230, zl_240, zl_245, zl_255, zl_256, zl_257, zl_288, zl_312, zl_332, zl_340, zl_356, zl_366, zl_399, zl_400, zl_500, zl_820, zl_966, zl_982, zl_998, zl_999, zl_1000, zl_1002, zl_1003, zl_1004, zl_1012, zl_1013, zl_1014, zl_1015, zl_1016, zl_1017, zl_1018, zl_1020, zl_1021, zl_1024, zl_1030, zl_1850, zl_2412, zl_2613, zl_9999, zl_10000, zl_99999, zl_1000000, f2, e1, e2]
        exact g1
      · dsimp only at h
        rcases hk with ⟨h1, _⟩ | ⟨w, w1, w2, _⟩ <;> omega
    · have hnl : ¬ ltr (T pl) := by omega
      rw [decide_eq_false hnl] at e2
      rw [decide_eq_true hd] at e3
      obtain ⟨σ2, g1, g2, g3, g4, g5⟩ := e_digits (T := T) (t := t) (by omega) q1 q2 (q4 hd).1 (q4 hd).2 (fun k0 s => f_M_next0_189 k0 s) FU 0 (wI (wI σ1 0 19 (zi pl)) 0 20 (zi 0)) (hT2.fr (fun k j hk => by simp (disch := omega) only [rI_wI_s, rI_wI_f, rI_wI_c, rI_wd_c, rd_wI_c, rd_wd_c, rd_wd_s, rd_wd_n, rI_wJ, rd_wJ, rI_ix, wI_ix, rJ_ix, wJ_ix, rI_wI_o, Nat.reduceAdd])) (by simp (disch := omega) only [rI_wI_s, rI_wI_f, rI_wI_c, rI_wd_c, rd_wI_c, rd_wd_c, rd_wd_s, rd_wd_n, rI_wJ, rd_wJ, rI_ix, wI_ix, rJ_ix, wJ_ix, rI_wI_o, Nat.reduceAdd]; rw [f2]; simp) (by simp (disch := omega) only [rI_wI_s, rI_wI_f, rI_wI_c, rI_wd_c, rd_wI_c, rd_wd_c, rd_wd_s, rd_wd_n, rI_wJ, rd_wJ, rI_ix, wI_ix, rJ_ix, wJ_ix, rI_wI_o, Nat.reduceAdd]) (fun _ => by simp (disch := omega) only [rI_wI_s, rI_wI_f, rI_wI_c, rI_wd_c, rd_wI_c, rd_wd_c, rd_wd_s, rd_wd_n, rI_wJ, rd_wJ, rI_ix, wI_ix, rJ_ix, wJ_ix, rI_wI_o, Nat.reduceAdd]; rfl) (by omega) (by have := FU_ge; omega)
      rw [f_M_next0_189] at g1
      have hf3 : fr4 σ1 (wI (wI σ1 0 19 (zi pl)) 0 20 (zi 0)) := fun k j hk => by simp (disch := omega) only [rI_wI_s, rI_wI_f, rI_wI_c, rI_wd_c, rd_wI_c, rd_wd_c, rd_wd_s, rd_wd_n, rI_wJ, rd_wJ, rI_ix, wI_ix, rJ_ix, wJ_ix, rI_wI_o, Nat.reduceAdd]
      rcases hdd with ⟨h4, h5, h6⟩ | ⟨h4, h5, h6⟩
      · refine ⟨wI σ2 0 18 (zi 2), ?_, ⟨?_, ?_, fun h => ?_, e, ?_, by omega, q2, hr⟩, ((hf1.trans hf3).trans g5).trans (fun k j hk => by simp (disch := omega) only [rI_wI_s, rI_wI_f, rI_wI_c, rI_wd_c, rd_wI_c, rd_wd_c, rd_wd_s, rd_wd_n, rI_wJ, rd_wJ, rI_ix, wI_ix, rJ_ix, wJ_ix, rI_wI_o, Nat.reduceAdd])⟩
        · clear hnl hd
          simp (disch := omega) only [zi_div, zi_and31, zi_neg, zi_add, zi_sub, zi_mul, zi_lt, zi_le, zi_eq, zi_imx, zi_imn, zi_iab, gd_i, vpb_0, vpb_1, b2i_0, b2i_1, b2i_e0, b2i_e1, lf_b, lf_s, lf_n, Option.bind_some, decide_eq_false_iff_not, decide_eq_true_eq, cif_t, cif_f, cif_pos, cif_neg, if_true, if_false, if_pos, if_neg, zi_ofNat, Nat.zero_add, Nat.reduceAdd, Nat.reduceSub, Nat.reduceMul, Int.reduceAdd, Int.reduceSub, Int.reduceMul, Int.reduceNeg, Bool.false_eq_true, reduceCtorEq, rI_wI_s, rI_wI_f, rI_wI_c, rI_wd_c, rd_wI_c, rd_wd_c, rd_wd_s, rd_wd_n, rI_wJ, rd_wJ, rI_ix, wI_ix, rJ_ix, wJ_ix, zl_0, zl_1, zl_2, zl_3, zl_4, zl_5, zl_6, zl_7, zl_8, zl_9, zl_10, zl_11, zl_12, zl_13, zl_14, zl_15, zl_16, zl_20, zl_21, zl_22, zl_23, zl_24, zl_25, zl_26, zl_27, zl_28, zl_29, zl_30, zl_31, zl_32, zl_37, zl_40, zl_41, zl_42, zl_43, zl_44, zl_45, zl_46, zl_47, zl_48, zl_49, zl_50, zl_51, zl_52, zl_53, zl_54, zl_55, zl_56, zl_57, zl_58, zl_59, zl_60, zl_61, zl_62, zl_63, zl_64, zl_65, zl_74, zl_86, zl_90, zl_97, zl_98, zl_99, zl_100, zl_122, zl_140, zl_141, zl_142, zl_143, zl_145, zl_146, zl_147, zl_149, zl_150, zl_159, zl_160, zl_161, zl_162, zl_178, zl_199, zl_200, zl_201, zl_210, zl_230, zl_240, zl_245, zl_255, zl_256, zl_257, zl_288, zl_312, zl_332, zl_340, zl_356, zl_366, zl_399, zl_400, zl_500, zl_820, zl_966, zl_982, zl_998, zl_999, zl_1000, zl_1002, zl_1003, zl_1004, zl_1012, zl_1013, zl_1014, zl_1015, zl_1016, zl_1017, zl_1018, zl_1020, zl_1021, zl_1024, zl_1030, zl_1850, zl_2412, zl_2613, zl_9999, zl_10000, zl_99999, zl_1000000, f2, e1, e2, e3]
          rw [g1]
          simp (disch := omega) only [zi_div, zi_and31, zi_neg, zi_add, zi_sub, zi_mul, zi_lt, zi_le, zi_eq, zi_imx, zi_imn, zi_iab, gd_i, vpb_0, vpb_1, b2i_0, b2i_1, b2i_e0, b2i_e1, lf_b, lf_s, lf_n, Option.bind_some, decide_eq_false_iff_not, decide_eq_true_eq, cif_t, cif_f, cif_pos, cif_neg, if_true, if_false, if_pos, if_neg, zi_ofNat, Nat.zero_add, Nat.reduceAdd, Nat.reduceSub, Nat.reduceMul, Int.reduceAdd, Int.reduceSub, Int.reduceMul, Int.reduceNeg, Bool.false_eq_true, reduceCtorEq, rI_wI_s, rI_wI_f, rI_wI_c, rI_wd_c, rd_wI_c, rd_wd_c, rd_wd_s, rd_wd_n, rI_wJ, rd_wJ, rI_ix, wI_ix, rJ_ix, wJ_ix, zl_0, zl_1, zl_2, zl_3, zl_4, zl_5, zl_6, zl_7, zl_8, zl_9, zl_10, zl_11, zl_12, zl_13, zl_14, zl_15, zl_16, zl_20, zl_21, zl_22, zl_23, zl_24, zl_25, zl_26, zl_27, zl_28, zl_29, zl_30, zl_31, zl_32, zl_37, zl_40, zl_41, zl_42, zl_43, zl_44, zl_45, zl_46, zl_47, zl_48, zl_49, zl_50, zl_51, zl_52, zl_53, zl_54, zl_55, zl_56, zl_57, zl_58, zl_59, zl_60, zl_61, zl_62, zl_63, zl_64, zl_65, zl_74, zl_86, zl_90, zl_97, zl_98, zl_99, zl_100, zl_122, zl_140, zl_141, zl_142, zl_143, zl_145, zl_146, zl_147, zl_149, zl_150, zl_159, zl_160, zl_161, zl_162, zl_178, zl_199, zl_200, zl_201, zl_210, zl_230, zl_240, zl_245, zl_255, zl_256, zl_257, zl_288, zl_312, zl_332, zl_340, zl_356, zl_366, zl_399, zl_400, zl_500, zl_820, zl_966, zl_982, zl_998, zl_999, zl_1000, zl_1002, zl_1003, zl_1004, zl_1012, zl_1013, zl_1014, zl_1015, zl_1016, zl_1017, zl_1018, zl_1020, zl_1021, zl_1024, zl_1030, zl_1850, zl_2412, zl_2613, zl_9999, zl_10000, zl_99999, zl_1000000, g2, g3]
        · simp (disch := omega) only [rI_wI_s, rI_wI_f, rI_wI_c, rI_wd_c, rd_wI_c, rd_wd_c, rd_wd_s, rd_wd_n, rI_wJ, rd_wJ, rI_ix, wI_ix, rJ_ix, wJ_ix, rI_wI_o, Nat.reduceAdd]; rw [show tm R so = 2 by rw [h5]; rfl]
        · simp (disch := omega) only [rI_wI_s, rI_wI_f, rI_wI_c, rI_wd_c, rd_wI_c, rd_wd_c, rd_wd_s, rd_wd_n, rI_wJ, rd_wJ, rI_ix, wI_ix, rJ_ix, wJ_ix, rI_wI_o, Nat.reduceAdd]; exact g3
        · simp (disch := omega) only [rI_wI_s, rI_wI_f, rI_wI_c, rI_wd_c, rd_wI_c, rd_wd_c, rd_wd_s, rd_wd_n, rI_wJ, rd_wJ, rI_ix, wI_ix, rJ_ix, wJ_ix, rI_wI_o, Nat.reduceAdd]; rw [g4 h4, h6]
        · simp (disch := omega) only [rI_wI_s, rI_wI_f, rI_wI_c, rI_wd_c, rd_wI_c, rd_wd_c, rd_wd_s, rd_wd_n, rI_wJ, rd_wJ, rI_ix, wI_ix, rJ_ix, wJ_ix, rI_wI_o, Nat.reduceAdd]; exact g2
      · refine ⟨wI σ2 0 18 (zi 1), ?_, ⟨?_, ?_, fun h => ?_, e, ?_, by omega, q2, hr⟩, ((hf1.trans hf3).trans g5).trans (fun k j hk => by simp (disch := omega) only [rI_wI_s, rI_wI_f, rI_wI_c, rI_wd_c, rd_wI_c, rd_wd_c, rd_wd_s, rd_wd_n, rI_wJ, rd_wJ, rI_ix, wI_ix, rJ_ix, wJ_ix, rI_wI_o, Nat.reduceAdd])⟩
        · clear hnl hd
          simp (disch := omega) only [zi_div, zi_and31, zi_neg, zi_add, zi_sub, zi_mul, zi_lt, zi_le, zi_eq, zi_imx, zi_imn, zi_iab, gd_i, vpb_0, vpb_1, b2i_0, b2i_1, b2i_e0, b2i_e1, lf_b, lf_s, lf_n, Option.bind_some, decide_eq_false_iff_not, decide_eq_true_eq, cif_t, cif_f, cif_pos, cif_neg, if_true, if_false, if_pos, if_neg, zi_ofNat, Nat.zero_add, Nat.reduceAdd, Nat.reduceSub, Nat.reduceMul, Int.reduceAdd, Int.reduceSub, Int.reduceMul, Int.reduceNeg, Bool.false_eq_true, reduceCtorEq, rI_wI_s, rI_wI_f, rI_wI_c, rI_wd_c, rd_wI_c, rd_wd_c, rd_wd_s, rd_wd_n, rI_wJ, rd_wJ, rI_ix, wI_ix, rJ_ix, wJ_ix, zl_0, zl_1, zl_2, zl_3, zl_4, zl_5, zl_6, zl_7, zl_8, zl_9, zl_10, zl_11, zl_12, zl_13, zl_14, zl_15, zl_16, zl_20, zl_21, zl_22, zl_23, zl_24, zl_25, zl_26, zl_27, zl_28, zl_29, zl_30, zl_31, zl_32, zl_37, zl_40, zl_41, zl_42, zl_43, zl_44, zl_45, zl_46, zl_47, zl_48, zl_49, zl_50, zl_51, zl_52, zl_53, zl_54, zl_55, zl_56, zl_57, zl_58, zl_59, zl_60, zl_61, zl_62, zl_63, zl_64, zl_65, zl_74, zl_86, zl_90, zl_97, zl_98, zl_99, zl_100, zl_122, zl_140, zl_141, zl_142, zl_143, zl_145, zl_146, zl_147, zl_149, zl_150, zl_159, zl_160, zl_161, zl_162, zl_178, zl_199, zl_200, zl_201, zl_210, zl_230, zl_240, zl_245, zl_255, zl_256, zl_257, zl_288, zl_312, zl_332, zl_340, zl_356, zl_366, zl_399, zl_400, zl_500, zl_820, zl_966, zl_982, zl_998, zl_999, zl_1000, zl_1002, zl_1003, zl_1004, zl_1012, zl_1013, zl_1014, zl_1015, zl_1016, zl_1017, zl_1018, zl_1020, zl_1021, zl_1024, zl_1030, zl_1850, zl_2412, zl_2613, zl_9999, zl_10000, zl_99999, zl_1000000, f2, e1, e2, e3]
          rw [g1]
          simp (disch := omega) only [zi_div, zi_and31, zi_neg, zi_add, zi_sub, zi_mul, zi_lt, zi_le, zi_eq, zi_imx, zi_imn, zi_iab, gd_i, vpb_0, vpb_1, b2i_0, b2i_1, b2i_e0, b2i_e1, lf_b, lf_s, lf_n, Option.bind_some, decide_eq_false_iff_not, decide_eq_true_eq, cif_t, cif_f, cif_pos, cif_neg, if_true, if_false, if_pos, if_neg, zi_ofNat, Nat.zero_add, Nat.reduceAdd, Nat.reduceSub, Nat.reduceMul, Int.reduceAdd, Int.reduceSub, Int.reduceMul, Int.reduceNeg, Bool.false_eq_true, reduceCtorEq, rI_wI_s, rI_wI_f, rI_wI_c, rI_wd_c, rd_wI_c, rd_wd_c, rd_wd_s, rd_wd_n, rI_wJ, rd_wJ, rI_ix, wI_ix, rJ_ix, wJ_ix, zl_0, zl_1, zl_2, zl_3, zl_4, zl_5, zl_6, zl_7, zl_8, zl_9, zl_10, zl_11, zl_12, zl_13, zl_14, zl_15, zl_16, zl_20, zl_21, zl_22, zl_23, zl_24, zl_25, zl_26, zl_27, zl_28, zl_29, zl_30, zl_31, zl_32, zl_37, zl_40, zl_41, zl_42, zl_43, zl_44, zl_45, zl_46, zl_47, zl_48, zl_49, zl_50, zl_51, zl_52, zl_53, zl_54, zl_55, zl_56, zl_57, zl_58, zl_59, zl_60, zl_61, zl_62, zl_63, zl_64, zl_65, zl_74, zl_86, zl_90, zl_97, zl_98, zl_99, zl_100, zl_122, zl_140, zl_141, zl_142, zl_143, zl_145, zl_146, zl_147, zl_149, zl_150, zl_159, zl_160, zl_161, zl_162, zl_178, zl_199, zl_200, zl_201, zl_210, zl_230, zl_240, zl_245, zl_255, zl_256, zl_257, zl_288, zl_312, zl_332, zl_340, zl_356, zl_366, zl_399, zl_400, zl_500, zl_820, zl_966, zl_982, zl_998, zl_999, zl_1000, zl_1002, zl_1003, zl_1004, zl_1012, zl_1013, zl_1014, zl_1015, zl_1016, zl_1017, zl_1018, zl_1020, zl_1021, zl_1024, zl_1030, zl_1850, zl_2412, zl_2613, zl_9999, zl_10000, zl_99999, zl_1000000, g2, g3]
        · simp (disch := omega) only [rI_wI_s, rI_wI_f, rI_wI_c, rI_wd_c, rd_wI_c, rd_wd_c, rd_wd_s, rd_wd_n, rI_wJ, rd_wJ, rI_ix, wI_ix, rJ_ix, wJ_ix, rI_wI_o, Nat.reduceAdd]; rw [show tm R so = 1 by rw [h5]; rfl]
        · simp (disch := omega) only [rI_wI_s, rI_wI_f, rI_wI_c, rI_wd_c, rd_wI_c, rd_wd_c, rd_wd_s, rd_wd_n, rI_wJ, rd_wJ, rI_ix, wI_ix, rJ_ix, wJ_ix, rI_wI_o, Nat.reduceAdd]; exact g3
        · dsimp only at h; omega
        · simp (disch := omega) only [rI_wI_s, rI_wI_f, rI_wI_c, rI_wd_c, rd_wI_c, rd_wd_c, rd_wd_s, rd_wd_n, rI_wJ, rd_wJ, rI_ix, wI_ix, rJ_ix, wJ_ix, rI_wI_o, Nat.reduceAdd]; exact g2
    · rw [decide_eq_false hnl] at e2
      rw [decide_eq_false hnd] at e3
      have he := q5 hnl hnd
      rcases hs with ⟨hsg, hso⟩ | ⟨hsg, hso⟩
      · refine ⟨wI (wI (wI σ1 0 19 (zi pl)) 0 17 (zi (pl + 1))) 0 18 (zi (100 + T pl)), ?_, ⟨?_, ?_, fun h => ?_, e, ?_, by omega, q2, hr⟩, hf1.trans (fun k j hk => by simp (disch := omega) only [rI_wI_s, rI_wI_f, rI_wI_c, rI_wd_c, rd_wI_c, rd_wd_c, rd_wd_s, rd_wd_n, rI_wJ, rd_wJ, rI_ix, wI_ix, rJ_ix, wJ_ix, rI_wI_o, Nat.reduceAdd])⟩
        · have hn1 : ¬ ((1 : Int32) = 0) := by decide
          clear hnl hnd
          rcases hsg with hc | hc | hc | hc | hc | hc | hc | hc | hc | hc <;> rw [hc] at e1 e2 e3 ⊢ <;> simp (disch := omega) only [zi_div, zi_and31, zi_neg, zi_add, zi_sub, zi_mul, zi_lt, zi_le, zi_eq, zi_imx, zi_imn, zi_iab, gd_i, vpb_0, vpb_1, b2i_0, b2i_1, b2i_e0, b2i_e1, lf_b, lf_s, lf_n, Option.bind_some, decide_eq_false_iff_not, decide_eq_true_eq, cif_t, cif_f, cif_pos, cif_neg, if_true, if_false, if_pos, if_neg, zi_ofNat, Nat.zero_add, Nat.reduceAdd, Nat.reduceSub, Nat.reduceMul, Int.reduceAdd, Int.reduceSub, Int.reduceMul, Int.reduceNeg, Bool.false_eq_true, reduceCtorEq, rI_wI_s, rI_wI_f, rI_wI_c, rI_wd_c, rd_wI_c, rd_wd_c, rd_wd_s, rd_wd_n, rI_wJ, rd_wJ, rI_ix, wI_ix, rJ_ix, wJ_ix, zl_0, zl_1, zl_2, zl_3, zl_4, zl_5, zl_6, zl_7, zl_8, zl_9, zl_10, zl_11, zl_12, zl_13, zl_14, zl_15, zl_16, zl_20, zl_21, zl_22, zl_23, zl_24, zl_25, zl_26, zl_27, zl_28, zl_29, zl_30, zl_31, zl_32, zl_37, zl_40, zl_41, zl_42, zl_43, zl_44, zl_45, zl_46, zl_47, zl_48, zl_49, zl_50, zl_51, zl_52, zl_53, zl_54, zl_55, zl_56, zl_57, zl_58, zl_59, zl_60, zl_61, zl_62, zl_63, zl_64, zl_65, zl_74, zl_86, zl_90, zl_97, zl_98, zl_99, zl_100, zl_122, zl_140, zl_141, zl_142, zl_143, zl_145, zl_146, zl_147, zl_149, zl_150, zl_159, zl_160, zl_161, zl_162, zl_178, zl_199, zl_200, zl_201, zl_210, zl_230, zl_240, zl_245, zl_255, zl_256, zl_257, zl_288, zl_312, zl_332, zl_340, zl_356, zl_366, zl_399, zl_400, zl_500, zl_820, zl_966, zl_982, zl_998, zl_999, zl_1000, zl_1002, zl_1003, zl_1004, zl_1012, zl_1013, zl_1014, zl_1015, zl_1016, zl_1017, zl_1018, zl_1020, zl_1021, zl_1024, zl_1030, zl_1850, zl_2412, zl_2613, zl_9999, zl_10000, zl_99999, zl_1000000, zl_48, f2, e1, e2, e3, f_M_next0_284]
        · simp (disch := omega) only [rI_wI_s, rI_wI_f, rI_wI_c, rI_wd_c, rd_wI_c, rd_wd_c, rd_wd_s, rd_wd_n, rI_wJ, rd_wJ, rI_ix, wI_ix, rJ_ix, wJ_ix, rI_wI_o, Nat.reduceAdd]
          rw [hso]
          unfold tm
          rw [if_neg (by omega), if_pos (by omega)]
        · simp (disch := omega) only [rI_wI_s, rI_wI_f, rI_wI_c, rI_wd_c, rd_wI_c, rd_wd_c, rd_wd_s, rd_wd_n, rI_wJ, rd_wJ, rI_ix, wI_ix, rJ_ix, wJ_ix, rI_wI_o, Nat.reduceAdd]
        · dsimp only at h; omega
        · simp (disch := omega) only [rI_wI_s, rI_wI_f, rI_wI_c, rI_wd_c, rd_wI_c, rd_wd_c, rd_wd_s, rd_wd_n, rI_wJ, rd_wJ, rI_ix, wI_ix, rJ_ix, wJ_ix, rI_wI_o, Nat.reduceAdd]; rw [he]
      · refine ⟨wI (wI (wI σ1 0 19 (zi pl)) 0 17 (zi (pl + 1))) 0 18 (zi 1), ?_, ⟨?_, ?_, fun h => ?_, e, ?_, by omega, q2, hr⟩, hf1.trans (fun k j hk => by simp (disch := omega) only [rI_wI_s, rI_wI_f, rI_wI_c, rI_wd_c, rd_wI_c, rd_wd_c, rd_wd_s, rd_wd_n, rI_wJ, rd_wJ, rI_ix, wI_ix, rJ_ix, wJ_ix, rI_wI_o, Nat.reduceAdd])⟩
        · have hsg' : T pl ≠ 59 ∧ T pl ≠ 43 ∧ T pl ≠ 45 ∧ T pl ≠ 42 ∧ T pl ≠ 47 ∧ T pl ≠ 40 ∧ T pl ≠ 41 ∧ T pl ≠ 60 ∧ T pl ≠ 61 ∧ T pl ≠ 62 := by omega
          obtain ⟨z1, z2, z3, z4, z5, z6, z7, z8, z9, z10⟩ := hsg'
          clear hnl hnd hsg q3 q4 q5
          simp (disch := omega) only [zi_div, zi_and31, zi_neg, zi_add, zi_sub, zi_mul, zi_lt, zi_le, zi_eq, zi_imx, zi_imn, zi_iab, gd_i, vpb_0, vpb_1, b2i_0, b2i_1, b2i_e0, b2i_e1, lf_b, lf_s, lf_n, Option.bind_some, decide_eq_false_iff_not, decide_eq_true_eq, cif_t, cif_f, cif_pos, cif_neg, if_true, if_false, if_pos, if_neg, zi_ofNat, Nat.zero_add, Nat.reduceAdd, Nat.reduceSub, Nat.reduceMul, Int.reduceAdd, Int.reduceSub, Int.reduceMul, Int.reduceNeg, Bool.false_eq_true, reduceCtorEq, rI_wI_s, rI_wI_f, rI_wI_c, rI_wd_c, rd_wI_c, rd_wd_c, rd_wd_s, rd_wd_n, rI_wJ, rd_wJ, rI_ix, wI_ix, rJ_ix, wJ_ix, zl_0, zl_1, zl_2, zl_3, zl_4, zl_5, zl_6, zl_7, zl_8, zl_9, zl_10, zl_11, zl_12, zl_13, zl_14, zl_15, zl_16, zl_20, zl_21, zl_22, zl_23, zl_24, zl_25, zl_26, zl_27, zl_28, zl_29, zl_30, zl_31, zl_32, zl_37, zl_40, zl_41, zl_42, zl_43, zl_44, zl_45, zl_46, zl_47, zl_48, zl_49, zl_50, zl_51, zl_52, zl_53, zl_54, zl_55, zl_56, zl_57, zl_58, zl_59, zl_60, zl_61, zl_62, zl_63, zl_64, zl_65, zl_74, zl_86, zl_90, zl_97, zl_98, zl_99, zl_100, zl_122, zl_140, zl_141, zl_142, zl_143, zl_145, zl_146, zl_147, zl_149, zl_150, zl_159, zl_160, zl_161, zl_162, zl_178, zl_199, zl_200, zl_201, zl_210, zl_230, zl_240, zl_245, zl_255, zl_256, zl_257, zl_288, zl_312, zl_332, zl_340, zl_356, zl_366, zl_399, zl_400, zl_500, zl_820, zl_966, zl_982, zl_998, zl_999, zl_1000, zl_1002, zl_1003, zl_1004, zl_1012, zl_1013, zl_1014, zl_1015, zl_1016, zl_1017, zl_1018, zl_1020, zl_1021, zl_1024, zl_1030, zl_1850, zl_2412, zl_2613, zl_9999, zl_10000, zl_99999, zl_1000000, zl_48, f2, e1, e2, e3]
        · simp (disch := omega) only [rI_wI_s, rI_wI_f, rI_wI_c, rI_wd_c, rd_wI_c, rd_wd_c, rd_wd_s, rd_wd_n, rI_wJ, rd_wJ, rI_ix, wI_ix, rJ_ix, wJ_ix, rI_wI_o, Nat.reduceAdd]; rw [show tm R so = 1 by rw [hso]; rfl]
        · simp (disch := omega) only [rI_wI_s, rI_wI_f, rI_wI_c, rI_wd_c, rd_wI_c, rd_wd_c, rd_wd_s, rd_wd_n, rI_wJ, rd_wJ, rI_ix, wI_ix, rJ_ix, wJ_ix, rI_wI_o, Nat.reduceAdd]
        · dsimp only at h; omega
        · simp (disch := omega) only [rI_wI_s, rI_wI_f, rI_wI_c, rI_wd_c, rd_wI_c, rd_wd_c, rd_wd_s, rd_wd_n, rI_wJ, rd_wJ, rI_ix, wI_ix, rJ_ix, wJ_ix, rI_wI_o, Nat.reduceAdd]; rw [he]
